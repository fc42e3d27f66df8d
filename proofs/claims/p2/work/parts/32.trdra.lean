theorem ty_lt4 {x : Int32} (h : 0 ≤ x.toInt ∧ x.toInt ≤ 4) (h2 : x < 4) : 0 ≤ x.toInt ∧ x.toInt < 4 := by
  rw [Int32.lt_iff_toInt_lt, show (4 : Int32).toInt = 4 from by decide] at h2
  exact ⟨h.1, h2⟩
theorem dX6_next_0 : decode cX6_next 0 = .ok (.aload_n 0, 1) := by decide +kernel
theorem dX6_next_1 : decode cX6_next 1 = .ok (.getfield 65, 3) := by decide +kernel
theorem dX6_next_4 : decode cX6_next 4 = .ok (.aload_n 0, 1) := by decide +kernel
theorem dX6_next_5 : decode cX6_next 5 = .ok (.getfield 15, 3) := by decide +kernel
theorem dX6_next_8 : decode cX6_next 8 = .ok (.if_icmp .ge 34, 3) := by decide +kernel
theorem dX6_next_11 : decode cX6_next 11 = .ok (.aload_n 0, 1) := by decide +kernel
theorem dX6_next_12 : decode cX6_next 12 = .ok (.getfield 65, 3) := by decide +kernel
theorem dX6_next_15 : decode cX6_next 15 = .ok (.ifCond .lt 27, 3) := by decide +kernel
theorem dX6_next_18 : decode cX6_next 18 = .ok (.aload_n 0, 1) := by decide +kernel
theorem dX6_next_19 : decode cX6_next 19 = .ok (.getfield 65, 3) := by decide +kernel
theorem dX6_next_22 : decode cX6_next 22 = .ok (.aload_n 0, 1) := by decide +kernel
theorem dX6_next_23 : decode cX6_next 23 = .ok (.getfield 9, 3) := by decide +kernel
theorem dX6_next_26 : decode cX6_next 26 = .ok (.arraylength, 1) := by decide +kernel
theorem dX6_next_27 : decode cX6_next 27 = .ok (.if_icmp .ge 15, 3) := by decide +kernel
theorem dX6_next_30 : decode cX6_next 30 = .ok (.aload_n 0, 1) := by decide +kernel
theorem dX6_next_31 : decode cX6_next 31 = .ok (.getfield 9, 3) := by decide +kernel
theorem dX6_next_34 : decode cX6_next 34 = .ok (.aload_n 0, 1) := by decide +kernel
theorem dX6_next_35 : decode cX6_next 35 = .ok (.getfield 65, 3) := by decide +kernel
theorem dX6_next_38 : decode cX6_next 38 = .ok (.iaload, 1) := by decide +kernel
theorem dX6_next_39 : decode cX6_next 39 = .ok (.goto 4, 3) := by decide +kernel
theorem dX6_next_42 : decode cX6_next 42 = .ok (.iconst 0, 1) := by decide +kernel
theorem dX6_next_43 : decode cX6_next 43 = .ok (.ireturn, 1) := by decide +kernel
set_option maxRecDepth 100000 in
set_option maxHeartbeats 4000000 in
theorem t_X6_next (l : Launch) (D : va_G) (ct : Nat → ClassId) (S : ty_S) (ws : va_W) (rd : Nat) (bt : Nat) (tg : Nat) (nb : Nat) (ln : Int32) (pl : Int32) (wst : Int32) (er : Int32) (ep : Int32) (sz : Nat) (hT : ty_W ct S ws) (h_bt : S bt = some (.inr (0, nb))) (h_tg : S tg = some (.inl 9)) : Met l yX6_next (ws_ yX6_next cX6_next 1 (some .int)) ({ frames := 0, cells := 0, slots := 0, locals := 0 } : Room) (va_Pc [.ref rd] (cmP D ct sz ([(rd, .inr (6, [.ref bt, .int ln, .ref tg, .int pl, .int wst, .int er, .int ep]))] ++ ws))) (va_Qi (fun (r : Int32) (u9 : va_W) => ty_W ct S u9) (cmB D ([(rd, .inr (6, [.ref bt, .int ln, .ref tg, .int pl, .int wst, .int er, .int ep]))] ++ ws) sz (fun (u9 : va_W) => ([(rd, .inr (6, [.ref bt, .int ln, .ref tg, .int pl, .int wst, .int er, .int ep]))] ++ u9))) (va_A ([(rd, .inr (6, [.ref bt, .int ln, .ref tg, .int pl, .int wst, .int er, .int ep]))] ++ ws) sz)) 0 0 (va_A ([(rd, .inr (6, [.ref bt, .int ln, .ref tg, .int pl, .int wst, .int er, .int ep]))] ++ ws) sz) := by
  refine Met.ofW (cc := cX6_next) (maxL := 1) (ret := (some .int)) (by decide) rfl ?_
  intro p e s m args below meth c s₁ B hml hv
  obtain ⟨rfl, hsz, hP, hK, hD0, hX⟩ := hv
  have hx := B.exec
  have hb := B.bytes
  have hr := B.returns
  have hts := ws_all (atoms_spec (ws := ws_ yX6_next cX6_next 1 (some .int)) B.pre)
  have hown : s.vm.findClass RX6 = some m.cls := findClass_of_methodNamed B.named
  have hlocks := B.notSynchronized
  subst hsz
  have hD := hD0.self (sz := s.heap.size)
  generalize hAe : va_A ([(rd, .inr (6, [.ref bt, .int ln, .ref tg, .int pl, .int wst, .int er, .int ep]))] ++ ws) s.heap.size = A at hD hX ⊢
  have hA : ∀ q : Nat, s.heap.size ≤ q → A q := fun q h => by rw [← hAe]; exact Or.inr h
  have hS : va_S A s.heap s.heap [] := va_S.rf
  have hl := lv_entry ([.ref rd]) (n := 1) (Nat.le_of_ble_eq_true rfl)
  rw [lg_entry_eq]
  generalize (lg_sl ([.ref rd]) ++ List.replicate (1 - (lg_sl ([.ref rd])).length) Slot.unset).toArray = ls at hl ⊢
  have hl : lv_has ls 1 [(0, .ref rd)] := hl
  refine lv_aload_n hx hb dX6_next_0 rfl (lv_at hl 0 rfl) ?_
  refine va_get (v := .int pl) (D := D) (ci := 6) (C := RX6) (T := TX6) (N := 7) hx hb hts in_X6 hown hK hP 0 rfl rfl 3 (by decide) (hts _ kl_RX6_65) (fun _ h9 => h9) rfl dX6_next_1 ?_
  refine lv_aload_n hx hb dX6_next_4 rfl (lv_at hl 0 rfl) ?_
  refine va_get (v := .int ln) (D := D) (ci := 6) (C := RX6) (T := TX6) (N := 7) hx hb hts in_X6 hown hK hP 0 rfl rfl 1 (by decide) (hts _ kl_RX6_15) (fun _ h9 => h9) rfl dX6_next_5 ?_
  refine lv_icmp_ge (tgt := 42) hx hb dX6_next_8 (by decide) (fun hc_1 => ?_) (fun hc_1 => ?_)
  · refine lv_iconst (v := 0) hx hb dX6_next_42 (by decide) ?_
    exact W.iret (v := 0) hx hb hr (fun t ht hW => ⟨⟨0, ws, rfl, hT, by rw [ht]; exact hP, by rw [hAe]; exact hD⟩, hS.F ht⟩) hS.2.2 dX6_next_43
  · refine lv_aload_n hx hb dX6_next_11 rfl (lv_at hl 0 rfl) ?_
    refine va_get (v := .int pl) (D := D) (ci := 6) (C := RX6) (T := TX6) (N := 7) hx hb hts in_X6 hown hK hP 0 rfl rfl 3 (by decide) (hts _ kl_RX6_65) (fun _ h9 => h9) rfl dX6_next_12 ?_
    refine lv_if_lt (tgt := 42) hx hb dX6_next_15 (by decide) (fun hc_2 => ?_) (fun hc_2 => ?_)
    · refine lv_iconst (v := 0) hx hb dX6_next_42 (by decide) ?_
      exact W.iret (v := 0) hx hb hr (fun t ht hW => ⟨⟨0, ws, rfl, hT, by rw [ht]; exact hP, by rw [hAe]; exact hD⟩, hS.F ht⟩) hS.2.2 dX6_next_43
    · refine lv_aload_n hx hb dX6_next_18 rfl (lv_at hl 0 rfl) ?_
      refine va_get (v := .int pl) (D := D) (ci := 6) (C := RX6) (T := TX6) (N := 7) hx hb hts in_X6 hown hK hP 0 rfl rfl 3 (by decide) (hts _ kl_RX6_65) (fun _ h9 => h9) rfl dX6_next_19 ?_
      refine lv_aload_n hx hb dX6_next_22 rfl (lv_at hl 0 rfl) ?_
      refine va_get (v := .ref bt) (D := D) (ci := 6) (C := RX6) (T := TX6) (N := 7) hx hb hts in_X6 hown hK hP 0 rfl rfl 0 (by decide) (hts _ kl_RX6_9) (fun _ h9 => h9) rfl dX6_next_23 ?_
      refine ty_alen0 (E := [(rd, .inr (6, [.ref bt, .int ln, .ref tg, .int pl, .int wst, .int er, .int ep]))]) (ws := ws) hx hb hK hP hT h_bt dX6_next_26 ?_
      refine lv_icmp_ge (tgt := 42) hx hb dX6_next_27 (by decide) (fun hc_3 => ?_) (fun hc_3 => ?_)
      · refine lv_iconst (v := 0) hx hb dX6_next_42 (by decide) ?_
        exact W.iret (v := 0) hx hb hr (fun t ht hW => ⟨⟨0, ws, rfl, hT, by rw [ht]; exact hP, by rw [hAe]; exact hD⟩, hS.F ht⟩) hS.2.2 dX6_next_43
      · refine lv_aload_n hx hb dX6_next_30 rfl (lv_at hl 0 rfl) ?_
        refine va_get (v := .ref bt) (D := D) (ci := 6) (C := RX6) (T := TX6) (N := 7) hx hb hts in_X6 hown hK hP 0 rfl rfl 0 (by decide) (hts _ kl_RX6_9) (fun _ h9 => h9) rfl dX6_next_31 ?_
        refine lv_aload_n hx hb dX6_next_34 rfl (lv_at hl 0 rfl) ?_
        refine va_get (v := .int pl) (D := D) (ci := 6) (C := RX6) (T := TX6) (N := 7) hx hb hts in_X6 hown hK hP 0 rfl rfl 3 (by decide) (hts _ kl_RX6_65) (fun _ h9 => h9) rfl dX6_next_35 ?_
        refine ty_iald (E := [(rd, .inr (6, [.ref bt, .int ln, .ref tg, .int pl, .int wst, .int er, .int ep]))]) (ws := ws) hx hb hK hP hT h_bt (cm_vin2 (ty_lt hT h_bt) hc_2 (cm_lt hc_3)) dX6_next_38 (fun x_4 => ?_)
        refine lv_goto (tgt := 43) hx hb dX6_next_39 (by decide) ?_
        exact W.iret (v := x_4) hx hb hr (fun t ht hW => ⟨⟨x_4, ws, rfl, hT, by rw [ht]; exact hP, by rw [hAe]; exact hD⟩, hS.F ht⟩) hS.2.2 dX6_next_43
theorem dX6_isLetter_0 : decode cX6_isLetter 0 = .ok (.iload_n 0, 1) := by decide +kernel
theorem dX6_isLetter_1 : decode cX6_isLetter 1 = .ok (.bipush 97, 2) := by decide +kernel
theorem dX6_isLetter_3 : decode cX6_isLetter 3 = .ok (.if_icmp .lt 13, 3) := by decide +kernel
theorem dX6_isLetter_6 : decode cX6_isLetter 6 = .ok (.iload_n 0, 1) := by decide +kernel
theorem dX6_isLetter_7 : decode cX6_isLetter 7 = .ok (.bipush 122, 2) := by decide +kernel
theorem dX6_isLetter_9 : decode cX6_isLetter 9 = .ok (.if_icmp .gt 7, 3) := by decide +kernel
theorem dX6_isLetter_12 : decode cX6_isLetter 12 = .ok (.iconst 1, 1) := by decide +kernel
theorem dX6_isLetter_13 : decode cX6_isLetter 13 = .ok (.goto 4, 3) := by decide +kernel
theorem dX6_isLetter_16 : decode cX6_isLetter 16 = .ok (.iconst 0, 1) := by decide +kernel
theorem dX6_isLetter_17 : decode cX6_isLetter 17 = .ok (.ireturn, 1) := by decide +kernel
set_option maxRecDepth 100000 in
set_option maxHeartbeats 4000000 in
theorem t_X6_isLetter (l : Launch) (D : va_G) (ct : Nat → ClassId) (S : ty_S) (ws : va_W) (p1 : Int32) (sz : Nat) (hT : ty_W ct S ws) : Met l yX6_isLetter (ws_ yX6_isLetter cX6_isLetter 1 (some .boolean)) ({ frames := 0, cells := 0, slots := 0, locals := 0 } : Room) (va_Pc [.int p1] (cmP D ct sz ([] ++ ws))) (va_Qi (fun (r : Int32) (u9 : va_W) => ty_W ct S u9) (cmB D ([] ++ ws) sz (fun (u9 : va_W) => ([] ++ u9))) (va_A ([] ++ ws) sz)) 0 0 (va_A ([] ++ ws) sz) := by
  refine Met.ofW (cc := cX6_isLetter) (maxL := 1) (ret := (some .boolean)) (by decide) rfl ?_
  intro p e s m args below meth c s₁ B hml hv
  obtain ⟨rfl, hsz, hP, hK, hD0, hX⟩ := hv
  have hx := B.exec
  have hb := B.bytes
  have hr := B.returns
  have hts := ws_all (atoms_spec (ws := ws_ yX6_isLetter cX6_isLetter 1 (some .boolean)) B.pre)
  have hown : s.vm.findClass RX6 = some m.cls := findClass_of_methodNamed B.named
  have hlocks := B.notSynchronized
  subst hsz
  have hD := hD0.self (sz := s.heap.size)
  generalize hAe : va_A ([] ++ ws) s.heap.size = A at hD hX ⊢
  have hA : ∀ q : Nat, s.heap.size ≤ q → A q := fun q h => by rw [← hAe]; exact Or.inr h
  have hS : va_S A s.heap s.heap [] := va_S.rf
  have hl := lv_entry ([.int p1]) (n := 1) (Nat.le_of_ble_eq_true rfl)
  rw [lg_entry_eq]
  generalize (lg_sl ([.int p1]) ++ List.replicate (1 - (lg_sl ([.int p1])).length) Slot.unset).toArray = ls at hl ⊢
  have hl : lv_has ls 1 [(0, .int p1)] := hl
  refine lv_iload_n hx hb dX6_isLetter_0 rfl (lv_at hl 0 rfl) ?_
  refine lv_bipush (v := 97) hx hb dX6_isLetter_1 (by decide) ?_
  refine lv_icmp_lt (tgt := 16) hx hb dX6_isLetter_3 (by decide) (fun hc_1 => ?_) (fun hc_1 => ?_)
  · refine lv_iconst (v := 0) hx hb dX6_isLetter_16 (by decide) ?_
    exact W.zret (v := 0) hx hb hr (by decide) (fun t ht hW => ⟨⟨0, ws, rfl, hT, by rw [ht]; exact hP, by rw [hAe]; exact hD⟩, hS.F ht⟩) hS.2.2 dX6_isLetter_17
  · refine lv_iload_n hx hb dX6_isLetter_6 rfl (lv_at hl 0 rfl) ?_
    refine lv_bipush (v := 122) hx hb dX6_isLetter_7 (by decide) ?_
    refine lv_icmp_gt (tgt := 16) hx hb dX6_isLetter_9 (by decide) (fun hc_2 => ?_) (fun hc_2 => ?_)
    · refine lv_iconst (v := 0) hx hb dX6_isLetter_16 (by decide) ?_
      exact W.zret (v := 0) hx hb hr (by decide) (fun t ht hW => ⟨⟨0, ws, rfl, hT, by rw [ht]; exact hP, by rw [hAe]; exact hD⟩, hS.F ht⟩) hS.2.2 dX6_isLetter_17
    · refine lv_iconst (v := 1) hx hb dX6_isLetter_12 (by decide) ?_
      refine lv_goto (tgt := 17) hx hb dX6_isLetter_13 (by decide) ?_
      exact W.zret (v := 1) hx hb hr (by decide) (fun t ht hW => ⟨⟨1, ws, rfl, hT, by rw [ht]; exact hP, by rw [hAe]; exact hD⟩, hS.F ht⟩) hS.2.2 dX6_isLetter_17
theorem dX6_isDigit_0 : decode cX6_isDigit 0 = .ok (.iload_n 0, 1) := by decide +kernel
theorem dX6_isDigit_1 : decode cX6_isDigit 1 = .ok (.bipush 48, 2) := by decide +kernel
theorem dX6_isDigit_3 : decode cX6_isDigit 3 = .ok (.if_icmp .lt 13, 3) := by decide +kernel
theorem dX6_isDigit_6 : decode cX6_isDigit 6 = .ok (.iload_n 0, 1) := by decide +kernel
theorem dX6_isDigit_7 : decode cX6_isDigit 7 = .ok (.bipush 57, 2) := by decide +kernel
theorem dX6_isDigit_9 : decode cX6_isDigit 9 = .ok (.if_icmp .gt 7, 3) := by decide +kernel
theorem dX6_isDigit_12 : decode cX6_isDigit 12 = .ok (.iconst 1, 1) := by decide +kernel
theorem dX6_isDigit_13 : decode cX6_isDigit 13 = .ok (.goto 4, 3) := by decide +kernel
theorem dX6_isDigit_16 : decode cX6_isDigit 16 = .ok (.iconst 0, 1) := by decide +kernel
theorem dX6_isDigit_17 : decode cX6_isDigit 17 = .ok (.ireturn, 1) := by decide +kernel
set_option maxRecDepth 100000 in
set_option maxHeartbeats 4000000 in
theorem t_X6_isDigit (l : Launch) (D : va_G) (ct : Nat → ClassId) (S : ty_S) (ws : va_W) (p1 : Int32) (sz : Nat) (hT : ty_W ct S ws) : Met l yX6_isDigit (ws_ yX6_isDigit cX6_isDigit 1 (some .boolean)) ({ frames := 0, cells := 0, slots := 0, locals := 0 } : Room) (va_Pc [.int p1] (cmP D ct sz ([] ++ ws))) (va_Qi (fun (r : Int32) (u9 : va_W) => ty_W ct S u9) (cmB D ([] ++ ws) sz (fun (u9 : va_W) => ([] ++ u9))) (va_A ([] ++ ws) sz)) 0 0 (va_A ([] ++ ws) sz) := by
  refine Met.ofW (cc := cX6_isDigit) (maxL := 1) (ret := (some .boolean)) (by decide) rfl ?_
  intro p e s m args below meth c s₁ B hml hv
  obtain ⟨rfl, hsz, hP, hK, hD0, hX⟩ := hv
  have hx := B.exec
  have hb := B.bytes
  have hr := B.returns
  have hts := ws_all (atoms_spec (ws := ws_ yX6_isDigit cX6_isDigit 1 (some .boolean)) B.pre)
  have hown : s.vm.findClass RX6 = some m.cls := findClass_of_methodNamed B.named
  have hlocks := B.notSynchronized
  subst hsz
  have hD := hD0.self (sz := s.heap.size)
  generalize hAe : va_A ([] ++ ws) s.heap.size = A at hD hX ⊢
  have hA : ∀ q : Nat, s.heap.size ≤ q → A q := fun q h => by rw [← hAe]; exact Or.inr h
  have hS : va_S A s.heap s.heap [] := va_S.rf
  have hl := lv_entry ([.int p1]) (n := 1) (Nat.le_of_ble_eq_true rfl)
  rw [lg_entry_eq]
  generalize (lg_sl ([.int p1]) ++ List.replicate (1 - (lg_sl ([.int p1])).length) Slot.unset).toArray = ls at hl ⊢
  have hl : lv_has ls 1 [(0, .int p1)] := hl
  refine lv_iload_n hx hb dX6_isDigit_0 rfl (lv_at hl 0 rfl) ?_
  refine lv_bipush (v := 48) hx hb dX6_isDigit_1 (by decide) ?_
  refine lv_icmp_lt (tgt := 16) hx hb dX6_isDigit_3 (by decide) (fun hc_1 => ?_) (fun hc_1 => ?_)
  · refine lv_iconst (v := 0) hx hb dX6_isDigit_16 (by decide) ?_
    exact W.zret (v := 0) hx hb hr (by decide) (fun t ht hW => ⟨⟨0, ws, rfl, hT, by rw [ht]; exact hP, by rw [hAe]; exact hD⟩, hS.F ht⟩) hS.2.2 dX6_isDigit_17
  · refine lv_iload_n hx hb dX6_isDigit_6 rfl (lv_at hl 0 rfl) ?_
    refine lv_bipush (v := 57) hx hb dX6_isDigit_7 (by decide) ?_
    refine lv_icmp_gt (tgt := 16) hx hb dX6_isDigit_9 (by decide) (fun hc_2 => ?_) (fun hc_2 => ?_)
    · refine lv_iconst (v := 0) hx hb dX6_isDigit_16 (by decide) ?_
      exact W.zret (v := 0) hx hb hr (by decide) (fun t ht hW => ⟨⟨0, ws, rfl, hT, by rw [ht]; exact hP, by rw [hAe]; exact hD⟩, hS.F ht⟩) hS.2.2 dX6_isDigit_17
    · refine lv_iconst (v := 1) hx hb dX6_isDigit_12 (by decide) ?_
      refine lv_goto (tgt := 17) hx hb dX6_isDigit_13 (by decide) ?_
      exact W.zret (v := 1) hx hb hr (by decide) (fun t ht hW => ⟨⟨1, ws, rfl, hT, by rw [ht]; exact hP, by rw [hAe]; exact hD⟩, hS.F ht⟩) hS.2.2 dX6_isDigit_17
theorem dX6_fail_0 : decode cX6_fail 0 = .ok (.aload_n 0, 1) := by decide +kernel
theorem dX6_fail_1 : decode cX6_fail 1 = .ok (.getfield 58, 3) := by decide +kernel
theorem dX6_fail_4 : decode cX6_fail 4 = .ok (.ifCond .ne 13, 3) := by decide +kernel
theorem dX6_fail_7 : decode cX6_fail 7 = .ok (.aload_n 0, 1) := by decide +kernel
theorem dX6_fail_8 : decode cX6_fail 8 = .ok (.iload_n 1, 1) := by decide +kernel
theorem dX6_fail_9 : decode cX6_fail 9 = .ok (.putfield 58, 3) := by decide +kernel
theorem dX6_fail_12 : decode cX6_fail 12 = .ok (.aload_n 0, 1) := by decide +kernel
theorem dX6_fail_13 : decode cX6_fail 13 = .ok (.iload_n 2, 1) := by decide +kernel
theorem dX6_fail_14 : decode cX6_fail 14 = .ok (.putfield 236, 3) := by decide +kernel
theorem dX6_fail_17 : decode cX6_fail 17 = .ok (.return_, 1) := by decide +kernel
set_option maxRecDepth 100000 in
set_option maxHeartbeats 4000000 in
theorem t_X6_fail (l : Launch) (D : va_G) (ct : Nat → ClassId) (S : ty_S) (ws : va_W) (rd : Nat) (bt : Nat) (tg : Nat) (nb : Nat) (ln : Int32) (pl : Int32) (wst : Int32) (er : Int32) (ep : Int32) (p1 : Int32) (p2 : Int32) (sz : Nat) (hT : ty_W ct S ws) (h_bt : S bt = some (.inr (0, nb))) (h_tg : S tg = some (.inl 9)) : Met l yX6_fail (ws_ yX6_fail cX6_fail 3 none) ({ frames := 0, cells := 0, slots := 0, locals := 0 } : Room) (va_Pc [.ref rd, .int p1, .int p2] (cmP D ct sz ([(rd, .inr (6, [.ref bt, .int ln, .ref tg, .int pl, .int wst, .int er, .int ep]))] ++ ws))) (va_Qv (fun (u : va_W × Int32 × Int32) => match u with | (u9, er1, ep1) => ty_W ct S u9) (cmB D ([(rd, .inr (6, [.ref bt, .int ln, .ref tg, .int pl, .int wst, .int er, .int ep]))] ++ ws) sz (fun (u : va_W × Int32 × Int32) => match u with | (u9, er1, ep1) => ([(rd, .inr (6, [.ref bt, .int ln, .ref tg, .int pl, .int wst, .int er1, .int ep1]))] ++ u9))) (va_A ([(rd, .inr (6, [.ref bt, .int ln, .ref tg, .int pl, .int wst, .int er, .int ep]))] ++ ws) sz)) 0 0 (va_A ([(rd, .inr (6, [.ref bt, .int ln, .ref tg, .int pl, .int wst, .int er, .int ep]))] ++ ws) sz) := by
  refine Met.ofW (cc := cX6_fail) (maxL := 3) (ret := none) (by decide) rfl ?_
  intro p e s m args below meth c s₁ B hml hv
  obtain ⟨rfl, hsz, hP, hK, hD0, hX⟩ := hv
  have hx := B.exec
  have hb := B.bytes
  have hr := B.returns
  have hts := ws_all (atoms_spec (ws := ws_ yX6_fail cX6_fail 3 none) B.pre)
  have hown : s.vm.findClass RX6 = some m.cls := findClass_of_methodNamed B.named
  have hlocks := B.notSynchronized
  subst hsz
  have hD := hD0.self (sz := s.heap.size)
  generalize hAe : va_A ([(rd, .inr (6, [.ref bt, .int ln, .ref tg, .int pl, .int wst, .int er, .int ep]))] ++ ws) s.heap.size = A at hD hX ⊢
  have hA : ∀ q : Nat, s.heap.size ≤ q → A q := fun q h => by rw [← hAe]; exact Or.inr h
  have hS : va_S A s.heap s.heap [] := va_S.rf
  have hl := lv_entry ([.ref rd, .int p1, .int p2]) (n := 3) (Nat.le_of_ble_eq_true rfl)
  rw [lg_entry_eq]
  generalize (lg_sl ([.ref rd, .int p1, .int p2]) ++ List.replicate (3 - (lg_sl ([.ref rd, .int p1, .int p2])).length) Slot.unset).toArray = ls at hl ⊢
  have hl : lv_has ls 3 [(0, .ref rd), (1, .int p1), (2, .int p2)] := hl
  refine lv_aload_n hx hb dX6_fail_0 rfl (lv_at hl 0 rfl) ?_
  refine va_get (v := .int er) (D := D) (ci := 6) (C := RX6) (T := TX6) (N := 7) hx hb hts in_X6 hown hK hP 0 rfl rfl 5 (by decide) (hts _ kl_RX6_58) (fun _ h9 => h9) rfl dX6_fail_1 ?_
  refine lv_if_ne (tgt := 17) hx hb dX6_fail_4 (by decide) (fun hc_1 => ?_) (fun hc_1 => ?_)
  · exact W.vret hx hb hr (fun t ht hW => ⟨⟨(ws, er, ep), rfl, hT, by rw [ht]; exact hP, by rw [hAe]; exact hD⟩, hS.F ht⟩) hS.2.2 dX6_fail_17
  · refine lv_aload_n hx hb dX6_fail_7 rfl (lv_at hl 0 rfl) ?_
    refine lv_iload_n hx hb dX6_fail_8 rfl (lv_at hl 1 rfl) ?_
    refine va_put (v := .int p1) (ty := .int) (D := D) (ci := 6) (C := RX6) (T := TX6) (N := 7) hx hb hts in_X6 tyX6 tyX6_ok nmX6 hown hK hP hD hS 0 rfl rfl 5 (by decide) (hts _ kl_RX6_58) (fun _ h9 => h9) rfl (by decide +kernel) rfl rfl (Nat.le_of_ble_eq_true rfl) dX6_fail_9 (fun H locs hP hD hS => ?_)
    have hP : va_P D vwCl ([(rd, .inr (6, [.ref bt, .int ln, .ref tg, .int pl, .int wst, .int p1, .int ep]))] ++ ws) H := hP
    have hD : va_D A ([(rd, .inr (6, [.ref bt, .int ln, .ref tg, .int pl, .int wst, .int p1, .int ep]))] ++ ws) := hD
    refine lv_aload_n hx hb dX6_fail_12 rfl (lv_at hl 0 rfl) ?_
    refine lv_iload_n hx hb dX6_fail_13 rfl (lv_at hl 2 rfl) ?_
    refine va_put (v := .int p2) (ty := .int) (D := D) (ci := 6) (C := RX6) (T := TX6) (N := 7) hx hb hts in_X6 tyX6 tyX6_ok nmX6 hown hK hP hD hS 0 rfl rfl 6 (by decide) (hts _ kl_RX6_236) (fun _ h9 => h9) rfl (by decide +kernel) rfl rfl (Nat.le_of_ble_eq_true rfl) dX6_fail_14 (fun H locs hP hD hS => ?_)
    have hP : va_P D vwCl ([(rd, .inr (6, [.ref bt, .int ln, .ref tg, .int pl, .int wst, .int p1, .int p2]))] ++ ws) H := hP
    have hD : va_D A ([(rd, .inr (6, [.ref bt, .int ln, .ref tg, .int pl, .int wst, .int p1, .int p2]))] ++ ws) := hD
    exact W.vret hx hb hr (fun t ht hW => ⟨⟨(ws, p1, p2), rfl, hT, by rw [ht]; exact hP, by rw [hAe]; exact hD⟩, hS.F ht⟩) hS.2.2 dX6_fail_17
theorem dX6_skipSpaces_0 : decode cX6_skipSpaces 0 = .ok (.aload_n 0, 1) := by decide +kernel
theorem dX6_skipSpaces_1 : decode cX6_skipSpaces 1 = .ok (.getfield 65, 3) := by decide +kernel
theorem dX6_skipSpaces_4 : decode cX6_skipSpaces 4 = .ok (.aload_n 0, 1) := by decide +kernel
theorem dX6_skipSpaces_5 : decode cX6_skipSpaces 5 = .ok (.getfield 15, 3) := by decide +kernel
theorem dX6_skipSpaces_8 : decode cX6_skipSpaces 8 = .ok (.if_icmp .ge 25, 3) := by decide +kernel
theorem dX6_skipSpaces_11 : decode cX6_skipSpaces 11 = .ok (.aload_n 0, 1) := by decide +kernel
theorem dX6_skipSpaces_12 : decode cX6_skipSpaces 12 = .ok (.invokevirtual 61, 3) := by decide +kernel
theorem dX6_skipSpaces_15 : decode cX6_skipSpaces 15 = .ok (.bipush 32, 2) := by decide +kernel
theorem dX6_skipSpaces_17 : decode cX6_skipSpaces 17 = .ok (.if_icmp .ne 16, 3) := by decide +kernel
theorem dX6_skipSpaces_20 : decode cX6_skipSpaces 20 = .ok (.aload_n 0, 1) := by decide +kernel
theorem dX6_skipSpaces_21 : decode cX6_skipSpaces 21 = .ok (.dup, 1) := by decide +kernel
theorem dX6_skipSpaces_22 : decode cX6_skipSpaces 22 = .ok (.getfield 65, 3) := by decide +kernel
theorem dX6_skipSpaces_25 : decode cX6_skipSpaces 25 = .ok (.iconst 1, 1) := by decide +kernel
theorem dX6_skipSpaces_26 : decode cX6_skipSpaces 26 = .ok (.iadd, 1) := by decide +kernel
theorem dX6_skipSpaces_27 : decode cX6_skipSpaces 27 = .ok (.putfield 65, 3) := by decide +kernel
theorem dX6_skipSpaces_30 : decode cX6_skipSpaces 30 = .ok (.goto (-30), 3) := by decide +kernel
theorem dX6_skipSpaces_33 : decode cX6_skipSpaces 33 = .ok (.return_, 1) := by decide +kernel
set_option maxRecDepth 100000 in
set_option maxHeartbeats 4000000 in
theorem t_X6_skipSpaces (l : Launch) (D : va_G) (ct : Nat → ClassId) (S : ty_S) (ws : va_W) (rd : Nat) (bt : Nat) (tg : Nat) (nb : Nat) (ln : Int32) (pl : Int32) (wst : Int32) (er : Int32) (ep : Int32) (sz : Nat) (hT : ty_W ct S ws) (h_bt : S bt = some (.inr (0, nb))) (h_tg : S tg = some (.inl 9)) : Met l yX6_skipSpaces (ws_ yX6_skipSpaces cX6_skipSpaces 1 none) ({ frames := 1, cells := 0, slots := 0, locals := 20 } : Room) (va_Pc [.ref rd] (cmP D ct sz ([(rd, .inr (6, [.ref bt, .int ln, .ref tg, .int pl, .int wst, .int er, .int ep]))] ++ ws))) (va_Qv (fun (u : va_W × Int32) => match u with | (u9, pl1) => ty_W ct S u9) (cmB D ([(rd, .inr (6, [.ref bt, .int ln, .ref tg, .int pl, .int wst, .int er, .int ep]))] ++ ws) sz (fun (u : va_W × Int32) => match u with | (u9, pl1) => ([(rd, .inr (6, [.ref bt, .int ln, .ref tg, .int pl1, .int wst, .int er, .int ep]))] ++ u9))) (va_A ([(rd, .inr (6, [.ref bt, .int ln, .ref tg, .int pl, .int wst, .int er, .int ep]))] ++ ws) sz)) 0 0 (va_A ([(rd, .inr (6, [.ref bt, .int ln, .ref tg, .int pl, .int wst, .int er, .int ep]))] ++ ws) sz) := by
  refine Met.ofW (cc := cX6_skipSpaces) (maxL := 1) (ret := none) (by decide) rfl ?_
  intro p e s m args below meth c s₁ B hml hv
  obtain ⟨rfl, hsz, hP, hK, hD0, hX⟩ := hv
  have hx := B.exec
  have hb := B.bytes
  have hr := B.returns
  have hts := ws_all (atoms_spec (ws := ws_ yX6_skipSpaces cX6_skipSpaces 1 none) B.pre)
  have hown : s.vm.findClass RX6 = some m.cls := findClass_of_methodNamed B.named
  have hlocks := B.notSynchronized
  subst hsz
  have hD := hD0.self (sz := s.heap.size)
  generalize hAe : va_A ([(rd, .inr (6, [.ref bt, .int ln, .ref tg, .int pl, .int wst, .int er, .int ep]))] ++ ws) s.heap.size = A at hD hX ⊢
  have hA : ∀ q : Nat, s.heap.size ≤ q → A q := fun q h => by rw [← hAe]; exact Or.inr h
  have hS : va_S A s.heap s.heap [] := va_S.rf
  have hl := lv_entry ([.ref rd]) (n := 1) (Nat.le_of_ble_eq_true rfl)
  rw [lg_entry_eq]
  generalize (lg_sl ([.ref rd]) ++ List.replicate (1 - (lg_sl ([.ref rd])).length) Slot.unset).toArray = ls at hl ⊢
  have hl : lv_has ls 1 [(0, .ref rd)] := hl
  refine ty_loop (I := fun μ H locs ls => ∃ (ws : va_W) (y_1 : Int32), μ = (2147483648 - y_1.toInt).toNat ∧ ty_W ct S ws ∧ va_P D vwCl ([(rd, .inr (6, [.ref bt, .int ln, .ref tg, .int y_1, .int wst, .int er, .int ep]))] ++ ws) H ∧ va_D A ([(rd, .inr (6, [.ref bt, .int ln, .ref tg, .int y_1, .int wst, .int er, .int ep]))] ++ ws) ∧ va_S A s.heap H locs ∧ lv_has ls 1 [(0, .ref rd)]) ⟨_, ws, pl, rfl, hT, hP, hD, hS, (lv_sub hl [0] rfl)⟩ (fun μ H locs ls hI ih_0 => ?_)
  obtain ⟨ws, y_1, rfl, hT, hP, hD, hS, hl⟩ := hI
  refine lv_aload_n hx hb dX6_skipSpaces_0 rfl (lv_at hl 0 rfl) ?_
  refine va_get (v := .int y_1) (D := D) (ci := 6) (C := RX6) (T := TX6) (N := 7) hx hb hts in_X6 hown hK hP 0 rfl rfl 3 (by decide) (hts _ kl_RX6_65) (fun _ h9 => h9) rfl dX6_skipSpaces_1 ?_
  refine lv_aload_n hx hb dX6_skipSpaces_4 rfl (lv_at hl 0 rfl) ?_
  refine va_get (v := .int ln) (D := D) (ci := 6) (C := RX6) (T := TX6) (N := 7) hx hb hts in_X6 hown hK hP 0 rfl rfl 1 (by decide) (hts _ kl_RX6_15) (fun _ h9 => h9) rfl dX6_skipSpaces_5 ?_
  refine lv_icmp_ge (tgt := 33) hx hb dX6_skipSpaces_8 (by decide) (fun hc_2 => ?_) (fun hc_2 => ?_)
  · exact W.vret hx hb hr (fun t ht hW => ⟨⟨(ws, y_1), rfl, hT, by rw [ht]; exact hP, by rw [hAe]; exact hD⟩, hS.F ht⟩) hS.2.2 dX6_skipSpaces_33
  · refine lv_aload_n hx hb dX6_skipSpaces_11 rfl (lv_at hl 0 rfl) ?_
    refine ty_ki (wr := []) (wc := ([(rd, .inr (6, [.ref bt, .int ln, .ref tg, .int y_1, .int wst, .int er, .int ep]))] ++ ws)) (va_runV (As := []) (rest := []) ⟨hx, hb, hml, hown, hts⟩ (t_X6_next l D ct S ws rd bt tg nb ln y_1 wst er ep _ hT h_bt h_tg) (cm_V 0 hts kc_X6_next ki_RX6 kl_RX6_61 kv_X6_next kx_X6_next kd_X6_next ⟨Nat.le_of_ble_eq_true rfl, Nat.le_of_ble_eq_true rfl⟩) (ty_preE (wr := []) (wc := ([(rd, .inr (6, [.ref bt, .int ln, .ref tg, .int y_1, .int wst, .int er, .int ep]))] ++ ws)) (ci := 6) (q0 := 0) hP hK hD hS hA hX rfl rfl) rfl rfl hl.1 rfl (lv_room (Nat.le_of_ble_eq_true rfl)) dX6_skipSpaces_12 ⟨Nat.le_of_ble_eq_true rfl, Nat.le_of_ble_eq_true rfl⟩) hP hD hS hA (fun r_3 u H locs hw_4 hP hD hS => ?_)
    obtain ⟨ws_5, rfl⟩ : ∃ z, z = u := ⟨_, rfl⟩
    have hT := hw_4
    have hP : va_P D vwCl ([(rd, .inr (6, [.ref bt, .int ln, .ref tg, .int y_1, .int wst, .int er, .int ep]))] ++ ws_5) H := hP
    have hD : va_D A ([(rd, .inr (6, [.ref bt, .int ln, .ref tg, .int y_1, .int wst, .int er, .int ep]))] ++ ws_5) := hD
    refine lv_bipush (v := 32) hx hb dX6_skipSpaces_15 (by decide) ?_
    refine lv_icmp_ne (tgt := 33) hx hb dX6_skipSpaces_17 (by decide) (fun hc_6 => ?_) (fun hc_6 => ?_)
    · exact W.vret hx hb hr (fun t ht hW => ⟨⟨(ws_5, y_1), rfl, hT, by rw [ht]; exact hP, by rw [hAe]; exact hD⟩, hS.F ht⟩) hS.2.2 dX6_skipSpaces_33
    · refine lv_aload_n hx hb dX6_skipSpaces_20 rfl (lv_at hl 0 rfl) ?_
      refine lv_dup hx hb dX6_skipSpaces_21 rfl ?_
      refine va_get (v := .int y_1) (D := D) (ci := 6) (C := RX6) (T := TX6) (N := 7) hx hb hts in_X6 hown hK hP 0 rfl rfl 3 (by decide) (hts _ kl_RX6_65) (fun _ h9 => h9) rfl dX6_skipSpaces_22 ?_
      refine lv_iconst (v := 1) hx hb dX6_skipSpaces_25 (by decide) ?_
      refine lv_iadd hx hb dX6_skipSpaces_26 ?_
      refine va_put (v := .int (y_1 + 1)) (ty := .int) (D := D) (ci := 6) (C := RX6) (T := TX6) (N := 7) hx hb hts in_X6 tyX6 tyX6_ok nmX6 hown hK hP hD hS 0 rfl rfl 3 (by decide) (hts _ kl_RX6_65) (fun _ h9 => h9) rfl (by decide +kernel) rfl rfl (Nat.le_of_ble_eq_true rfl) dX6_skipSpaces_27 (fun H locs hP hD hS => ?_)
      have hP : va_P D vwCl ([(rd, .inr (6, [.ref bt, .int ln, .ref tg, .int (y_1 + 1), .int wst, .int er, .int ep]))] ++ ws_5) H := hP
      have hD : va_D A ([(rd, .inr (6, [.ref bt, .int ln, .ref tg, .int (y_1 + 1), .int wst, .int er, .int ep]))] ++ ws_5) := hD
      refine lv_goto (tgt := 0) hx hb dX6_skipSpaces_30 (by decide) ?_
      exact ih_0 _ _ _ _ (ty_inc1 (cm_lt hc_2)) ⟨ws_5, (y_1 + 1), rfl, hT, hP, hD, hS, (lv_sub hl [0] rfl)⟩
theorem dX6_readWord_0 : decode cX6_readWord 0 = .ok (.aload_n 0, 1) := by decide +kernel
theorem dX6_readWord_1 : decode cX6_readWord 1 = .ok (.invokevirtual 55, 3) := by decide +kernel
theorem dX6_readWord_4 : decode cX6_readWord 4 = .ok (.aload_n 0, 1) := by decide +kernel
theorem dX6_readWord_5 : decode cX6_readWord 5 = .ok (.aload_n 0, 1) := by decide +kernel
theorem dX6_readWord_6 : decode cX6_readWord 6 = .ok (.getfield 65, 3) := by decide +kernel
theorem dX6_readWord_9 : decode cX6_readWord 9 = .ok (.putfield 130, 3) := by decide +kernel
theorem dX6_readWord_12 : decode cX6_readWord 12 = .ok (.aload_n 0, 1) := by decide +kernel
theorem dX6_readWord_13 : decode cX6_readWord 13 = .ok (.invokevirtual 61, 3) := by decide +kernel
theorem dX6_readWord_16 : decode cX6_readWord 16 = .ok (.invokestatic 202, 3) := by decide +kernel
theorem dX6_readWord_19 : decode cX6_readWord 19 = .ok (.ifCond .ne 13, 3) := by decide +kernel
theorem dX6_readWord_22 : decode cX6_readWord 22 = .ok (.aload_n 0, 1) := by decide +kernel
theorem dX6_readWord_23 : decode cX6_readWord 23 = .ok (.iconst 1, 1) := by decide +kernel
theorem dX6_readWord_24 : decode cX6_readWord 24 = .ok (.aload_n 0, 1) := by decide +kernel
theorem dX6_readWord_25 : decode cX6_readWord 25 = .ok (.getfield 65, 3) := by decide +kernel
theorem dX6_readWord_28 : decode cX6_readWord 28 = .ok (.invokevirtual 68, 3) := by decide +kernel
theorem dX6_readWord_31 : decode cX6_readWord 31 = .ok (.return_, 1) := by decide +kernel
theorem dX6_readWord_32 : decode cX6_readWord 32 = .ok (.aload_n 0, 1) := by decide +kernel
theorem dX6_readWord_33 : decode cX6_readWord 33 = .ok (.getfield 65, 3) := by decide +kernel
theorem dX6_readWord_36 : decode cX6_readWord 36 = .ok (.aload_n 0, 1) := by decide +kernel
theorem dX6_readWord_37 : decode cX6_readWord 37 = .ok (.getfield 15, 3) := by decide +kernel
theorem dX6_readWord_40 : decode cX6_readWord 40 = .ok (.if_icmp .ge 26, 3) := by decide +kernel
theorem dX6_readWord_43 : decode cX6_readWord 43 = .ok (.aload_n 0, 1) := by decide +kernel
theorem dX6_readWord_44 : decode cX6_readWord 44 = .ok (.invokevirtual 61, 3) := by decide +kernel
theorem dX6_readWord_47 : decode cX6_readWord 47 = .ok (.invokestatic 202, 3) := by decide +kernel
theorem dX6_readWord_50 : decode cX6_readWord 50 = .ok (.ifCond .eq 16, 3) := by decide +kernel
theorem dX6_readWord_53 : decode cX6_readWord 53 = .ok (.aload_n 0, 1) := by decide +kernel
theorem dX6_readWord_54 : decode cX6_readWord 54 = .ok (.dup, 1) := by decide +kernel
theorem dX6_readWord_55 : decode cX6_readWord 55 = .ok (.getfield 65, 3) := by decide +kernel
theorem dX6_readWord_58 : decode cX6_readWord 58 = .ok (.iconst 1, 1) := by decide +kernel
theorem dX6_readWord_59 : decode cX6_readWord 59 = .ok (.iadd, 1) := by decide +kernel
theorem dX6_readWord_60 : decode cX6_readWord 60 = .ok (.putfield 65, 3) := by decide +kernel
theorem dX6_readWord_63 : decode cX6_readWord 63 = .ok (.goto (-31), 3) := by decide +kernel
theorem dX6_readWord_66 : decode cX6_readWord 66 = .ok (.return_, 1) := by decide +kernel
set_option maxRecDepth 100000 in
set_option maxHeartbeats 4000000 in
theorem t_X6_readWord (l : Launch) (D : va_G) (ct : Nat → ClassId) (S : ty_S) (ws : va_W) (rd : Nat) (bt : Nat) (tg : Nat) (nb : Nat) (ln : Int32) (pl : Int32) (wst : Int32) (er : Int32) (ep : Int32) (sz : Nat) (hT : ty_W ct S ws) (h_bt : S bt = some (.inr (0, nb))) (h_tg : S tg = some (.inl 9)) : Met l yX6_readWord (ws_ yX6_readWord cX6_readWord 1 none) ({ frames := 2, cells := 0, slots := 0, locals := 40 } : Room) (va_Pc [.ref rd] (cmP D ct sz ([(rd, .inr (6, [.ref bt, .int ln, .ref tg, .int pl, .int wst, .int er, .int ep]))] ++ ws))) (va_Qv (fun (u : va_W × Int32 × Int32 × Int32 × Int32) => match u with | (u9, pl1, ws1, er1, ep1) => ty_W ct S u9) (cmB D ([(rd, .inr (6, [.ref bt, .int ln, .ref tg, .int pl, .int wst, .int er, .int ep]))] ++ ws) sz (fun (u : va_W × Int32 × Int32 × Int32 × Int32) => match u with | (u9, pl1, ws1, er1, ep1) => ([(rd, .inr (6, [.ref bt, .int ln, .ref tg, .int pl1, .int ws1, .int er1, .int ep1]))] ++ u9))) (va_A ([(rd, .inr (6, [.ref bt, .int ln, .ref tg, .int pl, .int wst, .int er, .int ep]))] ++ ws) sz)) 0 0 (va_A ([(rd, .inr (6, [.ref bt, .int ln, .ref tg, .int pl, .int wst, .int er, .int ep]))] ++ ws) sz) := by
  refine Met.ofW (cc := cX6_readWord) (maxL := 1) (ret := none) (by decide) rfl ?_
  intro p e s m args below meth c s₁ B hml hv
  obtain ⟨rfl, hsz, hP, hK, hD0, hX⟩ := hv
  have hx := B.exec
  have hb := B.bytes
  have hr := B.returns
  have hts := ws_all (atoms_spec (ws := ws_ yX6_readWord cX6_readWord 1 none) B.pre)
  have hown : s.vm.findClass RX6 = some m.cls := findClass_of_methodNamed B.named
  have hlocks := B.notSynchronized
  subst hsz
  have hD := hD0.self (sz := s.heap.size)
  generalize hAe : va_A ([(rd, .inr (6, [.ref bt, .int ln, .ref tg, .int pl, .int wst, .int er, .int ep]))] ++ ws) s.heap.size = A at hD hX ⊢
  have hA : ∀ q : Nat, s.heap.size ≤ q → A q := fun q h => by rw [← hAe]; exact Or.inr h
  have hS : va_S A s.heap s.heap [] := va_S.rf
  have hl := lv_entry ([.ref rd]) (n := 1) (Nat.le_of_ble_eq_true rfl)
  rw [lg_entry_eq]
  generalize (lg_sl ([.ref rd]) ++ List.replicate (1 - (lg_sl ([.ref rd])).length) Slot.unset).toArray = ls at hl ⊢
  have hl : lv_has ls 1 [(0, .ref rd)] := hl
  refine lv_aload_n hx hb dX6_readWord_0 rfl (lv_at hl 0 rfl) ?_
  refine ty_kv (wr := []) (wc := ([(rd, .inr (6, [.ref bt, .int ln, .ref tg, .int pl, .int wst, .int er, .int ep]))] ++ ws)) (va_runV (As := []) (rest := []) ⟨hx, hb, hml, hown, hts⟩ (t_X6_skipSpaces l D ct S ws rd bt tg nb ln pl wst er ep _ hT h_bt h_tg) (cm_V 0 hts kc_X6_skipSpaces ki_RX6 kl_RX6_55 kv_X6_skipSpaces kx_X6_skipSpaces kd_X6_skipSpaces ⟨Nat.le_of_ble_eq_true rfl, Nat.le_of_ble_eq_true rfl⟩) (ty_preE (wr := []) (wc := ([(rd, .inr (6, [.ref bt, .int ln, .ref tg, .int pl, .int wst, .int er, .int ep]))] ++ ws)) (ci := 6) (q0 := 0) hP hK hD hS hA hX rfl rfl) rfl rfl hl.1 rfl (lv_room (Nat.le_of_ble_eq_true rfl)) dX6_readWord_1 ⟨Nat.le_of_ble_eq_true rfl, Nat.le_of_ble_eq_true rfl⟩) hP hD hS hA (fun u H locs hw_2 hP hD hS => ?_)
  obtain ⟨ws_3, pl1_4⟩ := u
  have hT := hw_2
  have hP : va_P D vwCl ([(rd, .inr (6, [.ref bt, .int ln, .ref tg, .int pl1_4, .int wst, .int er, .int ep]))] ++ ws_3) H := hP
  have hD : va_D A ([(rd, .inr (6, [.ref bt, .int ln, .ref tg, .int pl1_4, .int wst, .int er, .int ep]))] ++ ws_3) := hD
  refine lv_aload_n hx hb dX6_readWord_4 rfl (lv_at hl 0 rfl) ?_
  refine lv_aload_n hx hb dX6_readWord_5 rfl (lv_at hl 0 rfl) ?_
  refine va_get (v := .int pl1_4) (D := D) (ci := 6) (C := RX6) (T := TX6) (N := 7) hx hb hts in_X6 hown hK hP 0 rfl rfl 3 (by decide) (hts _ kl_RX6_65) (fun _ h9 => h9) rfl dX6_readWord_6 ?_
  refine va_put (v := .int pl1_4) (ty := .int) (D := D) (ci := 6) (C := RX6) (T := TX6) (N := 7) hx hb hts in_X6 tyX6 tyX6_ok nmX6 hown hK hP hD hS 0 rfl rfl 4 (by decide) (hts _ kl_RX6_130) (fun _ h9 => h9) rfl (by decide +kernel) rfl rfl (Nat.le_of_ble_eq_true rfl) dX6_readWord_9 (fun H locs hP hD hS => ?_)
  have hP : va_P D vwCl ([(rd, .inr (6, [.ref bt, .int ln, .ref tg, .int pl1_4, .int pl1_4, .int er, .int ep]))] ++ ws_3) H := hP
  have hD : va_D A ([(rd, .inr (6, [.ref bt, .int ln, .ref tg, .int pl1_4, .int pl1_4, .int er, .int ep]))] ++ ws_3) := hD
  refine lv_aload_n hx hb dX6_readWord_12 rfl (lv_at hl 0 rfl) ?_
  refine ty_ki (wr := []) (wc := ([(rd, .inr (6, [.ref bt, .int ln, .ref tg, .int pl1_4, .int pl1_4, .int er, .int ep]))] ++ ws_3)) (va_runV (As := []) (rest := []) ⟨hx, hb, hml, hown, hts⟩ (t_X6_next l D ct S ws_3 rd bt tg nb ln pl1_4 pl1_4 er ep _ hT h_bt h_tg) (cm_V 0 hts kc_X6_next ki_RX6 kl_RX6_61 kv_X6_next kx_X6_next kd_X6_next ⟨Nat.le_of_ble_eq_true rfl, Nat.le_of_ble_eq_true rfl⟩) (ty_preE (wr := []) (wc := ([(rd, .inr (6, [.ref bt, .int ln, .ref tg, .int pl1_4, .int pl1_4, .int er, .int ep]))] ++ ws_3)) (ci := 6) (q0 := 0) hP hK hD hS hA hX rfl rfl) rfl rfl hl.1 rfl (lv_room (Nat.le_of_ble_eq_true rfl)) dX6_readWord_13 ⟨Nat.le_of_ble_eq_true rfl, Nat.le_of_ble_eq_true rfl⟩) hP hD hS hA (fun r_5 u H locs hw_6 hP hD hS => ?_)
  obtain ⟨ws_7, rfl⟩ : ∃ z, z = u := ⟨_, rfl⟩
  have hT := hw_6
  have hP : va_P D vwCl ([(rd, .inr (6, [.ref bt, .int ln, .ref tg, .int pl1_4, .int pl1_4, .int er, .int ep]))] ++ ws_7) H := hP
  have hD : va_D A ([(rd, .inr (6, [.ref bt, .int ln, .ref tg, .int pl1_4, .int pl1_4, .int er, .int ep]))] ++ ws_7) := hD
  refine ty_ki (wr := [(rd, .inr (6, [.ref bt, .int ln, .ref tg, .int pl1_4, .int pl1_4, .int er, .int ep]))]) (wc := ([] ++ ws_7)) (va_runS (As := [.int r_5]) (rest := []) ⟨hx, hb, hml, hown, hts⟩ (t_X6_isLetter l D ct S ws_7 r_5 _ hT) (cm_S 1 hts kc_X6_isLetter ki_RX6 kl_RX6_202 ks_X6_isLetter kd_X6_isLetter ⟨Nat.le_of_ble_eq_true rfl, Nat.le_of_ble_eq_true rfl⟩) (ty_preS (wr := [(rd, .inr (6, [.ref bt, .int ln, .ref tg, .int pl1_4, .int pl1_4, .int er, .int ep]))]) (wc := ([] ++ ws_7)) hP hK hD hS hA hX) rfl rfl hl.1 rfl (lv_room (Nat.le_of_ble_eq_true rfl)) dX6_readWord_16 ⟨Nat.le_of_ble_eq_true rfl, Nat.le_of_ble_eq_true rfl⟩) hP hD hS hA (fun r_8 u H locs hw_9 hP hD hS => ?_)
  obtain ⟨ws_10, rfl⟩ : ∃ z, z = u := ⟨_, rfl⟩
  have hT := hw_9
  have hP : va_P D vwCl ([(rd, .inr (6, [.ref bt, .int ln, .ref tg, .int pl1_4, .int pl1_4, .int er, .int ep]))] ++ ws_10) H := hP
  have hD : va_D A ([(rd, .inr (6, [.ref bt, .int ln, .ref tg, .int pl1_4, .int pl1_4, .int er, .int ep]))] ++ ws_10) := hD
  refine lv_if_ne (tgt := 32) hx hb dX6_readWord_19 (by decide) (fun hc_11 => ?_) (fun hc_11 => ?_)
  · refine ty_loop (I := fun μ H locs ls => ∃ (ws : va_W) (y_12 : Int32), μ = (2147483648 - y_12.toInt).toNat ∧ ty_W ct S ws ∧ va_P D vwCl ([(rd, .inr (6, [.ref bt, .int ln, .ref tg, .int y_12, .int pl1_4, .int er, .int ep]))] ++ ws) H ∧ va_D A ([(rd, .inr (6, [.ref bt, .int ln, .ref tg, .int y_12, .int pl1_4, .int er, .int ep]))] ++ ws) ∧ va_S A s.heap H locs ∧ lv_has ls 1 [(0, .ref rd)]) ⟨_, ws_10, pl1_4, rfl, hT, hP, hD, hS, (lv_sub hl [0] rfl)⟩ (fun μ H locs ls hI ih_32 => ?_)
    obtain ⟨ws, y_12, rfl, hT, hP, hD, hS, hl⟩ := hI
    refine lv_aload_n hx hb dX6_readWord_32 rfl (lv_at hl 0 rfl) ?_
    refine va_get (v := .int y_12) (D := D) (ci := 6) (C := RX6) (T := TX6) (N := 7) hx hb hts in_X6 hown hK hP 0 rfl rfl 3 (by decide) (hts _ kl_RX6_65) (fun _ h9 => h9) rfl dX6_readWord_33 ?_
    refine lv_aload_n hx hb dX6_readWord_36 rfl (lv_at hl 0 rfl) ?_
    refine va_get (v := .int ln) (D := D) (ci := 6) (C := RX6) (T := TX6) (N := 7) hx hb hts in_X6 hown hK hP 0 rfl rfl 1 (by decide) (hts _ kl_RX6_15) (fun _ h9 => h9) rfl dX6_readWord_37 ?_
    refine lv_icmp_ge (tgt := 66) hx hb dX6_readWord_40 (by decide) (fun hc_13 => ?_) (fun hc_13 => ?_)
    · exact W.vret hx hb hr (fun t ht hW => ⟨⟨(ws, y_12, pl1_4, er, ep), rfl, hT, by rw [ht]; exact hP, by rw [hAe]; exact hD⟩, hS.F ht⟩) hS.2.2 dX6_readWord_66
    · refine lv_aload_n hx hb dX6_readWord_43 rfl (lv_at hl 0 rfl) ?_
      refine ty_ki (wr := []) (wc := ([(rd, .inr (6, [.ref bt, .int ln, .ref tg, .int y_12, .int pl1_4, .int er, .int ep]))] ++ ws)) (va_runV (As := []) (rest := []) ⟨hx, hb, hml, hown, hts⟩ (t_X6_next l D ct S ws rd bt tg nb ln y_12 pl1_4 er ep _ hT h_bt h_tg) (cm_V 0 hts kc_X6_next ki_RX6 kl_RX6_61 kv_X6_next kx_X6_next kd_X6_next ⟨Nat.le_of_ble_eq_true rfl, Nat.le_of_ble_eq_true rfl⟩) (ty_preE (wr := []) (wc := ([(rd, .inr (6, [.ref bt, .int ln, .ref tg, .int y_12, .int pl1_4, .int er, .int ep]))] ++ ws)) (ci := 6) (q0 := 0) hP hK hD hS hA hX rfl rfl) rfl rfl hl.1 rfl (lv_room (Nat.le_of_ble_eq_true rfl)) dX6_readWord_44 ⟨Nat.le_of_ble_eq_true rfl, Nat.le_of_ble_eq_true rfl⟩) hP hD hS hA (fun r_14 u H locs hw_15 hP hD hS => ?_)
      obtain ⟨ws_16, rfl⟩ : ∃ z, z = u := ⟨_, rfl⟩
      have hT := hw_15
      have hP : va_P D vwCl ([(rd, .inr (6, [.ref bt, .int ln, .ref tg, .int y_12, .int pl1_4, .int er, .int ep]))] ++ ws_16) H := hP
      have hD : va_D A ([(rd, .inr (6, [.ref bt, .int ln, .ref tg, .int y_12, .int pl1_4, .int er, .int ep]))] ++ ws_16) := hD
      refine ty_ki (wr := [(rd, .inr (6, [.ref bt, .int ln, .ref tg, .int y_12, .int pl1_4, .int er, .int ep]))]) (wc := ([] ++ ws_16)) (va_runS (As := [.int r_14]) (rest := []) ⟨hx, hb, hml, hown, hts⟩ (t_X6_isLetter l D ct S ws_16 r_14 _ hT) (cm_S 1 hts kc_X6_isLetter ki_RX6 kl_RX6_202 ks_X6_isLetter kd_X6_isLetter ⟨Nat.le_of_ble_eq_true rfl, Nat.le_of_ble_eq_true rfl⟩) (ty_preS (wr := [(rd, .inr (6, [.ref bt, .int ln, .ref tg, .int y_12, .int pl1_4, .int er, .int ep]))]) (wc := ([] ++ ws_16)) hP hK hD hS hA hX) rfl rfl hl.1 rfl (lv_room (Nat.le_of_ble_eq_true rfl)) dX6_readWord_47 ⟨Nat.le_of_ble_eq_true rfl, Nat.le_of_ble_eq_true rfl⟩) hP hD hS hA (fun r_17 u H locs hw_18 hP hD hS => ?_)
      obtain ⟨ws_19, rfl⟩ : ∃ z, z = u := ⟨_, rfl⟩
      have hT := hw_18
      have hP : va_P D vwCl ([(rd, .inr (6, [.ref bt, .int ln, .ref tg, .int y_12, .int pl1_4, .int er, .int ep]))] ++ ws_19) H := hP
      have hD : va_D A ([(rd, .inr (6, [.ref bt, .int ln, .ref tg, .int y_12, .int pl1_4, .int er, .int ep]))] ++ ws_19) := hD
      refine lv_if_eq (tgt := 66) hx hb dX6_readWord_50 (by decide) (fun hc_20 => ?_) (fun hc_20 => ?_)
      · exact W.vret hx hb hr (fun t ht hW => ⟨⟨(ws_19, y_12, pl1_4, er, ep), rfl, hT, by rw [ht]; exact hP, by rw [hAe]; exact hD⟩, hS.F ht⟩) hS.2.2 dX6_readWord_66
      · refine lv_aload_n hx hb dX6_readWord_53 rfl (lv_at hl 0 rfl) ?_
        refine lv_dup hx hb dX6_readWord_54 rfl ?_
        refine va_get (v := .int y_12) (D := D) (ci := 6) (C := RX6) (T := TX6) (N := 7) hx hb hts in_X6 hown hK hP 0 rfl rfl 3 (by decide) (hts _ kl_RX6_65) (fun _ h9 => h9) rfl dX6_readWord_55 ?_
        refine lv_iconst (v := 1) hx hb dX6_readWord_58 (by decide) ?_
        refine lv_iadd hx hb dX6_readWord_59 ?_
        refine va_put (v := .int (y_12 + 1)) (ty := .int) (D := D) (ci := 6) (C := RX6) (T := TX6) (N := 7) hx hb hts in_X6 tyX6 tyX6_ok nmX6 hown hK hP hD hS 0 rfl rfl 3 (by decide) (hts _ kl_RX6_65) (fun _ h9 => h9) rfl (by decide +kernel) rfl rfl (Nat.le_of_ble_eq_true rfl) dX6_readWord_60 (fun H locs hP hD hS => ?_)
        have hP : va_P D vwCl ([(rd, .inr (6, [.ref bt, .int ln, .ref tg, .int (y_12 + 1), .int pl1_4, .int er, .int ep]))] ++ ws_19) H := hP
        have hD : va_D A ([(rd, .inr (6, [.ref bt, .int ln, .ref tg, .int (y_12 + 1), .int pl1_4, .int er, .int ep]))] ++ ws_19) := hD
        refine lv_goto (tgt := 32) hx hb dX6_readWord_63 (by decide) ?_
        exact ih_32 _ _ _ _ (ty_inc1 (cm_lt hc_13)) ⟨ws_19, (y_12 + 1), rfl, hT, hP, hD, hS, (lv_sub hl [0] rfl)⟩
  · refine lv_aload_n hx hb dX6_readWord_22 rfl (lv_at hl 0 rfl) ?_
    refine lv_iconst (v := 1) hx hb dX6_readWord_23 (by decide) ?_
    refine lv_aload_n hx hb dX6_readWord_24 rfl (lv_at hl 0 rfl) ?_
    refine va_get (v := .int pl1_4) (D := D) (ci := 6) (C := RX6) (T := TX6) (N := 7) hx hb hts in_X6 hown hK hP 0 rfl rfl 3 (by decide) (hts _ kl_RX6_65) (fun _ h9 => h9) rfl dX6_readWord_25 ?_
    refine ty_kv (wr := []) (wc := ([(rd, .inr (6, [.ref bt, .int ln, .ref tg, .int pl1_4, .int pl1_4, .int er, .int ep]))] ++ ws_10)) (va_runV (As := [.int 1, .int pl1_4]) (rest := []) ⟨hx, hb, hml, hown, hts⟩ (t_X6_fail l D ct S ws_10 rd bt tg nb ln pl1_4 pl1_4 er ep (1 : Int32) pl1_4 _ hT h_bt h_tg) (cm_V 2 hts kc_X6_fail ki_RX6 kl_RX6_68 kv_X6_fail kx_X6_fail kd_X6_fail ⟨Nat.le_of_ble_eq_true rfl, Nat.le_of_ble_eq_true rfl⟩) (ty_preE (wr := []) (wc := ([(rd, .inr (6, [.ref bt, .int ln, .ref tg, .int pl1_4, .int pl1_4, .int er, .int ep]))] ++ ws_10)) (ci := 6) (q0 := 0) hP hK hD hS hA hX rfl rfl) rfl rfl hl.1 rfl (lv_room (Nat.le_of_ble_eq_true rfl)) dX6_readWord_28 ⟨Nat.le_of_ble_eq_true rfl, Nat.le_of_ble_eq_true rfl⟩) hP hD hS hA (fun u H locs hw_22 hP hD hS => ?_)
    obtain ⟨ws_23, er1_24, ep1_25⟩ := u
    have hT := hw_22
    have hP : va_P D vwCl ([(rd, .inr (6, [.ref bt, .int ln, .ref tg, .int pl1_4, .int pl1_4, .int er1_24, .int ep1_25]))] ++ ws_23) H := hP
    have hD : va_D A ([(rd, .inr (6, [.ref bt, .int ln, .ref tg, .int pl1_4, .int pl1_4, .int er1_24, .int ep1_25]))] ++ ws_23) := hD
    exact W.vret hx hb hr (fun t ht hW => ⟨⟨(ws_23, pl1_4, pl1_4, er1_24, ep1_25), rfl, hT, by rw [ht]; exact hP, by rw [hAe]; exact hD⟩, hS.F ht⟩) hS.2.2 dX6_readWord_31
theorem dX6_readNumber_0 : decode cX6_readNumber 0 = .ok (.aload_n 0, 1) := by decide +kernel
theorem dX6_readNumber_1 : decode cX6_readNumber 1 = .ok (.invokevirtual 55, 3) := by decide +kernel
theorem dX6_readNumber_4 : decode cX6_readNumber 4 = .ok (.aload_n 0, 1) := by decide +kernel
theorem dX6_readNumber_5 : decode cX6_readNumber 5 = .ok (.getfield 65, 3) := by decide +kernel
theorem dX6_readNumber_8 : decode cX6_readNumber 8 = .ok (.istore_n 3, 1) := by decide +kernel
theorem dX6_readNumber_9 : decode cX6_readNumber 9 = .ok (.aload_n 0, 1) := by decide +kernel
theorem dX6_readNumber_10 : decode cX6_readNumber 10 = .ok (.getfield 58, 3) := by decide +kernel
theorem dX6_readNumber_13 : decode cX6_readNumber 13 = .ok (.ifCond .ne 13, 3) := by decide +kernel
theorem dX6_readNumber_16 : decode cX6_readNumber 16 = .ok (.aload_n 0, 1) := by decide +kernel
theorem dX6_readNumber_17 : decode cX6_readNumber 17 = .ok (.invokevirtual 61, 3) := by decide +kernel
theorem dX6_readNumber_20 : decode cX6_readNumber 20 = .ok (.invokestatic 154, 3) := by decide +kernel
theorem dX6_readNumber_23 : decode cX6_readNumber 23 = .ok (.ifCond .ne 14, 3) := by decide +kernel
theorem dX6_readNumber_26 : decode cX6_readNumber 26 = .ok (.aload_n 0, 1) := by decide +kernel
theorem dX6_readNumber_27 : decode cX6_readNumber 27 = .ok (.iconst 1, 1) := by decide +kernel
theorem dX6_readNumber_28 : decode cX6_readNumber 28 = .ok (.aload_n 0, 1) := by decide +kernel
theorem dX6_readNumber_29 : decode cX6_readNumber 29 = .ok (.getfield 65, 3) := by decide +kernel
theorem dX6_readNumber_32 : decode cX6_readNumber 32 = .ok (.invokevirtual 68, 3) := by decide +kernel
theorem dX6_readNumber_35 : decode cX6_readNumber 35 = .ok (.iload_n 1, 1) := by decide +kernel
theorem dX6_readNumber_36 : decode cX6_readNumber 36 = .ok (.ireturn, 1) := by decide +kernel
theorem dX6_readNumber_37 : decode cX6_readNumber 37 = .ok (.iconst 0, 1) := by decide +kernel
theorem dX6_readNumber_38 : decode cX6_readNumber 38 = .ok (.istore 4, 2) := by decide +kernel
theorem dX6_readNumber_40 : decode cX6_readNumber 40 = .ok (.aload_n 0, 1) := by decide +kernel
theorem dX6_readNumber_41 : decode cX6_readNumber 41 = .ok (.getfield 65, 3) := by decide +kernel
theorem dX6_readNumber_44 : decode cX6_readNumber 44 = .ok (.aload_n 0, 1) := by decide +kernel
theorem dX6_readNumber_45 : decode cX6_readNumber 45 = .ok (.getfield 15, 3) := by decide +kernel
theorem dX6_readNumber_48 : decode cX6_readNumber 48 = .ok (.if_icmp .ge 46, 3) := by decide +kernel
theorem dX6_readNumber_51 : decode cX6_readNumber 51 = .ok (.aload_n 0, 1) := by decide +kernel
theorem dX6_readNumber_52 : decode cX6_readNumber 52 = .ok (.invokevirtual 61, 3) := by decide +kernel
theorem dX6_readNumber_55 : decode cX6_readNumber 55 = .ok (.invokestatic 154, 3) := by decide +kernel
theorem dX6_readNumber_58 : decode cX6_readNumber 58 = .ok (.ifCond .eq 36, 3) := by decide +kernel
theorem dX6_readNumber_61 : decode cX6_readNumber 61 = .ok (.iload 4, 2) := by decide +kernel
theorem dX6_readNumber_63 : decode cX6_readNumber 63 = .ok (.bipush 10, 2) := by decide +kernel
theorem dX6_readNumber_65 : decode cX6_readNumber 65 = .ok (.imul, 1) := by decide +kernel
theorem dX6_readNumber_66 : decode cX6_readNumber 66 = .ok (.aload_n 0, 1) := by decide +kernel
theorem dX6_readNumber_67 : decode cX6_readNumber 67 = .ok (.invokevirtual 61, 3) := by decide +kernel
theorem dX6_readNumber_70 : decode cX6_readNumber 70 = .ok (.iadd, 1) := by decide +kernel
theorem dX6_readNumber_71 : decode cX6_readNumber 71 = .ok (.bipush 48, 2) := by decide +kernel
theorem dX6_readNumber_73 : decode cX6_readNumber 73 = .ok (.isub, 1) := by decide +kernel
theorem dX6_readNumber_74 : decode cX6_readNumber 74 = .ok (.ldc 235, 2) := by decide +kernel
theorem dX6_readNumber_76 : decode cX6_readNumber 76 = .ok (.invokestatic 91, 3) := by decide +kernel
theorem dX6_readNumber_79 : decode cX6_readNumber 79 = .ok (.istore 4, 2) := by decide +kernel
theorem dX6_readNumber_81 : decode cX6_readNumber 81 = .ok (.aload_n 0, 1) := by decide +kernel
theorem dX6_readNumber_82 : decode cX6_readNumber 82 = .ok (.dup, 1) := by decide +kernel
theorem dX6_readNumber_83 : decode cX6_readNumber 83 = .ok (.getfield 65, 3) := by decide +kernel
theorem dX6_readNumber_86 : decode cX6_readNumber 86 = .ok (.iconst 1, 1) := by decide +kernel
theorem dX6_readNumber_87 : decode cX6_readNumber 87 = .ok (.iadd, 1) := by decide +kernel
theorem dX6_readNumber_88 : decode cX6_readNumber 88 = .ok (.putfield 65, 3) := by decide +kernel
theorem dX6_readNumber_91 : decode cX6_readNumber 91 = .ok (.goto (-51), 3) := by decide +kernel
theorem dX6_readNumber_94 : decode cX6_readNumber 94 = .ok (.iload 4, 2) := by decide +kernel
theorem dX6_readNumber_96 : decode cX6_readNumber 96 = .ok (.iload_n 1, 1) := by decide +kernel
theorem dX6_readNumber_97 : decode cX6_readNumber 97 = .ok (.if_icmp .lt 9, 3) := by decide +kernel
theorem dX6_readNumber_100 : decode cX6_readNumber 100 = .ok (.iload 4, 2) := by decide +kernel
theorem dX6_readNumber_102 : decode cX6_readNumber 102 = .ok (.iload_n 2, 1) := by decide +kernel
theorem dX6_readNumber_103 : decode cX6_readNumber 103 = .ok (.if_icmp .le 11, 3) := by decide +kernel
theorem dX6_readNumber_106 : decode cX6_readNumber 106 = .ok (.aload_n 0, 1) := by decide +kernel
theorem dX6_readNumber_107 : decode cX6_readNumber 107 = .ok (.iconst 2, 1) := by decide +kernel
theorem dX6_readNumber_108 : decode cX6_readNumber 108 = .ok (.iload_n 3, 1) := by decide +kernel
theorem dX6_readNumber_109 : decode cX6_readNumber 109 = .ok (.invokevirtual 68, 3) := by decide +kernel
theorem dX6_readNumber_112 : decode cX6_readNumber 112 = .ok (.iload_n 1, 1) := by decide +kernel
theorem dX6_readNumber_113 : decode cX6_readNumber 113 = .ok (.ireturn, 1) := by decide +kernel
theorem dX6_readNumber_114 : decode cX6_readNumber 114 = .ok (.iload 4, 2) := by decide +kernel
theorem dX6_readNumber_116 : decode cX6_readNumber 116 = .ok (.ireturn, 1) := by decide +kernel
set_option maxRecDepth 100000 in
set_option maxHeartbeats 4000000 in
theorem t_X6_readNumber (l : Launch) (D : va_G) (ct : Nat → ClassId) (S : ty_S) (ws : va_W) (rd : Nat) (bt : Nat) (tg : Nat) (nb : Nat) (ln : Int32) (pl : Int32) (wst : Int32) (er : Int32) (ep : Int32) (p1 : Int32) (p2 : Int32) (sz : Nat) (hT : ty_W ct S ws) (h_bt : S bt = some (.inr (0, nb))) (h_tg : S tg = some (.inl 9)) : Met l yX6_readNumber (ws_ yX6_readNumber cX6_readNumber 5 (some .int)) ({ frames := 2, cells := 0, slots := 0, locals := 40 } : Room) (va_Pc [.ref rd, .int p1, .int p2] (cmP D ct sz ([(rd, .inr (6, [.ref bt, .int ln, .ref tg, .int pl, .int wst, .int er, .int ep]))] ++ ws))) (va_Qi (fun (r : Int32) (u : va_W × Int32 × Int32 × Int32 × Int32) => match u with | (u9, pl1, ws1, er1, ep1) => ty_W ct S u9) (cmB D ([(rd, .inr (6, [.ref bt, .int ln, .ref tg, .int pl, .int wst, .int er, .int ep]))] ++ ws) sz (fun (u : va_W × Int32 × Int32 × Int32 × Int32) => match u with | (u9, pl1, ws1, er1, ep1) => ([(rd, .inr (6, [.ref bt, .int ln, .ref tg, .int pl1, .int ws1, .int er1, .int ep1]))] ++ u9))) (va_A ([(rd, .inr (6, [.ref bt, .int ln, .ref tg, .int pl, .int wst, .int er, .int ep]))] ++ ws) sz)) 0 0 (va_A ([(rd, .inr (6, [.ref bt, .int ln, .ref tg, .int pl, .int wst, .int er, .int ep]))] ++ ws) sz) := by
  refine Met.ofW (cc := cX6_readNumber) (maxL := 5) (ret := (some .int)) (by decide) rfl ?_
  intro p e s m args below meth c s₁ B hml hv
  obtain ⟨rfl, hsz, hP, hK, hD0, hX⟩ := hv
  have hx := B.exec
  have hb := B.bytes
  have hr := B.returns
  have hts := ws_all (atoms_spec (ws := ws_ yX6_readNumber cX6_readNumber 5 (some .int)) B.pre)
  have hown : s.vm.findClass RX6 = some m.cls := findClass_of_methodNamed B.named
  have hlocks := B.notSynchronized
  subst hsz
  have hD := hD0.self (sz := s.heap.size)
  generalize hAe : va_A ([(rd, .inr (6, [.ref bt, .int ln, .ref tg, .int pl, .int wst, .int er, .int ep]))] ++ ws) s.heap.size = A at hD hX ⊢
  have hA : ∀ q : Nat, s.heap.size ≤ q → A q := fun q h => by rw [← hAe]; exact Or.inr h
  have hS : va_S A s.heap s.heap [] := va_S.rf
  have hl := lv_entry ([.ref rd, .int p1, .int p2]) (n := 5) (Nat.le_of_ble_eq_true rfl)
  rw [lg_entry_eq]
  generalize (lg_sl ([.ref rd, .int p1, .int p2]) ++ List.replicate (5 - (lg_sl ([.ref rd, .int p1, .int p2])).length) Slot.unset).toArray = ls at hl ⊢
  have hl : lv_has ls 5 [(0, .ref rd), (1, .int p1), (2, .int p2)] := hl
  refine lv_aload_n hx hb dX6_readNumber_0 rfl (lv_at hl 0 rfl) ?_
  refine ty_kv (wr := []) (wc := ([(rd, .inr (6, [.ref bt, .int ln, .ref tg, .int pl, .int wst, .int er, .int ep]))] ++ ws)) (va_runV (As := []) (rest := []) ⟨hx, hb, hml, hown, hts⟩ (t_X6_skipSpaces l D ct S ws rd bt tg nb ln pl wst er ep _ hT h_bt h_tg) (cm_V 0 hts kc_X6_skipSpaces ki_RX6 kl_RX6_55 kv_X6_skipSpaces kx_X6_skipSpaces kd_X6_skipSpaces ⟨Nat.le_of_ble_eq_true rfl, Nat.le_of_ble_eq_true rfl⟩) (ty_preE (wr := []) (wc := ([(rd, .inr (6, [.ref bt, .int ln, .ref tg, .int pl, .int wst, .int er, .int ep]))] ++ ws)) (ci := 6) (q0 := 0) hP hK hD hS hA hX rfl rfl) rfl rfl hl.1 rfl (lv_room (Nat.le_of_ble_eq_true rfl)) dX6_readNumber_1 ⟨Nat.le_of_ble_eq_true rfl, Nat.le_of_ble_eq_true rfl⟩) hP hD hS hA (fun u H locs hw_2 hP hD hS => ?_)
  obtain ⟨ws_3, pl1_4⟩ := u
  have hT := hw_2
  have hP : va_P D vwCl ([(rd, .inr (6, [.ref bt, .int ln, .ref tg, .int pl1_4, .int wst, .int er, .int ep]))] ++ ws_3) H := hP
  have hD : va_D A ([(rd, .inr (6, [.ref bt, .int ln, .ref tg, .int pl1_4, .int wst, .int er, .int ep]))] ++ ws_3) := hD
  refine lv_aload_n hx hb dX6_readNumber_4 rfl (lv_at hl 0 rfl) ?_
  refine va_get (v := .int pl1_4) (D := D) (ci := 6) (C := RX6) (T := TX6) (N := 7) hx hb hts in_X6 hown hK hP 0 rfl rfl 3 (by decide) (hts _ kl_RX6_65) (fun _ h9 => h9) rfl dX6_readNumber_5 ?_
  refine lv_istore_n (lv' := [(3, .int pl1_4), (0, .ref rd), (1, .int p1), (2, .int p2)]) hx hb dX6_readNumber_8 rfl hl (by decide) rfl (fun ls hl => ?_)
  refine lv_aload_n hx hb dX6_readNumber_9 rfl (lv_at hl 1 rfl) ?_
  refine va_get (v := .int er) (D := D) (ci := 6) (C := RX6) (T := TX6) (N := 7) hx hb hts in_X6 hown hK hP 0 rfl rfl 5 (by decide) (hts _ kl_RX6_58) (fun _ h9 => h9) rfl dX6_readNumber_10 ?_
  refine lv_if_ne (tgt := 26) hx hb dX6_readNumber_13 (by decide) (fun hc_5 => ?_) (fun hc_5 => ?_)
  · refine lv_aload_n hx hb dX6_readNumber_26 rfl (lv_at hl 1 rfl) ?_
    refine lv_iconst (v := 1) hx hb dX6_readNumber_27 (by decide) ?_
    refine lv_aload_n hx hb dX6_readNumber_28 rfl (lv_at hl 1 rfl) ?_
    refine va_get (v := .int pl1_4) (D := D) (ci := 6) (C := RX6) (T := TX6) (N := 7) hx hb hts in_X6 hown hK hP 0 rfl rfl 3 (by decide) (hts _ kl_RX6_65) (fun _ h9 => h9) rfl dX6_readNumber_29 ?_
    refine ty_kv (wr := []) (wc := ([(rd, .inr (6, [.ref bt, .int ln, .ref tg, .int pl1_4, .int wst, .int er, .int ep]))] ++ ws_3)) (va_runV (As := [.int 1, .int pl1_4]) (rest := []) ⟨hx, hb, hml, hown, hts⟩ (t_X6_fail l D ct S ws_3 rd bt tg nb ln pl1_4 wst er ep (1 : Int32) pl1_4 _ hT h_bt h_tg) (cm_V 2 hts kc_X6_fail ki_RX6 kl_RX6_68 kv_X6_fail kx_X6_fail kd_X6_fail ⟨Nat.le_of_ble_eq_true rfl, Nat.le_of_ble_eq_true rfl⟩) (ty_preE (wr := []) (wc := ([(rd, .inr (6, [.ref bt, .int ln, .ref tg, .int pl1_4, .int wst, .int er, .int ep]))] ++ ws_3)) (ci := 6) (q0 := 0) hP hK hD hS hA hX rfl rfl) rfl rfl hl.1 rfl (lv_room (Nat.le_of_ble_eq_true rfl)) dX6_readNumber_32 ⟨Nat.le_of_ble_eq_true rfl, Nat.le_of_ble_eq_true rfl⟩) hP hD hS hA (fun u H locs hw_7 hP hD hS => ?_)
    obtain ⟨ws_8, er1_9, ep1_10⟩ := u
    have hT := hw_7
    have hP : va_P D vwCl ([(rd, .inr (6, [.ref bt, .int ln, .ref tg, .int pl1_4, .int wst, .int er1_9, .int ep1_10]))] ++ ws_8) H := hP
    have hD : va_D A ([(rd, .inr (6, [.ref bt, .int ln, .ref tg, .int pl1_4, .int wst, .int er1_9, .int ep1_10]))] ++ ws_8) := hD
    refine lv_iload_n hx hb dX6_readNumber_35 rfl (lv_at hl 2 rfl) ?_
    exact W.iret (v := p1) hx hb hr (fun t ht hW => ⟨⟨p1, (ws_8, pl1_4, wst, er1_9, ep1_10), rfl, hT, by rw [ht]; exact hP, by rw [hAe]; exact hD⟩, hS.F ht⟩) hS.2.2 dX6_readNumber_36
  · refine lv_aload_n hx hb dX6_readNumber_16 rfl (lv_at hl 1 rfl) ?_
    refine ty_ki (wr := []) (wc := ([(rd, .inr (6, [.ref bt, .int ln, .ref tg, .int pl1_4, .int wst, .int er, .int ep]))] ++ ws_3)) (va_runV (As := []) (rest := []) ⟨hx, hb, hml, hown, hts⟩ (t_X6_next l D ct S ws_3 rd bt tg nb ln pl1_4 wst er ep _ hT h_bt h_tg) (cm_V 0 hts kc_X6_next ki_RX6 kl_RX6_61 kv_X6_next kx_X6_next kd_X6_next ⟨Nat.le_of_ble_eq_true rfl, Nat.le_of_ble_eq_true rfl⟩) (ty_preE (wr := []) (wc := ([(rd, .inr (6, [.ref bt, .int ln, .ref tg, .int pl1_4, .int wst, .int er, .int ep]))] ++ ws_3)) (ci := 6) (q0 := 0) hP hK hD hS hA hX rfl rfl) rfl rfl hl.1 rfl (lv_room (Nat.le_of_ble_eq_true rfl)) dX6_readNumber_17 ⟨Nat.le_of_ble_eq_true rfl, Nat.le_of_ble_eq_true rfl⟩) hP hD hS hA (fun r_11 u H locs hw_12 hP hD hS => ?_)
    obtain ⟨ws_13, rfl⟩ : ∃ z, z = u := ⟨_, rfl⟩
    have hT := hw_12
    have hP : va_P D vwCl ([(rd, .inr (6, [.ref bt, .int ln, .ref tg, .int pl1_4, .int wst, .int er, .int ep]))] ++ ws_13) H := hP
    have hD : va_D A ([(rd, .inr (6, [.ref bt, .int ln, .ref tg, .int pl1_4, .int wst, .int er, .int ep]))] ++ ws_13) := hD
    refine ty_ki (wr := [(rd, .inr (6, [.ref bt, .int ln, .ref tg, .int pl1_4, .int wst, .int er, .int ep]))]) (wc := ([] ++ ws_13)) (va_runS (As := [.int r_11]) (rest := []) ⟨hx, hb, hml, hown, hts⟩ (t_X6_isDigit l D ct S ws_13 r_11 _ hT) (cm_S 1 hts kc_X6_isDigit ki_RX6 kl_RX6_154 ks_X6_isDigit kd_X6_isDigit ⟨Nat.le_of_ble_eq_true rfl, Nat.le_of_ble_eq_true rfl⟩) (ty_preS (wr := [(rd, .inr (6, [.ref bt, .int ln, .ref tg, .int pl1_4, .int wst, .int er, .int ep]))]) (wc := ([] ++ ws_13)) hP hK hD hS hA hX) rfl rfl hl.1 rfl (lv_room (Nat.le_of_ble_eq_true rfl)) dX6_readNumber_20 ⟨Nat.le_of_ble_eq_true rfl, Nat.le_of_ble_eq_true rfl⟩) hP hD hS hA (fun r_14 u H locs hw_15 hP hD hS => ?_)
    obtain ⟨ws_16, rfl⟩ : ∃ z, z = u := ⟨_, rfl⟩
    have hT := hw_15
    have hP : va_P D vwCl ([(rd, .inr (6, [.ref bt, .int ln, .ref tg, .int pl1_4, .int wst, .int er, .int ep]))] ++ ws_16) H := hP
    have hD : va_D A ([(rd, .inr (6, [.ref bt, .int ln, .ref tg, .int pl1_4, .int wst, .int er, .int ep]))] ++ ws_16) := hD
    refine lv_if_ne (tgt := 37) hx hb dX6_readNumber_23 (by decide) (fun hc_17 => ?_) (fun hc_17 => ?_)
    · refine lv_iconst (v := 0) hx hb dX6_readNumber_37 (by decide) ?_
      refine lv_istore (lv' := [(4, .int 0), (3, .int pl1_4), (0, .ref rd), (1, .int p1), (2, .int p2)]) hx hb dX6_readNumber_38 hl (by decide) rfl (fun ls hl => ?_)
      refine ty_loop (I := fun μ H locs ls => ∃ (ws : va_W) (y_18 : Int32) (y_19 : Int32), μ = (2147483648 - y_19.toInt).toNat ∧ ty_W ct S ws ∧ va_P D vwCl ([(rd, .inr (6, [.ref bt, .int ln, .ref tg, .int y_19, .int wst, .int er, .int ep]))] ++ ws) H ∧ va_D A ([(rd, .inr (6, [.ref bt, .int ln, .ref tg, .int y_19, .int wst, .int er, .int ep]))] ++ ws) ∧ va_S A s.heap H locs ∧ lv_has ls 5 [(4, .int y_18), (3, .int pl1_4), (0, .ref rd), (1, .int p1), (2, .int p2)]) ⟨_, ws_16, (0 : Int32), pl1_4, rfl, hT, hP, hD, hS, (lv_sub hl [0, 1, 2, 3, 4] rfl)⟩ (fun μ H locs ls hI ih_40 => ?_)
      obtain ⟨ws, y_18, y_19, rfl, hT, hP, hD, hS, hl⟩ := hI
      refine lv_aload_n hx hb dX6_readNumber_40 rfl (lv_at hl 2 rfl) ?_
      refine va_get (v := .int y_19) (D := D) (ci := 6) (C := RX6) (T := TX6) (N := 7) hx hb hts in_X6 hown hK hP 0 rfl rfl 3 (by decide) (hts _ kl_RX6_65) (fun _ h9 => h9) rfl dX6_readNumber_41 ?_
      refine lv_aload_n hx hb dX6_readNumber_44 rfl (lv_at hl 2 rfl) ?_
      refine va_get (v := .int ln) (D := D) (ci := 6) (C := RX6) (T := TX6) (N := 7) hx hb hts in_X6 hown hK hP 0 rfl rfl 1 (by decide) (hts _ kl_RX6_15) (fun _ h9 => h9) rfl dX6_readNumber_45 ?_
      refine lv_icmp_ge (tgt := 94) hx hb dX6_readNumber_48 (by decide) (fun hc_20 => ?_) (fun hc_20 => ?_)
      · refine lv_iload hx hb dX6_readNumber_94 (lv_at hl 0 rfl) ?_
        refine lv_iload_n hx hb dX6_readNumber_96 rfl (lv_at hl 3 rfl) ?_
        refine lv_icmp_lt (tgt := 106) hx hb dX6_readNumber_97 (by decide) (fun hc_21 => ?_) (fun hc_21 => ?_)
        · refine lv_aload_n hx hb dX6_readNumber_106 rfl (lv_at hl 2 rfl) ?_
          refine lv_iconst (v := 2) hx hb dX6_readNumber_107 (by decide) ?_
          refine lv_iload_n hx hb dX6_readNumber_108 rfl (lv_at hl 1 rfl) ?_
          refine ty_kv (wr := []) (wc := ([(rd, .inr (6, [.ref bt, .int ln, .ref tg, .int y_19, .int wst, .int er, .int ep]))] ++ ws)) (va_runV (As := [.int 2, .int pl1_4]) (rest := []) ⟨hx, hb, hml, hown, hts⟩ (t_X6_fail l D ct S ws rd bt tg nb ln y_19 wst er ep (2 : Int32) pl1_4 _ hT h_bt h_tg) (cm_V 2 hts kc_X6_fail ki_RX6 kl_RX6_68 kv_X6_fail kx_X6_fail kd_X6_fail ⟨Nat.le_of_ble_eq_true rfl, Nat.le_of_ble_eq_true rfl⟩) (ty_preE (wr := []) (wc := ([(rd, .inr (6, [.ref bt, .int ln, .ref tg, .int y_19, .int wst, .int er, .int ep]))] ++ ws)) (ci := 6) (q0 := 0) hP hK hD hS hA hX rfl rfl) rfl rfl hl.1 rfl (lv_room (Nat.le_of_ble_eq_true rfl)) dX6_readNumber_109 ⟨Nat.le_of_ble_eq_true rfl, Nat.le_of_ble_eq_true rfl⟩) hP hD hS hA (fun u H locs hw_23 hP hD hS => ?_)
          obtain ⟨ws_24, er1_25, ep1_26⟩ := u
          have hT := hw_23
          have hP : va_P D vwCl ([(rd, .inr (6, [.ref bt, .int ln, .ref tg, .int y_19, .int wst, .int er1_25, .int ep1_26]))] ++ ws_24) H := hP
          have hD : va_D A ([(rd, .inr (6, [.ref bt, .int ln, .ref tg, .int y_19, .int wst, .int er1_25, .int ep1_26]))] ++ ws_24) := hD
          refine lv_iload_n hx hb dX6_readNumber_112 rfl (lv_at hl 3 rfl) ?_
          exact W.iret (v := p1) hx hb hr (fun t ht hW => ⟨⟨p1, (ws_24, y_19, wst, er1_25, ep1_26), rfl, hT, by rw [ht]; exact hP, by rw [hAe]; exact hD⟩, hS.F ht⟩) hS.2.2 dX6_readNumber_113
        · refine lv_iload hx hb dX6_readNumber_100 (lv_at hl 0 rfl) ?_
          refine lv_iload_n hx hb dX6_readNumber_102 rfl (lv_at hl 4 rfl) ?_
          refine lv_icmp_le (tgt := 114) hx hb dX6_readNumber_103 (by decide) (fun hc_27 => ?_) (fun hc_27 => ?_)
          · refine lv_iload hx hb dX6_readNumber_114 (lv_at hl 0 rfl) ?_
            exact W.iret (v := y_18) hx hb hr (fun t ht hW => ⟨⟨y_18, (ws, y_19, wst, er, ep), rfl, hT, by rw [ht]; exact hP, by rw [hAe]; exact hD⟩, hS.F ht⟩) hS.2.2 dX6_readNumber_116
          · refine lv_aload_n hx hb dX6_readNumber_106 rfl (lv_at hl 2 rfl) ?_
            refine lv_iconst (v := 2) hx hb dX6_readNumber_107 (by decide) ?_
            refine lv_iload_n hx hb dX6_readNumber_108 rfl (lv_at hl 1 rfl) ?_
            refine ty_kv (wr := []) (wc := ([(rd, .inr (6, [.ref bt, .int ln, .ref tg, .int y_19, .int wst, .int er, .int ep]))] ++ ws)) (va_runV (As := [.int 2, .int pl1_4]) (rest := []) ⟨hx, hb, hml, hown, hts⟩ (t_X6_fail l D ct S ws rd bt tg nb ln y_19 wst er ep (2 : Int32) pl1_4 _ hT h_bt h_tg) (cm_V 2 hts kc_X6_fail ki_RX6 kl_RX6_68 kv_X6_fail kx_X6_fail kd_X6_fail ⟨Nat.le_of_ble_eq_true rfl, Nat.le_of_ble_eq_true rfl⟩) (ty_preE (wr := []) (wc := ([(rd, .inr (6, [.ref bt, .int ln, .ref tg, .int y_19, .int wst, .int er, .int ep]))] ++ ws)) (ci := 6) (q0 := 0) hP hK hD hS hA hX rfl rfl) rfl rfl hl.1 rfl (lv_room (Nat.le_of_ble_eq_true rfl)) dX6_readNumber_109 ⟨Nat.le_of_ble_eq_true rfl, Nat.le_of_ble_eq_true rfl⟩) hP hD hS hA (fun u H locs hw_29 hP hD hS => ?_)
            obtain ⟨ws_30, er1_31, ep1_32⟩ := u
            have hT := hw_29
            have hP : va_P D vwCl ([(rd, .inr (6, [.ref bt, .int ln, .ref tg, .int y_19, .int wst, .int er1_31, .int ep1_32]))] ++ ws_30) H := hP
            have hD : va_D A ([(rd, .inr (6, [.ref bt, .int ln, .ref tg, .int y_19, .int wst, .int er1_31, .int ep1_32]))] ++ ws_30) := hD
            refine lv_iload_n hx hb dX6_readNumber_112 rfl (lv_at hl 3 rfl) ?_
            exact W.iret (v := p1) hx hb hr (fun t ht hW => ⟨⟨p1, (ws_30, y_19, wst, er1_31, ep1_32), rfl, hT, by rw [ht]; exact hP, by rw [hAe]; exact hD⟩, hS.F ht⟩) hS.2.2 dX6_readNumber_113
      · refine lv_aload_n hx hb dX6_readNumber_51 rfl (lv_at hl 2 rfl) ?_
        refine ty_ki (wr := []) (wc := ([(rd, .inr (6, [.ref bt, .int ln, .ref tg, .int y_19, .int wst, .int er, .int ep]))] ++ ws)) (va_runV (As := []) (rest := []) ⟨hx, hb, hml, hown, hts⟩ (t_X6_next l D ct S ws rd bt tg nb ln y_19 wst er ep _ hT h_bt h_tg) (cm_V 0 hts kc_X6_next ki_RX6 kl_RX6_61 kv_X6_next kx_X6_next kd_X6_next ⟨Nat.le_of_ble_eq_true rfl, Nat.le_of_ble_eq_true rfl⟩) (ty_preE (wr := []) (wc := ([(rd, .inr (6, [.ref bt, .int ln, .ref tg, .int y_19, .int wst, .int er, .int ep]))] ++ ws)) (ci := 6) (q0 := 0) hP hK hD hS hA hX rfl rfl) rfl rfl hl.1 rfl (lv_room (Nat.le_of_ble_eq_true rfl)) dX6_readNumber_52 ⟨Nat.le_of_ble_eq_true rfl, Nat.le_of_ble_eq_true rfl⟩) hP hD hS hA (fun r_33 u H locs hw_34 hP hD hS => ?_)
        obtain ⟨ws_35, rfl⟩ : ∃ z, z = u := ⟨_, rfl⟩
        have hT := hw_34
        have hP : va_P D vwCl ([(rd, .inr (6, [.ref bt, .int ln, .ref tg, .int y_19, .int wst, .int er, .int ep]))] ++ ws_35) H := hP
        have hD : va_D A ([(rd, .inr (6, [.ref bt, .int ln, .ref tg, .int y_19, .int wst, .int er, .int ep]))] ++ ws_35) := hD
        refine ty_ki (wr := [(rd, .inr (6, [.ref bt, .int ln, .ref tg, .int y_19, .int wst, .int er, .int ep]))]) (wc := ([] ++ ws_35)) (va_runS (As := [.int r_33]) (rest := []) ⟨hx, hb, hml, hown, hts⟩ (t_X6_isDigit l D ct S ws_35 r_33 _ hT) (cm_S 1 hts kc_X6_isDigit ki_RX6 kl_RX6_154 ks_X6_isDigit kd_X6_isDigit ⟨Nat.le_of_ble_eq_true rfl, Nat.le_of_ble_eq_true rfl⟩) (ty_preS (wr := [(rd, .inr (6, [.ref bt, .int ln, .ref tg, .int y_19, .int wst, .int er, .int ep]))]) (wc := ([] ++ ws_35)) hP hK hD hS hA hX) rfl rfl hl.1 rfl (lv_room (Nat.le_of_ble_eq_true rfl)) dX6_readNumber_55 ⟨Nat.le_of_ble_eq_true rfl, Nat.le_of_ble_eq_true rfl⟩) hP hD hS hA (fun r_36 u H locs hw_37 hP hD hS => ?_)
        obtain ⟨ws_38, rfl⟩ : ∃ z, z = u := ⟨_, rfl⟩
        have hT := hw_37
        have hP : va_P D vwCl ([(rd, .inr (6, [.ref bt, .int ln, .ref tg, .int y_19, .int wst, .int er, .int ep]))] ++ ws_38) H := hP
        have hD : va_D A ([(rd, .inr (6, [.ref bt, .int ln, .ref tg, .int y_19, .int wst, .int er, .int ep]))] ++ ws_38) := hD
        refine lv_if_eq (tgt := 94) hx hb dX6_readNumber_58 (by decide) (fun hc_39 => ?_) (fun hc_39 => ?_)
        · refine lv_iload hx hb dX6_readNumber_94 (lv_at hl 0 rfl) ?_
          refine lv_iload_n hx hb dX6_readNumber_96 rfl (lv_at hl 3 rfl) ?_
          refine lv_icmp_lt (tgt := 106) hx hb dX6_readNumber_97 (by decide) (fun hc_40 => ?_) (fun hc_40 => ?_)
          · refine lv_aload_n hx hb dX6_readNumber_106 rfl (lv_at hl 2 rfl) ?_
            refine lv_iconst (v := 2) hx hb dX6_readNumber_107 (by decide) ?_
            refine lv_iload_n hx hb dX6_readNumber_108 rfl (lv_at hl 1 rfl) ?_
            refine ty_kv (wr := []) (wc := ([(rd, .inr (6, [.ref bt, .int ln, .ref tg, .int y_19, .int wst, .int er, .int ep]))] ++ ws_38)) (va_runV (As := [.int 2, .int pl1_4]) (rest := []) ⟨hx, hb, hml, hown, hts⟩ (t_X6_fail l D ct S ws_38 rd bt tg nb ln y_19 wst er ep (2 : Int32) pl1_4 _ hT h_bt h_tg) (cm_V 2 hts kc_X6_fail ki_RX6 kl_RX6_68 kv_X6_fail kx_X6_fail kd_X6_fail ⟨Nat.le_of_ble_eq_true rfl, Nat.le_of_ble_eq_true rfl⟩) (ty_preE (wr := []) (wc := ([(rd, .inr (6, [.ref bt, .int ln, .ref tg, .int y_19, .int wst, .int er, .int ep]))] ++ ws_38)) (ci := 6) (q0 := 0) hP hK hD hS hA hX rfl rfl) rfl rfl hl.1 rfl (lv_room (Nat.le_of_ble_eq_true rfl)) dX6_readNumber_109 ⟨Nat.le_of_ble_eq_true rfl, Nat.le_of_ble_eq_true rfl⟩) hP hD hS hA (fun u H locs hw_42 hP hD hS => ?_)
            obtain ⟨ws_43, er1_44, ep1_45⟩ := u
            have hT := hw_42
            have hP : va_P D vwCl ([(rd, .inr (6, [.ref bt, .int ln, .ref tg, .int y_19, .int wst, .int er1_44, .int ep1_45]))] ++ ws_43) H := hP
            have hD : va_D A ([(rd, .inr (6, [.ref bt, .int ln, .ref tg, .int y_19, .int wst, .int er1_44, .int ep1_45]))] ++ ws_43) := hD
            refine lv_iload_n hx hb dX6_readNumber_112 rfl (lv_at hl 3 rfl) ?_
            exact W.iret (v := p1) hx hb hr (fun t ht hW => ⟨⟨p1, (ws_43, y_19, wst, er1_44, ep1_45), rfl, hT, by rw [ht]; exact hP, by rw [hAe]; exact hD⟩, hS.F ht⟩) hS.2.2 dX6_readNumber_113
          · refine lv_iload hx hb dX6_readNumber_100 (lv_at hl 0 rfl) ?_
            refine lv_iload_n hx hb dX6_readNumber_102 rfl (lv_at hl 4 rfl) ?_
            refine lv_icmp_le (tgt := 114) hx hb dX6_readNumber_103 (by decide) (fun hc_46 => ?_) (fun hc_46 => ?_)
            · refine lv_iload hx hb dX6_readNumber_114 (lv_at hl 0 rfl) ?_
              exact W.iret (v := y_18) hx hb hr (fun t ht hW => ⟨⟨y_18, (ws_38, y_19, wst, er, ep), rfl, hT, by rw [ht]; exact hP, by rw [hAe]; exact hD⟩, hS.F ht⟩) hS.2.2 dX6_readNumber_116
            · refine lv_aload_n hx hb dX6_readNumber_106 rfl (lv_at hl 2 rfl) ?_
              refine lv_iconst (v := 2) hx hb dX6_readNumber_107 (by decide) ?_
              refine lv_iload_n hx hb dX6_readNumber_108 rfl (lv_at hl 1 rfl) ?_
              refine ty_kv (wr := []) (wc := ([(rd, .inr (6, [.ref bt, .int ln, .ref tg, .int y_19, .int wst, .int er, .int ep]))] ++ ws_38)) (va_runV (As := [.int 2, .int pl1_4]) (rest := []) ⟨hx, hb, hml, hown, hts⟩ (t_X6_fail l D ct S ws_38 rd bt tg nb ln y_19 wst er ep (2 : Int32) pl1_4 _ hT h_bt h_tg) (cm_V 2 hts kc_X6_fail ki_RX6 kl_RX6_68 kv_X6_fail kx_X6_fail kd_X6_fail ⟨Nat.le_of_ble_eq_true rfl, Nat.le_of_ble_eq_true rfl⟩) (ty_preE (wr := []) (wc := ([(rd, .inr (6, [.ref bt, .int ln, .ref tg, .int y_19, .int wst, .int er, .int ep]))] ++ ws_38)) (ci := 6) (q0 := 0) hP hK hD hS hA hX rfl rfl) rfl rfl hl.1 rfl (lv_room (Nat.le_of_ble_eq_true rfl)) dX6_readNumber_109 ⟨Nat.le_of_ble_eq_true rfl, Nat.le_of_ble_eq_true rfl⟩) hP hD hS hA (fun u H locs hw_48 hP hD hS => ?_)
              obtain ⟨ws_49, er1_50, ep1_51⟩ := u
              have hT := hw_48
              have hP : va_P D vwCl ([(rd, .inr (6, [.ref bt, .int ln, .ref tg, .int y_19, .int wst, .int er1_50, .int ep1_51]))] ++ ws_49) H := hP
              have hD : va_D A ([(rd, .inr (6, [.ref bt, .int ln, .ref tg, .int y_19, .int wst, .int er1_50, .int ep1_51]))] ++ ws_49) := hD
              refine lv_iload_n hx hb dX6_readNumber_112 rfl (lv_at hl 3 rfl) ?_
              exact W.iret (v := p1) hx hb hr (fun t ht hW => ⟨⟨p1, (ws_49, y_19, wst, er1_50, ep1_51), rfl, hT, by rw [ht]; exact hP, by rw [hAe]; exact hD⟩, hS.F ht⟩) hS.2.2 dX6_readNumber_113
        · refine lv_iload hx hb dX6_readNumber_61 (lv_at hl 0 rfl) ?_
          refine lv_bipush (v := 10) hx hb dX6_readNumber_63 (by decide) ?_
          refine lv_imul hx hb dX6_readNumber_65 ?_
          refine lv_topi (fun x_52 _ => ?_)
          refine lv_aload_n hx hb dX6_readNumber_66 rfl (lv_at hl 2 rfl) ?_
          refine ty_ki (wr := []) (wc := ([(rd, .inr (6, [.ref bt, .int ln, .ref tg, .int y_19, .int wst, .int er, .int ep]))] ++ ws_38)) (va_runV (As := []) (rest := [.int x_52]) ⟨hx, hb, hml, hown, hts⟩ (t_X6_next l D ct S ws_38 rd bt tg nb ln y_19 wst er ep _ hT h_bt h_tg) (cm_V 0 hts kc_X6_next ki_RX6 kl_RX6_61 kv_X6_next kx_X6_next kd_X6_next ⟨Nat.le_of_ble_eq_true rfl, Nat.le_of_ble_eq_true rfl⟩) (ty_preE (wr := []) (wc := ([(rd, .inr (6, [.ref bt, .int ln, .ref tg, .int y_19, .int wst, .int er, .int ep]))] ++ ws_38)) (ci := 6) (q0 := 0) hP hK hD hS hA hX rfl rfl) rfl rfl hl.1 rfl (lv_room (Nat.le_of_ble_eq_true rfl)) dX6_readNumber_67 ⟨Nat.le_of_ble_eq_true rfl, Nat.le_of_ble_eq_true rfl⟩) hP hD hS hA (fun r_53 u H locs hw_54 hP hD hS => ?_)
          obtain ⟨ws_55, rfl⟩ : ∃ z, z = u := ⟨_, rfl⟩
          have hT := hw_54
          have hP : va_P D vwCl ([(rd, .inr (6, [.ref bt, .int ln, .ref tg, .int y_19, .int wst, .int er, .int ep]))] ++ ws_55) H := hP
          have hD : va_D A ([(rd, .inr (6, [.ref bt, .int ln, .ref tg, .int y_19, .int wst, .int er, .int ep]))] ++ ws_55) := hD
          refine lv_iadd hx hb dX6_readNumber_70 ?_
          refine lv_topi (fun x_56 _ => ?_)
          refine lv_bipush (v := 48) hx hb dX6_readNumber_71 (by decide) ?_
          refine lv_isub hx hb dX6_readNumber_73 ?_
          refine lv_topi (fun x_57 _ => ?_)
          refine lv_ldc hx hb hown (hts _ kl_RX6_235) dX6_readNumber_74 ?_
          refine va_mmin hx hb (hml.trans hl.1.symm) hown (hts _ kl_RX6_91) (hts _ jm_min_s) (hts _ ki_RJ9) (hts _ jm_min_c) (Nat.le_of_ble_eq_true rfl) (Nat.le_of_ble_eq_true rfl) (Nat.le_of_ble_eq_true rfl) (Nat.le_of_ble_eq_true rfl) dX6_readNumber_76 ?_
          refine lv_topi (fun x_58 _ => ?_)
          refine lv_istore (lv' := [(4, .int x_58), (3, .int pl1_4), (0, .ref rd), (1, .int p1), (2, .int p2)]) hx hb dX6_readNumber_79 hl (by decide) rfl (fun ls hl => ?_)
          refine lv_aload_n hx hb dX6_readNumber_81 rfl (lv_at hl 2 rfl) ?_
          refine lv_dup hx hb dX6_readNumber_82 rfl ?_
          refine va_get (v := .int y_19) (D := D) (ci := 6) (C := RX6) (T := TX6) (N := 7) hx hb hts in_X6 hown hK hP 0 rfl rfl 3 (by decide) (hts _ kl_RX6_65) (fun _ h9 => h9) rfl dX6_readNumber_83 ?_
          refine lv_iconst (v := 1) hx hb dX6_readNumber_86 (by decide) ?_
          refine lv_iadd hx hb dX6_readNumber_87 ?_
          refine va_put (v := .int (y_19 + 1)) (ty := .int) (D := D) (ci := 6) (C := RX6) (T := TX6) (N := 7) hx hb hts in_X6 tyX6 tyX6_ok nmX6 hown hK hP hD hS 0 rfl rfl 3 (by decide) (hts _ kl_RX6_65) (fun _ h9 => h9) rfl (by decide +kernel) rfl rfl (Nat.le_of_ble_eq_true rfl) dX6_readNumber_88 (fun H locs hP hD hS => ?_)
          have hP : va_P D vwCl ([(rd, .inr (6, [.ref bt, .int ln, .ref tg, .int (y_19 + 1), .int wst, .int er, .int ep]))] ++ ws_55) H := hP
          have hD : va_D A ([(rd, .inr (6, [.ref bt, .int ln, .ref tg, .int (y_19 + 1), .int wst, .int er, .int ep]))] ++ ws_55) := hD
          refine lv_goto (tgt := 40) hx hb dX6_readNumber_91 (by decide) ?_
          exact ih_40 _ _ _ _ (ty_inc1 (cm_lt hc_20)) ⟨ws_55, x_58, (y_19 + 1), rfl, hT, hP, hD, hS, (lv_sub hl [0, 1, 2, 3, 4] rfl)⟩
    · refine lv_aload_n hx hb dX6_readNumber_26 rfl (lv_at hl 1 rfl) ?_
      refine lv_iconst (v := 1) hx hb dX6_readNumber_27 (by decide) ?_
      refine lv_aload_n hx hb dX6_readNumber_28 rfl (lv_at hl 1 rfl) ?_
      refine va_get (v := .int pl1_4) (D := D) (ci := 6) (C := RX6) (T := TX6) (N := 7) hx hb hts in_X6 hown hK hP 0 rfl rfl 3 (by decide) (hts _ kl_RX6_65) (fun _ h9 => h9) rfl dX6_readNumber_29 ?_
      refine ty_kv (wr := []) (wc := ([(rd, .inr (6, [.ref bt, .int ln, .ref tg, .int pl1_4, .int wst, .int er, .int ep]))] ++ ws_16)) (va_runV (As := [.int 1, .int pl1_4]) (rest := []) ⟨hx, hb, hml, hown, hts⟩ (t_X6_fail l D ct S ws_16 rd bt tg nb ln pl1_4 wst er ep (1 : Int32) pl1_4 _ hT h_bt h_tg) (cm_V 2 hts kc_X6_fail ki_RX6 kl_RX6_68 kv_X6_fail kx_X6_fail kd_X6_fail ⟨Nat.le_of_ble_eq_true rfl, Nat.le_of_ble_eq_true rfl⟩) (ty_preE (wr := []) (wc := ([(rd, .inr (6, [.ref bt, .int ln, .ref tg, .int pl1_4, .int wst, .int er, .int ep]))] ++ ws_16)) (ci := 6) (q0 := 0) hP hK hD hS hA hX rfl rfl) rfl rfl hl.1 rfl (lv_room (Nat.le_of_ble_eq_true rfl)) dX6_readNumber_32 ⟨Nat.le_of_ble_eq_true rfl, Nat.le_of_ble_eq_true rfl⟩) hP hD hS hA (fun u H locs hw_60 hP hD hS => ?_)
      obtain ⟨ws_61, er1_62, ep1_63⟩ := u
      have hT := hw_60
      have hP : va_P D vwCl ([(rd, .inr (6, [.ref bt, .int ln, .ref tg, .int pl1_4, .int wst, .int er1_62, .int ep1_63]))] ++ ws_61) H := hP
      have hD : va_D A ([(rd, .inr (6, [.ref bt, .int ln, .ref tg, .int pl1_4, .int wst, .int er1_62, .int ep1_63]))] ++ ws_61) := hD
      refine lv_iload_n hx hb dX6_readNumber_35 rfl (lv_at hl 2 rfl) ?_
      exact W.iret (v := p1) hx hb hr (fun t ht hW => ⟨⟨p1, (ws_61, pl1_4, wst, er1_62, ep1_63), rfl, hT, by rw [ht]; exact hP, by rw [hAe]; exact hD⟩, hS.F ht⟩) hS.2.2 dX6_readNumber_36
theorem dJ0_coder_7d493_0 : decode cJ0_coder_7d493 0 = .ok (.getstatic 38, 3) := by decide +kernel
theorem dJ0_coder_7d493_3 : decode cJ0_coder_7d493 3 = .ok (.ifCond .eq 10, 3) := by decide +kernel
theorem dJ0_coder_7d493_6 : decode cJ0_coder_7d493 6 = .ok (.aload_n 0, 1) := by decide +kernel
theorem dJ0_coder_7d493_7 : decode cJ0_coder_7d493 7 = .ok (.getfield 15, 3) := by decide +kernel
theorem dJ0_coder_7d493_10 : decode cJ0_coder_7d493 10 = .ok (.goto 4, 3) := by decide +kernel
theorem dJ0_coder_7d493_14 : decode cJ0_coder_7d493 14 = .ok (.ireturn, 1) := by decide +kernel
set_option maxRecDepth 100000 in
set_option maxHeartbeats 4000000 in
theorem t_coder (l : Launch) (D : va_G) (ct : Nat → ClassId) (S : ty_S) (ws : va_W) (a : Nat) (q9 : cm_sq) (sz : Nat) (hT : ty_W ct S ws) (hq9 : q9 ∈ cm_strs) : Met l yJ0_coder_7d493 (ws_ yJ0_coder_7d493 cJ0_coder_7d493 1 (some .byte)) ({ frames := 0, cells := 0, slots := 0, locals := 0 } : Room) (va_Pc [.ref a] (cmPs D ct sz ([] ++ ws) q9 a)) (va_Qi (fun (r : Int32) (u9 : va_W) => ty_W ct S u9 ∧ r = 0) (cmB D ([] ++ ws) sz (fun (u9 : va_W) => ([] ++ u9))) (va_A ([] ++ ws) sz)) 0 0 (va_A ([] ++ ws) sz) := by
  refine Met.ofW (cc := cJ0_coder_7d493) (maxL := 1) (ret := (some .byte)) (by decide) rfl ?_
  intro p e s m args below meth c s₁ B hml hv
  obtain ⟨rfl, ⟨hsz, hP, hK, hD0, hX⟩, hR9⟩ := hv
  have hx := B.exec
  have hb := B.bytes
  have hr := B.returns
  have hts := ws_all (atoms_spec (ws := ws_ yJ0_coder_7d493 cJ0_coder_7d493 1 (some .byte)) B.pre)
  have hown : s.vm.findClass RJ0 = some m.cls := findClass_of_methodNamed B.named
  have hlocks := B.notSynchronized
  subst hsz
  have hD := hD0.self (sz := s.heap.size)
  generalize hAe : va_A ([] ++ ws) s.heap.size = A at hD hX ⊢
  have hA : ∀ q : Nat, s.heap.size ≤ q → A q := fun q h => by rw [← hAe]; exact Or.inr h
  have hS : va_S A s.heap s.heap [] := va_S.rf
  obtain ⟨a9, v9, hr9, hs9⟩ := hX.2.2.2.1 q9 hq9
  have e9 : a9 = a := cm_sinj hr9 hR9
  rw [e9] at hs9
  have hl := lv_entry ([.ref a]) (n := 1) (Nat.le_of_ble_eq_true rfl)
  rw [lg_entry_eq]
  generalize (lg_sl ([.ref a]) ++ List.replicate (1 - (lg_sl ([.ref a])).length) Slot.unset).toArray = ls at hl ⊢
  have hl : lv_has ls 1 [(0, .ref a)] := hl
  refine va_gets hx hb hX.2.2.1 hS hown (hts _ kl_RJ0_38) (fun _ h9 => h9) dJ0_coder_7d493_0 ?_
  refine lv_if_eq (tgt := 13) hx hb dJ0_coder_7d493_3 (by decide) (fun hc => absurd hc (by decide)) (fun _ => ?_)
  refine lv_aload_n hx hb dJ0_coder_7d493_6 rfl (lv_at hl 0 rfl) ?_
  refine vk_getf hx hb (hs9.1 0 Nat.zero_lt_one).2.1 hS hown (hts _ kl_RJ0_15) (fun _ h9 => h9) dJ0_coder_7d493_7 ?_
  refine lv_goto (tgt := 14) hx hb dJ0_coder_7d493_10 (by decide) ?_
  exact W.zret (v := 0) hx hb hr (by decide) (fun t ht hW => ⟨⟨0, ws, rfl, ⟨hT, rfl⟩, by rw [ht]; exact hP, by rw [hAe]; exact hD⟩, hS.F ht⟩) hS.2.2 dJ0_coder_7d493_14
theorem dJ0_length_8abf5_0 : decode cJ0_length_8abf5 0 = .ok (.aload_n 0, 1) := by decide +kernel
theorem dJ0_length_8abf5_1 : decode cJ0_length_8abf5 1 = .ok (.getfield 9, 3) := by decide +kernel
theorem dJ0_length_8abf5_4 : decode cJ0_length_8abf5 4 = .ok (.arraylength, 1) := by decide +kernel
theorem dJ0_length_8abf5_5 : decode cJ0_length_8abf5 5 = .ok (.aload_n 0, 1) := by decide +kernel
theorem dJ0_length_8abf5_6 : decode cJ0_length_8abf5 6 = .ok (.invokevirtual 335, 3) := by decide +kernel
theorem dJ0_length_8abf5_9 : decode cJ0_length_8abf5 9 = .ok (.ishr, 1) := by decide +kernel
theorem dJ0_length_8abf5_10 : decode cJ0_length_8abf5 10 = .ok (.ireturn, 1) := by decide +kernel
set_option maxRecDepth 100000 in
set_option maxHeartbeats 4000000 in
theorem t_strlen (l : Launch) (D : va_G) (ct : Nat → ClassId) (S : ty_S) (ws : va_W) (a : Nat) (q9 : cm_sq) (sz : Nat) (hT : ty_W ct S ws) (hq9 : q9 ∈ cm_strs) : Met l yJ0_length_8abf5 (ws_ yJ0_length_8abf5 cJ0_length_8abf5 1 (some .int)) ({ frames := 1, cells := 0, slots := 0, locals := 20 } : Room) (va_Pc [.ref a] (cmPs D ct sz ([] ++ ws) q9 a)) (va_Qi (fun (r : Int32) (u9 : va_W) => ty_W ct S u9 ∧ r = (Int32.ofNat q9.2.2.2.length)) (cmB D ([] ++ ws) sz (fun (u9 : va_W) => ([] ++ u9))) (va_A ([] ++ ws) sz)) 0 0 (va_A ([] ++ ws) sz) := by
  refine Met.ofW (cc := cJ0_length_8abf5) (maxL := 1) (ret := (some .int)) (by decide) rfl ?_
  intro p e s m args below meth c s₁ B hml hv
  obtain ⟨rfl, ⟨hsz, hP, hK, hD0, hX⟩, hR9⟩ := hv
  have hx := B.exec
  have hb := B.bytes
  have hr := B.returns
  have hts := ws_all (atoms_spec (ws := ws_ yJ0_length_8abf5 cJ0_length_8abf5 1 (some .int)) B.pre)
  have hown : s.vm.findClass RJ0 = some m.cls := findClass_of_methodNamed B.named
  have hlocks := B.notSynchronized
  subst hsz
  have hD := hD0.self (sz := s.heap.size)
  generalize hAe : va_A ([] ++ ws) s.heap.size = A at hD hX ⊢
  have hA : ∀ q : Nat, s.heap.size ≤ q → A q := fun q h => by rw [← hAe]; exact Or.inr h
  have hS : va_S A s.heap s.heap [] := va_S.rf
  obtain ⟨a9, v9, hr9, hs9⟩ := hX.2.2.2.1 q9 hq9
  have e9 : a9 = a := cm_sinj hr9 hR9
  rw [e9] at hs9
  have hl := lv_entry ([.ref a]) (n := 1) (Nat.le_of_ble_eq_true rfl)
  rw [lg_entry_eq]
  generalize (lg_sl ([.ref a]) ++ List.replicate (1 - (lg_sl ([.ref a])).length) Slot.unset).toArray = ls at hl ⊢
  have hl : lv_has ls 1 [(0, .ref a)] := hl
  refine lv_aload_n hx hb dJ0_length_8abf5_0 rfl (lv_at hl 0 rfl) ?_
  refine vk_getf hx hb (hs9.1 0 Nat.zero_lt_one).2.2.1 hS hown (hts _ kl_RJ0_9) (fun _ h9 => h9) dJ0_length_8abf5_1 ?_
  refine va_tlen hx hb (hs9.1 0 Nat.zero_lt_one).2.2.2 hS (v := Int32.ofNat q9.2.2.2.length) rfl dJ0_length_8abf5_4 ?_
  refine lv_aload_n hx hb dJ0_length_8abf5_5 rfl (lv_at hl 0 rfl) ?_
  refine ty_ki (wr := []) (wc := ([] ++ ws)) (va_runV (As := []) (rest := [.int (Int32.ofNat q9.2.2.2.length)]) ⟨hx, hb, hml, hown, hts⟩ (t_coder l D ct S ws a q9 _ hT hq9) (cm_V 0 hts kc_J0_coder_7d493 ki_RJ0 kl_RJ0_335 kv_J0_coder_7d493 kx_J0_coder_7d493 kd_J0_coder_7d493 ⟨Nat.le_of_ble_eq_true rfl, Nat.le_of_ble_eq_true rfl⟩) (cm_preVt (ty_preS (wr := []) (wc := ([] ++ ws)) (As := [.ref a]) hP hK hD hS hA hX) (vk_recv hs9 (Nat.zero_lt_one) hS) hR9) rfl rfl hl.1 rfl (lv_room (Nat.le_of_ble_eq_true rfl)) dJ0_length_8abf5_6 ⟨Nat.le_of_ble_eq_true rfl, Nat.le_of_ble_eq_true rfl⟩) hP hD hS hA (fun r_1 u H locs hw_2 hP hD hS => ?_)
  obtain ⟨ws_3, rfl⟩ : ∃ z, z = u := ⟨_, rfl⟩
  obtain ⟨hT, rfl⟩ := hw_2
  have hP : va_P D vwCl ([] ++ ws_3) H := hP
  have hD : va_D A ([] ++ ws_3) := hD
  refine lv_ishr hx hb dJ0_length_8abf5_9 ?_
  refine cm_cst (y := Int32.ofNat q9.2.2.2.length) (cm_shr0 _) ?_
  exact W.iret (v := (Int32.ofNat q9.2.2.2.length)) hx hb hr (fun t ht hW => ⟨⟨(Int32.ofNat q9.2.2.2.length), ws_3, rfl, ⟨hT, rfl⟩, by rw [ht]; exact hP, by rw [hAe]; exact hD⟩, hS.F ht⟩) hS.2.2 dJ0_length_8abf5_10
/-! the letters of a String constant -/
def cmPt (D : va_G) (ct : Nat → ClassId) (sz : Nat) (W0 : va_W) (q : cm_sq) (v : Nat) (U : State) : Prop := cmP D ct sz W0 U ∧ ∃ a : Nat, vk_R q.1 q.2.1 q.2.2.1 a U ∧ va_OF "java/lang/String" "value" "[B" (.ref v) a (va_A W0 sz) U U.heap
theorem cm_blindt {D : va_G} {ct : Nat → ClassId} {sz : Nat} {W0 : va_W} {av : List Value} {q : cm_sq} {v : Nat} : FrameBlind (va_Pc av (cmPt D ct sz W0 q v)) := by
  intro b U g mk h
  obtain ⟨h0, h1, a, h2, h3⟩ := h
  exact ⟨h0, (cm_blind (ct := ct) b U g mk ⟨h0, h1⟩).2, a, vk_R.same (u := U) (U := U.calling g mk b) rfl h2, va_OF.moved (u := U) (U := U.calling g mk b) (Vm.Alike.refl U.vm) h3⟩
theorem cm_preSt {s : State} {H : Heap} {locs : List Loc} {D : va_G} {ct : Nat → ClassId} {A : Nat → Prop} {wc : va_W} {As : List Value} {q : cm_sq} {a v : Nat} (h : PreS s H (va_Pc As (cmP D ct H.size wc)) As) (hR : vk_R q.1 q.2.1 q.2.2.1 a s) (hO : va_OF "java/lang/String" "value" "[B" (.ref v) a A s s.heap) (hS : va_S A s.heap H locs) (hF : ∀ q, va_A wc H.size q → A q) : PreS s H (va_Pc As (cmPt D ct H.size wc q v)) As :=
  ⟨cm_blindt, fun U hU hW => ⟨(h.2 U hU hW).1, (h.2 U hU hW).2, a, vk_R.warm hW hR, by rw [hU]; exact (va_OF.kept (va_OF.moved hW.alike hO) hS.2.1).narrow hF⟩⟩
theorem cm_ofinj {o n d : String} {v v' a : Nat} {A : Nat → Prop} {U : State} {H : Heap} (h1 : va_OF o n d (.ref v) a A U H) (h2 : va_OF o n d (.ref v') a A U H) : v = v' := by
  obtain ⟨cf, k, i, f, cell, g1, g2, g3, g4, g5, g6⟩ := h1
  obtain ⟨cf2, k2, i2, f2, cell2, e1, e2, e3, e4, e5, e6⟩ := h2
  have q1 := Option.some.inj (g1.symm.trans e1)
  cases q1
  have q2 := Option.some.inj (g3.symm.trans e3)
  cases q2
  have q3 := Option.some.inj (g5.symm.trans e5)
  cases q3
  rfl
theorem ty_nc (u : UInt32) : narrow .char (.int (u % 65536).toInt32) = .int (u % 65536).toInt32 := by
  have h : narrow .char (.int (u % 65536).toInt32) = .int ((u % 65536).toUInt16.toUInt32.toInt32) := rfl
  rw [h]
  have e : (u % 65536).toUInt16.toUInt32 = u % 65536 := by
    apply UInt32.toNat_inj.mp
    simp [UInt32.toNat_mod]
  rw [e]
theorem dJ0_isLatin1_aae02_0 : decode cJ0_isLatin1_aae02 0 = .ok (.getstatic 38, 3) := by decide +kernel
theorem dJ0_isLatin1_aae02_3 : decode cJ0_isLatin1_aae02 3 = .ok (.ifCond .eq 14, 3) := by decide +kernel
theorem dJ0_isLatin1_aae02_6 : decode cJ0_isLatin1_aae02 6 = .ok (.aload_n 0, 1) := by decide +kernel
theorem dJ0_isLatin1_aae02_7 : decode cJ0_isLatin1_aae02 7 = .ok (.getfield 15, 3) := by decide +kernel
theorem dJ0_isLatin1_aae02_10 : decode cJ0_isLatin1_aae02 10 = .ok (.ifCond .ne 7, 3) := by decide +kernel
theorem dJ0_isLatin1_aae02_13 : decode cJ0_isLatin1_aae02 13 = .ok (.iconst 1, 1) := by decide +kernel
theorem dJ0_isLatin1_aae02_14 : decode cJ0_isLatin1_aae02 14 = .ok (.goto 4, 3) := by decide +kernel
theorem dJ0_isLatin1_aae02_18 : decode cJ0_isLatin1_aae02 18 = .ok (.ireturn, 1) := by decide +kernel
set_option maxRecDepth 100000 in
set_option maxHeartbeats 4000000 in
theorem t_isLatin1 (l : Launch) (D : va_G) (ct : Nat → ClassId) (S : ty_S) (ws : va_W) (a : Nat) (q9 : cm_sq) (sz : Nat) (hT : ty_W ct S ws) (hq9 : q9 ∈ cm_strs) : Met l yJ0_isLatin1_aae02 (ws_ yJ0_isLatin1_aae02 cJ0_isLatin1_aae02 1 (some .boolean)) ({ frames := 0, cells := 0, slots := 0, locals := 0 } : Room) (va_Pc [.ref a] (cmPs D ct sz ([] ++ ws) q9 a)) (va_Qi (fun (r : Int32) (u9 : va_W) => ty_W ct S u9 ∧ r = 1) (cmB D ([] ++ ws) sz (fun (u9 : va_W) => ([] ++ u9))) (va_A ([] ++ ws) sz)) 0 0 (va_A ([] ++ ws) sz) := by
  refine Met.ofW (cc := cJ0_isLatin1_aae02) (maxL := 1) (ret := (some .boolean)) (by decide) rfl ?_
  intro p e s m args below meth c s₁ B hml hv
  obtain ⟨rfl, ⟨hsz, hP, hK, hD0, hX⟩, hR9⟩ := hv
  have hx := B.exec
  have hb := B.bytes
  have hr := B.returns
  have hts := ws_all (atoms_spec (ws := ws_ yJ0_isLatin1_aae02 cJ0_isLatin1_aae02 1 (some .boolean)) B.pre)
  have hown : s.vm.findClass RJ0 = some m.cls := findClass_of_methodNamed B.named
  have hlocks := B.notSynchronized
  subst hsz
  have hD := hD0.self (sz := s.heap.size)
  generalize hAe : va_A ([] ++ ws) s.heap.size = A at hD hX ⊢
  have hA : ∀ q : Nat, s.heap.size ≤ q → A q := fun q h => by rw [← hAe]; exact Or.inr h
  have hS : va_S A s.heap s.heap [] := va_S.rf
  obtain ⟨a9, v9, hr9, hs9⟩ := hX.2.2.2.1 q9 hq9
  have e9 : a9 = a := cm_sinj hr9 hR9
  rw [e9] at hs9
  have hl := lv_entry ([.ref a]) (n := 1) (Nat.le_of_ble_eq_true rfl)
  rw [lg_entry_eq]
  generalize (lg_sl ([.ref a]) ++ List.replicate (1 - (lg_sl ([.ref a])).length) Slot.unset).toArray = ls at hl ⊢
  have hl : lv_has ls 1 [(0, .ref a)] := hl
  refine va_gets hx hb hX.2.2.1 hS hown (hts _ kl_RJ0_38) (fun _ h9 => h9) dJ0_isLatin1_aae02_0 ?_
  refine lv_if_eq (tgt := 17) hx hb dJ0_isLatin1_aae02_3 (by decide) (fun hc => absurd hc (by decide)) (fun _ => ?_)
  refine lv_aload_n hx hb dJ0_isLatin1_aae02_6 rfl (lv_at hl 0 rfl) ?_
  refine vk_getf hx hb (hs9.1 0 Nat.zero_lt_one).2.1 hS hown (hts _ kl_RJ0_15) (fun _ h9 => h9) dJ0_isLatin1_aae02_7 ?_
  refine lv_if_ne (tgt := 17) hx hb dJ0_isLatin1_aae02_10 (by decide) (fun hc => absurd (by decide) hc) (fun _ => ?_)
  refine lv_iconst (v := 1) hx hb dJ0_isLatin1_aae02_13 (by decide) ?_
  refine lv_goto (tgt := 18) hx hb dJ0_isLatin1_aae02_14 (by decide) ?_
  exact W.zret (v := 1) hx hb hr (by decide) (fun t ht hW => ⟨⟨1, ws, rfl, ⟨hT, rfl⟩, by rw [ht]; exact hP, by rw [hAe]; exact hD⟩, hS.F ht⟩) hS.2.2 dJ0_isLatin1_aae02_18
theorem dJ3_checkIndex_8e157_0 : decode cJ3_checkIndex_8e157 0 = .ok (.iload_n 0, 1) := by decide +kernel
theorem dJ3_checkIndex_8e157_1 : decode cJ3_checkIndex_8e157 1 = .ok (.ifCond .lt 8, 3) := by decide +kernel
theorem dJ3_checkIndex_8e157_4 : decode cJ3_checkIndex_8e157 4 = .ok (.iload_n 0, 1) := by decide +kernel
theorem dJ3_checkIndex_8e157_5 : decode cJ3_checkIndex_8e157 5 = .ok (.iload_n 1, 1) := by decide +kernel
theorem dJ3_checkIndex_8e157_6 : decode cJ3_checkIndex_8e157 6 = .ok (.if_icmp .lt 10, 3) := by decide +kernel
theorem dJ3_checkIndex_8e157_16 : decode cJ3_checkIndex_8e157 16 = .ok (.iload_n 0, 1) := by decide +kernel
theorem dJ3_checkIndex_8e157_17 : decode cJ3_checkIndex_8e157 17 = .ok (.ireturn, 1) := by decide +kernel
set_option maxRecDepth 100000 in
set_option maxHeartbeats 4000000 in
theorem t_pCheck_n (l : Launch) (D : va_G) (ct : Nat → ClassId) (S : ty_S) (ws : va_W) (i : Int32) (n : Int32) (sz : Nat) (hT : ty_W ct S ws) (hi0 : ¬ i < 0) (hi1 : i < n) : Met l yJ3_checkIndex_8e157 (ws_ yJ3_checkIndex_8e157 cJ3_checkIndex_8e157 3 (some .int)) ({ frames := 0, cells := 0, slots := 0, locals := 0 } : Room) (va_Pc [.int i, .int n, .null] (cmP D ct sz ([] ++ ws))) (va_Qi (fun (r : Int32) (u9 : va_W) => ty_W ct S u9) (cmB D ([] ++ ws) sz (fun (u9 : va_W) => ([] ++ u9))) (va_A ([] ++ ws) sz)) 0 0 (va_A ([] ++ ws) sz) := by
  refine Met.ofW (cc := cJ3_checkIndex_8e157) (maxL := 3) (ret := (some .int)) (by decide) rfl ?_
  intro p e s m args below meth c s₁ B hml hv
  obtain ⟨rfl, hsz, hP, hK, hD0, hX⟩ := hv
  have hx := B.exec
  have hb := B.bytes
  have hr := B.returns
  have hts := ws_all (atoms_spec (ws := ws_ yJ3_checkIndex_8e157 cJ3_checkIndex_8e157 3 (some .int)) B.pre)
  have hown : s.vm.findClass RJ3 = some m.cls := findClass_of_methodNamed B.named
  have hlocks := B.notSynchronized
  subst hsz
  have hD := hD0.self (sz := s.heap.size)
  generalize hAe : va_A ([] ++ ws) s.heap.size = A at hD hX ⊢
  have hA : ∀ q : Nat, s.heap.size ≤ q → A q := fun q h => by rw [← hAe]; exact Or.inr h
  have hS : va_S A s.heap s.heap [] := va_S.rf
  have hl := lv_entry ([.int i, .int n, .null]) (n := 3) (Nat.le_of_ble_eq_true rfl)
  rw [lg_entry_eq]
  generalize (lg_sl ([.int i, .int n, .null]) ++ List.replicate (3 - (lg_sl ([.int i, .int n, .null])).length) Slot.unset).toArray = ls at hl ⊢
  have hl : lv_has ls 3 [(0, .int i), (1, .int n), (2, .null)] := hl
  refine lv_iload_n hx hb dJ3_checkIndex_8e157_0 rfl (lv_at hl 0 rfl) ?_
  refine lv_if_lt (tgt := 9) hx hb dJ3_checkIndex_8e157_1 (by decide) (fun hc => absurd hc hi0) (fun _ => ?_)
  refine lv_iload_n hx hb dJ3_checkIndex_8e157_4 rfl (lv_at hl 0 rfl) ?_
  refine lv_iload_n hx hb dJ3_checkIndex_8e157_5 rfl (lv_at hl 1 rfl) ?_
  refine lv_icmp_lt (tgt := 16) hx hb dJ3_checkIndex_8e157_6 (by decide) (fun _ => ?_) (fun hc => absurd hi1 hc)
  refine lv_iload_n hx hb dJ3_checkIndex_8e157_16 rfl (lv_at hl 0 rfl) ?_
  exact W.iret (v := i) hx hb hr (fun t ht hW => ⟨⟨i, ws, rfl, hT, by rw [ht]; exact hP, by rw [hAe]; exact hD⟩, hS.F ht⟩) hS.2.2 dJ3_checkIndex_8e157_17
set_option maxRecDepth 100000 in
set_option maxHeartbeats 4000000 in
theorem t_pCheck_r (l : Launch) (D : va_G) (ct : Nat → ClassId) (S : ty_S) (ws : va_W) (i : Int32) (n : Int32) (f : Nat) (sz : Nat) (hT : ty_W ct S ws) (hi0 : ¬ i < 0) (hi1 : i < n) : Met l yJ3_checkIndex_8e157 (ws_ yJ3_checkIndex_8e157 cJ3_checkIndex_8e157 3 (some .int)) ({ frames := 0, cells := 0, slots := 0, locals := 0 } : Room) (va_Pc [.int i, .int n, .ref f] (cmP D ct sz ([] ++ ws))) (va_Qi (fun (r : Int32) (u9 : va_W) => ty_W ct S u9) (cmB D ([] ++ ws) sz (fun (u9 : va_W) => ([] ++ u9))) (va_A ([] ++ ws) sz)) 0 0 (va_A ([] ++ ws) sz) := by
  refine Met.ofW (cc := cJ3_checkIndex_8e157) (maxL := 3) (ret := (some .int)) (by decide) rfl ?_
  intro p e s m args below meth c s₁ B hml hv
  obtain ⟨rfl, hsz, hP, hK, hD0, hX⟩ := hv
  have hx := B.exec
  have hb := B.bytes
  have hr := B.returns
  have hts := ws_all (atoms_spec (ws := ws_ yJ3_checkIndex_8e157 cJ3_checkIndex_8e157 3 (some .int)) B.pre)
  have hown : s.vm.findClass RJ3 = some m.cls := findClass_of_methodNamed B.named
  have hlocks := B.notSynchronized
  subst hsz
  have hD := hD0.self (sz := s.heap.size)
  generalize hAe : va_A ([] ++ ws) s.heap.size = A at hD hX ⊢
  have hA : ∀ q : Nat, s.heap.size ≤ q → A q := fun q h => by rw [← hAe]; exact Or.inr h
  have hS : va_S A s.heap s.heap [] := va_S.rf
  have hl := lv_entry ([.int i, .int n, .ref f]) (n := 3) (Nat.le_of_ble_eq_true rfl)
  rw [lg_entry_eq]
  generalize (lg_sl ([.int i, .int n, .ref f]) ++ List.replicate (3 - (lg_sl ([.int i, .int n, .ref f])).length) Slot.unset).toArray = ls at hl ⊢
  have hl : lv_has ls 3 [(0, .int i), (1, .int n), (2, .ref f)] := hl
  refine lv_iload_n hx hb dJ3_checkIndex_8e157_0 rfl (lv_at hl 0 rfl) ?_
  refine lv_if_lt (tgt := 9) hx hb dJ3_checkIndex_8e157_1 (by decide) (fun hc => absurd hc hi0) (fun _ => ?_)
  refine lv_iload_n hx hb dJ3_checkIndex_8e157_4 rfl (lv_at hl 0 rfl) ?_
  refine lv_iload_n hx hb dJ3_checkIndex_8e157_5 rfl (lv_at hl 1 rfl) ?_
  refine lv_icmp_lt (tgt := 16) hx hb dJ3_checkIndex_8e157_6 (by decide) (fun _ => ?_) (fun hc => absurd hi1 hc)
  refine lv_iload_n hx hb dJ3_checkIndex_8e157_16 rfl (lv_at hl 0 rfl) ?_
  exact W.iret (v := i) hx hb hr (fun t ht hW => ⟨⟨i, ws, rfl, hT, by rw [ht]; exact hP, by rw [hAe]; exact hD⟩, hS.F ht⟩) hS.2.2 dJ3_checkIndex_8e157_17
theorem dJ0_checkIndex_df160_0 : decode cJ0_checkIndex_df160 0 = .ok (.iload_n 0, 1) := by decide +kernel
theorem dJ0_checkIndex_df160_1 : decode cJ0_checkIndex_df160 1 = .ok (.iload_n 1, 1) := by decide +kernel
theorem dJ0_checkIndex_df160_2 : decode cJ0_checkIndex_df160 2 = .ok (.getstatic 1053, 3) := by decide +kernel
theorem dJ0_checkIndex_df160_5 : decode cJ0_checkIndex_df160 5 = .ok (.invokestatic 1059, 3) := by decide +kernel
theorem dJ0_checkIndex_df160_8 : decode cJ0_checkIndex_df160 8 = .ok (.pop, 1) := by decide +kernel
theorem dJ0_checkIndex_df160_9 : decode cJ0_checkIndex_df160 9 = .ok (.return_, 1) := by decide +kernel
set_option maxRecDepth 100000 in
set_option maxHeartbeats 4000000 in
theorem t_sCheck (l : Launch) (D : va_G) (ct : Nat → ClassId) (S : ty_S) (ws : va_W) (i : Int32) (n : Int32) (sz : Nat) (hT : ty_W ct S ws) (hi0 : ¬ i < 0) (hi1 : i < n) : Met l yJ0_checkIndex_df160 (ws_ yJ0_checkIndex_df160 cJ0_checkIndex_df160 2 none) ({ frames := 1, cells := 0, slots := 0, locals := 22 } : Room) (va_Pc [.int i, .int n] (cmP D ct sz ([] ++ ws))) (va_Qv (fun (u9 : va_W) => ty_W ct S u9) (cmB D ([] ++ ws) sz (fun (u9 : va_W) => ([] ++ u9))) (va_A ([] ++ ws) sz)) 0 0 (va_A ([] ++ ws) sz) := by
  refine Met.ofW (cc := cJ0_checkIndex_df160) (maxL := 2) (ret := none) (by decide) rfl ?_
  intro p e s m args below meth c s₁ B hml hv
  obtain ⟨rfl, hsz, hP, hK, hD0, hX⟩ := hv
  have hx := B.exec
  have hb := B.bytes
  have hr := B.returns
  have hts := ws_all (atoms_spec (ws := ws_ yJ0_checkIndex_df160 cJ0_checkIndex_df160 2 none) B.pre)
  have hown : s.vm.findClass RJ0 = some m.cls := findClass_of_methodNamed B.named
  have hlocks := B.notSynchronized
  subst hsz
  have hD := hD0.self (sz := s.heap.size)
  generalize hAe : va_A ([] ++ ws) s.heap.size = A at hD hX ⊢
  have hA : ∀ q : Nat, s.heap.size ≤ q → A q := fun q h => by rw [← hAe]; exact Or.inr h
  have hS : va_S A s.heap s.heap [] := va_S.rf
  have hl := lv_entry ([.int i, .int n]) (n := 2) (Nat.le_of_ble_eq_true rfl)
  rw [lg_entry_eq]
  generalize (lg_sl ([.int i, .int n]) ++ List.replicate (2 - (lg_sl ([.int i, .int n])).length) Slot.unset).toArray = ls at hl ⊢
  have hl : lv_has ls 2 [(0, .int i), (1, .int n)] := hl
  refine lv_iload_n hx hb dJ0_checkIndex_df160_0 rfl (lv_at hl 0 rfl) ?_
  refine lv_iload_n hx hb dJ0_checkIndex_df160_1 rfl (lv_at hl 1 rfl) ?_
  rcases hX.2.2.2.2.1 with hz | ⟨t9, hz⟩
  · refine va_gets hx hb hz hS hown (hts _ kl_RJ0_1053) (fun _ h9 => h9) dJ0_checkIndex_df160_2 ?_
    refine ty_ki (wr := []) (wc := ([] ++ ws)) (va_runS (As := [.int i, .int n, .null]) (rest := []) ⟨hx, hb, hml, hown, hts⟩ (t_pCheck_n l D ct S ws i n _ hT hi0 hi1) (cm_S 3 hts kc_J3_checkIndex_8e157 ki_RJ3 kl_RJ0_1059 ks_J3_checkIndex_8e157 kd_J3_checkIndex_8e157 ⟨Nat.le_of_ble_eq_true rfl, Nat.le_of_ble_eq_true rfl⟩) (ty_preS (wr := []) (wc := ([] ++ ws)) hP hK hD hS hA hX) rfl rfl hl.1 rfl (lv_room (Nat.le_of_ble_eq_true rfl)) dJ0_checkIndex_df160_5 ⟨Nat.le_of_ble_eq_true rfl, Nat.le_of_ble_eq_true rfl⟩) hP hD hS hA (fun r_1 u H locs hw_2 hP hD hS => ?_)
    obtain ⟨ws_3, rfl⟩ : ∃ z, z = u := ⟨_, rfl⟩
    have hT := hw_2
    have hP : va_P D vwCl ([] ++ ws_3) H := hP
    have hD : va_D A ([] ++ ws_3) := hD
    refine lv_pop hx hb dJ0_checkIndex_df160_8 rfl ?_
    exact W.vret hx hb hr (fun t ht hW => ⟨⟨ws_3, rfl, hT, by rw [ht]; exact hP, by rw [hAe]; exact hD⟩, hS.F ht⟩) hS.2.2 dJ0_checkIndex_df160_9
  · refine va_gets hx hb hz hS hown (hts _ kl_RJ0_1053) (fun _ h9 => h9) dJ0_checkIndex_df160_2 ?_
    refine ty_ki (wr := []) (wc := ([] ++ ws)) (va_runS (As := [.int i, .int n, .ref t9]) (rest := []) ⟨hx, hb, hml, hown, hts⟩ (t_pCheck_r l D ct S ws i n t9 _ hT hi0 hi1) (cm_S 3 hts kc_J3_checkIndex_8e157 ki_RJ3 kl_RJ0_1059 ks_J3_checkIndex_8e157 kd_J3_checkIndex_8e157 ⟨Nat.le_of_ble_eq_true rfl, Nat.le_of_ble_eq_true rfl⟩) (ty_preS (wr := []) (wc := ([] ++ ws)) hP hK hD hS hA hX) rfl rfl hl.1 rfl (lv_room (Nat.le_of_ble_eq_true rfl)) dJ0_checkIndex_df160_5 ⟨Nat.le_of_ble_eq_true rfl, Nat.le_of_ble_eq_true rfl⟩) hP hD hS hA (fun r_4 u H locs hw_5 hP hD hS => ?_)
    obtain ⟨ws_6, rfl⟩ : ∃ z, z = u := ⟨_, rfl⟩
    have hT := hw_5
    have hP : va_P D vwCl ([] ++ ws_6) H := hP
    have hD : va_D A ([] ++ ws_6) := hD
    refine lv_pop hx hb dJ0_checkIndex_df160_8 rfl ?_
    exact W.vret hx hb hr (fun t ht hW => ⟨⟨ws_6, rfl, hT, by rw [ht]; exact hP, by rw [hAe]; exact hD⟩, hS.F ht⟩) hS.2.2 dJ0_checkIndex_df160_9
theorem ty_sl {q : cm_sq} (h : q ∈ cm_strs) : q.2.2.2.length < 2 ^ 31 := by
  have k : ∀ q ∈ cm_strs, q.2.2.2.length < 2 ^ 31 := by decide +kernel
  exact k q h
theorem dJ1_charAt_3b067_0 : decode cJ1_charAt_3b067 0 = .ok (.iload_n 1, 1) := by decide +kernel
theorem dJ1_charAt_3b067_1 : decode cJ1_charAt_3b067 1 = .ok (.aload_n 0, 1) := by decide +kernel
theorem dJ1_charAt_3b067_2 : decode cJ1_charAt_3b067 2 = .ok (.arraylength, 1) := by decide +kernel
theorem dJ1_charAt_3b067_3 : decode cJ1_charAt_3b067 3 = .ok (.invokestatic 9, 3) := by decide +kernel
theorem dJ1_charAt_3b067_6 : decode cJ1_charAt_3b067 6 = .ok (.aload_n 0, 1) := by decide +kernel
theorem dJ1_charAt_3b067_7 : decode cJ1_charAt_3b067 7 = .ok (.iload_n 1, 1) := by decide +kernel
theorem dJ1_charAt_3b067_8 : decode cJ1_charAt_3b067 8 = .ok (.baload, 1) := by decide +kernel
theorem dJ1_charAt_3b067_9 : decode cJ1_charAt_3b067 9 = .ok (.sipush 255, 3) := by decide +kernel
theorem dJ1_charAt_3b067_12 : decode cJ1_charAt_3b067 12 = .ok (.iand, 1) := by decide +kernel
theorem dJ1_charAt_3b067_13 : decode cJ1_charAt_3b067 13 = .ok (.i2c, 1) := by decide +kernel
theorem dJ1_charAt_3b067_14 : decode cJ1_charAt_3b067 14 = .ok (.ireturn, 1) := by decide +kernel
set_option maxRecDepth 100000 in
set_option maxHeartbeats 4000000 in
theorem t_l1char (l : Launch) (D : va_G) (ct : Nat → ClassId) (S : ty_S) (ws : va_W) (v : Nat) (q9 : cm_sq) (i : Int32) (sz : Nat) (hT : ty_W ct S ws) (hq9 : q9 ∈ cm_strs) (hi0 : ¬ i < 0) (hi1 : i < Int32.ofNat q9.2.2.2.length) : Met l yJ1_charAt_3b067 (ws_ yJ1_charAt_3b067 cJ1_charAt_3b067 2 (some .char)) ({ frames := 2, cells := 0, slots := 0, locals := 43 } : Room) (va_Pc [.ref v, .int i] (cmPt D ct sz ([] ++ ws) q9 v)) (va_Qi (fun (r : Int32) (u9 : va_W) => ty_W ct S u9 ∧ narrow .char (.int r) = .int r) (cmB D ([] ++ ws) sz (fun (u9 : va_W) => ([] ++ u9))) (va_A ([] ++ ws) sz)) 0 0 (va_A ([] ++ ws) sz) := by
  refine Met.ofW (cc := cJ1_charAt_3b067) (maxL := 2) (ret := (some .char)) (by decide) rfl ?_
  intro p e s m args below meth c s₁ B hml hv
  obtain ⟨rfl, ⟨hsz, hP, hK, hD0, hX⟩, hR9⟩ := hv
  have hx := B.exec
  have hb := B.bytes
  have hr := B.returns
  have hts := ws_all (atoms_spec (ws := ws_ yJ1_charAt_3b067 cJ1_charAt_3b067 2 (some .char)) B.pre)
  have hown : s.vm.findClass RJ1 = some m.cls := findClass_of_methodNamed B.named
  have hlocks := B.notSynchronized
  subst hsz
  have hD := hD0.self (sz := s.heap.size)
  generalize hAe : va_A ([] ++ ws) s.heap.size = A at hD hX hR9 ⊢
  have hA : ∀ q : Nat, s.heap.size ≤ q → A q := fun q h => by rw [← hAe]; exact Or.inr h
  have hS : va_S A s.heap s.heap [] := va_S.rf
  obtain ⟨a8, hr8, ho8⟩ := hR9
  obtain ⟨a9, v9, hr9, hs9⟩ := hX.2.2.2.1 q9 hq9
  rw [cm_sinj hr9 hr8] at hs9
  rw [show v9 = v from cm_ofinj (hs9.1 0 Nat.zero_lt_one).2.2.1 ho8] at hs9
  have hl := lv_entry ([.ref v, .int i]) (n := 2) (Nat.le_of_ble_eq_true rfl)
  rw [lg_entry_eq]
  generalize (lg_sl ([.ref v, .int i]) ++ List.replicate (2 - (lg_sl ([.ref v, .int i])).length) Slot.unset).toArray = ls at hl ⊢
  have hl : lv_has ls 2 [(0, .ref v), (1, .int i)] := hl
  refine lv_iload_n hx hb dJ1_charAt_3b067_0 rfl (lv_at hl 1 rfl) ?_
  refine lv_aload_n hx hb dJ1_charAt_3b067_1 rfl (lv_at hl 0 rfl) ?_
  refine va_tlen hx hb (hs9.1 0 Nat.zero_lt_one).2.2.2 hS (v := Int32.ofNat q9.2.2.2.length) rfl dJ1_charAt_3b067_2 ?_
  refine ty_kv (wr := []) (wc := ([] ++ ws)) (va_runS (As := [.int i, .int (Int32.ofNat q9.2.2.2.length)]) (rest := []) ⟨hx, hb, hml, hown, hts⟩ (t_sCheck l D ct S ws i (Int32.ofNat q9.2.2.2.length) _ hT hi0 hi1) (cm_S 2 hts kc_J0_checkIndex_df160 ki_RJ0 kl_RJ1_9 ks_J0_checkIndex_df160 kd_J0_checkIndex_df160 ⟨Nat.le_of_ble_eq_true rfl, Nat.le_of_ble_eq_true rfl⟩) (ty_preS (wr := []) (wc := ([] ++ ws)) hP hK hD hS hA hX) rfl rfl hl.1 rfl (lv_room (Nat.le_of_ble_eq_true rfl)) dJ1_charAt_3b067_3 ⟨Nat.le_of_ble_eq_true rfl, Nat.le_of_ble_eq_true rfl⟩) hP hD hS hA (fun u H locs hw_2 hP hD hS => ?_)
  obtain ⟨ws_3, rfl⟩ : ∃ z, z = u := ⟨_, rfl⟩
  have hT := hw_2
  have hP : va_P D vwCl ([] ++ ws_3) H := hP
  have hD : va_D A ([] ++ ws_3) := hD
  refine lv_aload_n hx hb dJ1_charAt_3b067_6 rfl (lv_at hl 0 rfl) ?_
  refine lv_iload_n hx hb dJ1_charAt_3b067_7 rfl (lv_at hl 1 rfl) ?_
  refine va_tb hx hb (hs9.1 0 Nat.zero_lt_one).2.2.2 hS (cm_vin2 (ty_sl hq9) hi0 hi1) (v := .int ((q9.2.2.2).getD i.toNatClampNeg 0)) rfl dJ1_charAt_3b067_8 ?_
  refine lv_sipush (v := 255) hx hb dJ1_charAt_3b067_9 (by decide) ?_
  refine lv_iand hx hb dJ1_charAt_3b067_12 ?_
  refine lv_i2c (v := (((((q9.2.2.2).getD i.toNatClampNeg 0) &&& 255)).toUInt32 % 65536).toInt32) hx hb dJ1_charAt_3b067_13 rfl ?_
  exact W.zret (v := ((((((q9.2.2.2).getD i.toNatClampNeg 0) &&& 255)).toUInt32 % 65536).toInt32)) hx hb hr (ty_nc _) (fun t ht hW => ⟨⟨((((((q9.2.2.2).getD i.toNatClampNeg 0) &&& 255)).toUInt32 % 65536).toInt32), ws_3, rfl, ⟨hT, (ty_nc _)⟩, by rw [ht]; exact hP, by rw [hAe]; exact hD⟩, hS.F ht⟩) hS.2.2 dJ1_charAt_3b067_14
theorem dJ0_charAt_5068e_0 : decode cJ0_charAt_5068e 0 = .ok (.aload_n 0, 1) := by decide +kernel
theorem dJ0_charAt_5068e_1 : decode cJ0_charAt_5068e 1 = .ok (.invokevirtual 492, 3) := by decide +kernel
theorem dJ0_charAt_5068e_4 : decode cJ0_charAt_5068e 4 = .ok (.ifCond .eq 12, 3) := by decide +kernel
theorem dJ0_charAt_5068e_7 : decode cJ0_charAt_5068e 7 = .ok (.aload_n 0, 1) := by decide +kernel
theorem dJ0_charAt_5068e_8 : decode cJ0_charAt_5068e 8 = .ok (.getfield 9, 3) := by decide +kernel
theorem dJ0_charAt_5068e_11 : decode cJ0_charAt_5068e 11 = .ok (.iload_n 1, 1) := by decide +kernel
theorem dJ0_charAt_5068e_12 : decode cJ0_charAt_5068e 12 = .ok (.invokestatic 495, 3) := by decide +kernel
theorem dJ0_charAt_5068e_15 : decode cJ0_charAt_5068e 15 = .ok (.ireturn, 1) := by decide +kernel
set_option maxRecDepth 100000 in
set_option maxHeartbeats 4000000 in
theorem t_charAt (l : Launch) (D : va_G) (ct : Nat → ClassId) (S : ty_S) (ws : va_W) (a : Nat) (q9 : cm_sq) (i : Int32) (sz : Nat) (hT : ty_W ct S ws) (hq9 : q9 ∈ cm_strs) (hi0 : ¬ i < 0) (hi1 : i < Int32.ofNat q9.2.2.2.length) : Met l yJ0_charAt_5068e (ws_ yJ0_charAt_5068e cJ0_charAt_5068e 2 (some .char)) ({ frames := 3, cells := 0, slots := 0, locals := 64 } : Room) (va_Pc [.ref a, .int i] (cmPs D ct sz ([] ++ ws) q9 a)) (va_Qi (fun (r : Int32) (u9 : va_W) => ty_W ct S u9 ∧ narrow .char (.int r) = .int r) (cmB D ([] ++ ws) sz (fun (u9 : va_W) => ([] ++ u9))) (va_A ([] ++ ws) sz)) 0 0 (va_A ([] ++ ws) sz) := by
  refine Met.ofW (cc := cJ0_charAt_5068e) (maxL := 2) (ret := (some .char)) (by decide) rfl ?_
  intro p e s m args below meth c s₁ B hml hv
  obtain ⟨rfl, ⟨hsz, hP, hK, hD0, hX⟩, hR9⟩ := hv
  have hx := B.exec
  have hb := B.bytes
  have hr := B.returns
  have hts := ws_all (atoms_spec (ws := ws_ yJ0_charAt_5068e cJ0_charAt_5068e 2 (some .char)) B.pre)
  have hown : s.vm.findClass RJ0 = some m.cls := findClass_of_methodNamed B.named
  have hlocks := B.notSynchronized
  subst hsz
  have hD := hD0.self (sz := s.heap.size)
  generalize hAe : va_A ([] ++ ws) s.heap.size = A at hD hX ⊢
  have hA : ∀ q : Nat, s.heap.size ≤ q → A q := fun q h => by rw [← hAe]; exact Or.inr h
  have hS : va_S A s.heap s.heap [] := va_S.rf
  obtain ⟨a9, v9, hr9, hs9⟩ := hX.2.2.2.1 q9 hq9
  have e9 : a9 = a := cm_sinj hr9 hR9
  rw [e9] at hs9
  have hl := lv_entry ([.ref a, .int i]) (n := 2) (Nat.le_of_ble_eq_true rfl)
  rw [lg_entry_eq]
  generalize (lg_sl ([.ref a, .int i]) ++ List.replicate (2 - (lg_sl ([.ref a, .int i])).length) Slot.unset).toArray = ls at hl ⊢
  have hl : lv_has ls 2 [(0, .ref a), (1, .int i)] := hl
  refine lv_aload_n hx hb dJ0_charAt_5068e_0 rfl (lv_at hl 0 rfl) ?_
  refine ty_ki (wr := []) (wc := ([] ++ ws)) (va_runV (As := []) (rest := []) ⟨hx, hb, hml, hown, hts⟩ (t_isLatin1 l D ct S ws a q9 _ hT hq9) (cm_V 0 hts kc_J0_isLatin1_aae02 ki_RJ0 kl_RJ0_492 kv_J0_isLatin1_aae02 kx_J0_isLatin1_aae02 kd_J0_isLatin1_aae02 ⟨Nat.le_of_ble_eq_true rfl, Nat.le_of_ble_eq_true rfl⟩) (cm_preVt (ty_preS (wr := []) (wc := ([] ++ ws)) (As := [.ref a]) hP hK hD hS hA hX) (vk_recv hs9 (Nat.zero_lt_one) hS) hR9) rfl rfl hl.1 rfl (lv_room (Nat.le_of_ble_eq_true rfl)) dJ0_charAt_5068e_1 ⟨Nat.le_of_ble_eq_true rfl, Nat.le_of_ble_eq_true rfl⟩) hP hD hS hA (fun r_1 u H locs hw_2 hP hD hS => ?_)
  obtain ⟨ws_3, rfl⟩ : ∃ z, z = u := ⟨_, rfl⟩
  obtain ⟨hT, rfl⟩ := hw_2
  have hP : va_P D vwCl ([] ++ ws_3) H := hP
  have hD : va_D A ([] ++ ws_3) := hD
  refine lv_if_eq (tgt := 16) hx hb dJ0_charAt_5068e_4 (by decide) (fun hc => absurd hc (by decide)) (fun _ => ?_)
  refine lv_aload_n hx hb dJ0_charAt_5068e_7 rfl (lv_at hl 0 rfl) ?_
  refine vk_getf hx hb (hs9.1 0 Nat.zero_lt_one).2.2.1 hS hown (hts _ kl_RJ0_9) (fun _ h9 => h9) dJ0_charAt_5068e_8 ?_
  refine lv_iload_n hx hb dJ0_charAt_5068e_11 rfl (lv_at hl 1 rfl) ?_
  refine ty_ki (wr := []) (wc := ([] ++ ws_3)) (va_runS (As := [.ref v9, .int i]) (rest := []) ⟨hx, hb, hml, hown, hts⟩ (t_l1char l D ct S ws_3 v9 q9 i _ hT hq9 hi0 hi1) (cm_S 2 hts kc_J1_charAt_3b067 ki_RJ1 kl_RJ0_495 ks_J1_charAt_3b067 kd_J1_charAt_3b067 ⟨Nat.le_of_ble_eq_true rfl, Nat.le_of_ble_eq_true rfl⟩) (cm_preSt (ty_preS (wr := []) (wc := ([] ++ ws_3)) hP hK hD hS hA hX) hR9 (hs9.1 0 Nat.zero_lt_one).2.2.1 hS (va_free hD hS hA (List.range' ([] : va_W).length (([] ++ ws_3) : va_W).length) (ty_rng (([] ++ ws_3) : va_W) ([] : va_W)))) rfl rfl hl.1 rfl (lv_room (Nat.le_of_ble_eq_true rfl)) dJ0_charAt_5068e_12 ⟨Nat.le_of_ble_eq_true rfl, Nat.le_of_ble_eq_true rfl⟩) hP hD hS hA (fun r_4 u H locs hw_5 hP hD hS => ?_)
  obtain ⟨ws_6, rfl⟩ : ∃ z, z = u := ⟨_, rfl⟩
  obtain ⟨hT, hp_7⟩ := hw_5
  have hp_7 : narrow .char (.int r_4) = .int r_4 := hp_7
  have hP : va_P D vwCl ([] ++ ws_6) H := hP
  have hD : va_D A ([] ++ ws_6) := hD
  exact W.zret (v := r_4) hx hb hr hp_7 (fun t ht hW => ⟨⟨r_4, ws_6, rfl, ⟨hT, hp_7⟩, by rw [ht]; exact hP, by rw [hAe]; exact hD⟩, hS.F ht⟩) hS.2.2 dJ0_charAt_5068e_15
theorem dX6_wordIs_0 : decode cX6_wordIs 0 = .ok (.aload_n 0, 1) := by decide +kernel
theorem dX6_wordIs_1 : decode cX6_wordIs 1 = .ok (.getfield 65, 3) := by decide +kernel
theorem dX6_wordIs_4 : decode cX6_wordIs 4 = .ok (.aload_n 0, 1) := by decide +kernel
theorem dX6_wordIs_5 : decode cX6_wordIs 5 = .ok (.getfield 130, 3) := by decide +kernel
theorem dX6_wordIs_8 : decode cX6_wordIs 8 = .ok (.isub, 1) := by decide +kernel
theorem dX6_wordIs_9 : decode cX6_wordIs 9 = .ok (.aload_n 1, 1) := by decide +kernel
theorem dX6_wordIs_10 : decode cX6_wordIs 10 = .ok (.invokevirtual 223, 3) := by decide +kernel
theorem dX6_wordIs_13 : decode cX6_wordIs 13 = .ok (.if_icmp .eq 5, 3) := by decide +kernel
theorem dX6_wordIs_16 : decode cX6_wordIs 16 = .ok (.iconst 0, 1) := by decide +kernel
theorem dX6_wordIs_17 : decode cX6_wordIs 17 = .ok (.ireturn, 1) := by decide +kernel
theorem dX6_wordIs_18 : decode cX6_wordIs 18 = .ok (.iconst 0, 1) := by decide +kernel
theorem dX6_wordIs_19 : decode cX6_wordIs 19 = .ok (.istore_n 2, 1) := by decide +kernel
theorem dX6_wordIs_20 : decode cX6_wordIs 20 = .ok (.iload_n 2, 1) := by decide +kernel
theorem dX6_wordIs_21 : decode cX6_wordIs 21 = .ok (.aload_n 1, 1) := by decide +kernel
theorem dX6_wordIs_22 : decode cX6_wordIs 22 = .ok (.invokevirtual 223, 3) := by decide +kernel
theorem dX6_wordIs_25 : decode cX6_wordIs 25 = .ok (.if_icmp .ge 32, 3) := by decide +kernel
theorem dX6_wordIs_28 : decode cX6_wordIs 28 = .ok (.aload_n 0, 1) := by decide +kernel
theorem dX6_wordIs_29 : decode cX6_wordIs 29 = .ok (.getfield 9, 3) := by decide +kernel
theorem dX6_wordIs_32 : decode cX6_wordIs 32 = .ok (.aload_n 0, 1) := by decide +kernel
theorem dX6_wordIs_33 : decode cX6_wordIs 33 = .ok (.getfield 130, 3) := by decide +kernel
theorem dX6_wordIs_36 : decode cX6_wordIs 36 = .ok (.iload_n 2, 1) := by decide +kernel
theorem dX6_wordIs_37 : decode cX6_wordIs 37 = .ok (.iadd, 1) := by decide +kernel
theorem dX6_wordIs_38 : decode cX6_wordIs 38 = .ok (.invokestatic 227, 3) := by decide +kernel
theorem dX6_wordIs_41 : decode cX6_wordIs 41 = .ok (.aload_n 1, 1) := by decide +kernel
theorem dX6_wordIs_42 : decode cX6_wordIs 42 = .ok (.iload_n 2, 1) := by decide +kernel
theorem dX6_wordIs_43 : decode cX6_wordIs 43 = .ok (.invokevirtual 231, 3) := by decide +kernel
theorem dX6_wordIs_46 : decode cX6_wordIs 46 = .ok (.if_icmp .eq 5, 3) := by decide +kernel
theorem dX6_wordIs_49 : decode cX6_wordIs 49 = .ok (.iconst 0, 1) := by decide +kernel
theorem dX6_wordIs_50 : decode cX6_wordIs 50 = .ok (.ireturn, 1) := by decide +kernel
theorem dX6_wordIs_51 : decode cX6_wordIs 51 = .ok (.iinc 2 1, 3) := by decide +kernel
theorem dX6_wordIs_54 : decode cX6_wordIs 54 = .ok (.goto (-34), 3) := by decide +kernel
theorem dX6_wordIs_57 : decode cX6_wordIs 57 = .ok (.iconst 1, 1) := by decide +kernel
theorem dX6_wordIs_58 : decode cX6_wordIs 58 = .ok (.ireturn, 1) := by decide +kernel
set_option maxRecDepth 100000 in
set_option maxHeartbeats 4000000 in
theorem t_X6_wordIs (l : Launch) (D : va_G) (ct : Nat → ClassId) (S : ty_S) (ws : va_W) (rd : Nat) (bt : Nat) (tg : Nat) (nb : Nat) (ln : Int32) (pl : Int32) (wst : Int32) (er : Int32) (ep : Int32) (wd : Nat) (q9 : cm_sq) (sz : Nat) (hT : ty_W ct S ws) (h_bt : S bt = some (.inr (0, nb))) (h_tg : S tg = some (.inl 9)) (hq9 : q9 ∈ cm_strs) : Met l yX6_wordIs (ws_ yX6_wordIs cX6_wordIs 3 (some .boolean)) ({ frames := 4, cells := 0, slots := 0, locals := 85 } : Room) (va_Pc [.ref rd, .ref wd] (cmPs D ct sz ([(rd, .inr (6, [.ref bt, .int ln, .ref tg, .int pl, .int wst, .int er, .int ep]))] ++ ws) q9 wd)) (va_Qi (fun (r : Int32) (u9 : va_W) => ty_W ct S u9) (cmB D ([(rd, .inr (6, [.ref bt, .int ln, .ref tg, .int pl, .int wst, .int er, .int ep]))] ++ ws) sz (fun (u9 : va_W) => ([(rd, .inr (6, [.ref bt, .int ln, .ref tg, .int pl, .int wst, .int er, .int ep]))] ++ u9))) (va_A ([(rd, .inr (6, [.ref bt, .int ln, .ref tg, .int pl, .int wst, .int er, .int ep]))] ++ ws) sz)) 0 0 (va_A ([(rd, .inr (6, [.ref bt, .int ln, .ref tg, .int pl, .int wst, .int er, .int ep]))] ++ ws) sz) := by
  refine Met.ofW (cc := cX6_wordIs) (maxL := 3) (ret := (some .boolean)) (by decide) rfl ?_
  intro p e s m args below meth c s₁ B hml hv
  obtain ⟨rfl, ⟨hsz, hP, hK, hD0, hX⟩, hR9⟩ := hv
  have hx := B.exec
  have hb := B.bytes
  have hr := B.returns
  have hts := ws_all (atoms_spec (ws := ws_ yX6_wordIs cX6_wordIs 3 (some .boolean)) B.pre)
  have hown : s.vm.findClass RX6 = some m.cls := findClass_of_methodNamed B.named
  have hlocks := B.notSynchronized
  subst hsz
  have hD := hD0.self (sz := s.heap.size)
  generalize hAe : va_A ([(rd, .inr (6, [.ref bt, .int ln, .ref tg, .int pl, .int wst, .int er, .int ep]))] ++ ws) s.heap.size = A at hD hX ⊢
  have hA : ∀ q : Nat, s.heap.size ≤ q → A q := fun q h => by rw [← hAe]; exact Or.inr h
  have hS : va_S A s.heap s.heap [] := va_S.rf
  obtain ⟨a9, v9, hr9, hs9⟩ := hX.2.2.2.1 q9 hq9
  have e9 : a9 = wd := cm_sinj hr9 hR9
  rw [e9] at hs9
  have hl := lv_entry ([.ref rd, .ref wd]) (n := 3) (Nat.le_of_ble_eq_true rfl)
  rw [lg_entry_eq]
  generalize (lg_sl ([.ref rd, .ref wd]) ++ List.replicate (3 - (lg_sl ([.ref rd, .ref wd])).length) Slot.unset).toArray = ls at hl ⊢
  have hl : lv_has ls 3 [(0, .ref rd), (1, .ref wd)] := hl
  refine lv_aload_n hx hb dX6_wordIs_0 rfl (lv_at hl 0 rfl) ?_
  refine va_get (v := .int pl) (D := D) (ci := 6) (C := RX6) (T := TX6) (N := 7) hx hb hts in_X6 hown hK hP 0 rfl rfl 3 (by decide) (hts _ kl_RX6_65) (fun _ h9 => h9) rfl dX6_wordIs_1 ?_
  refine lv_aload_n hx hb dX6_wordIs_4 rfl (lv_at hl 0 rfl) ?_
  refine va_get (v := .int wst) (D := D) (ci := 6) (C := RX6) (T := TX6) (N := 7) hx hb hts in_X6 hown hK hP 0 rfl rfl 4 (by decide) (hts _ kl_RX6_130) (fun _ h9 => h9) rfl dX6_wordIs_5 ?_
  refine lv_isub hx hb dX6_wordIs_8 ?_
  refine lv_topi (fun x_1 _ => ?_)
  refine lv_aload_n hx hb dX6_wordIs_9 rfl (lv_at hl 1 rfl) ?_
  refine ty_ki (wr := [(rd, .inr (6, [.ref bt, .int ln, .ref tg, .int pl, .int wst, .int er, .int ep]))]) (wc := ([] ++ ws)) (va_runV (As := []) (rest := [.int x_1]) ⟨hx, hb, hml, hown, hts⟩ (t_strlen l D ct S ws wd q9 _ hT hq9) (cm_V 0 hts kc_J0_length_8abf5 ki_RJ0 kl_RX6_223 kv_J0_length_8abf5 kx_J0_length_8abf5 kd_J0_length_8abf5 ⟨Nat.le_of_ble_eq_true rfl, Nat.le_of_ble_eq_true rfl⟩) (cm_preVt (ty_preS (wr := [(rd, .inr (6, [.ref bt, .int ln, .ref tg, .int pl, .int wst, .int er, .int ep]))]) (wc := ([] ++ ws)) (As := [.ref wd]) hP hK hD hS hA hX) (vk_recv hs9 (Nat.zero_lt_one) hS) hR9) rfl rfl hl.1 rfl (lv_room (Nat.le_of_ble_eq_true rfl)) dX6_wordIs_10 ⟨Nat.le_of_ble_eq_true rfl, Nat.le_of_ble_eq_true rfl⟩) hP hD hS hA (fun r_2 u H locs hw_3 hP hD hS => ?_)
  obtain ⟨ws_4, rfl⟩ : ∃ z, z = u := ⟨_, rfl⟩
  obtain ⟨hT, rfl⟩ := hw_3
  have hP : va_P D vwCl ([(rd, .inr (6, [.ref bt, .int ln, .ref tg, .int pl, .int wst, .int er, .int ep]))] ++ ws_4) H := hP
  have hD : va_D A ([(rd, .inr (6, [.ref bt, .int ln, .ref tg, .int pl, .int wst, .int er, .int ep]))] ++ ws_4) := hD
  refine lv_icmp_eq (tgt := 18) hx hb dX6_wordIs_13 (by decide) (fun hc_5 => ?_) (fun hc_5 => ?_)
  · refine lv_iconst (v := 0) hx hb dX6_wordIs_18 (by decide) ?_
    refine lv_istore_n (lv' := [(2, .int 0), (0, .ref rd), (1, .ref wd)]) hx hb dX6_wordIs_19 rfl hl (by decide) rfl (fun ls hl => ?_)
    refine ty_loop (I := fun μ H locs ls => ∃ (ws : va_W) (y_6 : Int32), μ = (2147483648 - y_6.toInt).toNat ∧ ty_W ct S ws ∧ va_P D vwCl ([(rd, .inr (6, [.ref bt, .int ln, .ref tg, .int pl, .int wst, .int er, .int ep]))] ++ ws) H ∧ va_D A ([(rd, .inr (6, [.ref bt, .int ln, .ref tg, .int pl, .int wst, .int er, .int ep]))] ++ ws) ∧ va_S A s.heap H locs ∧ lv_has ls 3 [(2, .int y_6), (0, .ref rd), (1, .ref wd)] ∧ 0 ≤ y_6.toInt) ⟨_, ws_4, (0 : Int32), rfl, hT, hP, hD, hS, (lv_sub hl [0, 1, 2] rfl), (by decide)⟩ (fun μ H locs ls hI ih_20 => ?_)
    obtain ⟨ws, y_6, rfl, hT, hP, hD, hS, hl, hex_20⟩ := hI
    refine lv_iload_n hx hb dX6_wordIs_20 rfl (lv_at hl 0 rfl) ?_
    refine lv_aload_n hx hb dX6_wordIs_21 rfl (lv_at hl 2 rfl) ?_
    refine ty_ki (wr := [(rd, .inr (6, [.ref bt, .int ln, .ref tg, .int pl, .int wst, .int er, .int ep]))]) (wc := ([] ++ ws)) (va_runV (As := []) (rest := [.int y_6]) ⟨hx, hb, hml, hown, hts⟩ (t_strlen l D ct S ws wd q9 _ hT hq9) (cm_V 0 hts kc_J0_length_8abf5 ki_RJ0 kl_RX6_223 kv_J0_length_8abf5 kx_J0_length_8abf5 kd_J0_length_8abf5 ⟨Nat.le_of_ble_eq_true rfl, Nat.le_of_ble_eq_true rfl⟩) (cm_preVt (ty_preS (wr := [(rd, .inr (6, [.ref bt, .int ln, .ref tg, .int pl, .int wst, .int er, .int ep]))]) (wc := ([] ++ ws)) (As := [.ref wd]) hP hK hD hS hA hX) (vk_recv hs9 (Nat.zero_lt_one) hS) hR9) rfl rfl hl.1 rfl (lv_room (Nat.le_of_ble_eq_true rfl)) dX6_wordIs_22 ⟨Nat.le_of_ble_eq_true rfl, Nat.le_of_ble_eq_true rfl⟩) hP hD hS hA (fun r_7 u H locs hw_8 hP hD hS => ?_)
    obtain ⟨ws_9, rfl⟩ : ∃ z, z = u := ⟨_, rfl⟩
    obtain ⟨hT, rfl⟩ := hw_8
    have hP : va_P D vwCl ([(rd, .inr (6, [.ref bt, .int ln, .ref tg, .int pl, .int wst, .int er, .int ep]))] ++ ws_9) H := hP
    have hD : va_D A ([(rd, .inr (6, [.ref bt, .int ln, .ref tg, .int pl, .int wst, .int er, .int ep]))] ++ ws_9) := hD
    refine lv_icmp_ge (tgt := 57) hx hb dX6_wordIs_25 (by decide) (fun hc_10 => ?_) (fun hc_10 => ?_)
    · refine lv_iconst (v := 1) hx hb dX6_wordIs_57 (by decide) ?_
      exact W.zret (v := 1) hx hb hr (by decide) (fun t ht hW => ⟨⟨1, ws_9, rfl, hT, by rw [ht]; exact hP, by rw [hAe]; exact hD⟩, hS.F ht⟩) hS.2.2 dX6_wordIs_58
    · refine lv_aload_n hx hb dX6_wordIs_28 rfl (lv_at hl 1 rfl) ?_
      refine va_get (v := .ref bt) (D := D) (ci := 6) (C := RX6) (T := TX6) (N := 7) hx hb hts in_X6 hown hK hP 0 rfl rfl 0 (by decide) (hts _ kl_RX6_9) (fun _ h9 => h9) rfl dX6_wordIs_29 ?_
      refine lv_aload_n hx hb dX6_wordIs_32 rfl (lv_at hl 1 rfl) ?_
      refine va_get (v := .int wst) (D := D) (ci := 6) (C := RX6) (T := TX6) (N := 7) hx hb hts in_X6 hown hK hP 0 rfl rfl 4 (by decide) (hts _ kl_RX6_130) (fun _ h9 => h9) rfl dX6_wordIs_33 ?_
      refine lv_iload_n hx hb dX6_wordIs_36 rfl (lv_at hl 0 rfl) ?_
      refine lv_iadd hx hb dX6_wordIs_37 ?_
      refine lv_topi (fun x_11 _ => ?_)
      refine ty_ki (wr := [(rd, .inr (6, [.ref bt, .int ln, .ref tg, .int pl, .int wst, .int er, .int ep]))]) (wc := ([] ++ ws_9)) (va_runSN (As := [.ref bt, .int x_11]) (rest := []) ⟨hx, hb, hml, hown, hts⟩ (t_X10_at l D ct S ws_9 bt nb x_11 _ hT h_bt) (cm_SN 2 hts kc_X10_at ki_RX10 kl_RX6_227 ks_X10_at kd_X10_at ⟨Nat.le_of_ble_eq_true rfl, Nat.le_of_ble_eq_true rfl⟩) (ty_preS (wr := [(rd, .inr (6, [.ref bt, .int ln, .ref tg, .int pl, .int wst, .int er, .int ep]))]) (wc := ([] ++ ws_9)) hP hK hD hS hA hX) rfl rfl hl.1 rfl (lv_room (Nat.le_of_ble_eq_true rfl)) dX6_wordIs_38 ⟨Nat.le_of_ble_eq_true rfl, Nat.le_of_ble_eq_true rfl⟩) hP hD hS hA (fun r_12 u H locs hw_13 hP hD hS => ?_)
      obtain ⟨ws_14, rfl⟩ : ∃ z, z = u := ⟨_, rfl⟩
      have hT := hw_13
      have hP : va_P D vwCl ([(rd, .inr (6, [.ref bt, .int ln, .ref tg, .int pl, .int wst, .int er, .int ep]))] ++ ws_14) H := hP
      have hD : va_D A ([(rd, .inr (6, [.ref bt, .int ln, .ref tg, .int pl, .int wst, .int er, .int ep]))] ++ ws_14) := hD
      refine lv_aload_n hx hb dX6_wordIs_41 rfl (lv_at hl 2 rfl) ?_
      refine lv_iload_n hx hb dX6_wordIs_42 rfl (lv_at hl 0 rfl) ?_
      refine ty_ki (wr := [(rd, .inr (6, [.ref bt, .int ln, .ref tg, .int pl, .int wst, .int er, .int ep]))]) (wc := ([] ++ ws_14)) (va_runV (As := [.int y_6]) (rest := [.int r_12]) ⟨hx, hb, hml, hown, hts⟩ (t_charAt l D ct S ws_14 wd q9 y_6 _ hT hq9 (ty_nneg hex_20) (cm_lt hc_10)) (cm_V 1 hts kc_J0_charAt_5068e ki_RJ0 kl_RX6_231 kv_J0_charAt_5068e kx_J0_charAt_5068e kd_J0_charAt_5068e ⟨Nat.le_of_ble_eq_true rfl, Nat.le_of_ble_eq_true rfl⟩) (cm_preVt (ty_preS (wr := [(rd, .inr (6, [.ref bt, .int ln, .ref tg, .int pl, .int wst, .int er, .int ep]))]) (wc := ([] ++ ws_14)) (As := [.ref wd, .int y_6]) hP hK hD hS hA hX) (vk_recv hs9 (Nat.zero_lt_one) hS) hR9) rfl rfl hl.1 rfl (lv_room (Nat.le_of_ble_eq_true rfl)) dX6_wordIs_43 ⟨Nat.le_of_ble_eq_true rfl, Nat.le_of_ble_eq_true rfl⟩) hP hD hS hA (fun r_15 u H locs hw_16 hP hD hS => ?_)
      obtain ⟨ws_17, rfl⟩ : ∃ z, z = u := ⟨_, rfl⟩
      obtain ⟨hT, hp_18⟩ := hw_16
      have hp_18 : narrow .char (.int r_15) = .int r_15 := hp_18
      have hP : va_P D vwCl ([(rd, .inr (6, [.ref bt, .int ln, .ref tg, .int pl, .int wst, .int er, .int ep]))] ++ ws_17) H := hP
      have hD : va_D A ([(rd, .inr (6, [.ref bt, .int ln, .ref tg, .int pl, .int wst, .int er, .int ep]))] ++ ws_17) := hD
      refine lv_icmp_eq (tgt := 51) hx hb dX6_wordIs_46 (by decide) (fun hc_19 => ?_) (fun hc_19 => ?_)
      · refine lv_iinc (v := (y_6 + Int32.ofInt 1)) (lv' := [(2, .int (y_6 + Int32.ofInt 1)), (0, .ref rd), (1, .ref wd)]) hx hb dX6_wordIs_51 hl (k := 0) rfl rfl (by decide) rfl (fun ls hl => ?_)
        refine lv_goto (tgt := 20) hx hb dX6_wordIs_54 (by decide) ?_
        exact ih_20 _ _ _ _ (ty_inc (cm_lt hc_10)) ⟨ws_17, (y_6 + Int32.ofInt 1), rfl, hT, hP, hD, hS, (lv_sub hl [0, 1, 2] rfl), (ty_nn hex_20 (cm_lt hc_10))⟩
      · refine lv_iconst (v := 0) hx hb dX6_wordIs_49 (by decide) ?_
        exact W.zret (v := 0) hx hb hr (by decide) (fun t ht hW => ⟨⟨0, ws_17, rfl, hT, by rw [ht]; exact hP, by rw [hAe]; exact hD⟩, hS.F ht⟩) hS.2.2 dX6_wordIs_50
  · refine lv_iconst (v := 0) hx hb dX6_wordIs_16 (by decide) ?_
    exact W.zret (v := 0) hx hb hr (by decide) (fun t ht hW => ⟨⟨0, ws_4, rfl, hT, by rw [ht]; exact hP, by rw [hAe]; exact hD⟩, hS.F ht⟩) hS.2.2 dX6_wordIs_17
theorem dX6_readSetting_0 : decode cX6_readSetting 0 = .ok (.aload_n 0, 1) := by decide +kernel
theorem dX6_readSetting_1 : decode cX6_readSetting 1 = .ok (.ldc 72, 2) := by decide +kernel
theorem dX6_readSetting_3 : decode cX6_readSetting 3 = .ok (.invokevirtual 28, 3) := by decide +kernel
theorem dX6_readSetting_6 : decode cX6_readSetting 6 = .ok (.ifCond .eq 20, 3) := by decide +kernel
theorem dX6_readSetting_9 : decode cX6_readSetting 9 = .ok (.aload_n 1, 1) := by decide +kernel
theorem dX6_readSetting_10 : decode cX6_readSetting 10 = .ok (.aload_n 0, 1) := by decide +kernel
theorem dX6_readSetting_11 : decode cX6_readSetting 11 = .ok (.sipush 500, 3) := by decide +kernel
theorem dX6_readSetting_14 : decode cX6_readSetting 14 = .ok (.sipush 1000, 3) := by decide +kernel
theorem dX6_readSetting_17 : decode cX6_readSetting 17 = .ok (.invokevirtual 74, 3) := by decide +kernel
theorem dX6_readSetting_20 : decode cX6_readSetting 20 = .ok (.putfield 78, 3) := by decide +kernel
theorem dX6_readSetting_23 : decode cX6_readSetting 23 = .ok (.goto 230, 3) := by decide +kernel
theorem dX6_readSetting_26 : decode cX6_readSetting 26 = .ok (.aload_n 0, 1) := by decide +kernel
theorem dX6_readSetting_27 : decode cX6_readSetting 27 = .ok (.ldc 82, 2) := by decide +kernel
theorem dX6_readSetting_29 : decode cX6_readSetting 29 = .ok (.invokevirtual 28, 3) := by decide +kernel
theorem dX6_readSetting_32 : decode cX6_readSetting 32 = .ok (.ifCond .eq 18, 3) := by decide +kernel
theorem dX6_readSetting_35 : decode cX6_readSetting 35 = .ok (.aload_n 1, 1) := by decide +kernel
theorem dX6_readSetting_36 : decode cX6_readSetting 36 = .ok (.aload_n 0, 1) := by decide +kernel
theorem dX6_readSetting_37 : decode cX6_readSetting 37 = .ok (.bipush 100, 2) := by decide +kernel
theorem dX6_readSetting_39 : decode cX6_readSetting 39 = .ok (.ldc 84, 2) := by decide +kernel
theorem dX6_readSetting_41 : decode cX6_readSetting 41 = .ok (.invokevirtual 74, 3) := by decide +kernel
theorem dX6_readSetting_44 : decode cX6_readSetting 44 = .ok (.putfield 85, 3) := by decide +kernel
theorem dX6_readSetting_47 : decode cX6_readSetting 47 = .ok (.goto 206, 3) := by decide +kernel
theorem dX6_readSetting_50 : decode cX6_readSetting 50 = .ok (.aload_n 0, 1) := by decide +kernel
theorem dX6_readSetting_51 : decode cX6_readSetting 51 = .ok (.ldc 87, 2) := by decide +kernel
theorem dX6_readSetting_53 : decode cX6_readSetting 53 = .ok (.invokevirtual 28, 3) := by decide +kernel
theorem dX6_readSetting_56 : decode cX6_readSetting 56 = .ok (.ifCond .eq 36, 3) := by decide +kernel
theorem dX6_readSetting_59 : decode cX6_readSetting 59 = .ok (.aload_n 1, 1) := by decide +kernel
theorem dX6_readSetting_60 : decode cX6_readSetting 60 = .ok (.aload_n 0, 1) := by decide +kernel
theorem dX6_readSetting_61 : decode cX6_readSetting 61 = .ok (.iconst 1, 1) := by decide +kernel
theorem dX6_readSetting_62 : decode cX6_readSetting 62 = .ok (.sipush 10000, 3) := by decide +kernel
theorem dX6_readSetting_65 : decode cX6_readSetting 65 = .ok (.invokevirtual 74, 3) := by decide +kernel
theorem dX6_readSetting_68 : decode cX6_readSetting 68 = .ok (.putfield 89, 3) := by decide +kernel
theorem dX6_readSetting_71 : decode cX6_readSetting 71 = .ok (.aload_n 1, 1) := by decide +kernel
theorem dX6_readSetting_72 : decode cX6_readSetting 72 = .ok (.aload_n 0, 1) := by decide +kernel
theorem dX6_readSetting_73 : decode cX6_readSetting 73 = .ok (.iconst 0, 1) := by decide +kernel
theorem dX6_readSetting_74 : decode cX6_readSetting 74 = .ok (.bipush 100, 2) := by decide +kernel
theorem dX6_readSetting_76 : decode cX6_readSetting 76 = .ok (.aload_n 1, 1) := by decide +kernel
theorem dX6_readSetting_77 : decode cX6_readSetting 77 = .ok (.getfield 89, 3) := by decide +kernel
theorem dX6_readSetting_80 : decode cX6_readSetting 80 = .ok (.invokestatic 91, 3) := by decide +kernel
theorem dX6_readSetting_83 : decode cX6_readSetting 83 = .ok (.invokevirtual 74, 3) := by decide +kernel
theorem dX6_readSetting_86 : decode cX6_readSetting 86 = .ok (.putfield 96, 3) := by decide +kernel
theorem dX6_readSetting_89 : decode cX6_readSetting 89 = .ok (.goto 164, 3) := by decide +kernel
theorem dX6_readSetting_92 : decode cX6_readSetting 92 = .ok (.aload_n 0, 1) := by decide +kernel
theorem dX6_readSetting_93 : decode cX6_readSetting 93 = .ok (.ldc 99, 2) := by decide +kernel
theorem dX6_readSetting_95 : decode cX6_readSetting 95 = .ok (.invokevirtual 28, 3) := by decide +kernel
theorem dX6_readSetting_98 : decode cX6_readSetting 98 = .ok (.ifCond .eq 47, 3) := by decide +kernel
theorem dX6_readSetting_101 : decode cX6_readSetting 101 = .ok (.aload_n 1, 1) := by decide +kernel
theorem dX6_readSetting_102 : decode cX6_readSetting 102 = .ok (.aload_n 0, 1) := by decide +kernel
theorem dX6_readSetting_103 : decode cX6_readSetting 103 = .ok (.iconst 0, 1) := by decide +kernel
theorem dX6_readSetting_104 : decode cX6_readSetting 104 = .ok (.sipush 5000, 3) := by decide +kernel
theorem dX6_readSetting_107 : decode cX6_readSetting 107 = .ok (.invokevirtual 74, 3) := by decide +kernel
theorem dX6_readSetting_110 : decode cX6_readSetting 110 = .ok (.putfield 101, 3) := by decide +kernel
theorem dX6_readSetting_113 : decode cX6_readSetting 113 = .ok (.aload_n 1, 1) := by decide +kernel
theorem dX6_readSetting_114 : decode cX6_readSetting 114 = .ok (.aload_n 0, 1) := by decide +kernel
theorem dX6_readSetting_115 : decode cX6_readSetting 115 = .ok (.aload_n 1, 1) := by decide +kernel
theorem dX6_readSetting_116 : decode cX6_readSetting 116 = .ok (.getfield 101, 3) := by decide +kernel
theorem dX6_readSetting_119 : decode cX6_readSetting 119 = .ok (.sipush 5000, 3) := by decide +kernel
theorem dX6_readSetting_122 : decode cX6_readSetting 122 = .ok (.invokevirtual 74, 3) := by decide +kernel
theorem dX6_readSetting_125 : decode cX6_readSetting 125 = .ok (.putfield 104, 3) := by decide +kernel
theorem dX6_readSetting_128 : decode cX6_readSetting 128 = .ok (.aload_n 1, 1) := by decide +kernel
theorem dX6_readSetting_129 : decode cX6_readSetting 129 = .ok (.aload_n 0, 1) := by decide +kernel
theorem dX6_readSetting_130 : decode cX6_readSetting 130 = .ok (.sipush 250, 3) := by decide +kernel
theorem dX6_readSetting_133 : decode cX6_readSetting 133 = .ok (.sipush 1000, 3) := by decide +kernel
theorem dX6_readSetting_136 : decode cX6_readSetting 136 = .ok (.invokevirtual 74, 3) := by decide +kernel
theorem dX6_readSetting_139 : decode cX6_readSetting 139 = .ok (.putfield 107, 3) := by decide +kernel
theorem dX6_readSetting_142 : decode cX6_readSetting 142 = .ok (.goto 111, 3) := by decide +kernel
theorem dX6_readSetting_145 : decode cX6_readSetting 145 = .ok (.aload_n 0, 1) := by decide +kernel
theorem dX6_readSetting_146 : decode cX6_readSetting 146 = .ok (.ldc 110, 2) := by decide +kernel
theorem dX6_readSetting_148 : decode cX6_readSetting 148 = .ok (.invokevirtual 28, 3) := by decide +kernel
theorem dX6_readSetting_151 : decode cX6_readSetting 151 = .ok (.ifCond .eq 18, 3) := by decide +kernel
theorem dX6_readSetting_154 : decode cX6_readSetting 154 = .ok (.aload_n 1, 1) := by decide +kernel
theorem dX6_readSetting_155 : decode cX6_readSetting 155 = .ok (.aload_n 0, 1) := by decide +kernel
theorem dX6_readSetting_156 : decode cX6_readSetting 156 = .ok (.iconst 0, 1) := by decide +kernel
theorem dX6_readSetting_157 : decode cX6_readSetting 157 = .ok (.sipush 500, 3) := by decide +kernel
theorem dX6_readSetting_160 : decode cX6_readSetting 160 = .ok (.invokevirtual 74, 3) := by decide +kernel
theorem dX6_readSetting_163 : decode cX6_readSetting 163 = .ok (.putfield 112, 3) := by decide +kernel
theorem dX6_readSetting_166 : decode cX6_readSetting 166 = .ok (.goto 87, 3) := by decide +kernel
theorem dX6_readSetting_169 : decode cX6_readSetting 169 = .ok (.aload_n 0, 1) := by decide +kernel
theorem dX6_readSetting_170 : decode cX6_readSetting 170 = .ok (.ldc 114, 2) := by decide +kernel
theorem dX6_readSetting_172 : decode cX6_readSetting 172 = .ok (.invokevirtual 28, 3) := by decide +kernel
theorem dX6_readSetting_175 : decode cX6_readSetting 175 = .ok (.ifCond .eq 45, 3) := by decide +kernel
theorem dX6_readSetting_178 : decode cX6_readSetting 178 = .ok (.aload_n 1, 1) := by decide +kernel
theorem dX6_readSetting_179 : decode cX6_readSetting 179 = .ok (.aload_n 0, 1) := by decide +kernel
theorem dX6_readSetting_180 : decode cX6_readSetting 180 = .ok (.iconst 0, 1) := by decide +kernel
theorem dX6_readSetting_181 : decode cX6_readSetting 181 = .ok (.sipush 5000, 3) := by decide +kernel
theorem dX6_readSetting_184 : decode cX6_readSetting 184 = .ok (.invokevirtual 74, 3) := by decide +kernel
theorem dX6_readSetting_187 : decode cX6_readSetting 187 = .ok (.putfield 116, 3) := by decide +kernel
theorem dX6_readSetting_190 : decode cX6_readSetting 190 = .ok (.aload_n 1, 1) := by decide +kernel
theorem dX6_readSetting_191 : decode cX6_readSetting 191 = .ok (.aload_n 0, 1) := by decide +kernel
theorem dX6_readSetting_192 : decode cX6_readSetting 192 = .ok (.aload_n 1, 1) := by decide +kernel
theorem dX6_readSetting_193 : decode cX6_readSetting 193 = .ok (.getfield 116, 3) := by decide +kernel
theorem dX6_readSetting_196 : decode cX6_readSetting 196 = .ok (.sipush 5000, 3) := by decide +kernel
theorem dX6_readSetting_199 : decode cX6_readSetting 199 = .ok (.invokevirtual 74, 3) := by decide +kernel
theorem dX6_readSetting_202 : decode cX6_readSetting 202 = .ok (.putfield 119, 3) := by decide +kernel
theorem dX6_readSetting_205 : decode cX6_readSetting 205 = .ok (.aload_n 1, 1) := by decide +kernel
theorem dX6_readSetting_206 : decode cX6_readSetting 206 = .ok (.aload_n 0, 1) := by decide +kernel
theorem dX6_readSetting_207 : decode cX6_readSetting 207 = .ok (.iconst 0, 1) := by decide +kernel
theorem dX6_readSetting_208 : decode cX6_readSetting 208 = .ok (.sipush 1000, 3) := by decide +kernel
theorem dX6_readSetting_211 : decode cX6_readSetting 211 = .ok (.invokevirtual 74, 3) := by decide +kernel
theorem dX6_readSetting_214 : decode cX6_readSetting 214 = .ok (.putfield 122, 3) := by decide +kernel
theorem dX6_readSetting_217 : decode cX6_readSetting 217 = .ok (.goto 36, 3) := by decide +kernel
theorem dX6_readSetting_220 : decode cX6_readSetting 220 = .ok (.aload_n 0, 1) := by decide +kernel
theorem dX6_readSetting_221 : decode cX6_readSetting 221 = .ok (.ldc 125, 2) := by decide +kernel
theorem dX6_readSetting_223 : decode cX6_readSetting 223 = .ok (.invokevirtual 28, 3) := by decide +kernel
theorem dX6_readSetting_226 : decode cX6_readSetting 226 = .ok (.ifCond .eq 18, 3) := by decide +kernel
theorem dX6_readSetting_229 : decode cX6_readSetting 229 = .ok (.aload_n 1, 1) := by decide +kernel
theorem dX6_readSetting_230 : decode cX6_readSetting 230 = .ok (.aload_n 0, 1) := by decide +kernel
theorem dX6_readSetting_231 : decode cX6_readSetting 231 = .ok (.iconst 0, 1) := by decide +kernel
theorem dX6_readSetting_232 : decode cX6_readSetting 232 = .ok (.sipush 200, 3) := by decide +kernel
theorem dX6_readSetting_235 : decode cX6_readSetting 235 = .ok (.invokevirtual 74, 3) := by decide +kernel
theorem dX6_readSetting_238 : decode cX6_readSetting 238 = .ok (.putfield 127, 3) := by decide +kernel
theorem dX6_readSetting_241 : decode cX6_readSetting 241 = .ok (.goto 12, 3) := by decide +kernel
theorem dX6_readSetting_244 : decode cX6_readSetting 244 = .ok (.aload_n 0, 1) := by decide +kernel
theorem dX6_readSetting_245 : decode cX6_readSetting 245 = .ok (.iconst 1, 1) := by decide +kernel
theorem dX6_readSetting_246 : decode cX6_readSetting 246 = .ok (.aload_n 0, 1) := by decide +kernel
theorem dX6_readSetting_247 : decode cX6_readSetting 247 = .ok (.getfield 130, 3) := by decide +kernel
theorem dX6_readSetting_250 : decode cX6_readSetting 250 = .ok (.invokevirtual 68, 3) := by decide +kernel
theorem dX6_readSetting_253 : decode cX6_readSetting 253 = .ok (.return_, 1) := by decide +kernel
set_option maxRecDepth 100000 in
set_option maxHeartbeats 4000000 in
theorem t_X6_readSetting (l : Launch) (D : va_G) (ct : Nat → ClassId) (S : ty_S) (ws : va_W) (rd : Nat) (bt : Nat) (tg : Nat) (nb : Nat) (ln : Int32) (pl : Int32) (wst : Int32) (er : Int32) (ep : Int32) (p1 : Nat) (sz : Nat) (hT : ty_W ct S ws) (h_bt : S bt = some (.inr (0, nb))) (h_tg : S tg = some (.inl 9)) (h_p1 : S p1 = some (.inl 7)) : Met l yX6_readSetting (ws_ yX6_readSetting cX6_readSetting 2 none) ({ frames := 5, cells := 0, slots := 0, locals := 107 } : Room) (va_Pc [.ref rd, .ref p1] (cmP D ct sz ([(rd, .inr (6, [.ref bt, .int ln, .ref tg, .int pl, .int wst, .int er, .int ep]))] ++ ws))) (va_Qv (fun (u : va_W × Int32 × Int32 × Int32 × Int32) => match u with | (u9, pl1, ws1, er1, ep1) => ty_W ct S u9) (cmB D ([(rd, .inr (6, [.ref bt, .int ln, .ref tg, .int pl, .int wst, .int er, .int ep]))] ++ ws) sz (fun (u : va_W × Int32 × Int32 × Int32 × Int32) => match u with | (u9, pl1, ws1, er1, ep1) => ([(rd, .inr (6, [.ref bt, .int ln, .ref tg, .int pl1, .int ws1, .int er1, .int ep1]))] ++ u9))) (va_A ([(rd, .inr (6, [.ref bt, .int ln, .ref tg, .int pl, .int wst, .int er, .int ep]))] ++ ws) sz)) 0 0 (va_A ([(rd, .inr (6, [.ref bt, .int ln, .ref tg, .int pl, .int wst, .int er, .int ep]))] ++ ws) sz) := by
  refine Met.ofW (cc := cX6_readSetting) (maxL := 2) (ret := none) (by decide) rfl ?_
  intro p e s m args below meth c s₁ B hml hv
  obtain ⟨rfl, hsz, hP, hK, hD0, hX⟩ := hv
  have hx := B.exec
  have hb := B.bytes
  have hr := B.returns
  have hts := ws_all (atoms_spec (ws := ws_ yX6_readSetting cX6_readSetting 2 none) B.pre)
  have hown : s.vm.findClass RX6 = some m.cls := findClass_of_methodNamed B.named
  have hlocks := B.notSynchronized
  subst hsz
  have hD := hD0.self (sz := s.heap.size)
  generalize hAe : va_A ([(rd, .inr (6, [.ref bt, .int ln, .ref tg, .int pl, .int wst, .int er, .int ep]))] ++ ws) s.heap.size = A at hD hX ⊢
  have hA : ∀ q : Nat, s.heap.size ≤ q → A q := fun q h => by rw [← hAe]; exact Or.inr h
  have hS : va_S A s.heap s.heap [] := va_S.rf
  have hl := lv_entry ([.ref rd, .ref p1]) (n := 2) (Nat.le_of_ble_eq_true rfl)
  rw [lg_entry_eq]
  generalize (lg_sl ([.ref rd, .ref p1]) ++ List.replicate (2 - (lg_sl ([.ref rd, .ref p1])).length) Slot.unset).toArray = ls at hl ⊢
  have hl : lv_has ls 2 [(0, .ref rd), (1, .ref p1)] := hl
  refine lv_aload_n hx hb dX6_readSetting_0 rfl (lv_at hl 0 rfl) ?_
  obtain ⟨sa_1, sv_2, hsr_3, hss_4⟩ := hX.2.2.2.1 ("CellCycler$Reader", 72, "efficiency", [101, 102, 102, 105, 99, 105, 101, 110, 99, 121]) (by decide +kernel)
  refine va_ldcS hx hb hown hsr_3 dX6_readSetting_1 ?_
  refine ty_ki (wr := []) (wc := ([(rd, .inr (6, [.ref bt, .int ln, .ref tg, .int pl, .int wst, .int er, .int ep]))] ++ ws)) (va_runV (As := [.ref sa_1]) (rest := []) ⟨hx, hb, hml, hown, hts⟩ (t_X6_wordIs l D ct S ws rd bt tg nb ln pl wst er ep sa_1 ("CellCycler$Reader", 72, "efficiency", [101, 102, 102, 105, 99, 105, 101, 110, 99, 121]) _ hT h_bt h_tg (by decide +kernel)) (cm_V 1 hts kc_X6_wordIs ki_RX6 kl_RX6_28 kv_X6_wordIs kx_X6_wordIs kd_X6_wordIs ⟨Nat.le_of_ble_eq_true rfl, Nat.le_of_ble_eq_true rfl⟩) (cm_preVs (ty_preE (wr := []) (wc := ([(rd, .inr (6, [.ref bt, .int ln, .ref tg, .int pl, .int wst, .int er, .int ep]))] ++ ws)) (ci := 6) (q0 := 0) hP hK hD hS hA hX rfl rfl) hsr_3) rfl rfl hl.1 rfl (lv_room (Nat.le_of_ble_eq_true rfl)) dX6_readSetting_3 ⟨Nat.le_of_ble_eq_true rfl, Nat.le_of_ble_eq_true rfl⟩) hP hD hS hA (fun r_5 u H locs hw_6 hP hD hS => ?_)
  obtain ⟨ws_7, rfl⟩ : ∃ z, z = u := ⟨_, rfl⟩
  have hT := hw_6
  have hP : va_P D vwCl ([(rd, .inr (6, [.ref bt, .int ln, .ref tg, .int pl, .int wst, .int er, .int ep]))] ++ ws_7) H := hP
  have hD : va_D A ([(rd, .inr (6, [.ref bt, .int ln, .ref tg, .int pl, .int wst, .int er, .int ep]))] ++ ws_7) := hD
  refine lv_if_eq (tgt := 26) hx hb dX6_readSetting_6 (by decide) (fun hc_8 => ?_) (fun hc_8 => ?_)
  · refine lv_aload_n hx hb dX6_readSetting_26 rfl (lv_at hl 0 rfl) ?_
    obtain ⟨sa_9, sv_10, hsr_11, hss_12⟩ := hX.2.2.2.1 ("CellCycler$Reader", 82, "fade", [102, 97, 100, 101]) (by decide +kernel)
    refine va_ldcS hx hb hown hsr_11 dX6_readSetting_27 ?_
    refine ty_ki (wr := []) (wc := ([(rd, .inr (6, [.ref bt, .int ln, .ref tg, .int pl, .int wst, .int er, .int ep]))] ++ ws_7)) (va_runV (As := [.ref sa_9]) (rest := []) ⟨hx, hb, hml, hown, hts⟩ (t_X6_wordIs l D ct S ws_7 rd bt tg nb ln pl wst er ep sa_9 ("CellCycler$Reader", 82, "fade", [102, 97, 100, 101]) _ hT h_bt h_tg (by decide +kernel)) (cm_V 1 hts kc_X6_wordIs ki_RX6 kl_RX6_28 kv_X6_wordIs kx_X6_wordIs kd_X6_wordIs ⟨Nat.le_of_ble_eq_true rfl, Nat.le_of_ble_eq_true rfl⟩) (cm_preVs (ty_preE (wr := []) (wc := ([(rd, .inr (6, [.ref bt, .int ln, .ref tg, .int pl, .int wst, .int er, .int ep]))] ++ ws_7)) (ci := 6) (q0 := 0) hP hK hD hS hA hX rfl rfl) hsr_11) rfl rfl hl.1 rfl (lv_room (Nat.le_of_ble_eq_true rfl)) dX6_readSetting_29 ⟨Nat.le_of_ble_eq_true rfl, Nat.le_of_ble_eq_true rfl⟩) hP hD hS hA (fun r_13 u H locs hw_14 hP hD hS => ?_)
    obtain ⟨ws_15, rfl⟩ : ∃ z, z = u := ⟨_, rfl⟩
    have hT := hw_14
    have hP : va_P D vwCl ([(rd, .inr (6, [.ref bt, .int ln, .ref tg, .int pl, .int wst, .int er, .int ep]))] ++ ws_15) H := hP
    have hD : va_D A ([(rd, .inr (6, [.ref bt, .int ln, .ref tg, .int pl, .int wst, .int er, .int ep]))] ++ ws_15) := hD
    refine lv_if_eq (tgt := 50) hx hb dX6_readSetting_32 (by decide) (fun hc_16 => ?_) (fun hc_16 => ?_)
    · refine lv_aload_n hx hb dX6_readSetting_50 rfl (lv_at hl 0 rfl) ?_
      obtain ⟨sa_17, sv_18, hsr_19, hss_20⟩ := hX.2.2.2.1 ("CellCycler$Reader", 87, "heat", [104, 101, 97, 116]) (by decide +kernel)
      refine va_ldcS hx hb hown hsr_19 dX6_readSetting_51 ?_
      refine ty_ki (wr := []) (wc := ([(rd, .inr (6, [.ref bt, .int ln, .ref tg, .int pl, .int wst, .int er, .int ep]))] ++ ws_15)) (va_runV (As := [.ref sa_17]) (rest := []) ⟨hx, hb, hml, hown, hts⟩ (t_X6_wordIs l D ct S ws_15 rd bt tg nb ln pl wst er ep sa_17 ("CellCycler$Reader", 87, "heat", [104, 101, 97, 116]) _ hT h_bt h_tg (by decide +kernel)) (cm_V 1 hts kc_X6_wordIs ki_RX6 kl_RX6_28 kv_X6_wordIs kx_X6_wordIs kd_X6_wordIs ⟨Nat.le_of_ble_eq_true rfl, Nat.le_of_ble_eq_true rfl⟩) (cm_preVs (ty_preE (wr := []) (wc := ([(rd, .inr (6, [.ref bt, .int ln, .ref tg, .int pl, .int wst, .int er, .int ep]))] ++ ws_15)) (ci := 6) (q0 := 0) hP hK hD hS hA hX rfl rfl) hsr_19) rfl rfl hl.1 rfl (lv_room (Nat.le_of_ble_eq_true rfl)) dX6_readSetting_53 ⟨Nat.le_of_ble_eq_true rfl, Nat.le_of_ble_eq_true rfl⟩) hP hD hS hA (fun r_21 u H locs hw_22 hP hD hS => ?_)
      obtain ⟨ws_23, rfl⟩ : ∃ z, z = u := ⟨_, rfl⟩
      have hT := hw_22
      have hP : va_P D vwCl ([(rd, .inr (6, [.ref bt, .int ln, .ref tg, .int pl, .int wst, .int er, .int ep]))] ++ ws_23) H := hP
      have hD : va_D A ([(rd, .inr (6, [.ref bt, .int ln, .ref tg, .int pl, .int wst, .int er, .int ep]))] ++ ws_23) := hD
      refine lv_if_eq (tgt := 92) hx hb dX6_readSetting_56 (by decide) (fun hc_24 => ?_) (fun hc_24 => ?_)
      · refine lv_aload_n hx hb dX6_readSetting_92 rfl (lv_at hl 0 rfl) ?_
        obtain ⟨sa_25, sv_26, hsr_27, hss_28⟩ := hX.2.2.2.1 ("CellCycler$Reader", 99, "limits", [108, 105, 109, 105, 116, 115]) (by decide +kernel)
        refine va_ldcS hx hb hown hsr_27 dX6_readSetting_93 ?_
        refine ty_ki (wr := []) (wc := ([(rd, .inr (6, [.ref bt, .int ln, .ref tg, .int pl, .int wst, .int er, .int ep]))] ++ ws_23)) (va_runV (As := [.ref sa_25]) (rest := []) ⟨hx, hb, hml, hown, hts⟩ (t_X6_wordIs l D ct S ws_23 rd bt tg nb ln pl wst er ep sa_25 ("CellCycler$Reader", 99, "limits", [108, 105, 109, 105, 116, 115]) _ hT h_bt h_tg (by decide +kernel)) (cm_V 1 hts kc_X6_wordIs ki_RX6 kl_RX6_28 kv_X6_wordIs kx_X6_wordIs kd_X6_wordIs ⟨Nat.le_of_ble_eq_true rfl, Nat.le_of_ble_eq_true rfl⟩) (cm_preVs (ty_preE (wr := []) (wc := ([(rd, .inr (6, [.ref bt, .int ln, .ref tg, .int pl, .int wst, .int er, .int ep]))] ++ ws_23)) (ci := 6) (q0 := 0) hP hK hD hS hA hX rfl rfl) hsr_27) rfl rfl hl.1 rfl (lv_room (Nat.le_of_ble_eq_true rfl)) dX6_readSetting_95 ⟨Nat.le_of_ble_eq_true rfl, Nat.le_of_ble_eq_true rfl⟩) hP hD hS hA (fun r_29 u H locs hw_30 hP hD hS => ?_)
        obtain ⟨ws_31, rfl⟩ : ∃ z, z = u := ⟨_, rfl⟩
        have hT := hw_30
        have hP : va_P D vwCl ([(rd, .inr (6, [.ref bt, .int ln, .ref tg, .int pl, .int wst, .int er, .int ep]))] ++ ws_31) H := hP
        have hD : va_D A ([(rd, .inr (6, [.ref bt, .int ln, .ref tg, .int pl, .int wst, .int er, .int ep]))] ++ ws_31) := hD
        refine lv_if_eq (tgt := 145) hx hb dX6_readSetting_98 (by decide) (fun hc_32 => ?_) (fun hc_32 => ?_)
        · refine lv_aload_n hx hb dX6_readSetting_145 rfl (lv_at hl 0 rfl) ?_
          obtain ⟨sa_33, sv_34, hsr_35, hss_36⟩ := hX.2.2.2.1 ("CellCycler$Reader", 110, "ambient", [97, 109, 98, 105, 101, 110, 116]) (by decide +kernel)
          refine va_ldcS hx hb hown hsr_35 dX6_readSetting_146 ?_
          refine ty_ki (wr := []) (wc := ([(rd, .inr (6, [.ref bt, .int ln, .ref tg, .int pl, .int wst, .int er, .int ep]))] ++ ws_31)) (va_runV (As := [.ref sa_33]) (rest := []) ⟨hx, hb, hml, hown, hts⟩ (t_X6_wordIs l D ct S ws_31 rd bt tg nb ln pl wst er ep sa_33 ("CellCycler$Reader", 110, "ambient", [97, 109, 98, 105, 101, 110, 116]) _ hT h_bt h_tg (by decide +kernel)) (cm_V 1 hts kc_X6_wordIs ki_RX6 kl_RX6_28 kv_X6_wordIs kx_X6_wordIs kd_X6_wordIs ⟨Nat.le_of_ble_eq_true rfl, Nat.le_of_ble_eq_true rfl⟩) (cm_preVs (ty_preE (wr := []) (wc := ([(rd, .inr (6, [.ref bt, .int ln, .ref tg, .int pl, .int wst, .int er, .int ep]))] ++ ws_31)) (ci := 6) (q0 := 0) hP hK hD hS hA hX rfl rfl) hsr_35) rfl rfl hl.1 rfl (lv_room (Nat.le_of_ble_eq_true rfl)) dX6_readSetting_148 ⟨Nat.le_of_ble_eq_true rfl, Nat.le_of_ble_eq_true rfl⟩) hP hD hS hA (fun r_37 u H locs hw_38 hP hD hS => ?_)
          obtain ⟨ws_39, rfl⟩ : ∃ z, z = u := ⟨_, rfl⟩
          have hT := hw_38
          have hP : va_P D vwCl ([(rd, .inr (6, [.ref bt, .int ln, .ref tg, .int pl, .int wst, .int er, .int ep]))] ++ ws_39) H := hP
          have hD : va_D A ([(rd, .inr (6, [.ref bt, .int ln, .ref tg, .int pl, .int wst, .int er, .int ep]))] ++ ws_39) := hD
          refine lv_if_eq (tgt := 169) hx hb dX6_readSetting_151 (by decide) (fun hc_40 => ?_) (fun hc_40 => ?_)
          · refine lv_aload_n hx hb dX6_readSetting_169 rfl (lv_at hl 0 rfl) ?_
            obtain ⟨sa_41, sv_42, hsr_43, hss_44⟩ := hX.2.2.2.1 ("CellCycler$Reader", 114, "warn", [119, 97, 114, 110]) (by decide +kernel)
            refine va_ldcS hx hb hown hsr_43 dX6_readSetting_170 ?_
            refine ty_ki (wr := []) (wc := ([(rd, .inr (6, [.ref bt, .int ln, .ref tg, .int pl, .int wst, .int er, .int ep]))] ++ ws_39)) (va_runV (As := [.ref sa_41]) (rest := []) ⟨hx, hb, hml, hown, hts⟩ (t_X6_wordIs l D ct S ws_39 rd bt tg nb ln pl wst er ep sa_41 ("CellCycler$Reader", 114, "warn", [119, 97, 114, 110]) _ hT h_bt h_tg (by decide +kernel)) (cm_V 1 hts kc_X6_wordIs ki_RX6 kl_RX6_28 kv_X6_wordIs kx_X6_wordIs kd_X6_wordIs ⟨Nat.le_of_ble_eq_true rfl, Nat.le_of_ble_eq_true rfl⟩) (cm_preVs (ty_preE (wr := []) (wc := ([(rd, .inr (6, [.ref bt, .int ln, .ref tg, .int pl, .int wst, .int er, .int ep]))] ++ ws_39)) (ci := 6) (q0 := 0) hP hK hD hS hA hX rfl rfl) hsr_43) rfl rfl hl.1 rfl (lv_room (Nat.le_of_ble_eq_true rfl)) dX6_readSetting_172 ⟨Nat.le_of_ble_eq_true rfl, Nat.le_of_ble_eq_true rfl⟩) hP hD hS hA (fun r_45 u H locs hw_46 hP hD hS => ?_)
            obtain ⟨ws_47, rfl⟩ : ∃ z, z = u := ⟨_, rfl⟩
            have hT := hw_46
            have hP : va_P D vwCl ([(rd, .inr (6, [.ref bt, .int ln, .ref tg, .int pl, .int wst, .int er, .int ep]))] ++ ws_47) H := hP
            have hD : va_D A ([(rd, .inr (6, [.ref bt, .int ln, .ref tg, .int pl, .int wst, .int er, .int ep]))] ++ ws_47) := hD
            refine lv_if_eq (tgt := 220) hx hb dX6_readSetting_175 (by decide) (fun hc_48 => ?_) (fun hc_48 => ?_)
            · refine lv_aload_n hx hb dX6_readSetting_220 rfl (lv_at hl 0 rfl) ?_
              obtain ⟨sa_49, sv_50, hsr_51, hss_52⟩ := hX.2.2.2.1 ("CellCycler$Reader", 125, "derate", [100, 101, 114, 97, 116, 101]) (by decide +kernel)
              refine va_ldcS hx hb hown hsr_51 dX6_readSetting_221 ?_
              refine ty_ki (wr := []) (wc := ([(rd, .inr (6, [.ref bt, .int ln, .ref tg, .int pl, .int wst, .int er, .int ep]))] ++ ws_47)) (va_runV (As := [.ref sa_49]) (rest := []) ⟨hx, hb, hml, hown, hts⟩ (t_X6_wordIs l D ct S ws_47 rd bt tg nb ln pl wst er ep sa_49 ("CellCycler$Reader", 125, "derate", [100, 101, 114, 97, 116, 101]) _ hT h_bt h_tg (by decide +kernel)) (cm_V 1 hts kc_X6_wordIs ki_RX6 kl_RX6_28 kv_X6_wordIs kx_X6_wordIs kd_X6_wordIs ⟨Nat.le_of_ble_eq_true rfl, Nat.le_of_ble_eq_true rfl⟩) (cm_preVs (ty_preE (wr := []) (wc := ([(rd, .inr (6, [.ref bt, .int ln, .ref tg, .int pl, .int wst, .int er, .int ep]))] ++ ws_47)) (ci := 6) (q0 := 0) hP hK hD hS hA hX rfl rfl) hsr_51) rfl rfl hl.1 rfl (lv_room (Nat.le_of_ble_eq_true rfl)) dX6_readSetting_223 ⟨Nat.le_of_ble_eq_true rfl, Nat.le_of_ble_eq_true rfl⟩) hP hD hS hA (fun r_53 u H locs hw_54 hP hD hS => ?_)
              obtain ⟨ws_55, rfl⟩ : ∃ z, z = u := ⟨_, rfl⟩
              have hT := hw_54
              have hP : va_P D vwCl ([(rd, .inr (6, [.ref bt, .int ln, .ref tg, .int pl, .int wst, .int er, .int ep]))] ++ ws_55) H := hP
              have hD : va_D A ([(rd, .inr (6, [.ref bt, .int ln, .ref tg, .int pl, .int wst, .int er, .int ep]))] ++ ws_55) := hD
              refine lv_if_eq (tgt := 244) hx hb dX6_readSetting_226 (by decide) (fun hc_56 => ?_) (fun hc_56 => ?_)
              · refine lv_aload_n hx hb dX6_readSetting_244 rfl (lv_at hl 0 rfl) ?_
                refine lv_iconst (v := 1) hx hb dX6_readSetting_245 (by decide) ?_
                refine lv_aload_n hx hb dX6_readSetting_246 rfl (lv_at hl 0 rfl) ?_
                refine va_get (v := .int wst) (D := D) (ci := 6) (C := RX6) (T := TX6) (N := 7) hx hb hts in_X6 hown hK hP 0 rfl rfl 4 (by decide) (hts _ kl_RX6_130) (fun _ h9 => h9) rfl dX6_readSetting_247 ?_
                refine ty_kv (wr := []) (wc := ([(rd, .inr (6, [.ref bt, .int ln, .ref tg, .int pl, .int wst, .int er, .int ep]))] ++ ws_55)) (va_runV (As := [.int 1, .int wst]) (rest := []) ⟨hx, hb, hml, hown, hts⟩ (t_X6_fail l D ct S ws_55 rd bt tg nb ln pl wst er ep (1 : Int32) wst _ hT h_bt h_tg) (cm_V 2 hts kc_X6_fail ki_RX6 kl_RX6_68 kv_X6_fail kx_X6_fail kd_X6_fail ⟨Nat.le_of_ble_eq_true rfl, Nat.le_of_ble_eq_true rfl⟩) (ty_preE (wr := []) (wc := ([(rd, .inr (6, [.ref bt, .int ln, .ref tg, .int pl, .int wst, .int er, .int ep]))] ++ ws_55)) (ci := 6) (q0 := 0) hP hK hD hS hA hX rfl rfl) rfl rfl hl.1 rfl (lv_room (Nat.le_of_ble_eq_true rfl)) dX6_readSetting_250 ⟨Nat.le_of_ble_eq_true rfl, Nat.le_of_ble_eq_true rfl⟩) hP hD hS hA (fun u H locs hw_58 hP hD hS => ?_)
                obtain ⟨ws_59, er1_60, ep1_61⟩ := u
                have hT := hw_58
                have hP : va_P D vwCl ([(rd, .inr (6, [.ref bt, .int ln, .ref tg, .int pl, .int wst, .int er1_60, .int ep1_61]))] ++ ws_59) H := hP
                have hD : va_D A ([(rd, .inr (6, [.ref bt, .int ln, .ref tg, .int pl, .int wst, .int er1_60, .int ep1_61]))] ++ ws_59) := hD
                exact W.vret hx hb hr (fun t ht hW => ⟨⟨(ws_59, pl, wst, er1_60, ep1_61), rfl, hT, by rw [ht]; exact hP, by rw [hAe]; exact hD⟩, hS.F ht⟩) hS.2.2 dX6_readSetting_253
              · refine lv_aload_n hx hb dX6_readSetting_229 rfl (lv_at hl 1 rfl) ?_
                refine lv_aload_n hx hb dX6_readSetting_230 rfl (lv_at hl 0 rfl) ?_
                refine lv_iconst (v := 0) hx hb dX6_readSetting_231 (by decide) ?_
                refine lv_sipush (v := 200) hx hb dX6_readSetting_232 (by decide) ?_
                refine ty_ki (wr := []) (wc := ([(rd, .inr (6, [.ref bt, .int ln, .ref tg, .int pl, .int wst, .int er, .int ep]))] ++ ws_55)) (va_runV (As := [.int 0, .int 200]) (rest := [.ref p1]) ⟨hx, hb, hml, hown, hts⟩ (t_X6_readNumber l D ct S ws_55 rd bt tg nb ln pl wst er ep (0 : Int32) (200 : Int32) _ hT h_bt h_tg) (cm_V 2 hts kc_X6_readNumber ki_RX6 kl_RX6_74 kv_X6_readNumber kx_X6_readNumber kd_X6_readNumber ⟨Nat.le_of_ble_eq_true rfl, Nat.le_of_ble_eq_true rfl⟩) (ty_preE (wr := []) (wc := ([(rd, .inr (6, [.ref bt, .int ln, .ref tg, .int pl, .int wst, .int er, .int ep]))] ++ ws_55)) (ci := 6) (q0 := 0) hP hK hD hS hA hX rfl rfl) rfl rfl hl.1 rfl (lv_room (Nat.le_of_ble_eq_true rfl)) dX6_readSetting_235 ⟨Nat.le_of_ble_eq_true rfl, Nat.le_of_ble_eq_true rfl⟩) hP hD hS hA (fun r_62 u H locs hw_63 hP hD hS => ?_)
                obtain ⟨ws_64, pl1_65, ws1_66, er1_67, ep1_68⟩ := u
                have hT := hw_63
                have hP : va_P D vwCl ([(rd, .inr (6, [.ref bt, .int ln, .ref tg, .int pl1_65, .int ws1_66, .int er1_67, .int ep1_68]))] ++ ws_64) H := hP
                have hD : va_D A ([(rd, .inr (6, [.ref bt, .int ln, .ref tg, .int pl1_65, .int ws1_66, .int er1_67, .int ep1_68]))] ++ ws_64) := hD
                refine ty_putN (v := .int r_62) (ty := .int) (E := [(rd, .inr (6, [.ref bt, .int ln, .ref tg, .int pl1_65, .int ws1_66, .int er1_67, .int ep1_68]))]) (ws := ws_64) (D := D) (ci := 7) (C := RX7) (T := TX7) (N := 12) hx hb hts in_X7 tyX7 tyX7_ok nmX7 hown hK hP hD hS hT h_p1 rfl 11 (by decide) (hts _ kl_RX6_127) (fun _ h9 => h9) rfl (by decide +kernel) rfl rfl rfl ⟨_, rfl⟩ dX6_readSetting_238 (fun ws_69 H locs hT hP hD hS => ?_)
                refine lv_goto (tgt := 253) hx hb dX6_readSetting_241 (by decide) ?_
                exact W.vret hx hb hr (fun t ht hW => ⟨⟨(ws_69, pl1_65, ws1_66, er1_67, ep1_68), rfl, hT, by rw [ht]; exact hP, by rw [hAe]; exact hD⟩, hS.F ht⟩) hS.2.2 dX6_readSetting_253
            · refine lv_aload_n hx hb dX6_readSetting_178 rfl (lv_at hl 1 rfl) ?_
              refine lv_aload_n hx hb dX6_readSetting_179 rfl (lv_at hl 0 rfl) ?_
              refine lv_iconst (v := 0) hx hb dX6_readSetting_180 (by decide) ?_
              refine lv_sipush (v := 5000) hx hb dX6_readSetting_181 (by decide) ?_
              refine ty_ki (wr := []) (wc := ([(rd, .inr (6, [.ref bt, .int ln, .ref tg, .int pl, .int wst, .int er, .int ep]))] ++ ws_47)) (va_runV (As := [.int 0, .int 5000]) (rest := [.ref p1]) ⟨hx, hb, hml, hown, hts⟩ (t_X6_readNumber l D ct S ws_47 rd bt tg nb ln pl wst er ep (0 : Int32) (5000 : Int32) _ hT h_bt h_tg) (cm_V 2 hts kc_X6_readNumber ki_RX6 kl_RX6_74 kv_X6_readNumber kx_X6_readNumber kd_X6_readNumber ⟨Nat.le_of_ble_eq_true rfl, Nat.le_of_ble_eq_true rfl⟩) (ty_preE (wr := []) (wc := ([(rd, .inr (6, [.ref bt, .int ln, .ref tg, .int pl, .int wst, .int er, .int ep]))] ++ ws_47)) (ci := 6) (q0 := 0) hP hK hD hS hA hX rfl rfl) rfl rfl hl.1 rfl (lv_room (Nat.le_of_ble_eq_true rfl)) dX6_readSetting_184 ⟨Nat.le_of_ble_eq_true rfl, Nat.le_of_ble_eq_true rfl⟩) hP hD hS hA (fun r_70 u H locs hw_71 hP hD hS => ?_)
              obtain ⟨ws_72, pl1_73, ws1_74, er1_75, ep1_76⟩ := u
              have hT := hw_71
              have hP : va_P D vwCl ([(rd, .inr (6, [.ref bt, .int ln, .ref tg, .int pl1_73, .int ws1_74, .int er1_75, .int ep1_76]))] ++ ws_72) H := hP
              have hD : va_D A ([(rd, .inr (6, [.ref bt, .int ln, .ref tg, .int pl1_73, .int ws1_74, .int er1_75, .int ep1_76]))] ++ ws_72) := hD
              refine ty_putN (v := .int r_70) (ty := .int) (E := [(rd, .inr (6, [.ref bt, .int ln, .ref tg, .int pl1_73, .int ws1_74, .int er1_75, .int ep1_76]))]) (ws := ws_72) (D := D) (ci := 7) (C := RX7) (T := TX7) (N := 12) hx hb hts in_X7 tyX7 tyX7_ok nmX7 hown hK hP hD hS hT h_p1 rfl 8 (by decide) (hts _ kl_RX6_116) (fun _ h9 => h9) rfl (by decide +kernel) rfl rfl rfl ⟨_, rfl⟩ dX6_readSetting_187 (fun ws_77 H locs hT hP hD hS => ?_)
              refine lv_aload_n hx hb dX6_readSetting_190 rfl (lv_at hl 1 rfl) ?_
              refine lv_aload_n hx hb dX6_readSetting_191 rfl (lv_at hl 0 rfl) ?_
              refine lv_aload_n hx hb dX6_readSetting_192 rfl (lv_at hl 1 rfl) ?_
              refine ty_getN (E := [(rd, .inr (6, [.ref bt, .int ln, .ref tg, .int pl1_73, .int ws1_74, .int er1_75, .int ep1_76]))]) (ws := ws_77) (D := D) (ci := 7) (C := RX7) (T := TX7) (N := 12) hx hb hts in_X7 hown hK hP hT h_p1 rfl 8 (by decide) (hts _ kl_RX6_116) (fun _ h9 => h9) rfl dX6_readSetting_193 (fun _ hv_78 hf_79 => ?_)
              obtain ⟨x_80, rfl⟩ := hv_78
              refine lv_sipush (v := 5000) hx hb dX6_readSetting_196 (by decide) ?_
              refine ty_ki (wr := []) (wc := ([(rd, .inr (6, [.ref bt, .int ln, .ref tg, .int pl1_73, .int ws1_74, .int er1_75, .int ep1_76]))] ++ ws_77)) (va_runV (As := [.int x_80, .int 5000]) (rest := [.ref p1]) ⟨hx, hb, hml, hown, hts⟩ (t_X6_readNumber l D ct S ws_77 rd bt tg nb ln pl1_73 ws1_74 er1_75 ep1_76 x_80 (5000 : Int32) _ hT h_bt h_tg) (cm_V 2 hts kc_X6_readNumber ki_RX6 kl_RX6_74 kv_X6_readNumber kx_X6_readNumber kd_X6_readNumber ⟨Nat.le_of_ble_eq_true rfl, Nat.le_of_ble_eq_true rfl⟩) (ty_preE (wr := []) (wc := ([(rd, .inr (6, [.ref bt, .int ln, .ref tg, .int pl1_73, .int ws1_74, .int er1_75, .int ep1_76]))] ++ ws_77)) (ci := 6) (q0 := 0) hP hK hD hS hA hX rfl rfl) rfl rfl hl.1 rfl (lv_room (Nat.le_of_ble_eq_true rfl)) dX6_readSetting_199 ⟨Nat.le_of_ble_eq_true rfl, Nat.le_of_ble_eq_true rfl⟩) hP hD hS hA (fun r_81 u H locs hw_82 hP hD hS => ?_)
              obtain ⟨ws_83, pl1_84, ws1_85, er1_86, ep1_87⟩ := u
              have hT := hw_82
              have hP : va_P D vwCl ([(rd, .inr (6, [.ref bt, .int ln, .ref tg, .int pl1_84, .int ws1_85, .int er1_86, .int ep1_87]))] ++ ws_83) H := hP
              have hD : va_D A ([(rd, .inr (6, [.ref bt, .int ln, .ref tg, .int pl1_84, .int ws1_85, .int er1_86, .int ep1_87]))] ++ ws_83) := hD
              refine ty_putN (v := .int r_81) (ty := .int) (E := [(rd, .inr (6, [.ref bt, .int ln, .ref tg, .int pl1_84, .int ws1_85, .int er1_86, .int ep1_87]))]) (ws := ws_83) (D := D) (ci := 7) (C := RX7) (T := TX7) (N := 12) hx hb hts in_X7 tyX7 tyX7_ok nmX7 hown hK hP hD hS hT h_p1 rfl 9 (by decide) (hts _ kl_RX6_119) (fun _ h9 => h9) rfl (by decide +kernel) rfl rfl rfl ⟨_, rfl⟩ dX6_readSetting_202 (fun ws_88 H locs hT hP hD hS => ?_)
              refine lv_aload_n hx hb dX6_readSetting_205 rfl (lv_at hl 1 rfl) ?_
              refine lv_aload_n hx hb dX6_readSetting_206 rfl (lv_at hl 0 rfl) ?_
              refine lv_iconst (v := 0) hx hb dX6_readSetting_207 (by decide) ?_
              refine lv_sipush (v := 1000) hx hb dX6_readSetting_208 (by decide) ?_
              refine ty_ki (wr := []) (wc := ([(rd, .inr (6, [.ref bt, .int ln, .ref tg, .int pl1_84, .int ws1_85, .int er1_86, .int ep1_87]))] ++ ws_88)) (va_runV (As := [.int 0, .int 1000]) (rest := [.ref p1]) ⟨hx, hb, hml, hown, hts⟩ (t_X6_readNumber l D ct S ws_88 rd bt tg nb ln pl1_84 ws1_85 er1_86 ep1_87 (0 : Int32) (1000 : Int32) _ hT h_bt h_tg) (cm_V 2 hts kc_X6_readNumber ki_RX6 kl_RX6_74 kv_X6_readNumber kx_X6_readNumber kd_X6_readNumber ⟨Nat.le_of_ble_eq_true rfl, Nat.le_of_ble_eq_true rfl⟩) (ty_preE (wr := []) (wc := ([(rd, .inr (6, [.ref bt, .int ln, .ref tg, .int pl1_84, .int ws1_85, .int er1_86, .int ep1_87]))] ++ ws_88)) (ci := 6) (q0 := 0) hP hK hD hS hA hX rfl rfl) rfl rfl hl.1 rfl (lv_room (Nat.le_of_ble_eq_true rfl)) dX6_readSetting_211 ⟨Nat.le_of_ble_eq_true rfl, Nat.le_of_ble_eq_true rfl⟩) hP hD hS hA (fun r_89 u H locs hw_90 hP hD hS => ?_)
              obtain ⟨ws_91, pl1_92, ws1_93, er1_94, ep1_95⟩ := u
              have hT := hw_90
              have hP : va_P D vwCl ([(rd, .inr (6, [.ref bt, .int ln, .ref tg, .int pl1_92, .int ws1_93, .int er1_94, .int ep1_95]))] ++ ws_91) H := hP
              have hD : va_D A ([(rd, .inr (6, [.ref bt, .int ln, .ref tg, .int pl1_92, .int ws1_93, .int er1_94, .int ep1_95]))] ++ ws_91) := hD
              refine ty_putN (v := .int r_89) (ty := .int) (E := [(rd, .inr (6, [.ref bt, .int ln, .ref tg, .int pl1_92, .int ws1_93, .int er1_94, .int ep1_95]))]) (ws := ws_91) (D := D) (ci := 7) (C := RX7) (T := TX7) (N := 12) hx hb hts in_X7 tyX7 tyX7_ok nmX7 hown hK hP hD hS hT h_p1 rfl 10 (by decide) (hts _ kl_RX6_122) (fun _ h9 => h9) rfl (by decide +kernel) rfl rfl rfl ⟨_, rfl⟩ dX6_readSetting_214 (fun ws_96 H locs hT hP hD hS => ?_)
              refine lv_goto (tgt := 253) hx hb dX6_readSetting_217 (by decide) ?_
              exact W.vret hx hb hr (fun t ht hW => ⟨⟨(ws_96, pl1_92, ws1_93, er1_94, ep1_95), rfl, hT, by rw [ht]; exact hP, by rw [hAe]; exact hD⟩, hS.F ht⟩) hS.2.2 dX6_readSetting_253
          · refine lv_aload_n hx hb dX6_readSetting_154 rfl (lv_at hl 1 rfl) ?_
            refine lv_aload_n hx hb dX6_readSetting_155 rfl (lv_at hl 0 rfl) ?_
            refine lv_iconst (v := 0) hx hb dX6_readSetting_156 (by decide) ?_
            refine lv_sipush (v := 500) hx hb dX6_readSetting_157 (by decide) ?_
            refine ty_ki (wr := []) (wc := ([(rd, .inr (6, [.ref bt, .int ln, .ref tg, .int pl, .int wst, .int er, .int ep]))] ++ ws_39)) (va_runV (As := [.int 0, .int 500]) (rest := [.ref p1]) ⟨hx, hb, hml, hown, hts⟩ (t_X6_readNumber l D ct S ws_39 rd bt tg nb ln pl wst er ep (0 : Int32) (500 : Int32) _ hT h_bt h_tg) (cm_V 2 hts kc_X6_readNumber ki_RX6 kl_RX6_74 kv_X6_readNumber kx_X6_readNumber kd_X6_readNumber ⟨Nat.le_of_ble_eq_true rfl, Nat.le_of_ble_eq_true rfl⟩) (ty_preE (wr := []) (wc := ([(rd, .inr (6, [.ref bt, .int ln, .ref tg, .int pl, .int wst, .int er, .int ep]))] ++ ws_39)) (ci := 6) (q0 := 0) hP hK hD hS hA hX rfl rfl) rfl rfl hl.1 rfl (lv_room (Nat.le_of_ble_eq_true rfl)) dX6_readSetting_160 ⟨Nat.le_of_ble_eq_true rfl, Nat.le_of_ble_eq_true rfl⟩) hP hD hS hA (fun r_97 u H locs hw_98 hP hD hS => ?_)
            obtain ⟨ws_99, pl1_100, ws1_101, er1_102, ep1_103⟩ := u
            have hT := hw_98
            have hP : va_P D vwCl ([(rd, .inr (6, [.ref bt, .int ln, .ref tg, .int pl1_100, .int ws1_101, .int er1_102, .int ep1_103]))] ++ ws_99) H := hP
            have hD : va_D A ([(rd, .inr (6, [.ref bt, .int ln, .ref tg, .int pl1_100, .int ws1_101, .int er1_102, .int ep1_103]))] ++ ws_99) := hD
            refine ty_putN (v := .int r_97) (ty := .int) (E := [(rd, .inr (6, [.ref bt, .int ln, .ref tg, .int pl1_100, .int ws1_101, .int er1_102, .int ep1_103]))]) (ws := ws_99) (D := D) (ci := 7) (C := RX7) (T := TX7) (N := 12) hx hb hts in_X7 tyX7 tyX7_ok nmX7 hown hK hP hD hS hT h_p1 rfl 7 (by decide) (hts _ kl_RX6_112) (fun _ h9 => h9) rfl (by decide +kernel) rfl rfl rfl ⟨_, rfl⟩ dX6_readSetting_163 (fun ws_104 H locs hT hP hD hS => ?_)
            refine lv_goto (tgt := 253) hx hb dX6_readSetting_166 (by decide) ?_
            exact W.vret hx hb hr (fun t ht hW => ⟨⟨(ws_104, pl1_100, ws1_101, er1_102, ep1_103), rfl, hT, by rw [ht]; exact hP, by rw [hAe]; exact hD⟩, hS.F ht⟩) hS.2.2 dX6_readSetting_253
        · refine lv_aload_n hx hb dX6_readSetting_101 rfl (lv_at hl 1 rfl) ?_
          refine lv_aload_n hx hb dX6_readSetting_102 rfl (lv_at hl 0 rfl) ?_
          refine lv_iconst (v := 0) hx hb dX6_readSetting_103 (by decide) ?_
          refine lv_sipush (v := 5000) hx hb dX6_readSetting_104 (by decide) ?_
          refine ty_ki (wr := []) (wc := ([(rd, .inr (6, [.ref bt, .int ln, .ref tg, .int pl, .int wst, .int er, .int ep]))] ++ ws_31)) (va_runV (As := [.int 0, .int 5000]) (rest := [.ref p1]) ⟨hx, hb, hml, hown, hts⟩ (t_X6_readNumber l D ct S ws_31 rd bt tg nb ln pl wst er ep (0 : Int32) (5000 : Int32) _ hT h_bt h_tg) (cm_V 2 hts kc_X6_readNumber ki_RX6 kl_RX6_74 kv_X6_readNumber kx_X6_readNumber kd_X6_readNumber ⟨Nat.le_of_ble_eq_true rfl, Nat.le_of_ble_eq_true rfl⟩) (ty_preE (wr := []) (wc := ([(rd, .inr (6, [.ref bt, .int ln, .ref tg, .int pl, .int wst, .int er, .int ep]))] ++ ws_31)) (ci := 6) (q0 := 0) hP hK hD hS hA hX rfl rfl) rfl rfl hl.1 rfl (lv_room (Nat.le_of_ble_eq_true rfl)) dX6_readSetting_107 ⟨Nat.le_of_ble_eq_true rfl, Nat.le_of_ble_eq_true rfl⟩) hP hD hS hA (fun r_105 u H locs hw_106 hP hD hS => ?_)
          obtain ⟨ws_107, pl1_108, ws1_109, er1_110, ep1_111⟩ := u
          have hT := hw_106
          have hP : va_P D vwCl ([(rd, .inr (6, [.ref bt, .int ln, .ref tg, .int pl1_108, .int ws1_109, .int er1_110, .int ep1_111]))] ++ ws_107) H := hP
          have hD : va_D A ([(rd, .inr (6, [.ref bt, .int ln, .ref tg, .int pl1_108, .int ws1_109, .int er1_110, .int ep1_111]))] ++ ws_107) := hD
          refine ty_putN (v := .int r_105) (ty := .int) (E := [(rd, .inr (6, [.ref bt, .int ln, .ref tg, .int pl1_108, .int ws1_109, .int er1_110, .int ep1_111]))]) (ws := ws_107) (D := D) (ci := 7) (C := RX7) (T := TX7) (N := 12) hx hb hts in_X7 tyX7 tyX7_ok nmX7 hown hK hP hD hS hT h_p1 rfl 4 (by decide) (hts _ kl_RX6_101) (fun _ h9 => h9) rfl (by decide +kernel) rfl rfl rfl ⟨_, rfl⟩ dX6_readSetting_110 (fun ws_112 H locs hT hP hD hS => ?_)
          refine lv_aload_n hx hb dX6_readSetting_113 rfl (lv_at hl 1 rfl) ?_
          refine lv_aload_n hx hb dX6_readSetting_114 rfl (lv_at hl 0 rfl) ?_
          refine lv_aload_n hx hb dX6_readSetting_115 rfl (lv_at hl 1 rfl) ?_
          refine ty_getN (E := [(rd, .inr (6, [.ref bt, .int ln, .ref tg, .int pl1_108, .int ws1_109, .int er1_110, .int ep1_111]))]) (ws := ws_112) (D := D) (ci := 7) (C := RX7) (T := TX7) (N := 12) hx hb hts in_X7 hown hK hP hT h_p1 rfl 4 (by decide) (hts _ kl_RX6_101) (fun _ h9 => h9) rfl dX6_readSetting_116 (fun _ hv_113 hf_114 => ?_)
          obtain ⟨x_115, rfl⟩ := hv_113
          refine lv_sipush (v := 5000) hx hb dX6_readSetting_119 (by decide) ?_
          refine ty_ki (wr := []) (wc := ([(rd, .inr (6, [.ref bt, .int ln, .ref tg, .int pl1_108, .int ws1_109, .int er1_110, .int ep1_111]))] ++ ws_112)) (va_runV (As := [.int x_115, .int 5000]) (rest := [.ref p1]) ⟨hx, hb, hml, hown, hts⟩ (t_X6_readNumber l D ct S ws_112 rd bt tg nb ln pl1_108 ws1_109 er1_110 ep1_111 x_115 (5000 : Int32) _ hT h_bt h_tg) (cm_V 2 hts kc_X6_readNumber ki_RX6 kl_RX6_74 kv_X6_readNumber kx_X6_readNumber kd_X6_readNumber ⟨Nat.le_of_ble_eq_true rfl, Nat.le_of_ble_eq_true rfl⟩) (ty_preE (wr := []) (wc := ([(rd, .inr (6, [.ref bt, .int ln, .ref tg, .int pl1_108, .int ws1_109, .int er1_110, .int ep1_111]))] ++ ws_112)) (ci := 6) (q0 := 0) hP hK hD hS hA hX rfl rfl) rfl rfl hl.1 rfl (lv_room (Nat.le_of_ble_eq_true rfl)) dX6_readSetting_122 ⟨Nat.le_of_ble_eq_true rfl, Nat.le_of_ble_eq_true rfl⟩) hP hD hS hA (fun r_116 u H locs hw_117 hP hD hS => ?_)
          obtain ⟨ws_118, pl1_119, ws1_120, er1_121, ep1_122⟩ := u
          have hT := hw_117
          have hP : va_P D vwCl ([(rd, .inr (6, [.ref bt, .int ln, .ref tg, .int pl1_119, .int ws1_120, .int er1_121, .int ep1_122]))] ++ ws_118) H := hP
          have hD : va_D A ([(rd, .inr (6, [.ref bt, .int ln, .ref tg, .int pl1_119, .int ws1_120, .int er1_121, .int ep1_122]))] ++ ws_118) := hD
          refine ty_putN (v := .int r_116) (ty := .int) (E := [(rd, .inr (6, [.ref bt, .int ln, .ref tg, .int pl1_119, .int ws1_120, .int er1_121, .int ep1_122]))]) (ws := ws_118) (D := D) (ci := 7) (C := RX7) (T := TX7) (N := 12) hx hb hts in_X7 tyX7 tyX7_ok nmX7 hown hK hP hD hS hT h_p1 rfl 5 (by decide) (hts _ kl_RX6_104) (fun _ h9 => h9) rfl (by decide +kernel) rfl rfl rfl ⟨_, rfl⟩ dX6_readSetting_125 (fun ws_123 H locs hT hP hD hS => ?_)
          refine lv_aload_n hx hb dX6_readSetting_128 rfl (lv_at hl 1 rfl) ?_
          refine lv_aload_n hx hb dX6_readSetting_129 rfl (lv_at hl 0 rfl) ?_
          refine lv_sipush (v := 250) hx hb dX6_readSetting_130 (by decide) ?_
          refine lv_sipush (v := 1000) hx hb dX6_readSetting_133 (by decide) ?_
          refine ty_ki (wr := []) (wc := ([(rd, .inr (6, [.ref bt, .int ln, .ref tg, .int pl1_119, .int ws1_120, .int er1_121, .int ep1_122]))] ++ ws_123)) (va_runV (As := [.int 250, .int 1000]) (rest := [.ref p1]) ⟨hx, hb, hml, hown, hts⟩ (t_X6_readNumber l D ct S ws_123 rd bt tg nb ln pl1_119 ws1_120 er1_121 ep1_122 (250 : Int32) (1000 : Int32) _ hT h_bt h_tg) (cm_V 2 hts kc_X6_readNumber ki_RX6 kl_RX6_74 kv_X6_readNumber kx_X6_readNumber kd_X6_readNumber ⟨Nat.le_of_ble_eq_true rfl, Nat.le_of_ble_eq_true rfl⟩) (ty_preE (wr := []) (wc := ([(rd, .inr (6, [.ref bt, .int ln, .ref tg, .int pl1_119, .int ws1_120, .int er1_121, .int ep1_122]))] ++ ws_123)) (ci := 6) (q0 := 0) hP hK hD hS hA hX rfl rfl) rfl rfl hl.1 rfl (lv_room (Nat.le_of_ble_eq_true rfl)) dX6_readSetting_136 ⟨Nat.le_of_ble_eq_true rfl, Nat.le_of_ble_eq_true rfl⟩) hP hD hS hA (fun r_124 u H locs hw_125 hP hD hS => ?_)
          obtain ⟨ws_126, pl1_127, ws1_128, er1_129, ep1_130⟩ := u
          have hT := hw_125
          have hP : va_P D vwCl ([(rd, .inr (6, [.ref bt, .int ln, .ref tg, .int pl1_127, .int ws1_128, .int er1_129, .int ep1_130]))] ++ ws_126) H := hP
          have hD : va_D A ([(rd, .inr (6, [.ref bt, .int ln, .ref tg, .int pl1_127, .int ws1_128, .int er1_129, .int ep1_130]))] ++ ws_126) := hD
          refine ty_putN (v := .int r_124) (ty := .int) (E := [(rd, .inr (6, [.ref bt, .int ln, .ref tg, .int pl1_127, .int ws1_128, .int er1_129, .int ep1_130]))]) (ws := ws_126) (D := D) (ci := 7) (C := RX7) (T := TX7) (N := 12) hx hb hts in_X7 tyX7 tyX7_ok nmX7 hown hK hP hD hS hT h_p1 rfl 6 (by decide) (hts _ kl_RX6_107) (fun _ h9 => h9) rfl (by decide +kernel) rfl rfl rfl ⟨_, rfl⟩ dX6_readSetting_139 (fun ws_131 H locs hT hP hD hS => ?_)
          refine lv_goto (tgt := 253) hx hb dX6_readSetting_142 (by decide) ?_
          exact W.vret hx hb hr (fun t ht hW => ⟨⟨(ws_131, pl1_127, ws1_128, er1_129, ep1_130), rfl, hT, by rw [ht]; exact hP, by rw [hAe]; exact hD⟩, hS.F ht⟩) hS.2.2 dX6_readSetting_253
      · refine lv_aload_n hx hb dX6_readSetting_59 rfl (lv_at hl 1 rfl) ?_
        refine lv_aload_n hx hb dX6_readSetting_60 rfl (lv_at hl 0 rfl) ?_
        refine lv_iconst (v := 1) hx hb dX6_readSetting_61 (by decide) ?_
        refine lv_sipush (v := 10000) hx hb dX6_readSetting_62 (by decide) ?_
        refine ty_ki (wr := []) (wc := ([(rd, .inr (6, [.ref bt, .int ln, .ref tg, .int pl, .int wst, .int er, .int ep]))] ++ ws_23)) (va_runV (As := [.int 1, .int 10000]) (rest := [.ref p1]) ⟨hx, hb, hml, hown, hts⟩ (t_X6_readNumber l D ct S ws_23 rd bt tg nb ln pl wst er ep (1 : Int32) (10000 : Int32) _ hT h_bt h_tg) (cm_V 2 hts kc_X6_readNumber ki_RX6 kl_RX6_74 kv_X6_readNumber kx_X6_readNumber kd_X6_readNumber ⟨Nat.le_of_ble_eq_true rfl, Nat.le_of_ble_eq_true rfl⟩) (ty_preE (wr := []) (wc := ([(rd, .inr (6, [.ref bt, .int ln, .ref tg, .int pl, .int wst, .int er, .int ep]))] ++ ws_23)) (ci := 6) (q0 := 0) hP hK hD hS hA hX rfl rfl) rfl rfl hl.1 rfl (lv_room (Nat.le_of_ble_eq_true rfl)) dX6_readSetting_65 ⟨Nat.le_of_ble_eq_true rfl, Nat.le_of_ble_eq_true rfl⟩) hP hD hS hA (fun r_132 u H locs hw_133 hP hD hS => ?_)
        obtain ⟨ws_134, pl1_135, ws1_136, er1_137, ep1_138⟩ := u
        have hT := hw_133
        have hP : va_P D vwCl ([(rd, .inr (6, [.ref bt, .int ln, .ref tg, .int pl1_135, .int ws1_136, .int er1_137, .int ep1_138]))] ++ ws_134) H := hP
        have hD : va_D A ([(rd, .inr (6, [.ref bt, .int ln, .ref tg, .int pl1_135, .int ws1_136, .int er1_137, .int ep1_138]))] ++ ws_134) := hD
        refine ty_putN (v := .int r_132) (ty := .int) (E := [(rd, .inr (6, [.ref bt, .int ln, .ref tg, .int pl1_135, .int ws1_136, .int er1_137, .int ep1_138]))]) (ws := ws_134) (D := D) (ci := 7) (C := RX7) (T := TX7) (N := 12) hx hb hts in_X7 tyX7 tyX7_ok nmX7 hown hK hP hD hS hT h_p1 rfl 2 (by decide) (hts _ kl_RX6_89) (fun _ h9 => h9) rfl (by decide +kernel) rfl rfl rfl ⟨_, rfl⟩ dX6_readSetting_68 (fun ws_139 H locs hT hP hD hS => ?_)
        refine lv_aload_n hx hb dX6_readSetting_71 rfl (lv_at hl 1 rfl) ?_
        refine lv_aload_n hx hb dX6_readSetting_72 rfl (lv_at hl 0 rfl) ?_
        refine lv_iconst (v := 0) hx hb dX6_readSetting_73 (by decide) ?_
        refine lv_bipush (v := 100) hx hb dX6_readSetting_74 (by decide) ?_
        refine lv_aload_n hx hb dX6_readSetting_76 rfl (lv_at hl 1 rfl) ?_
        refine ty_getN (E := [(rd, .inr (6, [.ref bt, .int ln, .ref tg, .int pl1_135, .int ws1_136, .int er1_137, .int ep1_138]))]) (ws := ws_139) (D := D) (ci := 7) (C := RX7) (T := TX7) (N := 12) hx hb hts in_X7 hown hK hP hT h_p1 rfl 2 (by decide) (hts _ kl_RX6_89) (fun _ h9 => h9) rfl dX6_readSetting_77 (fun _ hv_140 hf_141 => ?_)
        obtain ⟨x_142, rfl⟩ := hv_140
        refine va_mmin hx hb (hml.trans hl.1.symm) hown (hts _ kl_RX6_91) (hts _ jm_min_s) (hts _ ki_RJ9) (hts _ jm_min_c) (Nat.le_of_ble_eq_true rfl) (Nat.le_of_ble_eq_true rfl) (Nat.le_of_ble_eq_true rfl) (Nat.le_of_ble_eq_true rfl) dX6_readSetting_80 ?_
        refine lv_topi (fun x_143 _ => ?_)
        refine ty_ki (wr := []) (wc := ([(rd, .inr (6, [.ref bt, .int ln, .ref tg, .int pl1_135, .int ws1_136, .int er1_137, .int ep1_138]))] ++ ws_139)) (va_runV (As := [.int 0, .int x_143]) (rest := [.ref p1]) ⟨hx, hb, hml, hown, hts⟩ (t_X6_readNumber l D ct S ws_139 rd bt tg nb ln pl1_135 ws1_136 er1_137 ep1_138 (0 : Int32) x_143 _ hT h_bt h_tg) (cm_V 2 hts kc_X6_readNumber ki_RX6 kl_RX6_74 kv_X6_readNumber kx_X6_readNumber kd_X6_readNumber ⟨Nat.le_of_ble_eq_true rfl, Nat.le_of_ble_eq_true rfl⟩) (ty_preE (wr := []) (wc := ([(rd, .inr (6, [.ref bt, .int ln, .ref tg, .int pl1_135, .int ws1_136, .int er1_137, .int ep1_138]))] ++ ws_139)) (ci := 6) (q0 := 0) hP hK hD hS hA hX rfl rfl) rfl rfl hl.1 rfl (lv_room (Nat.le_of_ble_eq_true rfl)) dX6_readSetting_83 ⟨Nat.le_of_ble_eq_true rfl, Nat.le_of_ble_eq_true rfl⟩) hP hD hS hA (fun r_144 u H locs hw_145 hP hD hS => ?_)
        obtain ⟨ws_146, pl1_147, ws1_148, er1_149, ep1_150⟩ := u
        have hT := hw_145
        have hP : va_P D vwCl ([(rd, .inr (6, [.ref bt, .int ln, .ref tg, .int pl1_147, .int ws1_148, .int er1_149, .int ep1_150]))] ++ ws_146) H := hP
        have hD : va_D A ([(rd, .inr (6, [.ref bt, .int ln, .ref tg, .int pl1_147, .int ws1_148, .int er1_149, .int ep1_150]))] ++ ws_146) := hD
        refine ty_putN (v := .int r_144) (ty := .int) (E := [(rd, .inr (6, [.ref bt, .int ln, .ref tg, .int pl1_147, .int ws1_148, .int er1_149, .int ep1_150]))]) (ws := ws_146) (D := D) (ci := 7) (C := RX7) (T := TX7) (N := 12) hx hb hts in_X7 tyX7 tyX7_ok nmX7 hown hK hP hD hS hT h_p1 rfl 3 (by decide) (hts _ kl_RX6_96) (fun _ h9 => h9) rfl (by decide +kernel) rfl rfl rfl ⟨_, rfl⟩ dX6_readSetting_86 (fun ws_151 H locs hT hP hD hS => ?_)
        refine lv_goto (tgt := 253) hx hb dX6_readSetting_89 (by decide) ?_
        exact W.vret hx hb hr (fun t ht hW => ⟨⟨(ws_151, pl1_147, ws1_148, er1_149, ep1_150), rfl, hT, by rw [ht]; exact hP, by rw [hAe]; exact hD⟩, hS.F ht⟩) hS.2.2 dX6_readSetting_253
    · refine lv_aload_n hx hb dX6_readSetting_35 rfl (lv_at hl 1 rfl) ?_
      refine lv_aload_n hx hb dX6_readSetting_36 rfl (lv_at hl 0 rfl) ?_
      refine lv_bipush (v := 100) hx hb dX6_readSetting_37 (by decide) ?_
      refine lv_ldc hx hb hown (hts _ kl_RX6_84) dX6_readSetting_39 ?_
      refine ty_ki (wr := []) (wc := ([(rd, .inr (6, [.ref bt, .int ln, .ref tg, .int pl, .int wst, .int er, .int ep]))] ++ ws_15)) (va_runV (As := [.int 100, .int 1000000]) (rest := [.ref p1]) ⟨hx, hb, hml, hown, hts⟩ (t_X6_readNumber l D ct S ws_15 rd bt tg nb ln pl wst er ep (100 : Int32) (1000000 : Int32) _ hT h_bt h_tg) (cm_V 2 hts kc_X6_readNumber ki_RX6 kl_RX6_74 kv_X6_readNumber kx_X6_readNumber kd_X6_readNumber ⟨Nat.le_of_ble_eq_true rfl, Nat.le_of_ble_eq_true rfl⟩) (ty_preE (wr := []) (wc := ([(rd, .inr (6, [.ref bt, .int ln, .ref tg, .int pl, .int wst, .int er, .int ep]))] ++ ws_15)) (ci := 6) (q0 := 0) hP hK hD hS hA hX rfl rfl) rfl rfl hl.1 rfl (lv_room (Nat.le_of_ble_eq_true rfl)) dX6_readSetting_41 ⟨Nat.le_of_ble_eq_true rfl, Nat.le_of_ble_eq_true rfl⟩) hP hD hS hA (fun r_152 u H locs hw_153 hP hD hS => ?_)
      obtain ⟨ws_154, pl1_155, ws1_156, er1_157, ep1_158⟩ := u
      have hT := hw_153
      have hP : va_P D vwCl ([(rd, .inr (6, [.ref bt, .int ln, .ref tg, .int pl1_155, .int ws1_156, .int er1_157, .int ep1_158]))] ++ ws_154) H := hP
      have hD : va_D A ([(rd, .inr (6, [.ref bt, .int ln, .ref tg, .int pl1_155, .int ws1_156, .int er1_157, .int ep1_158]))] ++ ws_154) := hD
      refine ty_putN (v := .int r_152) (ty := .int) (E := [(rd, .inr (6, [.ref bt, .int ln, .ref tg, .int pl1_155, .int ws1_156, .int er1_157, .int ep1_158]))]) (ws := ws_154) (D := D) (ci := 7) (C := RX7) (T := TX7) (N := 12) hx hb hts in_X7 tyX7 tyX7_ok nmX7 hown hK hP hD hS hT h_p1 rfl 1 (by decide) (hts _ kl_RX6_85) (fun _ h9 => h9) rfl (by decide +kernel) rfl rfl rfl ⟨_, rfl⟩ dX6_readSetting_44 (fun ws_159 H locs hT hP hD hS => ?_)
      refine lv_goto (tgt := 253) hx hb dX6_readSetting_47 (by decide) ?_
      exact W.vret hx hb hr (fun t ht hW => ⟨⟨(ws_159, pl1_155, ws1_156, er1_157, ep1_158), rfl, hT, by rw [ht]; exact hP, by rw [hAe]; exact hD⟩, hS.F ht⟩) hS.2.2 dX6_readSetting_253
  · refine lv_aload_n hx hb dX6_readSetting_9 rfl (lv_at hl 1 rfl) ?_
    refine lv_aload_n hx hb dX6_readSetting_10 rfl (lv_at hl 0 rfl) ?_
    refine lv_sipush (v := 500) hx hb dX6_readSetting_11 (by decide) ?_
    refine lv_sipush (v := 1000) hx hb dX6_readSetting_14 (by decide) ?_
    refine ty_ki (wr := []) (wc := ([(rd, .inr (6, [.ref bt, .int ln, .ref tg, .int pl, .int wst, .int er, .int ep]))] ++ ws_7)) (va_runV (As := [.int 500, .int 1000]) (rest := [.ref p1]) ⟨hx, hb, hml, hown, hts⟩ (t_X6_readNumber l D ct S ws_7 rd bt tg nb ln pl wst er ep (500 : Int32) (1000 : Int32) _ hT h_bt h_tg) (cm_V 2 hts kc_X6_readNumber ki_RX6 kl_RX6_74 kv_X6_readNumber kx_X6_readNumber kd_X6_readNumber ⟨Nat.le_of_ble_eq_true rfl, Nat.le_of_ble_eq_true rfl⟩) (ty_preE (wr := []) (wc := ([(rd, .inr (6, [.ref bt, .int ln, .ref tg, .int pl, .int wst, .int er, .int ep]))] ++ ws_7)) (ci := 6) (q0 := 0) hP hK hD hS hA hX rfl rfl) rfl rfl hl.1 rfl (lv_room (Nat.le_of_ble_eq_true rfl)) dX6_readSetting_17 ⟨Nat.le_of_ble_eq_true rfl, Nat.le_of_ble_eq_true rfl⟩) hP hD hS hA (fun r_160 u H locs hw_161 hP hD hS => ?_)
    obtain ⟨ws_162, pl1_163, ws1_164, er1_165, ep1_166⟩ := u
    have hT := hw_161
    have hP : va_P D vwCl ([(rd, .inr (6, [.ref bt, .int ln, .ref tg, .int pl1_163, .int ws1_164, .int er1_165, .int ep1_166]))] ++ ws_162) H := hP
    have hD : va_D A ([(rd, .inr (6, [.ref bt, .int ln, .ref tg, .int pl1_163, .int ws1_164, .int er1_165, .int ep1_166]))] ++ ws_162) := hD
    refine ty_putN (v := .int r_160) (ty := .int) (E := [(rd, .inr (6, [.ref bt, .int ln, .ref tg, .int pl1_163, .int ws1_164, .int er1_165, .int ep1_166]))]) (ws := ws_162) (D := D) (ci := 7) (C := RX7) (T := TX7) (N := 12) hx hb hts in_X7 tyX7 tyX7_ok nmX7 hown hK hP hD hS hT h_p1 rfl 0 (by decide) (hts _ kl_RX6_78) (fun _ h9 => h9) rfl (by decide +kernel) rfl rfl rfl ⟨_, rfl⟩ dX6_readSetting_20 (fun ws_167 H locs hT hP hD hS => ?_)
    refine lv_goto (tgt := 253) hx hb dX6_readSetting_23 (by decide) ?_
    exact W.vret hx hb hr (fun t ht hW => ⟨⟨(ws_167, pl1_163, ws1_164, er1_165, ep1_166), rfl, hT, by rw [ht]; exact hP, by rw [hAe]; exact hD⟩, hS.F ht⟩) hS.2.2 dX6_readSetting_253
theorem dX6_readStep_0 : decode cX6_readStep 0 = .ok (.aload_n 0, 1) := by decide +kernel
theorem dX6_readStep_1 : decode cX6_readStep 1 = .ok (.ldc 209, 2) := by decide +kernel
theorem dX6_readStep_3 : decode cX6_readStep 3 = .ok (.invokevirtual 28, 3) := by decide +kernel
theorem dX6_readStep_6 : decode cX6_readStep 6 = .ok (.ifCond .eq 29, 3) := by decide +kernel
theorem dX6_readStep_9 : decode cX6_readStep 9 = .ok (.aload_n 0, 1) := by decide +kernel
theorem dX6_readStep_10 : decode cX6_readStep 10 = .ok (.iconst 1, 1) := by decide +kernel
theorem dX6_readStep_11 : decode cX6_readStep 11 = .ok (.sipush 5000, 3) := by decide +kernel
theorem dX6_readStep_14 : decode cX6_readStep 14 = .ok (.invokevirtual 74, 3) := by decide +kernel
theorem dX6_readStep_17 : decode cX6_readStep 17 = .ok (.istore_n 3, 1) := by decide +kernel
theorem dX6_readStep_18 : decode cX6_readStep 18 = .ok (.aload_n 1, 1) := by decide +kernel
theorem dX6_readStep_19 : decode cX6_readStep 19 = .ok (.iconst 0, 1) := by decide +kernel
theorem dX6_readStep_20 : decode cX6_readStep 20 = .ok (.iload_n 3, 1) := by decide +kernel
theorem dX6_readStep_21 : decode cX6_readStep 21 = .ok (.aload_n 0, 1) := by decide +kernel
theorem dX6_readStep_22 : decode cX6_readStep 22 = .ok (.iconst 0, 1) := by decide +kernel
theorem dX6_readStep_23 : decode cX6_readStep 23 = .ok (.sipush 5000, 3) := by decide +kernel
theorem dX6_readStep_26 : decode cX6_readStep 26 = .ok (.invokevirtual 74, 3) := by decide +kernel
theorem dX6_readStep_29 : decode cX6_readStep 29 = .ok (.invokevirtual 211, 3) := by decide +kernel
theorem dX6_readStep_32 : decode cX6_readStep 32 = .ok (.goto 142, 3) := by decide +kernel
theorem dX6_readStep_35 : decode cX6_readStep 35 = .ok (.aload_n 0, 1) := by decide +kernel
theorem dX6_readStep_36 : decode cX6_readStep 36 = .ok (.ldc 215, 2) := by decide +kernel
theorem dX6_readStep_38 : decode cX6_readStep 38 = .ok (.invokevirtual 28, 3) := by decide +kernel
theorem dX6_readStep_41 : decode cX6_readStep 41 = .ok (.ifCond .eq 29, 3) := by decide +kernel
theorem dX6_readStep_44 : decode cX6_readStep 44 = .ok (.aload_n 0, 1) := by decide +kernel
theorem dX6_readStep_45 : decode cX6_readStep 45 = .ok (.iconst 0, 1) := by decide +kernel
theorem dX6_readStep_46 : decode cX6_readStep 46 = .ok (.sipush 5000, 3) := by decide +kernel
theorem dX6_readStep_49 : decode cX6_readStep 49 = .ok (.invokevirtual 74, 3) := by decide +kernel
theorem dX6_readStep_52 : decode cX6_readStep 52 = .ok (.istore_n 3, 1) := by decide +kernel
theorem dX6_readStep_53 : decode cX6_readStep 53 = .ok (.aload_n 1, 1) := by decide +kernel
theorem dX6_readStep_54 : decode cX6_readStep 54 = .ok (.iconst 1, 1) := by decide +kernel
theorem dX6_readStep_55 : decode cX6_readStep 55 = .ok (.iload_n 3, 1) := by decide +kernel
theorem dX6_readStep_56 : decode cX6_readStep 56 = .ok (.aload_n 0, 1) := by decide +kernel
theorem dX6_readStep_57 : decode cX6_readStep 57 = .ok (.iconst 1, 1) := by decide +kernel
theorem dX6_readStep_58 : decode cX6_readStep 58 = .ok (.sipush 5000, 3) := by decide +kernel
theorem dX6_readStep_61 : decode cX6_readStep 61 = .ok (.invokevirtual 74, 3) := by decide +kernel
theorem dX6_readStep_64 : decode cX6_readStep 64 = .ok (.invokevirtual 211, 3) := by decide +kernel
theorem dX6_readStep_67 : decode cX6_readStep 67 = .ok (.goto 107, 3) := by decide +kernel
theorem dX6_readStep_70 : decode cX6_readStep 70 = .ok (.aload_n 0, 1) := by decide +kernel
theorem dX6_readStep_71 : decode cX6_readStep 71 = .ok (.ldc 217, 2) := by decide +kernel
theorem dX6_readStep_73 : decode cX6_readStep 73 = .ok (.invokevirtual 28, 3) := by decide +kernel
theorem dX6_readStep_76 : decode cX6_readStep 76 = .ok (.ifCond .eq 29, 3) := by decide +kernel
theorem dX6_readStep_79 : decode cX6_readStep 79 = .ok (.aload_n 0, 1) := by decide +kernel
theorem dX6_readStep_80 : decode cX6_readStep 80 = .ok (.iconst 1, 1) := by decide +kernel
theorem dX6_readStep_81 : decode cX6_readStep 81 = .ok (.sipush 5000, 3) := by decide +kernel
theorem dX6_readStep_84 : decode cX6_readStep 84 = .ok (.invokevirtual 74, 3) := by decide +kernel
theorem dX6_readStep_87 : decode cX6_readStep 87 = .ok (.istore_n 3, 1) := by decide +kernel
theorem dX6_readStep_88 : decode cX6_readStep 88 = .ok (.aload_n 1, 1) := by decide +kernel
theorem dX6_readStep_89 : decode cX6_readStep 89 = .ok (.iconst 2, 1) := by decide +kernel
theorem dX6_readStep_90 : decode cX6_readStep 90 = .ok (.iload_n 3, 1) := by decide +kernel
theorem dX6_readStep_91 : decode cX6_readStep 91 = .ok (.aload_n 0, 1) := by decide +kernel
theorem dX6_readStep_92 : decode cX6_readStep 92 = .ok (.iconst 0, 1) := by decide +kernel
theorem dX6_readStep_93 : decode cX6_readStep 93 = .ok (.sipush 5000, 3) := by decide +kernel
