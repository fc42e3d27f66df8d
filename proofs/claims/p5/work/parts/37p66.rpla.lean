section TYS
variable {p : Program} {l : Launch} {e : Env} {R : Room} {s : State} {m : MethodId} {args : Array Value} {below : List Frame} {meth : Method} {c : Code} {H : Heap} {locs : List Loc} {cells slots : Nat} {Q : State → Prop}
variable {mc ms : Nat} {A : Nat → Prop} {H0 : Heap} {a : Array Value} {pc : Nat} {ls : Array Slot} {st0 rest : List Value} {D : va_G} {ct : Nat → ClassId} {ws wc wr E : va_W} {free : Addr → Prop} {S : ty_S} {b : Nat} {ph : va_W → Prop} {xx : Nat → Nat → Nat → Prop}
end TYS
set_option maxRecDepth 100000 in
set_option maxHeartbeats 4000000 in
theorem r_next (l : Launch) (D : va_G) (ct : Nat → ClassId) (S : ty_S) (ws : va_W) (ph : va_W → Prop) (xx : Nat → Nat → Nat → Prop) (rd : Nat) (bt : Nat) (tg : Nat) (ln : Int32) (pl : Int32) (wst : Int32) (er : Int32) (ep : Int32) (b : Nat → Int32) (sz : Nat) (hT : ty_V ct S ph ws) (hph : ty_C ph xx) (hy1 : ty_y1 xx) (hln : 0 ≤ ln.toInt ∧ ln.toInt ≤ 800) (hpl : 0 ≤ pl.toInt ∧ pl.toInt ≤ ln.toInt) : Met l yX6_next (ws_ yX6_next cX6_next 1 (some .int)) ({ frames := 0, cells := 0, slots := 0, locals := 0 } : Room) (va_Pc [.ref rd] (cmP D ct sz ([(ty_RD rd bt ln tg pl wst er ep), (rf_RW ct 0 bt 800 b)] ++ ws))) (va_Qi (fun (r : Int32) (u9 : va_W) => ty_V ct S ph u9 ∧ r = (rp_nx b ln pl)) (cmB D ([(ty_RD rd bt ln tg pl wst er ep), (rf_RW ct 0 bt 800 b)] ++ ws) sz (fun (u9 : va_W) => ([(ty_RD rd bt ln tg pl wst er ep), (rf_RW ct 0 bt 800 b)] ++ u9))) (va_A ([(ty_RD rd bt ln tg pl wst er ep), (rf_RW ct 0 bt 800 b)] ++ ws) sz)) 0 0 (va_A ([(ty_RD rd bt ln tg pl wst er ep), (rf_RW ct 0 bt 800 b)] ++ ws) sz) := by
  refine Met.ofW (cc := cX6_next) (maxL := 1) (ret := (some .int)) (by decide) rfl ?_
  intro p e s m args below meth c s₁ B hml hv
  obtain ⟨rfl, hsz, hP, hK, hD0, hX⟩ := hv
  have hx := B.exec
  have hb := B.bytes
  have hr := B.returns
  have hts := ws_all (atoms_spec (ws := ws_ yX6_next cX6_next 1 (some .int)) B.pre)
  have hown : s.vm.findClass RX6 = some m.cls := findClass_of_methodNamed B.named
  have hlocks := B.notSynchronized
  subst hsz
  have hD := hD0.self (sz := s.heap.size)
  generalize hAe : va_A ([(ty_RD rd bt ln tg pl wst er ep), (rf_RW ct 0 bt 800 b)] ++ ws) s.heap.size = A at hD hX ⊢
  have hA : ∀ q : Nat, s.heap.size ≤ q → A q := fun q h => by rw [← hAe]; exact Or.inr h
  have hS : va_S A s.heap s.heap [] := va_S.rf
  have hl := lv_entry ([.ref rd]) (n := 1) (Nat.le_of_ble_eq_true rfl)
  rw [lg_entry_eq]
  generalize (lg_sl ([.ref rd]) ++ List.replicate (1 - (lg_sl ([.ref rd])).length) Slot.unset).toArray = ls at hl ⊢
  have hl : lv_has ls 1 [(0, .ref rd)] := hl
  refine lv_aload_n hx hb dX6_next_0 rfl (lv_at hl 0 rfl) ?_
  refine va_get (v := .int pl) (D := D) (ci := 6) (C := RX6) (T := TX6) (N := 7) hx hb hts in_X6 hown hK hP 0 rfl rfl 3 (by decide) (hts _ kl_RX6_65) (fun _ h9 => h9) rfl dX6_next_1 ?_
  refine lv_aload_n hx hb dX6_next_4 rfl (lv_at hl 0 rfl) ?_
  refine va_get (v := .int ln) (D := D) (ci := 6) (C := RX6) (T := TX6) (N := 7) hx hb hts in_X6 hown hK hP 0 rfl rfl 1 (by decide) (hts _ kl_RX6_15) (fun _ h9 => h9) rfl dX6_next_5 ?_
  refine lv_icmp_ge (tgt := 42) hx hb dX6_next_8 (by decide) (fun hc_1 => ?_) (fun hc_1 => ?_)
  · refine lv_iconst (v := 0) hx hb dX6_next_42 (by decide) ?_
    exact W.iret (v := 0) hx hb hr (fun t ht hW => ⟨⟨0, ws, rfl, ⟨hT, (if_neg (cm_nlt hc_1)).symm⟩, by rw [ht]; exact hP, by rw [hAe]; exact hD⟩, hS.F ht⟩) hS.2.2 dX6_next_43
  · refine lv_aload_n hx hb dX6_next_11 rfl (lv_at hl 0 rfl) ?_
    refine va_get (v := .int pl) (D := D) (ci := 6) (C := RX6) (T := TX6) (N := 7) hx hb hts in_X6 hown hK hP 0 rfl rfl 3 (by decide) (hts _ kl_RX6_65) (fun _ h9 => h9) rfl dX6_next_12 ?_
    refine lv_if_lt (tgt := 42) hx hb dX6_next_15 (by decide) (fun hc_2 => ?_) (fun hc_2 => ?_)
    · refine lv_iconst (v := 0) hx hb dX6_next_42 (by decide) ?_
      exact W.iret (v := 0) hx hb hr (fun t ht hW => ⟨⟨0, ws, rfl, ⟨hT, (rp_neg hc_2 hpl.1).elim⟩, by rw [ht]; exact hP, by rw [hAe]; exact hD⟩, hS.F ht⟩) hS.2.2 dX6_next_43
    · refine lv_aload_n hx hb dX6_next_18 rfl (lv_at hl 0 rfl) ?_
      refine va_get (v := .int pl) (D := D) (ci := 6) (C := RX6) (T := TX6) (N := 7) hx hb hts in_X6 hown hK hP 0 rfl rfl 3 (by decide) (hts _ kl_RX6_65) (fun _ h9 => h9) rfl dX6_next_19 ?_
      refine lv_aload_n hx hb dX6_next_22 rfl (lv_at hl 0 rfl) ?_
      refine va_get (v := .ref bt) (D := D) (ci := 6) (C := RX6) (T := TX6) (N := 7) hx hb hts in_X6 hown hK hP 0 rfl rfl 0 (by decide) (hts _ kl_RX6_9) (fun _ h9 => h9) rfl dX6_next_23 ?_
      refine va_alen hx hb hK hP 1 0 rfl rfl (v := 800) (show Int32.ofNat 800 = (800 : Int32) from by decide) dX6_next_26 ?_
      refine lv_icmp_ge (tgt := 42) hx hb dX6_next_27 (by decide) (fun hc_3 => ?_) (fun hc_3 => ?_)
      · refine lv_iconst (v := 0) hx hb dX6_next_42 (by decide) ?_
        exact W.iret (v := 0) hx hb hr (fun t ht hW => ⟨⟨0, ws, rfl, ⟨hT, (rp_big hc_3 (by have := (rf_lth hc_1); omega)).elim⟩, by rw [ht]; exact hP, by rw [hAe]; exact hD⟩, hS.F ht⟩) hS.2.2 dX6_next_43
      · refine lv_aload_n hx hb dX6_next_30 rfl (lv_at hl 0 rfl) ?_
        refine va_get (v := .ref bt) (D := D) (ci := 6) (C := RX6) (T := TX6) (N := 7) hx hb hts in_X6 hown hK hP 0 rfl rfl 0 (by decide) (hts _ kl_RX6_9) (fun _ h9 => h9) rfl dX6_next_31 ?_
        refine lv_aload_n hx hb dX6_next_34 rfl (lv_at hl 0 rfl) ?_
        refine va_get (v := .int pl) (D := D) (ci := 6) (C := RX6) (T := TX6) (N := 7) hx hb hts in_X6 hown hK hP 0 rfl rfl 3 (by decide) (hts _ kl_RX6_65) (fun _ h9 => h9) rfl dX6_next_35 ?_
        refine va_iald hx hb hK hP 1 0 rfl rfl (rp_vin (by have := (rf_lth hc_1); omega)) dX6_next_38 ?_
        refine lv_goto (tgt := 43) hx hb dX6_next_39 (by decide) ?_
        exact W.iret (v := (b pl.toNatClampNeg)) hx hb hr (fun t ht hW => ⟨⟨(b pl.toNatClampNeg), ws, rfl, ⟨hT, (if_pos (cm_lt hc_1)).symm⟩, by rw [ht]; exact hP, by rw [hAe]; exact hD⟩, hS.F ht⟩) hS.2.2 dX6_next_43
set_option maxRecDepth 100000 in
set_option maxHeartbeats 4000000 in
theorem r_isLetter (l : Launch) (D : va_G) (ct : Nat → ClassId) (S : ty_S) (ws : va_W) (ph : va_W → Prop) (xx : Nat → Nat → Nat → Prop) (p1 : Int32) (sz : Nat) (hT : ty_V ct S ph ws) (hph : ty_C ph xx) (hy1 : ty_y1 xx) : Met l yX6_isLetter (ws_ yX6_isLetter cX6_isLetter 1 (some .boolean)) ({ frames := 0, cells := 0, slots := 0, locals := 0 } : Room) (va_Pc [.int p1] (cmP D ct sz ([] ++ ws))) (va_Qi (fun (r : Int32) (u9 : va_W) => ty_V ct S ph u9 ∧ ((r = 1 ∧ 97 ≤ p1.toInt ∧ p1.toInt ≤ 122) ∨ (r = 0 ∧ ¬ (97 ≤ p1.toInt ∧ p1.toInt ≤ 122)))) (cmB D ([] ++ ws) sz (fun (u9 : va_W) => ([] ++ u9))) (va_A ([] ++ ws) sz)) 0 0 (va_A ([] ++ ws) sz) := by
  refine Met.ofW (cc := cX6_isLetter) (maxL := 1) (ret := (some .boolean)) (by decide) rfl ?_
  intro p e s m args below meth c s₁ B hml hv
  obtain ⟨rfl, hsz, hP, hK, hD0, hX⟩ := hv
  have hx := B.exec
  have hb := B.bytes
  have hr := B.returns
  have hts := ws_all (atoms_spec (ws := ws_ yX6_isLetter cX6_isLetter 1 (some .boolean)) B.pre)
  have hown : s.vm.findClass RX6 = some m.cls := findClass_of_methodNamed B.named
  have hlocks := B.notSynchronized
  subst hsz
  have hD := hD0.self (sz := s.heap.size)
  generalize hAe : va_A ([] ++ ws) s.heap.size = A at hD hX ⊢
  have hA : ∀ q : Nat, s.heap.size ≤ q → A q := fun q h => by rw [← hAe]; exact Or.inr h
  have hS : va_S A s.heap s.heap [] := va_S.rf
  have hl := lv_entry ([.int p1]) (n := 1) (Nat.le_of_ble_eq_true rfl)
  rw [lg_entry_eq]
  generalize (lg_sl ([.int p1]) ++ List.replicate (1 - (lg_sl ([.int p1])).length) Slot.unset).toArray = ls at hl ⊢
  have hl : lv_has ls 1 [(0, .int p1)] := hl
  refine lv_iload_n hx hb dX6_isLetter_0 rfl (lv_at hl 0 rfl) ?_
  refine lv_bipush (v := 97) hx hb dX6_isLetter_1 (by decide) ?_
  refine lv_icmp_lt (tgt := 16) hx hb dX6_isLetter_3 (by decide) (fun hc_1 => ?_) (fun hc_1 => ?_)
  · refine lv_iconst (v := 0) hx hb dX6_isLetter_16 (by decide) ?_
    exact W.zret (v := 0) hx hb hr (by decide) (fun t ht hW => ⟨⟨0, ws, rfl, ⟨hT, (Or.inr ⟨rfl, rp_out1 (L := 97) (U := 122) (by decide) hc_1⟩)⟩, by rw [ht]; exact hP, by rw [hAe]; exact hD⟩, hS.F ht⟩) hS.2.2 dX6_isLetter_17
  · refine lv_iload_n hx hb dX6_isLetter_6 rfl (lv_at hl 0 rfl) ?_
    refine lv_bipush (v := 122) hx hb dX6_isLetter_7 (by decide) ?_
    refine lv_icmp_gt (tgt := 16) hx hb dX6_isLetter_9 (by decide) (fun hc_2 => ?_) (fun hc_2 => ?_)
    · refine lv_iconst (v := 0) hx hb dX6_isLetter_16 (by decide) ?_
      exact W.zret (v := 0) hx hb hr (by decide) (fun t ht hW => ⟨⟨0, ws, rfl, ⟨hT, (Or.inr ⟨rfl, rp_out2 (L := 97) (U := 122) (by decide) hc_2⟩)⟩, by rw [ht]; exact hP, by rw [hAe]; exact hD⟩, hS.F ht⟩) hS.2.2 dX6_isLetter_17
    · refine lv_iconst (v := 1) hx hb dX6_isLetter_12 (by decide) ?_
      refine lv_goto (tgt := 17) hx hb dX6_isLetter_13 (by decide) ?_
      exact W.zret (v := 1) hx hb hr (by decide) (fun t ht hW => ⟨⟨1, ws, rfl, ⟨hT, (Or.inl ⟨rfl, rp_in1 (L := 97) (U := 122) (by decide) (by decide) hc_1 hc_2⟩)⟩, by rw [ht]; exact hP, by rw [hAe]; exact hD⟩, hS.F ht⟩) hS.2.2 dX6_isLetter_17
set_option maxRecDepth 100000 in
set_option maxHeartbeats 4000000 in
theorem r_isDigit (l : Launch) (D : va_G) (ct : Nat → ClassId) (S : ty_S) (ws : va_W) (ph : va_W → Prop) (xx : Nat → Nat → Nat → Prop) (p1 : Int32) (sz : Nat) (hT : ty_V ct S ph ws) (hph : ty_C ph xx) (hy1 : ty_y1 xx) : Met l yX6_isDigit (ws_ yX6_isDigit cX6_isDigit 1 (some .boolean)) ({ frames := 0, cells := 0, slots := 0, locals := 0 } : Room) (va_Pc [.int p1] (cmP D ct sz ([] ++ ws))) (va_Qi (fun (r : Int32) (u9 : va_W) => ty_V ct S ph u9 ∧ ((r = 1 ∧ 48 ≤ p1.toInt ∧ p1.toInt ≤ 57) ∨ (r = 0 ∧ ¬ (48 ≤ p1.toInt ∧ p1.toInt ≤ 57)))) (cmB D ([] ++ ws) sz (fun (u9 : va_W) => ([] ++ u9))) (va_A ([] ++ ws) sz)) 0 0 (va_A ([] ++ ws) sz) := by
  refine Met.ofW (cc := cX6_isDigit) (maxL := 1) (ret := (some .boolean)) (by decide) rfl ?_
  intro p e s m args below meth c s₁ B hml hv
  obtain ⟨rfl, hsz, hP, hK, hD0, hX⟩ := hv
  have hx := B.exec
  have hb := B.bytes
  have hr := B.returns
  have hts := ws_all (atoms_spec (ws := ws_ yX6_isDigit cX6_isDigit 1 (some .boolean)) B.pre)
  have hown : s.vm.findClass RX6 = some m.cls := findClass_of_methodNamed B.named
  have hlocks := B.notSynchronized
  subst hsz
  have hD := hD0.self (sz := s.heap.size)
  generalize hAe : va_A ([] ++ ws) s.heap.size = A at hD hX ⊢
  have hA : ∀ q : Nat, s.heap.size ≤ q → A q := fun q h => by rw [← hAe]; exact Or.inr h
  have hS : va_S A s.heap s.heap [] := va_S.rf
  have hl := lv_entry ([.int p1]) (n := 1) (Nat.le_of_ble_eq_true rfl)
  rw [lg_entry_eq]
  generalize (lg_sl ([.int p1]) ++ List.replicate (1 - (lg_sl ([.int p1])).length) Slot.unset).toArray = ls at hl ⊢
  have hl : lv_has ls 1 [(0, .int p1)] := hl
  refine lv_iload_n hx hb dX6_isDigit_0 rfl (lv_at hl 0 rfl) ?_
  refine lv_bipush (v := 48) hx hb dX6_isDigit_1 (by decide) ?_
  refine lv_icmp_lt (tgt := 16) hx hb dX6_isDigit_3 (by decide) (fun hc_1 => ?_) (fun hc_1 => ?_)
  · refine lv_iconst (v := 0) hx hb dX6_isDigit_16 (by decide) ?_
    exact W.zret (v := 0) hx hb hr (by decide) (fun t ht hW => ⟨⟨0, ws, rfl, ⟨hT, (Or.inr ⟨rfl, rp_out1 (L := 48) (U := 57) (by decide) hc_1⟩)⟩, by rw [ht]; exact hP, by rw [hAe]; exact hD⟩, hS.F ht⟩) hS.2.2 dX6_isDigit_17
  · refine lv_iload_n hx hb dX6_isDigit_6 rfl (lv_at hl 0 rfl) ?_
    refine lv_bipush (v := 57) hx hb dX6_isDigit_7 (by decide) ?_
    refine lv_icmp_gt (tgt := 16) hx hb dX6_isDigit_9 (by decide) (fun hc_2 => ?_) (fun hc_2 => ?_)
    · refine lv_iconst (v := 0) hx hb dX6_isDigit_16 (by decide) ?_
      exact W.zret (v := 0) hx hb hr (by decide) (fun t ht hW => ⟨⟨0, ws, rfl, ⟨hT, (Or.inr ⟨rfl, rp_out2 (L := 48) (U := 57) (by decide) hc_2⟩)⟩, by rw [ht]; exact hP, by rw [hAe]; exact hD⟩, hS.F ht⟩) hS.2.2 dX6_isDigit_17
    · refine lv_iconst (v := 1) hx hb dX6_isDigit_12 (by decide) ?_
      refine lv_goto (tgt := 17) hx hb dX6_isDigit_13 (by decide) ?_
      exact W.zret (v := 1) hx hb hr (by decide) (fun t ht hW => ⟨⟨1, ws, rfl, ⟨hT, (Or.inl ⟨rfl, rp_in1 (L := 48) (U := 57) (by decide) (by decide) hc_1 hc_2⟩)⟩, by rw [ht]; exact hP, by rw [hAe]; exact hD⟩, hS.F ht⟩) hS.2.2 dX6_isDigit_17
set_option maxRecDepth 100000 in
set_option maxHeartbeats 4000000 in
theorem r_fail (l : Launch) (D : va_G) (ct : Nat → ClassId) (S : ty_S) (ws : va_W) (ph : va_W → Prop) (xx : Nat → Nat → Nat → Prop) (rd : Nat) (bt : Nat) (tg : Nat) (ln : Int32) (pl : Int32) (wst : Int32) (er : Int32) (ep : Int32) (p1 : Int32) (p2 : Int32) (sz : Nat) (hT : ty_V ct S ph ws) (hph : ty_C ph xx) (hy1 : ty_y1 xx) (hk : ¬ p1 = 0) : Met l yX6_fail (ws_ yX6_fail cX6_fail 3 none) ({ frames := 0, cells := 0, slots := 0, locals := 0 } : Room) (va_Pc [.ref rd, .int p1, .int p2] (cmP D ct sz ([(ty_RD rd bt ln tg pl wst er ep)] ++ ws))) (va_Qv (fun (u : va_W × Int32 × Int32) => match u with | (u9, er1, ep1) => ty_V ct S ph u9 ∧ rp_o er ep er1 ep1 p1 p2 True) (cmB D ([(ty_RD rd bt ln tg pl wst er ep)] ++ ws) sz (fun (u : va_W × Int32 × Int32) => match u with | (u9, er1, ep1) => ([(ty_RD rd bt ln tg pl wst er1 ep1)] ++ u9))) (va_A ([(ty_RD rd bt ln tg pl wst er ep)] ++ ws) sz)) 0 0 (va_A ([(ty_RD rd bt ln tg pl wst er ep)] ++ ws) sz) := by
  refine Met.ofW (cc := cX6_fail) (maxL := 3) (ret := none) (by decide) rfl ?_
  intro p e s m args below meth c s₁ B hml hv
  obtain ⟨rfl, hsz, hP, hK, hD0, hX⟩ := hv
  have hx := B.exec
  have hb := B.bytes
  have hr := B.returns
  have hts := ws_all (atoms_spec (ws := ws_ yX6_fail cX6_fail 3 none) B.pre)
  have hown : s.vm.findClass RX6 = some m.cls := findClass_of_methodNamed B.named
  have hlocks := B.notSynchronized
  subst hsz
  have hD := hD0.self (sz := s.heap.size)
  generalize hAe : va_A ([(ty_RD rd bt ln tg pl wst er ep)] ++ ws) s.heap.size = A at hD hX ⊢
  have hA : ∀ q : Nat, s.heap.size ≤ q → A q := fun q h => by rw [← hAe]; exact Or.inr h
  have hS : va_S A s.heap s.heap [] := va_S.rf
  have hl := lv_entry ([.ref rd, .int p1, .int p2]) (n := 3) (Nat.le_of_ble_eq_true rfl)
  rw [lg_entry_eq]
  generalize (lg_sl ([.ref rd, .int p1, .int p2]) ++ List.replicate (3 - (lg_sl ([.ref rd, .int p1, .int p2])).length) Slot.unset).toArray = ls at hl ⊢
  have hl : lv_has ls 3 [(0, .ref rd), (1, .int p1), (2, .int p2)] := hl
  refine lv_aload_n hx hb dX6_fail_0 rfl (lv_at hl 0 rfl) ?_
  refine va_get (v := .int er) (D := D) (ci := 6) (C := RX6) (T := TX6) (N := 7) hx hb hts in_X6 hown hK hP 0 rfl rfl 5 (by decide) (hts _ kl_RX6_58) (fun _ h9 => h9) rfl dX6_fail_1 ?_
  refine lv_if_ne (tgt := 17) hx hb dX6_fail_4 (by decide) (fun hc_1 => ?_) (fun hc_1 => ?_)
  · exact W.vret hx hb hr (fun t ht hW => ⟨⟨(ws, er, ep), rfl, ⟨hT, ⟨fun _ => ⟨rfl, rfl⟩, fun q => absurd q hc_1⟩⟩, by rw [ht]; exact hP, by rw [hAe]; exact hD⟩, hS.F ht⟩) hS.2.2 dX6_fail_17
  · refine lv_aload_n hx hb dX6_fail_7 rfl (lv_at hl 0 rfl) ?_
    refine lv_iload_n hx hb dX6_fail_8 rfl (lv_at hl 1 rfl) ?_
    refine va_put (v := .int p1) (ty := .int) (D := D) (ci := 6) (C := RX6) (T := TX6) (N := 7) hx hb hts in_X6 tyX6 tyX6_ok nmX6 hown hK hP hD hS 0 rfl rfl 5 (by decide) (hts _ kl_RX6_58) (fun _ h9 => h9) rfl (by decide +kernel) rfl rfl (Nat.le_of_ble_eq_true rfl) dX6_fail_9 (fun H locs hP hD hS => ?_)
    have hP : va_P D vwCl ([(ty_RD rd bt ln tg pl wst p1 ep)] ++ ws) H := hP
    have hD : va_D A ([(ty_RD rd bt ln tg pl wst p1 ep)] ++ ws) := hD
    refine lv_aload_n hx hb dX6_fail_12 rfl (lv_at hl 0 rfl) ?_
    refine lv_iload_n hx hb dX6_fail_13 rfl (lv_at hl 2 rfl) ?_
    refine va_put (v := .int p2) (ty := .int) (D := D) (ci := 6) (C := RX6) (T := TX6) (N := 7) hx hb hts in_X6 tyX6 tyX6_ok nmX6 hown hK hP hD hS 0 rfl rfl 6 (by decide) (hts _ kl_RX6_236) (fun _ h9 => h9) rfl (by decide +kernel) rfl rfl (Nat.le_of_ble_eq_true rfl) dX6_fail_14 (fun H locs hP hD hS => ?_)
    have hP : va_P D vwCl ([(ty_RD rd bt ln tg pl wst p1 p2)] ++ ws) H := hP
    have hD : va_D A ([(ty_RD rd bt ln tg pl wst p1 p2)] ++ ws) := hD
    exact W.vret hx hb hr (fun t ht hW => ⟨⟨(ws, p1, p2), rfl, ⟨hT, ⟨fun q => absurd hc_1 q, fun _ => Or.inr ⟨hk, rfl, rfl⟩⟩⟩, by rw [ht]; exact hP, by rw [hAe]; exact hD⟩, hS.F ht⟩) hS.2.2 dX6_fail_17
set_option maxRecDepth 100000 in
set_option maxHeartbeats 4000000 in
theorem r_skip (l : Launch) (D : va_G) (ct : Nat → ClassId) (S : ty_S) (ws : va_W) (ph : va_W → Prop) (xx : Nat → Nat → Nat → Prop) (rd : Nat) (bt : Nat) (tg : Nat) (ln : Int32) (pl : Int32) (wst : Int32) (er : Int32) (ep : Int32) (b : Nat → Int32) (sz : Nat) (hT : ty_V ct S ph ws) (hph : ty_C ph xx) (hy1 : ty_y1 xx) (hln : 0 ≤ ln.toInt ∧ ln.toInt ≤ 800) (hpl : 0 ≤ pl.toInt ∧ pl.toInt ≤ ln.toInt) : Met l yX6_skipSpaces (ws_ yX6_skipSpaces cX6_skipSpaces 1 none) ({ frames := 1, cells := 0, slots := 0, locals := 20 } : Room) (va_Pc [.ref rd] (cmP D ct sz ([(ty_RD rd bt ln tg pl wst er ep), (rf_RW ct 0 bt 800 b)] ++ ws))) (va_Qv (fun (u : va_W × Int32) => match u with | (u9, pl1) => ty_V ct S ph u9 ∧ pl1 = (rp_sk b ln pl)) (cmB D ([(ty_RD rd bt ln tg pl wst er ep), (rf_RW ct 0 bt 800 b)] ++ ws) sz (fun (u : va_W × Int32) => match u with | (u9, pl1) => ([(ty_RD rd bt ln tg pl1 wst er ep), (rf_RW ct 0 bt 800 b)] ++ u9))) (va_A ([(ty_RD rd bt ln tg pl wst er ep), (rf_RW ct 0 bt 800 b)] ++ ws) sz)) 0 0 (va_A ([(ty_RD rd bt ln tg pl wst er ep), (rf_RW ct 0 bt 800 b)] ++ ws) sz) := by
  refine Met.ofW (cc := cX6_skipSpaces) (maxL := 1) (ret := none) (by decide) rfl ?_
  intro p e s m args below meth c s₁ B hml hv
  obtain ⟨rfl, hsz, hP, hK, hD0, hX⟩ := hv
  have hx := B.exec
  have hb := B.bytes
  have hr := B.returns
  have hts := ws_all (atoms_spec (ws := ws_ yX6_skipSpaces cX6_skipSpaces 1 none) B.pre)
  have hown : s.vm.findClass RX6 = some m.cls := findClass_of_methodNamed B.named
  have hlocks := B.notSynchronized
  subst hsz
  have hD := hD0.self (sz := s.heap.size)
  generalize hAe : va_A ([(ty_RD rd bt ln tg pl wst er ep), (rf_RW ct 0 bt 800 b)] ++ ws) s.heap.size = A at hD hX ⊢
  have hA : ∀ q : Nat, s.heap.size ≤ q → A q := fun q h => by rw [← hAe]; exact Or.inr h
  have hS : va_S A s.heap s.heap [] := va_S.rf
  have hl := lv_entry ([.ref rd]) (n := 1) (Nat.le_of_ble_eq_true rfl)
  rw [lg_entry_eq]
  generalize (lg_sl ([.ref rd]) ++ List.replicate (1 - (lg_sl ([.ref rd])).length) Slot.unset).toArray = ls at hl ⊢
  have hl : lv_has ls 1 [(0, .ref rd)] := hl
  refine ty_loop (I := fun μ H locs ls => ∃ (ws : va_W) (y_1 : Int32), μ = (2147483648 - y_1.toInt).toNat ∧ ty_V ct S ph ws ∧ va_P D vwCl ([(ty_RD rd bt ln tg y_1 wst er ep), (rf_RW ct 0 bt 800 b)] ++ ws) H ∧ va_D A ([(ty_RD rd bt ln tg y_1 wst er ep), (rf_RW ct 0 bt 800 b)] ++ ws) ∧ va_S A s.heap H locs ∧ lv_has ls 1 [(0, .ref rd)] ∧ (pl.toInt ≤ y_1.toInt ∧ y_1.toInt ≤ ln.toInt) ∧ rp_sk b ln pl = rp_sk b ln y_1) ⟨_, ws, pl, rfl, hT, hP, hD, hS, (lv_sub hl [0] rfl), ⟨Int.le_refl _, hpl.2⟩, rfl⟩ (fun μ H locs ls hI ih_0 => ?_)
  obtain ⟨ws, y_1, rfl, hT, hP, hD, hS, hl, hex_0⟩ := hI
  refine lv_aload_n hx hb dX6_skipSpaces_0 rfl (lv_at hl 0 rfl) ?_
  refine va_get (v := .int y_1) (D := D) (ci := 6) (C := RX6) (T := TX6) (N := 7) hx hb hts in_X6 hown hK hP 0 rfl rfl 3 (by decide) (hts _ kl_RX6_65) (fun _ h9 => h9) rfl dX6_skipSpaces_1 ?_
  refine lv_aload_n hx hb dX6_skipSpaces_4 rfl (lv_at hl 0 rfl) ?_
  refine va_get (v := .int ln) (D := D) (ci := 6) (C := RX6) (T := TX6) (N := 7) hx hb hts in_X6 hown hK hP 0 rfl rfl 1 (by decide) (hts _ kl_RX6_15) (fun _ h9 => h9) rfl dX6_skipSpaces_5 ?_
  refine lv_icmp_ge (tgt := 33) hx hb dX6_skipSpaces_8 (by decide) (fun hc_2 => ?_) (fun hc_2 => ?_)
  · exact W.vret hx hb hr (fun t ht hW => ⟨⟨(ws, y_1), rfl, ⟨hT, ((hex_0.2).trans (rp_toE (by have := hex_0.1; omega) (rp_notE hc_2).2.2)).symm⟩, by rw [ht]; exact hP, by rw [hAe]; exact hD⟩, hS.F ht⟩) hS.2.2 dX6_skipSpaces_33
  · refine lv_aload_n hx hb dX6_skipSpaces_11 rfl (lv_at hl 0 rfl) ?_
    obtain ⟨hP, hD⟩ := ty_ipPD (E1 := []) (E2 := [(ty_RD rd bt ln tg y_1 wst er ep), (rf_RW ct 0 bt 800 b)]) hP hD rfl ty_mv2
    refine ty_Ki hP hD hS hA (va_runV (As := []) (rest := []) ⟨hx, hb, hml, hown, hts⟩ (r_next l D ct (fun _ => none) [] (fun _ => True) (fun _ _ _ => True) rd bt tg ln y_1 wst er ep b _ ty_V0 ty_C0 ty_y10 hln (by have := hex_0.1; have := hln; omega)) (cm_V 0 hts kc_X6_next ki_RX6 kl_RX6_61 kv_X6_next kx_X6_next kd_X6_next ⟨Nat.le_of_ble_eq_true rfl, Nat.le_of_ble_eq_true rfl⟩) (ty_preE (ci := 6) hP hK hD hS hA hX rfl (ty_app (j := 0) rfl)) rfl rfl hl.1 rfl (lv_room (Nat.le_of_ble_eq_true rfl)) dX6_skipSpaces_12 ⟨Nat.le_of_ble_eq_true rfl, Nat.le_of_ble_eq_true rfl⟩) (fun r_3 u H locs hw_4 hP hD hS => ?_)
    obtain ⟨ws_5, rfl⟩ : ∃ z, z = u := ⟨_, rfl⟩
    obtain ⟨hT9_6, rfl⟩ := hw_4
    obtain ⟨hP, hD⟩ := ty_bkPD (E := [(ty_RD rd bt ln tg y_1 wst er ep), (rf_RW ct 0 bt 800 b)]) hP hD rfl
    refine lv_bipush (v := 32) hx hb dX6_skipSpaces_15 (by decide) ?_
    refine lv_icmp_ne (tgt := 33) hx hb dX6_skipSpaces_17 (by decide) (fun hc_7 => ?_) (fun hc_7 => ?_)
    · exact W.vret hx hb hr (fun t ht hW => ⟨⟨(ws, y_1), rfl, ⟨hT, ((hex_0.2).trans (rp_toE (by have := hex_0.1; omega) (rp_spcN (rf_lth hc_2) hc_7))).symm⟩, by rw [ht]; exact hP, by rw [hAe]; exact hD⟩, hS.F ht⟩) hS.2.2 dX6_skipSpaces_33
    · refine lv_aload_n hx hb dX6_skipSpaces_20 rfl (lv_at hl 0 rfl) ?_
      refine lv_dup hx hb dX6_skipSpaces_21 rfl ?_
      refine va_get (v := .int y_1) (D := D) (ci := 6) (C := RX6) (T := TX6) (N := 7) hx hb hts in_X6 hown hK hP 0 rfl rfl 3 (by decide) (hts _ kl_RX6_65) (fun _ h9 => h9) rfl dX6_skipSpaces_22 ?_
      refine lv_iconst (v := 1) hx hb dX6_skipSpaces_25 (by decide) ?_
      refine lv_iadd hx hb dX6_skipSpaces_26 ?_
      refine va_put (v := .int (y_1 + 1)) (ty := .int) (D := D) (ci := 6) (C := RX6) (T := TX6) (N := 7) hx hb hts in_X6 tyX6 tyX6_ok nmX6 hown hK hP hD hS 0 rfl rfl 3 (by decide) (hts _ kl_RX6_65) (fun _ h9 => h9) rfl (by decide +kernel) rfl rfl (Nat.le_of_ble_eq_true rfl) dX6_skipSpaces_27 (fun H locs hP hD hS => ?_)
      have hP : va_P D vwCl ([(ty_RD rd bt ln tg (y_1 + 1) wst er ep), (rf_RW ct 0 bt 800 b)] ++ ws) H := hP
      have hD : va_D A ([(ty_RD rd bt ln tg (y_1 + 1) wst er ep), (rf_RW ct 0 bt 800 b)] ++ ws) := hD
      refine lv_goto (tgt := 0) hx hb dX6_skipSpaces_30 (by decide) ?_
      exact ih_0 _ _ _ _ (ty_inc1 (cm_lt hc_2)) ⟨ws, (y_1 + 1), rfl, hT, hP, hD, hS, (lv_sub hl [0] rfl), (by have := hex_0.1; have := (rf_lth hc_2); have e := rf_p1 (x := y_1) (by omega); omega), hex_0.2.trans (rp_toS (by have := hex_0.1; omega) (rp_spcI (rf_lth hc_2) hc_7))⟩
set_option maxRecDepth 100000 in
set_option maxHeartbeats 4000000 in
theorem r_readWord (l : Launch) (D : va_G) (ct : Nat → ClassId) (S : ty_S) (ws : va_W) (ph : va_W → Prop) (xx : Nat → Nat → Nat → Prop) (rd : Nat) (bt : Nat) (tg : Nat) (ln : Int32) (pl : Int32) (wst : Int32) (er : Int32) (ep : Int32) (b : Nat → Int32) (sz : Nat) (hT : ty_V ct S ph ws) (hph : ty_C ph xx) (hy1 : ty_y1 xx) (hln : 0 ≤ ln.toInt ∧ ln.toInt ≤ 800) (hpl : 0 ≤ pl.toInt ∧ pl.toInt ≤ ln.toInt) : Met l yX6_readWord (ws_ yX6_readWord cX6_readWord 1 none) ({ frames := 2, cells := 0, slots := 0, locals := 40 } : Room) (va_Pc [.ref rd] (cmP D ct sz ([(ty_RD rd bt ln tg pl wst er ep), (rf_RW ct 0 bt 800 b)] ++ ws))) (va_Qv (fun (u : va_W × Int32 × Int32 × Int32 × Int32) => match u with | (u9, pl1, ws1, er1, ep1) => ty_V ct S ph u9 ∧ pl1 = (rp_we b ln (rp_sk b ln pl)) ∧ ws1 = (rp_sk b ln pl) ∧ rp_o er ep er1 ep1 (rp_wk b ln (rp_sk b ln pl)) (rp_sk b ln pl) True) (cmB D ([(ty_RD rd bt ln tg pl wst er ep), (rf_RW ct 0 bt 800 b)] ++ ws) sz (fun (u : va_W × Int32 × Int32 × Int32 × Int32) => match u with | (u9, pl1, ws1, er1, ep1) => ([(ty_RD rd bt ln tg pl1 ws1 er1 ep1), (rf_RW ct 0 bt 800 b)] ++ u9))) (va_A ([(ty_RD rd bt ln tg pl wst er ep), (rf_RW ct 0 bt 800 b)] ++ ws) sz)) 0 0 (va_A ([(ty_RD rd bt ln tg pl wst er ep), (rf_RW ct 0 bt 800 b)] ++ ws) sz) := by
  refine Met.ofW (cc := cX6_readWord) (maxL := 1) (ret := none) (by decide) rfl ?_
  intro p e s m args below meth c s₁ B hml hv
  obtain ⟨rfl, hsz, hP, hK, hD0, hX⟩ := hv
  have hx := B.exec
  have hb := B.bytes
  have hr := B.returns
  have hts := ws_all (atoms_spec (ws := ws_ yX6_readWord cX6_readWord 1 none) B.pre)
  have hown : s.vm.findClass RX6 = some m.cls := findClass_of_methodNamed B.named
  have hlocks := B.notSynchronized
  subst hsz
  have hD := hD0.self (sz := s.heap.size)
  generalize hAe : va_A ([(ty_RD rd bt ln tg pl wst er ep), (rf_RW ct 0 bt 800 b)] ++ ws) s.heap.size = A at hD hX ⊢
  have hA : ∀ q : Nat, s.heap.size ≤ q → A q := fun q h => by rw [← hAe]; exact Or.inr h
  have hS : va_S A s.heap s.heap [] := va_S.rf
  have hl := lv_entry ([.ref rd]) (n := 1) (Nat.le_of_ble_eq_true rfl)
  rw [lg_entry_eq]
  generalize (lg_sl ([.ref rd]) ++ List.replicate (1 - (lg_sl ([.ref rd])).length) Slot.unset).toArray = ls at hl ⊢
  have hl : lv_has ls 1 [(0, .ref rd)] := hl
  refine lv_aload_n hx hb dX6_readWord_0 rfl (lv_at hl 0 rfl) ?_
  obtain ⟨hP, hD⟩ := ty_ipPD (E1 := []) (E2 := [(ty_RD rd bt ln tg pl wst er ep), (rf_RW ct 0 bt 800 b)]) hP hD rfl ty_mv2
  refine ty_Kv hP hD hS hA (va_runV (As := []) (rest := []) ⟨hx, hb, hml, hown, hts⟩ (r_skip l D ct (fun _ => none) [] (fun _ => True) (fun _ _ _ => True) rd bt tg ln pl wst er ep b _ ty_V0 ty_C0 ty_y10 hln hpl) (cm_V 0 hts kc_X6_skipSpaces ki_RX6 kl_RX6_55 kv_X6_skipSpaces kx_X6_skipSpaces kd_X6_skipSpaces ⟨Nat.le_of_ble_eq_true rfl, Nat.le_of_ble_eq_true rfl⟩) (ty_preE (ci := 6) hP hK hD hS hA hX rfl (ty_app (j := 0) rfl)) rfl rfl hl.1 rfl (lv_room (Nat.le_of_ble_eq_true rfl)) dX6_readWord_1 ⟨Nat.le_of_ble_eq_true rfl, Nat.le_of_ble_eq_true rfl⟩) (fun u H locs hw_2 hP hD hS => ?_)
  obtain ⟨ws_3, pl1_4⟩ := u
  obtain ⟨hT9_5, hp_6⟩ := hw_2
  have hp_6 : pl1_4 = (rp_sk b ln pl) := hp_6
  obtain ⟨hP, hD⟩ := ty_bkPD (E := [(ty_RD rd bt ln tg pl1_4 wst er ep), (rf_RW ct 0 bt 800 b)]) hP hD rfl
  obtain rfl := hp_6
  have hsb := rp_sk_b (b := b) hln.2 hpl
  refine lv_aload_n hx hb dX6_readWord_4 rfl (lv_at hl 0 rfl) ?_
  refine lv_aload_n hx hb dX6_readWord_5 rfl (lv_at hl 0 rfl) ?_
  refine va_get (v := .int (rp_sk b ln pl)) (D := D) (ci := 6) (C := RX6) (T := TX6) (N := 7) hx hb hts in_X6 hown hK hP 0 rfl rfl 3 (by decide) (hts _ kl_RX6_65) (fun _ h9 => h9) rfl dX6_readWord_6 ?_
  refine va_put (v := .int (rp_sk b ln pl)) (ty := .int) (D := D) (ci := 6) (C := RX6) (T := TX6) (N := 7) hx hb hts in_X6 tyX6 tyX6_ok nmX6 hown hK hP hD hS 0 rfl rfl 4 (by decide) (hts _ kl_RX6_130) (fun _ h9 => h9) rfl (by decide +kernel) rfl rfl (Nat.le_of_ble_eq_true rfl) dX6_readWord_9 (fun H locs hP hD hS => ?_)
  have hP : va_P D vwCl ([(ty_RD rd bt ln tg (rp_sk b ln pl) (rp_sk b ln pl) er ep), (rf_RW ct 0 bt 800 b)] ++ ws) H := hP
  have hD : va_D A ([(ty_RD rd bt ln tg (rp_sk b ln pl) (rp_sk b ln pl) er ep), (rf_RW ct 0 bt 800 b)] ++ ws) := hD
  refine lv_aload_n hx hb dX6_readWord_12 rfl (lv_at hl 0 rfl) ?_
  obtain ⟨hP, hD⟩ := ty_ipPD (E1 := []) (E2 := [(ty_RD rd bt ln tg (rp_sk b ln pl) (rp_sk b ln pl) er ep), (rf_RW ct 0 bt 800 b)]) hP hD rfl ty_mv2
  refine ty_Ki hP hD hS hA (va_runV (As := []) (rest := []) ⟨hx, hb, hml, hown, hts⟩ (r_next l D ct (fun _ => none) [] (fun _ => True) (fun _ _ _ => True) rd bt tg ln (rp_sk b ln pl) (rp_sk b ln pl) er ep b _ ty_V0 ty_C0 ty_y10 hln (by omega)) (cm_V 0 hts kc_X6_next ki_RX6 kl_RX6_61 kv_X6_next kx_X6_next kd_X6_next ⟨Nat.le_of_ble_eq_true rfl, Nat.le_of_ble_eq_true rfl⟩) (ty_preE (ci := 6) hP hK hD hS hA hX rfl (ty_app (j := 0) rfl)) rfl rfl hl.1 rfl (lv_room (Nat.le_of_ble_eq_true rfl)) dX6_readWord_13 ⟨Nat.le_of_ble_eq_true rfl, Nat.le_of_ble_eq_true rfl⟩) (fun r_8 u H locs hw_9 hP hD hS => ?_)
  obtain ⟨ws_10, rfl⟩ : ∃ z, z = u := ⟨_, rfl⟩
  obtain ⟨hT9_11, rfl⟩ := hw_9
  obtain ⟨hP, hD⟩ := ty_bkPD (E := [(ty_RD rd bt ln tg (rp_sk b ln pl) (rp_sk b ln pl) er ep), (rf_RW ct 0 bt 800 b)]) hP hD rfl
  obtain ⟨hP, hD⟩ := ty_ipPD (E1 := [(ty_RD rd bt ln tg (rp_sk b ln pl) (rp_sk b ln pl) er ep), (rf_RW ct 0 bt 800 b)]) (E2 := []) hP hD rfl ty_mv2
  refine ty_Ki hP hD hS hA (va_runS (As := [.int (rp_nx b ln (rp_sk b ln pl))]) (rest := []) ⟨hx, hb, hml, hown, hts⟩ (r_isLetter l D ct (fun _ => none) [] (fun _ => True) (fun _ _ _ => True) (rp_nx b ln (rp_sk b ln pl)) _ ty_V0 ty_C0 ty_y10) (cm_S 1 hts kc_X6_isLetter ki_RX6 kl_RX6_202 ks_X6_isLetter kd_X6_isLetter ⟨Nat.le_of_ble_eq_true rfl, Nat.le_of_ble_eq_true rfl⟩) (ty_preS hP hK hD hS hA hX) rfl rfl hl.1 rfl (lv_room (Nat.le_of_ble_eq_true rfl)) dX6_readWord_16 ⟨Nat.le_of_ble_eq_true rfl, Nat.le_of_ble_eq_true rfl⟩) (fun r_12 u H locs hw_13 hP hD hS => ?_)
  obtain ⟨ws_14, rfl⟩ : ∃ z, z = u := ⟨_, rfl⟩
  obtain ⟨hT9_15, hp_16⟩ := hw_13
  have hp_16 : ((r_12 = 1 ∧ 97 ≤ (rp_nx b ln (rp_sk b ln pl)).toInt ∧ (rp_nx b ln (rp_sk b ln pl)).toInt ≤ 122) ∨ (r_12 = 0 ∧ ¬ (97 ≤ (rp_nx b ln (rp_sk b ln pl)).toInt ∧ (rp_nx b ln (rp_sk b ln pl)).toInt ≤ 122))) := hp_16
  obtain ⟨hP, hD⟩ := ty_bkPD (E := [(ty_RD rd bt ln tg (rp_sk b ln pl) (rp_sk b ln pl) er ep), (rf_RW ct 0 bt 800 b)]) hP hD rfl
  rcases hp_16 with ⟨rfl, hz_17⟩ | ⟨rfl, hz_18⟩
  · refine lv_if_ne (tgt := 32) hx hb dX6_readWord_19 (by decide) (fun _ => ?_) (fun hc => absurd hc (by decide))
    refine ty_loop (I := fun μ H locs ls => ∃ (ws : va_W) (y_19 : Int32), μ = (2147483648 - y_19.toInt).toNat ∧ ty_V ct S ph ws ∧ va_P D vwCl ([(ty_RD rd bt ln tg y_19 (rp_sk b ln pl) er ep), (rf_RW ct 0 bt 800 b)] ++ ws) H ∧ va_D A ([(ty_RD rd bt ln tg y_19 (rp_sk b ln pl) er ep), (rf_RW ct 0 bt 800 b)] ++ ws) ∧ va_S A s.heap H locs ∧ lv_has ls 1 [(0, .ref rd)] ∧ ((rp_sk b ln pl).toInt ≤ y_19.toInt ∧ y_19.toInt ≤ ln.toInt) ∧ rp_we b ln (rp_sk b ln pl) = rp_we b ln y_19) ⟨_, ws, (rp_sk b ln pl), rfl, hT, hP, hD, hS, (lv_sub hl [0] rfl), ⟨Int.le_refl _, hsb.2⟩, rfl⟩ (fun μ H locs ls hI ih_32 => ?_)
    obtain ⟨ws, y_19, rfl, hT, hP, hD, hS, hl, hex_32⟩ := hI
    refine lv_aload_n hx hb dX6_readWord_32 rfl (lv_at hl 0 rfl) ?_
    refine va_get (v := .int y_19) (D := D) (ci := 6) (C := RX6) (T := TX6) (N := 7) hx hb hts in_X6 hown hK hP 0 rfl rfl 3 (by decide) (hts _ kl_RX6_65) (fun _ h9 => h9) rfl dX6_readWord_33 ?_
    refine lv_aload_n hx hb dX6_readWord_36 rfl (lv_at hl 0 rfl) ?_
    refine va_get (v := .int ln) (D := D) (ci := 6) (C := RX6) (T := TX6) (N := 7) hx hb hts in_X6 hown hK hP 0 rfl rfl 1 (by decide) (hts _ kl_RX6_15) (fun _ h9 => h9) rfl dX6_readWord_37 ?_
    refine lv_icmp_ge (tgt := 66) hx hb dX6_readWord_40 (by decide) (fun hc_20 => ?_) (fun hc_20 => ?_)
    · exact W.vret hx hb hr (fun t ht hW => ⟨⟨(ws, y_19, (rp_sk b ln pl), er, ep), rfl, ⟨hT, ⟨(hex_32.2.trans (rp_toE (by have := hex_32.1; omega) (rp_notE hc_20).1)).symm, rfl, ⟨fun _ => ⟨rfl, rfl⟩, fun q9 => Or.inl ⟨if_pos (rp_letI hz_17), q9, rfl, trivial⟩⟩⟩⟩, by rw [ht]; exact hP, by rw [hAe]; exact hD⟩, hS.F ht⟩) hS.2.2 dX6_readWord_66
    · refine lv_aload_n hx hb dX6_readWord_43 rfl (lv_at hl 0 rfl) ?_
      obtain ⟨hP, hD⟩ := ty_ipPD (E1 := []) (E2 := [(ty_RD rd bt ln tg y_19 (rp_sk b ln pl) er ep), (rf_RW ct 0 bt 800 b)]) hP hD rfl ty_mv2
      refine ty_Ki hP hD hS hA (va_runV (As := []) (rest := []) ⟨hx, hb, hml, hown, hts⟩ (r_next l D ct (fun _ => none) [] (fun _ => True) (fun _ _ _ => True) rd bt tg ln y_19 (rp_sk b ln pl) er ep b _ ty_V0 ty_C0 ty_y10 hln (by have := hex_32.1; omega)) (cm_V 0 hts kc_X6_next ki_RX6 kl_RX6_61 kv_X6_next kx_X6_next kd_X6_next ⟨Nat.le_of_ble_eq_true rfl, Nat.le_of_ble_eq_true rfl⟩) (ty_preE (ci := 6) hP hK hD hS hA hX rfl (ty_app (j := 0) rfl)) rfl rfl hl.1 rfl (lv_room (Nat.le_of_ble_eq_true rfl)) dX6_readWord_44 ⟨Nat.le_of_ble_eq_true rfl, Nat.le_of_ble_eq_true rfl⟩) (fun r_21 u H locs hw_22 hP hD hS => ?_)
      obtain ⟨ws_23, rfl⟩ : ∃ z, z = u := ⟨_, rfl⟩
      obtain ⟨hT9_24, rfl⟩ := hw_22
      obtain ⟨hP, hD⟩ := ty_bkPD (E := [(ty_RD rd bt ln tg y_19 (rp_sk b ln pl) er ep), (rf_RW ct 0 bt 800 b)]) hP hD rfl
      obtain ⟨hP, hD⟩ := ty_ipPD (E1 := [(ty_RD rd bt ln tg y_19 (rp_sk b ln pl) er ep), (rf_RW ct 0 bt 800 b)]) (E2 := []) hP hD rfl ty_mv2
      refine ty_Ki hP hD hS hA (va_runS (As := [.int (rp_nx b ln y_19)]) (rest := []) ⟨hx, hb, hml, hown, hts⟩ (r_isLetter l D ct (fun _ => none) [] (fun _ => True) (fun _ _ _ => True) (rp_nx b ln y_19) _ ty_V0 ty_C0 ty_y10) (cm_S 1 hts kc_X6_isLetter ki_RX6 kl_RX6_202 ks_X6_isLetter kd_X6_isLetter ⟨Nat.le_of_ble_eq_true rfl, Nat.le_of_ble_eq_true rfl⟩) (ty_preS hP hK hD hS hA hX) rfl rfl hl.1 rfl (lv_room (Nat.le_of_ble_eq_true rfl)) dX6_readWord_47 ⟨Nat.le_of_ble_eq_true rfl, Nat.le_of_ble_eq_true rfl⟩) (fun r_25 u H locs hw_26 hP hD hS => ?_)
      obtain ⟨ws_27, rfl⟩ : ∃ z, z = u := ⟨_, rfl⟩
      obtain ⟨hT9_28, hp_29⟩ := hw_26
      have hp_29 : ((r_25 = 1 ∧ 97 ≤ (rp_nx b ln y_19).toInt ∧ (rp_nx b ln y_19).toInt ≤ 122) ∨ (r_25 = 0 ∧ ¬ (97 ≤ (rp_nx b ln y_19).toInt ∧ (rp_nx b ln y_19).toInt ≤ 122))) := hp_29
      obtain ⟨hP, hD⟩ := ty_bkPD (E := [(ty_RD rd bt ln tg y_19 (rp_sk b ln pl) er ep), (rf_RW ct 0 bt 800 b)]) hP hD rfl
      rcases hp_29 with ⟨rfl, hz_30⟩ | ⟨rfl, hz_31⟩
      · refine lv_if_eq (tgt := 66) hx hb dX6_readWord_50 (by decide) (fun hc => absurd hc (by decide)) (fun _ => ?_)
        refine lv_aload_n hx hb dX6_readWord_53 rfl (lv_at hl 0 rfl) ?_
        refine lv_dup hx hb dX6_readWord_54 rfl ?_
        refine va_get (v := .int y_19) (D := D) (ci := 6) (C := RX6) (T := TX6) (N := 7) hx hb hts in_X6 hown hK hP 0 rfl rfl 3 (by decide) (hts _ kl_RX6_65) (fun _ h9 => h9) rfl dX6_readWord_55 ?_
        refine lv_iconst (v := 1) hx hb dX6_readWord_58 (by decide) ?_
        refine lv_iadd hx hb dX6_readWord_59 ?_
        refine va_put (v := .int (y_19 + 1)) (ty := .int) (D := D) (ci := 6) (C := RX6) (T := TX6) (N := 7) hx hb hts in_X6 tyX6 tyX6_ok nmX6 hown hK hP hD hS 0 rfl rfl 3 (by decide) (hts _ kl_RX6_65) (fun _ h9 => h9) rfl (by decide +kernel) rfl rfl (Nat.le_of_ble_eq_true rfl) dX6_readWord_60 (fun H locs hP hD hS => ?_)
        have hP : va_P D vwCl ([(ty_RD rd bt ln tg (y_19 + 1) (rp_sk b ln pl) er ep), (rf_RW ct 0 bt 800 b)] ++ ws) H := hP
        have hD : va_D A ([(ty_RD rd bt ln tg (y_19 + 1) (rp_sk b ln pl) er ep), (rf_RW ct 0 bt 800 b)] ++ ws) := hD
        refine lv_goto (tgt := 32) hx hb dX6_readWord_63 (by decide) ?_
        exact ih_32 _ _ _ _ (ty_inc1 (cm_lt hc_20)) ⟨ws, (y_19 + 1), rfl, hT, hP, hD, hS, (lv_sub hl [0] rfl), (by have := hex_32.1; have := (rf_lth hc_20); have e := rf_p1 (x := y_19) (by omega); omega), hex_32.2.trans (rp_toS (by have := hex_32.1; omega) (rp_letI hz_30))⟩
      · refine lv_if_eq (tgt := 66) hx hb dX6_readWord_50 (by decide) (fun _ => ?_) (fun hc => absurd (by decide) hc)
        exact W.vret hx hb hr (fun t ht hW => ⟨⟨(ws, y_19, (rp_sk b ln pl), er, ep), rfl, ⟨hT, ⟨(hex_32.2.trans (rp_toE (by have := hex_32.1; omega) (rp_letN hz_31))).symm, rfl, ⟨fun _ => ⟨rfl, rfl⟩, fun q9 => Or.inl ⟨if_pos (rp_letI hz_17), q9, rfl, trivial⟩⟩⟩⟩, by rw [ht]; exact hP, by rw [hAe]; exact hD⟩, hS.F ht⟩) hS.2.2 dX6_readWord_66
  · refine lv_if_ne (tgt := 32) hx hb dX6_readWord_19 (by decide) (fun hc => absurd (by decide) hc) (fun _ => ?_)
    refine lv_aload_n hx hb dX6_readWord_22 rfl (lv_at hl 0 rfl) ?_
    refine lv_iconst (v := 1) hx hb dX6_readWord_23 (by decide) ?_
    refine lv_aload_n hx hb dX6_readWord_24 rfl (lv_at hl 0 rfl) ?_
    refine va_get (v := .int (rp_sk b ln pl)) (D := D) (ci := 6) (C := RX6) (T := TX6) (N := 7) hx hb hts in_X6 hown hK hP 0 rfl rfl 3 (by decide) (hts _ kl_RX6_65) (fun _ h9 => h9) rfl dX6_readWord_25 ?_
    obtain ⟨hP, hD⟩ := ty_opPD (E1 := [(rf_RW ct 0 bt 800 b)]) (E2 := [(ty_RD rd bt ln tg (rp_sk b ln pl) (rp_sk b ln pl) er ep)]) (n := 2) [1, 0] hP hD rfl rfl (by decide +kernel) ty_mv2
    refine ty_Kv hP hD hS hA (va_runV (As := [.int 1, .int (rp_sk b ln pl)]) (rest := []) ⟨hx, hb, hml, hown, hts⟩ (r_fail l D ct (fun _ => none) [] (fun _ => True) (fun _ _ _ => True) rd bt tg ln (rp_sk b ln pl) (rp_sk b ln pl) er ep (1 : Int32) (rp_sk b ln pl) _ ty_V0 ty_C0 ty_y10 (by decide)) (cm_V 2 hts kc_X6_fail ki_RX6 kl_RX6_68 kv_X6_fail kx_X6_fail kd_X6_fail ⟨Nat.le_of_ble_eq_true rfl, Nat.le_of_ble_eq_true rfl⟩) (ty_preE (ci := 6) hP hK hD hS hA hX rfl (ty_app (j := 0) rfl)) rfl rfl hl.1 rfl (lv_room (Nat.le_of_ble_eq_true rfl)) dX6_readWord_28 ⟨Nat.le_of_ble_eq_true rfl, Nat.le_of_ble_eq_true rfl⟩) (fun u H locs hw_33 hP hD hS => ?_)
    obtain ⟨ws_34, er1_35, ep1_36⟩ := u
    obtain ⟨hT9_37, hp_38⟩ := hw_33
    have hp_38 : rp_o er ep er1_35 ep1_36 (1 : Int32) (rp_sk b ln pl) True := hp_38
    obtain ⟨hP, hD⟩ := ty_bkPD (E := [(rf_RW ct 0 bt 800 b), (ty_RD rd bt ln tg (rp_sk b ln pl) (rp_sk b ln pl) er1_35 ep1_36)]) hP hD rfl
    obtain ⟨hP, hD⟩ := ty_ordPD (E2 := [(ty_RD rd bt ln tg (rp_sk b ln pl) (rp_sk b ln pl) er1_35 ep1_36), (rf_RW ct 0 bt 800 b)]) (n := 2) [1, 0] hP hD rfl rfl (by decide +kernel)
    exact W.vret hx hb hr (fun t ht hW => ⟨⟨(ws, (rp_sk b ln pl), (rp_sk b ln pl), er1_35, ep1_36), rfl, ⟨hT, ⟨(rp_toE (by have := hsb; omega) (rp_letN hz_18)).symm, rfl, (by have := hp_38; rw [show rp_wk b ln (rp_sk b ln pl) = 1 from if_neg (rp_letN hz_18)]; exact this)⟩⟩, by rw [ht]; exact hP, by rw [hAe]; exact hD⟩, hS.F ht⟩) hS.2.2 dX6_readWord_31
set_option maxRecDepth 100000 in
set_option maxHeartbeats 4000000 in
theorem r_at (l : Launch) (D : va_G) (ct : Nat → ClassId) (S : ty_S) (ws : va_W) (ph : va_W → Prop) (xx : Nat → Nat → Nat → Prop) (p1 : Nat) (p2 : Int32) (b : Nat → Int32) (sz : Nat) (hT : ty_V ct S ph ws) (hph : ty_C ph xx) (hy1 : ty_y1 xx) : Met l yX10_at (ws_ yX10_at cX10_at 2 (some .int)) ({ frames := 0, cells := 0, slots := 0, locals := 0 } : Room) (va_Pc [.ref p1, .int p2] (cmP D ct sz ([(rf_RW ct 0 p1 800 b)] ++ ws))) (va_Qi (fun (r : Int32) (u9 : va_W) => ty_V ct S ph u9 ∧ r = (rp_at b p2)) (cmB D ([(rf_RW ct 0 p1 800 b)] ++ ws) sz (fun (u9 : va_W) => ([(rf_RW ct 0 p1 800 b)] ++ u9))) (va_A ([(rf_RW ct 0 p1 800 b)] ++ ws) sz)) 0 0 (va_A ([(rf_RW ct 0 p1 800 b)] ++ ws) sz) := by
  refine Met.ofW (cc := cX10_at) (maxL := 2) (ret := (some .int)) (by decide) rfl ?_
  intro p e s m args below meth c s₁ B hml hv
  obtain ⟨rfl, hsz, hP, hK, hD0, hX⟩ := hv
  have hx := B.exec
  have hb := B.bytes
  have hr := B.returns
  have hts := ws_all (atoms_spec (ws := ws_ yX10_at cX10_at 2 (some .int)) B.pre)
  have hown : s.vm.findClass RX10 = some m.cls := findClass_of_methodNamed B.named
  have hlocks := B.notSynchronized
  subst hsz
  have hD := hD0.self (sz := s.heap.size)
  generalize hAe : va_A ([(rf_RW ct 0 p1 800 b)] ++ ws) s.heap.size = A at hD hX ⊢
  have hA : ∀ q : Nat, s.heap.size ≤ q → A q := fun q h => by rw [← hAe]; exact Or.inr h
  have hS : va_S A s.heap s.heap [] := va_S.rf
  have hl := lv_entry ([.ref p1, .int p2]) (n := 2) (Nat.le_of_ble_eq_true rfl)
  rw [lg_entry_eq]
  generalize (lg_sl ([.ref p1, .int p2]) ++ List.replicate (2 - (lg_sl ([.ref p1, .int p2])).length) Slot.unset).toArray = ls at hl ⊢
  have hl : lv_has ls 2 [(0, .ref p1), (1, .int p2)] := hl
  refine lv_iload_n hx hb dX10_at_0 rfl (lv_at hl 1 rfl) ?_
  refine lv_if_lt (tgt := 10) hx hb dX10_at_1 (by decide) (fun hc_1 => ?_) (fun hc_1 => ?_)
  · refine lv_iconst (v := 0) hx hb dX10_at_10 (by decide) ?_
    refine lv_goto (tgt := 17) hx hb dX10_at_11 (by decide) ?_
    exact W.iret (v := 0) hx hb hr (fun t ht hW => ⟨⟨0, ws, rfl, ⟨hT, (if_neg (fun q => rp_neg hc_1 q.1)).symm⟩, by rw [ht]; exact hP, by rw [hAe]; exact hD⟩, hS.F ht⟩) hS.2.2 dX10_at_17
  · refine lv_iload_n hx hb dX10_at_4 rfl (lv_at hl 1 rfl) ?_
    refine lv_aload_n hx hb dX10_at_5 rfl (lv_at hl 0 rfl) ?_
    refine va_alen hx hb hK hP 0 0 rfl rfl (v := 800) (show Int32.ofNat 800 = (800 : Int32) from by decide) dX10_at_6 ?_
    refine lv_icmp_lt (tgt := 14) hx hb dX10_at_7 (by decide) (fun hc_2 => ?_) (fun hc_2 => ?_)
    · refine lv_aload_n hx hb dX10_at_14 rfl (lv_at hl 0 rfl) ?_
      refine lv_iload_n hx hb dX10_at_15 rfl (lv_at hl 1 rfl) ?_
      refine va_iald hx hb hK hP 0 0 rfl rfl (rp_vin ⟨rp_nn hc_1, rp_sml hc_2⟩) dX10_at_16 ?_
      exact W.iret (v := (b p2.toNatClampNeg)) hx hb hr (fun t ht hW => ⟨⟨(b p2.toNatClampNeg), ws, rfl, ⟨hT, (if_pos ⟨rp_nn hc_1, rp_sml hc_2⟩).symm⟩, by rw [ht]; exact hP, by rw [hAe]; exact hD⟩, hS.F ht⟩) hS.2.2 dX10_at_17
    · refine lv_iconst (v := 0) hx hb dX10_at_10 (by decide) ?_
      refine lv_goto (tgt := 17) hx hb dX10_at_11 (by decide) ?_
      exact W.iret (v := 0) hx hb hr (fun t ht hW => ⟨⟨0, ws, rfl, ⟨hT, (if_neg (fun q => by have := rp_nsml hc_2; omega)).symm⟩, by rw [ht]; exact hP, by rw [hAe]; exact hD⟩, hS.F ht⟩) hS.2.2 dX10_at_17
set_option maxRecDepth 100000 in
set_option maxHeartbeats 4000000 in
theorem r_nameCode (l : Launch) (D : va_G) (ct : Nat → ClassId) (S : ty_S) (ws : va_W) (ph : va_W → Prop) (xx : Nat → Nat → Nat → Prop) (p1 : Nat) (p2 : Int32) (p3 : Int32) (b : Nat → Int32) (sz : Nat) (hT : ty_V ct S ph ws) (hph : ty_C ph xx) (hy1 : ty_y1 xx) (hfr : 0 ≤ p2.toInt ∧ p2.toInt ≤ p3.toInt ∧ p3.toInt ≤ 800) : Met l yX10_nameCode (ws_ yX10_nameCode cX10_nameCode 6 (some .long)) ({ frames := 1, cells := 0, slots := 0, locals := 21 } : Room) (va_Pc [.ref p1, .int p2, .int p3] (cmP D ct sz ([(rf_RW ct 0 p1 800 b)] ++ ws))) (va_Ql (fun (r : Int64) (u9 : va_W) => ty_V ct S ph u9 ∧ r = (rp_cd (rp_wd b p2 p3))) (cmB D ([(rf_RW ct 0 p1 800 b)] ++ ws) sz (fun (u9 : va_W) => ([(rf_RW ct 0 p1 800 b)] ++ u9))) (va_A ([(rf_RW ct 0 p1 800 b)] ++ ws) sz)) 0 0 (va_A ([(rf_RW ct 0 p1 800 b)] ++ ws) sz) := by
  refine Met.ofW (cc := cX10_nameCode) (maxL := 6) (ret := (some .long)) (by decide) rfl ?_
  intro p e s m args below meth c s₁ B hml hv
  obtain ⟨rfl, hsz, hP, hK, hD0, hX⟩ := hv
  have hx := B.exec
  have hb := B.bytes
  have hr := B.returns
  have hts := ws_all (atoms_spec (ws := ws_ yX10_nameCode cX10_nameCode 6 (some .long)) B.pre)
  have hown : s.vm.findClass RX10 = some m.cls := findClass_of_methodNamed B.named
  have hlocks := B.notSynchronized
  subst hsz
  have hD := hD0.self (sz := s.heap.size)
  generalize hAe : va_A ([(rf_RW ct 0 p1 800 b)] ++ ws) s.heap.size = A at hD hX ⊢
  have hA : ∀ q : Nat, s.heap.size ≤ q → A q := fun q h => by rw [← hAe]; exact Or.inr h
  have hS : va_S A s.heap s.heap [] := va_S.rf
  have hl := lv_entry ([.ref p1, .int p2, .int p3]) (n := 6) (Nat.le_of_ble_eq_true rfl)
  rw [lg_entry_eq]
  generalize (lg_sl ([.ref p1, .int p2, .int p3]) ++ List.replicate (6 - (lg_sl ([.ref p1, .int p2, .int p3])).length) Slot.unset).toArray = ls at hl ⊢
  have hl : lv_has ls 6 [(0, .ref p1), (1, .int p2), (2, .int p3)] := hl
  refine lv_lconst (v := 0) hx hb dX10_nameCode_0 (by decide) ?_
  refine lv_lstore_n (lv' := [(3, .long 0), (0, .ref p1), (1, .int p2), (2, .int p3)]) hx hb dX10_nameCode_1 rfl hl (by decide) rfl (fun ls hl => ?_)
  refine lv_iload_n hx hb dX10_nameCode_2 rfl (lv_at hl 2 rfl) ?_
  refine lv_istore (lv' := [(5, .int p2), (3, .long 0), (0, .ref p1), (1, .int p2), (2, .int p3)]) hx hb dX10_nameCode_3 hl (by decide) rfl (fun ls hl => ?_)
  refine ty_loop (I := fun μ H locs ls => ∃ (ws : va_W) (y_1 : Int64) (y_2 : Int32), μ = (2147483648 - y_2.toInt).toNat ∧ ty_V ct S ph ws ∧ va_P D vwCl ([(rf_RW ct 0 p1 800 b)] ++ ws) H ∧ va_D A ([(rf_RW ct 0 p1 800 b)] ++ ws) ∧ va_S A s.heap H locs ∧ lv_has ls 6 [(0, .ref p1), (1, .int p2), (2, .int p3), (3, .long y_1), (5, .int y_2)] ∧ (p2.toInt ≤ y_2.toInt ∧ y_2.toInt ≤ p3.toInt) ∧ y_1 = rp_cd (rp_wd b p2 y_2)) ⟨_, ws, (0 : Int64), p2, rfl, hT, hP, hD, hS, (lv_sub hl [2, 3, 4, 1, 0] rfl), ⟨Int.le_refl _, hfr.2.1⟩, (by rw [rp_wd0]; rfl)⟩ (fun μ H locs ls hI ih_5 => ?_)
  obtain ⟨ws, y_1, y_2, rfl, hT, hP, hD, hS, hl, hex_5⟩ := hI
  refine lv_iload hx hb dX10_nameCode_5 (lv_at hl 4 rfl) ?_
  refine lv_iload_n hx hb dX10_nameCode_7 rfl (lv_at hl 2 rfl) ?_
  refine lv_icmp_ge (tgt := 31) hx hb dX10_nameCode_8 (by decide) (fun hc_3 => ?_) (fun hc_3 => ?_)
  · refine lv_lload_n hx hb dX10_nameCode_31 rfl (lv_at hl 3 rfl) ?_
    exact W.lret (v := y_1) hx hb hr (fun t ht hW => ⟨⟨y_1, ws, rfl, ⟨hT, (by have q := hex_5.1; have := (Int32.le_iff_toInt_le.mp hc_3); rw [hex_5.2]; congr 1; exact congrArg (rp_wd b p2) (Int32.toInt_inj.mp (by omega)))⟩, by rw [ht]; exact hP, by rw [hAe]; exact hD⟩, hS.F ht⟩) hS.2.2 dX10_nameCode_32
  · refine lv_lload_n hx hb dX10_nameCode_11 rfl (lv_at hl 3 rfl) ?_
    refine lv_ldc2 hx hb hown (hts _ kl_RX10_377) dX10_nameCode_12 ?_
    refine lv_lmul hx hb dX10_nameCode_15 ?_
    refine lv_aload_n hx hb dX10_nameCode_16 rfl (lv_at hl 0 rfl) ?_
    refine lv_iload hx hb dX10_nameCode_17 (lv_at hl 4 rfl) ?_
    obtain ⟨hP, hD⟩ := ty_ipPD (E1 := []) (E2 := [(rf_RW ct 0 p1 800 b)]) hP hD rfl ty_mv2
    refine ty_Ki hP hD hS hA (va_runS (As := [.ref p1, .int y_2]) (rest := [.long (y_1 * 256)]) ⟨hx, hb, hml, hown, hts⟩ (r_at l D ct (fun _ => none) [] (fun _ => True) (fun _ _ _ => True) p1 y_2 b _ ty_V0 ty_C0 ty_y10) (cm_S 2 hts kc_X10_at ki_RX10 kl_RX10_216 ks_X10_at kd_X10_at ⟨Nat.le_of_ble_eq_true rfl, Nat.le_of_ble_eq_true rfl⟩) (ty_preS hP hK hD hS hA hX) rfl rfl hl.1 rfl (lv_room (Nat.le_of_ble_eq_true rfl)) dX10_nameCode_19 ⟨Nat.le_of_ble_eq_true rfl, Nat.le_of_ble_eq_true rfl⟩) (fun r_4 u H locs hw_5 hP hD hS => ?_)
    obtain ⟨ws_6, rfl⟩ : ∃ z, z = u := ⟨_, rfl⟩
    obtain ⟨hT9_7, rfl⟩ := hw_5
    obtain ⟨hP, hD⟩ := ty_bkPD (E := [(rf_RW ct 0 p1 800 b)]) hP hD rfl
    refine lv_i2l hx hb dX10_nameCode_22 rfl ?_
    refine lv_ladd hx hb dX10_nameCode_23 ?_
    refine lv_lstore_n (lv' := [(3, .long ((y_1 * 256) + ((rp_at b y_2).toInt64))), (0, .ref p1), (1, .int p2), (2, .int p3), (5, .int y_2)]) hx hb dX10_nameCode_24 rfl hl (by decide) rfl (fun ls hl => ?_)
    refine lv_iinc (v := (y_2 + Int32.ofInt 1)) (lv' := [(5, .int (y_2 + Int32.ofInt 1)), (3, .long ((y_1 * 256) + ((rp_at b y_2).toInt64))), (0, .ref p1), (1, .int p2), (2, .int p3)]) hx hb dX10_nameCode_25 hl (k := 4) rfl rfl (by decide) rfl (fun ls hl => ?_)
    refine lv_goto (tgt := 5) hx hb dX10_nameCode_28 (by decide) ?_
    exact ih_5 _ _ _ _ (ty_inc (cm_lt hc_3)) ⟨ws, ((y_1 * 256) + ((rp_at b y_2).toInt64)), (y_2 + Int32.ofInt 1), rfl, hT, hP, hD, hS, (lv_sub hl [2, 3, 4, 1, 0] rfl), (by have := hex_5.1; have := (rf_lth hc_3); have e : (y_2 + Int32.ofInt 1).toInt = y_2.toInt + 1 := rf_p1 (by omega); omega), (by have q := hex_5.1; have := (rf_lth hc_3); show _ = rp_cd (rp_wd b p2 (y_2 + 1)); rw [rp_wds (by omega) (by omega), rp_cds, ← hex_5.2, rp_atb (by omega)])⟩
set_option maxRecDepth 100000 in
set_option maxHeartbeats 4000000 in
theorem r_readNumber (l : Launch) (D : va_G) (ct : Nat → ClassId) (S : ty_S) (ws : va_W) (ph : va_W → Prop) (xx : Nat → Nat → Nat → Prop) (rd : Nat) (bt : Nat) (tg : Nat) (ln : Int32) (pl : Int32) (wst : Int32) (er : Int32) (ep : Int32) (b : Nat → Int32) (p1 : Int32) (p2 : Int32) (L : Int) (U : Int) (sz : Nat) (hT : ty_V ct S ph ws) (hph : ty_C ph xx) (hy1 : ty_y1 xx) (hln : 0 ≤ ln.toInt ∧ ln.toInt ≤ 800) (hpl : 0 ≤ pl.toInt ∧ pl.toInt ≤ ln.toInt) (hL : p1.toInt = L) (hU : p2.toInt = U) : Met l yX6_readNumber (ws_ yX6_readNumber cX6_readNumber 5 (some .int)) ({ frames := 2, cells := 0, slots := 0, locals := 40 } : Room) (va_Pc [.ref rd, .int p1, .int p2] (cmP D ct sz ([(ty_RD rd bt ln tg pl wst er ep), (rf_RW ct 0 bt 800 b)] ++ ws))) (va_Qi (fun (r : Int32) (u : va_W × Int32 × Int32 × Int32) => match u with | (u9, pl1, er1, ep1) => ty_V ct S ph u9 ∧ (0 ≤ pl1.toInt ∧ pl1.toInt ≤ ln.toInt) ∧ rp_o er ep er1 ep1 (rp_rk b ln L U pl) (rp_rp b ln L U pl) (pl1 = rp_rp b ln L U pl ∧ r.toInt = rp_rv b ln pl)) (cmB D ([(ty_RD rd bt ln tg pl wst er ep), (rf_RW ct 0 bt 800 b)] ++ ws) sz (fun (u : va_W × Int32 × Int32 × Int32) => match u with | (u9, pl1, er1, ep1) => ([(ty_RD rd bt ln tg pl1 wst er1 ep1), (rf_RW ct 0 bt 800 b)] ++ u9))) (va_A ([(ty_RD rd bt ln tg pl wst er ep), (rf_RW ct 0 bt 800 b)] ++ ws) sz)) 0 0 (va_A ([(ty_RD rd bt ln tg pl wst er ep), (rf_RW ct 0 bt 800 b)] ++ ws) sz) := by
  refine Met.ofW (cc := cX6_readNumber) (maxL := 5) (ret := (some .int)) (by decide) rfl ?_
  intro p e s m args below meth c s₁ B hml hv
  obtain ⟨rfl, hsz, hP, hK, hD0, hX⟩ := hv
  have hx := B.exec
  have hb := B.bytes
  have hr := B.returns
  have hts := ws_all (atoms_spec (ws := ws_ yX6_readNumber cX6_readNumber 5 (some .int)) B.pre)
  have hown : s.vm.findClass RX6 = some m.cls := findClass_of_methodNamed B.named
  have hlocks := B.notSynchronized
  subst hsz
  have hD := hD0.self (sz := s.heap.size)
  generalize hAe : va_A ([(ty_RD rd bt ln tg pl wst er ep), (rf_RW ct 0 bt 800 b)] ++ ws) s.heap.size = A at hD hX ⊢
  have hA : ∀ q : Nat, s.heap.size ≤ q → A q := fun q h => by rw [← hAe]; exact Or.inr h
  have hS : va_S A s.heap s.heap [] := va_S.rf
  have hl := lv_entry ([.ref rd, .int p1, .int p2]) (n := 5) (Nat.le_of_ble_eq_true rfl)
  rw [lg_entry_eq]
  generalize (lg_sl ([.ref rd, .int p1, .int p2]) ++ List.replicate (5 - (lg_sl ([.ref rd, .int p1, .int p2])).length) Slot.unset).toArray = ls at hl ⊢
  have hl : lv_has ls 5 [(0, .ref rd), (1, .int p1), (2, .int p2)] := hl
  subst hL
  subst hU
  refine lv_aload_n hx hb dX6_readNumber_0 rfl (lv_at hl 0 rfl) ?_
  obtain ⟨hP, hD⟩ := ty_ipPD (E1 := []) (E2 := [(ty_RD rd bt ln tg pl wst er ep), (rf_RW ct 0 bt 800 b)]) hP hD rfl ty_mv2
  refine ty_Kv hP hD hS hA (va_runV (As := []) (rest := []) ⟨hx, hb, hml, hown, hts⟩ (r_skip l D ct (fun _ => none) [] (fun _ => True) (fun _ _ _ => True) rd bt tg ln pl wst er ep b _ ty_V0 ty_C0 ty_y10 hln hpl) (cm_V 0 hts kc_X6_skipSpaces ki_RX6 kl_RX6_55 kv_X6_skipSpaces kx_X6_skipSpaces kd_X6_skipSpaces ⟨Nat.le_of_ble_eq_true rfl, Nat.le_of_ble_eq_true rfl⟩) (ty_preE (ci := 6) hP hK hD hS hA hX rfl (ty_app (j := 0) rfl)) rfl rfl hl.1 rfl (lv_room (Nat.le_of_ble_eq_true rfl)) dX6_readNumber_1 ⟨Nat.le_of_ble_eq_true rfl, Nat.le_of_ble_eq_true rfl⟩) (fun u H locs hw_2 hP hD hS => ?_)
  obtain ⟨ws_3, pl1_4⟩ := u
  obtain ⟨hT9_5, hp_6⟩ := hw_2
  have hp_6 : pl1_4 = (rp_sk b ln pl) := hp_6
  obtain ⟨hP, hD⟩ := ty_bkPD (E := [(ty_RD rd bt ln tg pl1_4 wst er ep), (rf_RW ct 0 bt 800 b)]) hP hD rfl
  obtain rfl := hp_6
  have hsb := rp_sk_b (b := b) hln.2 hpl
  refine lv_aload_n hx hb dX6_readNumber_4 rfl (lv_at hl 0 rfl) ?_
  refine va_get (v := .int (rp_sk b ln pl)) (D := D) (ci := 6) (C := RX6) (T := TX6) (N := 7) hx hb hts in_X6 hown hK hP 0 rfl rfl 3 (by decide) (hts _ kl_RX6_65) (fun _ h9 => h9) rfl dX6_readNumber_5 ?_
  refine lv_istore_n (lv' := [(3, .int (rp_sk b ln pl)), (0, .ref rd), (1, .int p1), (2, .int p2)]) hx hb dX6_readNumber_8 rfl hl (by decide) rfl (fun ls hl => ?_)
  refine lv_aload_n hx hb dX6_readNumber_9 rfl (lv_at hl 1 rfl) ?_
  refine va_get (v := .int er) (D := D) (ci := 6) (C := RX6) (T := TX6) (N := 7) hx hb hts in_X6 hown hK hP 0 rfl rfl 5 (by decide) (hts _ kl_RX6_58) (fun _ h9 => h9) rfl dX6_readNumber_10 ?_
  refine lv_if_ne (tgt := 26) hx hb dX6_readNumber_13 (by decide) (fun hc_8 => ?_) (fun hc_8 => ?_)
  · refine lv_aload_n hx hb dX6_readNumber_26 rfl (lv_at hl 1 rfl) ?_
    refine lv_iconst (v := 1) hx hb dX6_readNumber_27 (by decide) ?_
    refine lv_aload_n hx hb dX6_readNumber_28 rfl (lv_at hl 1 rfl) ?_
    refine va_get (v := .int (rp_sk b ln pl)) (D := D) (ci := 6) (C := RX6) (T := TX6) (N := 7) hx hb hts in_X6 hown hK hP 0 rfl rfl 3 (by decide) (hts _ kl_RX6_65) (fun _ h9 => h9) rfl dX6_readNumber_29 ?_
    obtain ⟨hP, hD⟩ := ty_opPD (E1 := [(rf_RW ct 0 bt 800 b)]) (E2 := [(ty_RD rd bt ln tg (rp_sk b ln pl) wst er ep)]) (n := 2) [1, 0] hP hD rfl rfl (by decide +kernel) ty_mv2
    refine ty_Kv hP hD hS hA (va_runV (As := [.int 1, .int (rp_sk b ln pl)]) (rest := []) ⟨hx, hb, hml, hown, hts⟩ (r_fail l D ct (fun _ => none) [] (fun _ => True) (fun _ _ _ => True) rd bt tg ln (rp_sk b ln pl) wst er ep (1 : Int32) (rp_sk b ln pl) _ ty_V0 ty_C0 ty_y10 (by decide)) (cm_V 2 hts kc_X6_fail ki_RX6 kl_RX6_68 kv_X6_fail kx_X6_fail kd_X6_fail ⟨Nat.le_of_ble_eq_true rfl, Nat.le_of_ble_eq_true rfl⟩) (ty_preE (ci := 6) hP hK hD hS hA hX rfl (ty_app (j := 0) rfl)) rfl rfl hl.1 rfl (lv_room (Nat.le_of_ble_eq_true rfl)) dX6_readNumber_32 ⟨Nat.le_of_ble_eq_true rfl, Nat.le_of_ble_eq_true rfl⟩) (fun u H locs hw_10 hP hD hS => ?_)
    obtain ⟨ws_11, er1_12, ep1_13⟩ := u
    obtain ⟨hT9_14, hp_15⟩ := hw_10
    have hp_15 : rp_o er ep er1_12 ep1_13 (1 : Int32) (rp_sk b ln pl) True := hp_15
    obtain ⟨hP, hD⟩ := ty_bkPD (E := [(rf_RW ct 0 bt 800 b), (ty_RD rd bt ln tg (rp_sk b ln pl) wst er1_12 ep1_13)]) hP hD rfl
    refine lv_iload_n hx hb dX6_readNumber_35 rfl (lv_at hl 2 rfl) ?_
    obtain ⟨hP, hD⟩ := ty_ordPD (E2 := [(ty_RD rd bt ln tg (rp_sk b ln pl) wst er1_12 ep1_13), (rf_RW ct 0 bt 800 b)]) (n := 2) [1, 0] hP hD rfl rfl (by decide +kernel)
    exact W.iret (v := p1) hx hb hr (fun t ht hW => ⟨⟨p1, (ws, (rp_sk b ln pl), er1_12, ep1_13), rfl, ⟨hT, ⟨(by have := hsb; omega), rp_rne hc_8 hp_15⟩⟩, by rw [ht]; exact hP, by rw [hAe]; exact hD⟩, hS.F ht⟩) hS.2.2 dX6_readNumber_36
  · refine lv_aload_n hx hb dX6_readNumber_16 rfl (lv_at hl 1 rfl) ?_
    obtain ⟨hP, hD⟩ := ty_ipPD (E1 := []) (E2 := [(ty_RD rd bt ln tg (rp_sk b ln pl) wst er ep), (rf_RW ct 0 bt 800 b)]) hP hD rfl ty_mv2
    refine ty_Ki hP hD hS hA (va_runV (As := []) (rest := []) ⟨hx, hb, hml, hown, hts⟩ (r_next l D ct (fun _ => none) [] (fun _ => True) (fun _ _ _ => True) rd bt tg ln (rp_sk b ln pl) wst er ep b _ ty_V0 ty_C0 ty_y10 hln (by omega)) (cm_V 0 hts kc_X6_next ki_RX6 kl_RX6_61 kv_X6_next kx_X6_next kd_X6_next ⟨Nat.le_of_ble_eq_true rfl, Nat.le_of_ble_eq_true rfl⟩) (ty_preE (ci := 6) hP hK hD hS hA hX rfl (ty_app (j := 0) rfl)) rfl rfl hl.1 rfl (lv_room (Nat.le_of_ble_eq_true rfl)) dX6_readNumber_17 ⟨Nat.le_of_ble_eq_true rfl, Nat.le_of_ble_eq_true rfl⟩) (fun r_16 u H locs hw_17 hP hD hS => ?_)
    obtain ⟨ws_18, rfl⟩ : ∃ z, z = u := ⟨_, rfl⟩
    obtain ⟨hT9_19, rfl⟩ := hw_17
    obtain ⟨hP, hD⟩ := ty_bkPD (E := [(ty_RD rd bt ln tg (rp_sk b ln pl) wst er ep), (rf_RW ct 0 bt 800 b)]) hP hD rfl
    obtain ⟨hP, hD⟩ := ty_ipPD (E1 := [(ty_RD rd bt ln tg (rp_sk b ln pl) wst er ep), (rf_RW ct 0 bt 800 b)]) (E2 := []) hP hD rfl ty_mv2
    refine ty_Ki hP hD hS hA (va_runS (As := [.int (rp_nx b ln (rp_sk b ln pl))]) (rest := []) ⟨hx, hb, hml, hown, hts⟩ (r_isDigit l D ct (fun _ => none) [] (fun _ => True) (fun _ _ _ => True) (rp_nx b ln (rp_sk b ln pl)) _ ty_V0 ty_C0 ty_y10) (cm_S 1 hts kc_X6_isDigit ki_RX6 kl_RX6_154 ks_X6_isDigit kd_X6_isDigit ⟨Nat.le_of_ble_eq_true rfl, Nat.le_of_ble_eq_true rfl⟩) (ty_preS hP hK hD hS hA hX) rfl rfl hl.1 rfl (lv_room (Nat.le_of_ble_eq_true rfl)) dX6_readNumber_20 ⟨Nat.le_of_ble_eq_true rfl, Nat.le_of_ble_eq_true rfl⟩) (fun r_20 u H locs hw_21 hP hD hS => ?_)
    obtain ⟨ws_22, rfl⟩ : ∃ z, z = u := ⟨_, rfl⟩
    obtain ⟨hT9_23, hp_24⟩ := hw_21
    have hp_24 : ((r_20 = 1 ∧ 48 ≤ (rp_nx b ln (rp_sk b ln pl)).toInt ∧ (rp_nx b ln (rp_sk b ln pl)).toInt ≤ 57) ∨ (r_20 = 0 ∧ ¬ (48 ≤ (rp_nx b ln (rp_sk b ln pl)).toInt ∧ (rp_nx b ln (rp_sk b ln pl)).toInt ≤ 57))) := hp_24
    obtain ⟨hP, hD⟩ := ty_bkPD (E := [(ty_RD rd bt ln tg (rp_sk b ln pl) wst er ep), (rf_RW ct 0 bt 800 b)]) hP hD rfl
    rcases hp_24 with ⟨rfl, hz_25⟩ | ⟨rfl, hz_26⟩
    · refine lv_if_ne (tgt := 37) hx hb dX6_readNumber_23 (by decide) (fun _ => ?_) (fun hc => absurd hc (by decide))
      refine lv_iconst (v := 0) hx hb dX6_readNumber_37 (by decide) ?_
      refine lv_istore (lv' := [(4, .int 0), (3, .int (rp_sk b ln pl)), (0, .ref rd), (1, .int p1), (2, .int p2)]) hx hb dX6_readNumber_38 hl (by decide) rfl (fun ls hl => ?_)
      refine ty_loop (I := fun μ H locs ls => ∃ (ws : va_W) (y_27 : Int32) (y_28 : Int32), μ = (2147483648 - y_28.toInt).toNat ∧ ty_V ct S ph ws ∧ va_P D vwCl ([(ty_RD rd bt ln tg y_28 wst er ep), (rf_RW ct 0 bt 800 b)] ++ ws) H ∧ va_D A ([(ty_RD rd bt ln tg y_28 wst er ep), (rf_RW ct 0 bt 800 b)] ++ ws) ∧ va_S A s.heap H locs ∧ lv_has ls 5 [(0, .ref rd), (1, .int p1), (2, .int p2), (3, .int (rp_sk b ln pl)), (4, .int y_27)] ∧ ((rp_sk b ln pl).toInt ≤ y_28.toInt ∧ y_28.toInt ≤ ln.toInt) ∧ (0 ≤ y_27.toInt ∧ y_27.toInt ≤ 100000000) ∧ rp_de b ln (rp_sk b ln pl) = rp_de b ln y_28 ∧ rp_num b ln (rp_sk b ln pl) 0 = rp_num b ln y_28 y_27.toInt) ⟨_, ws, (0 : Int32), (rp_sk b ln pl), rfl, hT, hP, hD, hS, (lv_sub hl [2, 3, 4, 1, 0] rfl), ⟨Int.le_refl _, hsb.2⟩, (by decide), rfl, rfl⟩ (fun μ H locs ls hI ih_40 => ?_)
      obtain ⟨ws, y_27, y_28, rfl, hT, hP, hD, hS, hl, hex_40⟩ := hI
      refine lv_aload_n hx hb dX6_readNumber_40 rfl (lv_at hl 0 rfl) ?_
      refine va_get (v := .int y_28) (D := D) (ci := 6) (C := RX6) (T := TX6) (N := 7) hx hb hts in_X6 hown hK hP 0 rfl rfl 3 (by decide) (hts _ kl_RX6_65) (fun _ h9 => h9) rfl dX6_readNumber_41 ?_
      refine lv_aload_n hx hb dX6_readNumber_44 rfl (lv_at hl 0 rfl) ?_
      refine va_get (v := .int ln) (D := D) (ci := 6) (C := RX6) (T := TX6) (N := 7) hx hb hts in_X6 hown hK hP 0 rfl rfl 1 (by decide) (hts _ kl_RX6_15) (fun _ h9 => h9) rfl dX6_readNumber_45 ?_
      refine lv_icmp_ge (tgt := 94) hx hb dX6_readNumber_48 (by decide) (fun hc_29 => ?_) (fun hc_29 => ?_)
      · have he_30 : rp_de b ln (rp_sk b ln pl) = y_28 ∧ rp_num b ln (rp_sk b ln pl) 0 = y_27.toInt := ⟨hex_40.2.2.1.trans (rp_toE (by have := hex_40.1; omega) (rp_notE hc_29).2.1), hex_40.2.2.2.trans (rp_numE (by have := hex_40.1; omega) (rp_notE hc_29).2.1)⟩
        refine lv_iload hx hb dX6_readNumber_94 (lv_at hl 4 rfl) ?_
        refine lv_iload_n hx hb dX6_readNumber_96 rfl (lv_at hl 1 rfl) ?_
        refine lv_icmp_lt (tgt := 106) hx hb dX6_readNumber_97 (by decide) (fun hc_31 => ?_) (fun hc_31 => ?_)
        · refine lv_aload_n hx hb dX6_readNumber_106 rfl (lv_at hl 0 rfl) ?_
          refine lv_iconst (v := 2) hx hb dX6_readNumber_107 (by decide) ?_
          refine lv_iload_n hx hb dX6_readNumber_108 rfl (lv_at hl 3 rfl) ?_
          obtain ⟨hP, hD⟩ := ty_opPD (E1 := [(rf_RW ct 0 bt 800 b)]) (E2 := [(ty_RD rd bt ln tg y_28 wst er ep)]) (n := 2) [1, 0] hP hD rfl rfl (by decide +kernel) ty_mv2
          refine ty_Kv hP hD hS hA (va_runV (As := [.int 2, .int (rp_sk b ln pl)]) (rest := []) ⟨hx, hb, hml, hown, hts⟩ (r_fail l D ct (fun _ => none) [] (fun _ => True) (fun _ _ _ => True) rd bt tg ln y_28 wst er ep (2 : Int32) (rp_sk b ln pl) _ ty_V0 ty_C0 ty_y10 (by decide)) (cm_V 2 hts kc_X6_fail ki_RX6 kl_RX6_68 kv_X6_fail kx_X6_fail kd_X6_fail ⟨Nat.le_of_ble_eq_true rfl, Nat.le_of_ble_eq_true rfl⟩) (ty_preE (ci := 6) hP hK hD hS hA hX rfl (ty_app (j := 0) rfl)) rfl rfl hl.1 rfl (lv_room (Nat.le_of_ble_eq_true rfl)) dX6_readNumber_109 ⟨Nat.le_of_ble_eq_true rfl, Nat.le_of_ble_eq_true rfl⟩) (fun u H locs hw_33 hP hD hS => ?_)
          obtain ⟨ws_34, er1_35, ep1_36⟩ := u
          obtain ⟨hT9_37, hp_38⟩ := hw_33
          have hp_38 : rp_o er ep er1_35 ep1_36 (2 : Int32) (rp_sk b ln pl) True := hp_38
          obtain ⟨hP, hD⟩ := ty_bkPD (E := [(rf_RW ct 0 bt 800 b), (ty_RD rd bt ln tg y_28 wst er1_35 ep1_36)]) hP hD rfl
          refine lv_iload_n hx hb dX6_readNumber_112 rfl (lv_at hl 1 rfl) ?_
          obtain ⟨hP, hD⟩ := ty_ordPD (E2 := [(ty_RD rd bt ln tg y_28 wst er1_35 ep1_36), (rf_RW ct 0 bt 800 b)]) (n := 2) [1, 0] hP hD rfl rfl (by decide +kernel)
          exact W.iret (v := p1) hx hb hr (fun t ht hW => ⟨⟨p1, (ws, y_28, er1_35, ep1_36), rfl, ⟨hT, ⟨(by have := hex_40.1; omega), rp_rnb (rp_digI hz_25) (rp_lt2 (Or.inl hc_31)) he_30 hp_38⟩⟩, by rw [ht]; exact hP, by rw [hAe]; exact hD⟩, hS.F ht⟩) hS.2.2 dX6_readNumber_113
        · refine lv_iload hx hb dX6_readNumber_100 (lv_at hl 4 rfl) ?_
          refine lv_iload_n hx hb dX6_readNumber_102 rfl (lv_at hl 2 rfl) ?_
          refine lv_icmp_le (tgt := 114) hx hb dX6_readNumber_103 (by decide) (fun hc_39 => ?_) (fun hc_39 => ?_)
          · refine lv_iload hx hb dX6_readNumber_114 (lv_at hl 4 rfl) ?_
            exact W.iret (v := y_27) hx hb hr (fun t ht hW => ⟨⟨y_27, (ws, y_28, er, ep), rfl, ⟨hT, ⟨(by have := hex_40.1; omega), rp_rno (rp_digI hz_25) hc_8 (rp_gel hc_31 hc_39) he_30⟩⟩, by rw [ht]; exact hP, by rw [hAe]; exact hD⟩, hS.F ht⟩) hS.2.2 dX6_readNumber_116
          · refine lv_aload_n hx hb dX6_readNumber_106 rfl (lv_at hl 0 rfl) ?_
            refine lv_iconst (v := 2) hx hb dX6_readNumber_107 (by decide) ?_
            refine lv_iload_n hx hb dX6_readNumber_108 rfl (lv_at hl 3 rfl) ?_
            obtain ⟨hP, hD⟩ := ty_opPD (E1 := [(rf_RW ct 0 bt 800 b)]) (E2 := [(ty_RD rd bt ln tg y_28 wst er ep)]) (n := 2) [1, 0] hP hD rfl rfl (by decide +kernel) ty_mv2
            refine ty_Kv hP hD hS hA (va_runV (As := [.int 2, .int (rp_sk b ln pl)]) (rest := []) ⟨hx, hb, hml, hown, hts⟩ (r_fail l D ct (fun _ => none) [] (fun _ => True) (fun _ _ _ => True) rd bt tg ln y_28 wst er ep (2 : Int32) (rp_sk b ln pl) _ ty_V0 ty_C0 ty_y10 (by decide)) (cm_V 2 hts kc_X6_fail ki_RX6 kl_RX6_68 kv_X6_fail kx_X6_fail kd_X6_fail ⟨Nat.le_of_ble_eq_true rfl, Nat.le_of_ble_eq_true rfl⟩) (ty_preE (ci := 6) hP hK hD hS hA hX rfl (ty_app (j := 0) rfl)) rfl rfl hl.1 rfl (lv_room (Nat.le_of_ble_eq_true rfl)) dX6_readNumber_109 ⟨Nat.le_of_ble_eq_true rfl, Nat.le_of_ble_eq_true rfl⟩) (fun u H locs hw_41 hP hD hS => ?_)
            obtain ⟨ws_42, er1_43, ep1_44⟩ := u
            obtain ⟨hT9_45, hp_46⟩ := hw_41
            have hp_46 : rp_o er ep er1_43 ep1_44 (2 : Int32) (rp_sk b ln pl) True := hp_46
            obtain ⟨hP, hD⟩ := ty_bkPD (E := [(rf_RW ct 0 bt 800 b), (ty_RD rd bt ln tg y_28 wst er1_43 ep1_44)]) hP hD rfl
            refine lv_iload_n hx hb dX6_readNumber_112 rfl (lv_at hl 1 rfl) ?_
            obtain ⟨hP, hD⟩ := ty_ordPD (E2 := [(ty_RD rd bt ln tg y_28 wst er1_43 ep1_44), (rf_RW ct 0 bt 800 b)]) (n := 2) [1, 0] hP hD rfl rfl (by decide +kernel)
            exact W.iret (v := p1) hx hb hr (fun t ht hW => ⟨⟨p1, (ws, y_28, er1_43, ep1_44), rfl, ⟨hT, ⟨(by have := hex_40.1; omega), rp_rnb (rp_digI hz_25) (rp_lt2 (Or.inr hc_39)) he_30 hp_46⟩⟩, by rw [ht]; exact hP, by rw [hAe]; exact hD⟩, hS.F ht⟩) hS.2.2 dX6_readNumber_113
      · refine lv_aload_n hx hb dX6_readNumber_51 rfl (lv_at hl 0 rfl) ?_
        obtain ⟨hP, hD⟩ := ty_ipPD (E1 := []) (E2 := [(ty_RD rd bt ln tg y_28 wst er ep), (rf_RW ct 0 bt 800 b)]) hP hD rfl ty_mv2
        refine ty_Ki hP hD hS hA (va_runV (As := []) (rest := []) ⟨hx, hb, hml, hown, hts⟩ (r_next l D ct (fun _ => none) [] (fun _ => True) (fun _ _ _ => True) rd bt tg ln y_28 wst er ep b _ ty_V0 ty_C0 ty_y10 hln (by have := hex_40.1; omega)) (cm_V 0 hts kc_X6_next ki_RX6 kl_RX6_61 kv_X6_next kx_X6_next kd_X6_next ⟨Nat.le_of_ble_eq_true rfl, Nat.le_of_ble_eq_true rfl⟩) (ty_preE (ci := 6) hP hK hD hS hA hX rfl (ty_app (j := 0) rfl)) rfl rfl hl.1 rfl (lv_room (Nat.le_of_ble_eq_true rfl)) dX6_readNumber_52 ⟨Nat.le_of_ble_eq_true rfl, Nat.le_of_ble_eq_true rfl⟩) (fun r_47 u H locs hw_48 hP hD hS => ?_)
        obtain ⟨ws_49, rfl⟩ : ∃ z, z = u := ⟨_, rfl⟩
        obtain ⟨hT9_50, rfl⟩ := hw_48
        obtain ⟨hP, hD⟩ := ty_bkPD (E := [(ty_RD rd bt ln tg y_28 wst er ep), (rf_RW ct 0 bt 800 b)]) hP hD rfl
        obtain ⟨hP, hD⟩ := ty_ipPD (E1 := [(ty_RD rd bt ln tg y_28 wst er ep), (rf_RW ct 0 bt 800 b)]) (E2 := []) hP hD rfl ty_mv2
        refine ty_Ki hP hD hS hA (va_runS (As := [.int (rp_nx b ln y_28)]) (rest := []) ⟨hx, hb, hml, hown, hts⟩ (r_isDigit l D ct (fun _ => none) [] (fun _ => True) (fun _ _ _ => True) (rp_nx b ln y_28) _ ty_V0 ty_C0 ty_y10) (cm_S 1 hts kc_X6_isDigit ki_RX6 kl_RX6_154 ks_X6_isDigit kd_X6_isDigit ⟨Nat.le_of_ble_eq_true rfl, Nat.le_of_ble_eq_true rfl⟩) (ty_preS hP hK hD hS hA hX) rfl rfl hl.1 rfl (lv_room (Nat.le_of_ble_eq_true rfl)) dX6_readNumber_55 ⟨Nat.le_of_ble_eq_true rfl, Nat.le_of_ble_eq_true rfl⟩) (fun r_51 u H locs hw_52 hP hD hS => ?_)
        obtain ⟨ws_53, rfl⟩ : ∃ z, z = u := ⟨_, rfl⟩
        obtain ⟨hT9_54, hp_55⟩ := hw_52
        have hp_55 : ((r_51 = 1 ∧ 48 ≤ (rp_nx b ln y_28).toInt ∧ (rp_nx b ln y_28).toInt ≤ 57) ∨ (r_51 = 0 ∧ ¬ (48 ≤ (rp_nx b ln y_28).toInt ∧ (rp_nx b ln y_28).toInt ≤ 57))) := hp_55
        obtain ⟨hP, hD⟩ := ty_bkPD (E := [(ty_RD rd bt ln tg y_28 wst er ep), (rf_RW ct 0 bt 800 b)]) hP hD rfl
        rcases hp_55 with ⟨rfl, hz_56⟩ | ⟨rfl, hz_57⟩
        · refine lv_if_eq (tgt := 94) hx hb dX6_readNumber_58 (by decide) (fun hc => absurd hc (by decide)) (fun _ => ?_)
          refine lv_iload hx hb dX6_readNumber_61 (lv_at hl 4 rfl) ?_
          refine lv_bipush (v := 10) hx hb dX6_readNumber_63 (by decide) ?_
          refine lv_imul hx hb dX6_readNumber_65 ?_
          refine lv_aload_n hx hb dX6_readNumber_66 rfl (lv_at hl 0 rfl) ?_
          obtain ⟨hP, hD⟩ := ty_ipPD (E1 := []) (E2 := [(ty_RD rd bt ln tg y_28 wst er ep), (rf_RW ct 0 bt 800 b)]) hP hD rfl ty_mv2
          refine ty_Ki hP hD hS hA (va_runV (As := []) (rest := [.int (y_27 * 10)]) ⟨hx, hb, hml, hown, hts⟩ (r_next l D ct (fun _ => none) [] (fun _ => True) (fun _ _ _ => True) rd bt tg ln y_28 wst er ep b _ ty_V0 ty_C0 ty_y10 hln (by have := hex_40.1; omega)) (cm_V 0 hts kc_X6_next ki_RX6 kl_RX6_61 kv_X6_next kx_X6_next kd_X6_next ⟨Nat.le_of_ble_eq_true rfl, Nat.le_of_ble_eq_true rfl⟩) (ty_preE (ci := 6) hP hK hD hS hA hX rfl (ty_app (j := 0) rfl)) rfl rfl hl.1 rfl (lv_room (Nat.le_of_ble_eq_true rfl)) dX6_readNumber_67 ⟨Nat.le_of_ble_eq_true rfl, Nat.le_of_ble_eq_true rfl⟩) (fun r_58 u H locs hw_59 hP hD hS => ?_)
          obtain ⟨ws_60, rfl⟩ : ∃ z, z = u := ⟨_, rfl⟩
          obtain ⟨hT9_61, rfl⟩ := hw_59
          obtain ⟨hP, hD⟩ := ty_bkPD (E := [(ty_RD rd bt ln tg y_28 wst er ep), (rf_RW ct 0 bt 800 b)]) hP hD rfl
          refine lv_iadd hx hb dX6_readNumber_70 ?_
          refine lv_bipush (v := 48) hx hb dX6_readNumber_71 (by decide) ?_
          refine lv_isub hx hb dX6_readNumber_73 ?_
          refine lv_ldc hx hb hown (hts _ kl_RX6_235) dX6_readNumber_74 ?_
          refine va_mmin hx hb (hml.trans hl.1.symm) hown (hts _ kl_RX6_91) (hts _ jm_min_s) (hts _ ki_RJ9) (hts _ jm_min_c) (Nat.le_of_ble_eq_true rfl) (Nat.le_of_ble_eq_true rfl) (Nat.le_of_ble_eq_true rfl) (Nat.le_of_ble_eq_true rfl) dX6_readNumber_76 ?_
          refine lv_istore (lv' := [(4, .int (if 100000000 < (((y_27 * 10) + (rp_nx b ln y_28)) - 48) then 100000000 else (((y_27 * 10) + (rp_nx b ln y_28)) - 48))), (0, .ref rd), (1, .int p1), (2, .int p2), (3, .int (rp_sk b ln pl))]) hx hb dX6_readNumber_79 hl (by decide) rfl (fun ls hl => ?_)
          refine lv_aload_n hx hb dX6_readNumber_81 rfl (lv_at hl 1 rfl) ?_
          refine lv_dup hx hb dX6_readNumber_82 rfl ?_
          refine va_get (v := .int y_28) (D := D) (ci := 6) (C := RX6) (T := TX6) (N := 7) hx hb hts in_X6 hown hK hP 0 rfl rfl 3 (by decide) (hts _ kl_RX6_65) (fun _ h9 => h9) rfl dX6_readNumber_83 ?_
          refine lv_iconst (v := 1) hx hb dX6_readNumber_86 (by decide) ?_
          refine lv_iadd hx hb dX6_readNumber_87 ?_
          refine va_put (v := .int (y_28 + 1)) (ty := .int) (D := D) (ci := 6) (C := RX6) (T := TX6) (N := 7) hx hb hts in_X6 tyX6 tyX6_ok nmX6 hown hK hP hD hS 0 rfl rfl 3 (by decide) (hts _ kl_RX6_65) (fun _ h9 => h9) rfl (by decide +kernel) rfl rfl (Nat.le_of_ble_eq_true rfl) dX6_readNumber_88 (fun H locs hP hD hS => ?_)
          have hP : va_P D vwCl ([(ty_RD rd bt ln tg (y_28 + 1) wst er ep), (rf_RW ct 0 bt 800 b)] ++ ws) H := hP
          have hD : va_D A ([(ty_RD rd bt ln tg (y_28 + 1) wst er ep), (rf_RW ct 0 bt 800 b)] ++ ws) := hD
          refine lv_goto (tgt := 40) hx hb dX6_readNumber_91 (by decide) ?_
          exact ih_40 _ _ _ _ (ty_inc1 (cm_lt hc_29)) ⟨ws, (if 100000000 < (((y_27 * 10) + (rp_nx b ln y_28)) - 48) then 100000000 else (((y_27 * 10) + (rp_nx b ln y_28)) - 48)), (y_28 + 1), rfl, hT, hP, hD, hS, (lv_sub hl [1, 2, 3, 4, 0] rfl), (by have := hex_40.1; have := (rf_lth hc_29); have e := rf_p1 (x := y_28) (by omega); omega), (by have e := rp_sum hex_40.2.1 hz_56; rw [e]; have := hz_56; have := hex_40.2.1; omega), hex_40.2.2.1.trans (rp_toS (by have := hex_40.1; omega) (rp_digI hz_56)), (by rw [hex_40.2.2.2, rp_numS (by have := hex_40.1; omega) (rp_digI hz_56), ← rp_nxb (rf_lth hc_29)]; exact congrArg _ (rp_sum hex_40.2.1 hz_56).symm)⟩
        · refine lv_if_eq (tgt := 94) hx hb dX6_readNumber_58 (by decide) (fun _ => ?_) (fun hc => absurd (by decide) hc)
          have he_62 : rp_de b ln (rp_sk b ln pl) = y_28 ∧ rp_num b ln (rp_sk b ln pl) 0 = y_27.toInt := ⟨hex_40.2.2.1.trans (rp_toE (by have := hex_40.1; omega) (rp_digN hz_57)), hex_40.2.2.2.trans (rp_numE (by have := hex_40.1; omega) (rp_digN hz_57))⟩
          refine lv_iload hx hb dX6_readNumber_94 (lv_at hl 4 rfl) ?_
          refine lv_iload_n hx hb dX6_readNumber_96 rfl (lv_at hl 1 rfl) ?_
          refine lv_icmp_lt (tgt := 106) hx hb dX6_readNumber_97 (by decide) (fun hc_63 => ?_) (fun hc_63 => ?_)
          · refine lv_aload_n hx hb dX6_readNumber_106 rfl (lv_at hl 0 rfl) ?_
            refine lv_iconst (v := 2) hx hb dX6_readNumber_107 (by decide) ?_
            refine lv_iload_n hx hb dX6_readNumber_108 rfl (lv_at hl 3 rfl) ?_
            obtain ⟨hP, hD⟩ := ty_opPD (E1 := [(rf_RW ct 0 bt 800 b)]) (E2 := [(ty_RD rd bt ln tg y_28 wst er ep)]) (n := 2) [1, 0] hP hD rfl rfl (by decide +kernel) ty_mv2
            refine ty_Kv hP hD hS hA (va_runV (As := [.int 2, .int (rp_sk b ln pl)]) (rest := []) ⟨hx, hb, hml, hown, hts⟩ (r_fail l D ct (fun _ => none) [] (fun _ => True) (fun _ _ _ => True) rd bt tg ln y_28 wst er ep (2 : Int32) (rp_sk b ln pl) _ ty_V0 ty_C0 ty_y10 (by decide)) (cm_V 2 hts kc_X6_fail ki_RX6 kl_RX6_68 kv_X6_fail kx_X6_fail kd_X6_fail ⟨Nat.le_of_ble_eq_true rfl, Nat.le_of_ble_eq_true rfl⟩) (ty_preE (ci := 6) hP hK hD hS hA hX rfl (ty_app (j := 0) rfl)) rfl rfl hl.1 rfl (lv_room (Nat.le_of_ble_eq_true rfl)) dX6_readNumber_109 ⟨Nat.le_of_ble_eq_true rfl, Nat.le_of_ble_eq_true rfl⟩) (fun u H locs hw_65 hP hD hS => ?_)
            obtain ⟨ws_66, er1_67, ep1_68⟩ := u
            obtain ⟨hT9_69, hp_70⟩ := hw_65
            have hp_70 : rp_o er ep er1_67 ep1_68 (2 : Int32) (rp_sk b ln pl) True := hp_70
            obtain ⟨hP, hD⟩ := ty_bkPD (E := [(rf_RW ct 0 bt 800 b), (ty_RD rd bt ln tg y_28 wst er1_67 ep1_68)]) hP hD rfl
            refine lv_iload_n hx hb dX6_readNumber_112 rfl (lv_at hl 1 rfl) ?_
            obtain ⟨hP, hD⟩ := ty_ordPD (E2 := [(ty_RD rd bt ln tg y_28 wst er1_67 ep1_68), (rf_RW ct 0 bt 800 b)]) (n := 2) [1, 0] hP hD rfl rfl (by decide +kernel)
            exact W.iret (v := p1) hx hb hr (fun t ht hW => ⟨⟨p1, (ws, y_28, er1_67, ep1_68), rfl, ⟨hT, ⟨(by have := hex_40.1; omega), rp_rnb (rp_digI hz_25) (rp_lt2 (Or.inl hc_63)) he_62 hp_70⟩⟩, by rw [ht]; exact hP, by rw [hAe]; exact hD⟩, hS.F ht⟩) hS.2.2 dX6_readNumber_113
          · refine lv_iload hx hb dX6_readNumber_100 (lv_at hl 4 rfl) ?_
            refine lv_iload_n hx hb dX6_readNumber_102 rfl (lv_at hl 2 rfl) ?_
            refine lv_icmp_le (tgt := 114) hx hb dX6_readNumber_103 (by decide) (fun hc_71 => ?_) (fun hc_71 => ?_)
            · refine lv_iload hx hb dX6_readNumber_114 (lv_at hl 4 rfl) ?_
              exact W.iret (v := y_27) hx hb hr (fun t ht hW => ⟨⟨y_27, (ws, y_28, er, ep), rfl, ⟨hT, ⟨(by have := hex_40.1; omega), rp_rno (rp_digI hz_25) hc_8 (rp_gel hc_63 hc_71) he_62⟩⟩, by rw [ht]; exact hP, by rw [hAe]; exact hD⟩, hS.F ht⟩) hS.2.2 dX6_readNumber_116
            · refine lv_aload_n hx hb dX6_readNumber_106 rfl (lv_at hl 0 rfl) ?_
              refine lv_iconst (v := 2) hx hb dX6_readNumber_107 (by decide) ?_
              refine lv_iload_n hx hb dX6_readNumber_108 rfl (lv_at hl 3 rfl) ?_
              obtain ⟨hP, hD⟩ := ty_opPD (E1 := [(rf_RW ct 0 bt 800 b)]) (E2 := [(ty_RD rd bt ln tg y_28 wst er ep)]) (n := 2) [1, 0] hP hD rfl rfl (by decide +kernel) ty_mv2
              refine ty_Kv hP hD hS hA (va_runV (As := [.int 2, .int (rp_sk b ln pl)]) (rest := []) ⟨hx, hb, hml, hown, hts⟩ (r_fail l D ct (fun _ => none) [] (fun _ => True) (fun _ _ _ => True) rd bt tg ln y_28 wst er ep (2 : Int32) (rp_sk b ln pl) _ ty_V0 ty_C0 ty_y10 (by decide)) (cm_V 2 hts kc_X6_fail ki_RX6 kl_RX6_68 kv_X6_fail kx_X6_fail kd_X6_fail ⟨Nat.le_of_ble_eq_true rfl, Nat.le_of_ble_eq_true rfl⟩) (ty_preE (ci := 6) hP hK hD hS hA hX rfl (ty_app (j := 0) rfl)) rfl rfl hl.1 rfl (lv_room (Nat.le_of_ble_eq_true rfl)) dX6_readNumber_109 ⟨Nat.le_of_ble_eq_true rfl, Nat.le_of_ble_eq_true rfl⟩) (fun u H locs hw_73 hP hD hS => ?_)
              obtain ⟨ws_74, er1_75, ep1_76⟩ := u
              obtain ⟨hT9_77, hp_78⟩ := hw_73
              have hp_78 : rp_o er ep er1_75 ep1_76 (2 : Int32) (rp_sk b ln pl) True := hp_78
              obtain ⟨hP, hD⟩ := ty_bkPD (E := [(rf_RW ct 0 bt 800 b), (ty_RD rd bt ln tg y_28 wst er1_75 ep1_76)]) hP hD rfl
              refine lv_iload_n hx hb dX6_readNumber_112 rfl (lv_at hl 1 rfl) ?_
              obtain ⟨hP, hD⟩ := ty_ordPD (E2 := [(ty_RD rd bt ln tg y_28 wst er1_75 ep1_76), (rf_RW ct 0 bt 800 b)]) (n := 2) [1, 0] hP hD rfl rfl (by decide +kernel)
              exact W.iret (v := p1) hx hb hr (fun t ht hW => ⟨⟨p1, (ws, y_28, er1_75, ep1_76), rfl, ⟨hT, ⟨(by have := hex_40.1; omega), rp_rnb (rp_digI hz_25) (rp_lt2 (Or.inr hc_71)) he_62 hp_78⟩⟩, by rw [ht]; exact hP, by rw [hAe]; exact hD⟩, hS.F ht⟩) hS.2.2 dX6_readNumber_113
    · refine lv_if_ne (tgt := 37) hx hb dX6_readNumber_23 (by decide) (fun hc => absurd (by decide) hc) (fun _ => ?_)
      refine lv_aload_n hx hb dX6_readNumber_26 rfl (lv_at hl 1 rfl) ?_
      refine lv_iconst (v := 1) hx hb dX6_readNumber_27 (by decide) ?_
      refine lv_aload_n hx hb dX6_readNumber_28 rfl (lv_at hl 1 rfl) ?_
      refine va_get (v := .int (rp_sk b ln pl)) (D := D) (ci := 6) (C := RX6) (T := TX6) (N := 7) hx hb hts in_X6 hown hK hP 0 rfl rfl 3 (by decide) (hts _ kl_RX6_65) (fun _ h9 => h9) rfl dX6_readNumber_29 ?_
      obtain ⟨hP, hD⟩ := ty_opPD (E1 := [(rf_RW ct 0 bt 800 b)]) (E2 := [(ty_RD rd bt ln tg (rp_sk b ln pl) wst er ep)]) (n := 2) [1, 0] hP hD rfl rfl (by decide +kernel) ty_mv2
      refine ty_Kv hP hD hS hA (va_runV (As := [.int 1, .int (rp_sk b ln pl)]) (rest := []) ⟨hx, hb, hml, hown, hts⟩ (r_fail l D ct (fun _ => none) [] (fun _ => True) (fun _ _ _ => True) rd bt tg ln (rp_sk b ln pl) wst er ep (1 : Int32) (rp_sk b ln pl) _ ty_V0 ty_C0 ty_y10 (by decide)) (cm_V 2 hts kc_X6_fail ki_RX6 kl_RX6_68 kv_X6_fail kx_X6_fail kd_X6_fail ⟨Nat.le_of_ble_eq_true rfl, Nat.le_of_ble_eq_true rfl⟩) (ty_preE (ci := 6) hP hK hD hS hA hX rfl (ty_app (j := 0) rfl)) rfl rfl hl.1 rfl (lv_room (Nat.le_of_ble_eq_true rfl)) dX6_readNumber_32 ⟨Nat.le_of_ble_eq_true rfl, Nat.le_of_ble_eq_true rfl⟩) (fun u H locs hw_80 hP hD hS => ?_)
      obtain ⟨ws_81, er1_82, ep1_83⟩ := u
      obtain ⟨hT9_84, hp_85⟩ := hw_80
      have hp_85 : rp_o er ep er1_82 ep1_83 (1 : Int32) (rp_sk b ln pl) True := hp_85
      obtain ⟨hP, hD⟩ := ty_bkPD (E := [(rf_RW ct 0 bt 800 b), (ty_RD rd bt ln tg (rp_sk b ln pl) wst er1_82 ep1_83)]) hP hD rfl
      refine lv_iload_n hx hb dX6_readNumber_35 rfl (lv_at hl 2 rfl) ?_
      obtain ⟨hP, hD⟩ := ty_ordPD (E2 := [(ty_RD rd bt ln tg (rp_sk b ln pl) wst er1_82 ep1_83), (rf_RW ct 0 bt 800 b)]) (n := 2) [1, 0] hP hD rfl rfl (by decide +kernel)
      exact W.iret (v := p1) hx hb hr (fun t ht hW => ⟨⟨p1, (ws, (rp_sk b ln pl), er1_82, ep1_83), rfl, ⟨hT, ⟨(by have := hsb; omega), rp_rnn (rp_digN hz_26) hp_85⟩⟩, by rw [ht]; exact hP, by rw [hAe]; exact hD⟩, hS.F ht⟩) hS.2.2 dX6_readNumber_36
set_option maxRecDepth 100000 in
set_option maxHeartbeats 4000000 in
theorem r_wordIs (l : Launch) (D : va_G) (ct : Nat → ClassId) (S : ty_S) (ws : va_W) (ph : va_W → Prop) (xx : Nat → Nat → Nat → Prop) (rd : Nat) (bt : Nat) (tg : Nat) (ln : Int32) (pl : Int32) (wst : Int32) (er : Int32) (ep : Int32) (b : Nat → Int32) (wd : Nat) (q9 : cm_sq) (sz : Nat) (hT : ty_V ct S ph ws) (hph : ty_C ph xx) (hy1 : ty_y1 xx) (hln : 0 ≤ ln.toInt ∧ ln.toInt ≤ 800) (hpl : 0 ≤ pl.toInt ∧ pl.toInt ≤ ln.toInt) (hws : 0 ≤ wst.toInt ∧ wst.toInt ≤ pl.toInt) (hq9 : q9 ∈ cm_strs) : Met l yX6_wordIs (ws_ yX6_wordIs cX6_wordIs 3 (some .boolean)) ({ frames := 4, cells := 0, slots := 0, locals := 85 } : Room) (va_Pc [.ref rd, .ref wd] (cmPs D ct sz ([(ty_RD rd bt ln tg pl wst er ep), (rf_RW ct 0 bt 800 b)] ++ ws) q9 wd)) (va_Qi (fun (r : Int32) (u9 : va_W) => ty_V ct S ph u9 ∧ ((r = 1 ∧ rp_wd b wst pl = q9.2.2.2) ∨ (r = 0 ∧ ¬ rp_wd b wst pl = q9.2.2.2))) (cmB D ([(ty_RD rd bt ln tg pl wst er ep), (rf_RW ct 0 bt 800 b)] ++ ws) sz (fun (u9 : va_W) => ([(ty_RD rd bt ln tg pl wst er ep), (rf_RW ct 0 bt 800 b)] ++ u9))) (va_A ([(ty_RD rd bt ln tg pl wst er ep), (rf_RW ct 0 bt 800 b)] ++ ws) sz)) 0 0 (va_A ([(ty_RD rd bt ln tg pl wst er ep), (rf_RW ct 0 bt 800 b)] ++ ws) sz) := by
  refine Met.ofW (cc := cX6_wordIs) (maxL := 3) (ret := (some .boolean)) (by decide) rfl ?_
  intro p e s m args below meth c s₁ B hml hv
  obtain ⟨rfl, ⟨hsz, hP, hK, hD0, hX⟩, hR9⟩ := hv
  have hx := B.exec
  have hb := B.bytes
  have hr := B.returns
  have hts := ws_all (atoms_spec (ws := ws_ yX6_wordIs cX6_wordIs 3 (some .boolean)) B.pre)
  have hown : s.vm.findClass RX6 = some m.cls := findClass_of_methodNamed B.named
  have hlocks := B.notSynchronized
  subst hsz
  have hD := hD0.self (sz := s.heap.size)
  generalize hAe : va_A ([(ty_RD rd bt ln tg pl wst er ep), (rf_RW ct 0 bt 800 b)] ++ ws) s.heap.size = A at hD hX ⊢
  have hA : ∀ q : Nat, s.heap.size ≤ q → A q := fun q h => by rw [← hAe]; exact Or.inr h
  have hS : va_S A s.heap s.heap [] := va_S.rf
  obtain ⟨a9, v9, hr9, hs9⟩ := hX.2.2.2.1 q9 hq9
  have e9 : a9 = wd := cm_sinj hr9 hR9
  rw [e9] at hs9
  have hl := lv_entry ([.ref rd, .ref wd]) (n := 3) (Nat.le_of_ble_eq_true rfl)
  rw [lg_entry_eq]
  generalize (lg_sl ([.ref rd, .ref wd]) ++ List.replicate (3 - (lg_sl ([.ref rd, .ref wd])).length) Slot.unset).toArray = ls at hl ⊢
  have hl : lv_has ls 3 [(0, .ref rd), (1, .ref wd)] := hl
  refine lv_aload_n hx hb dX6_wordIs_0 rfl (lv_at hl 0 rfl) ?_
  refine va_get (v := .int pl) (D := D) (ci := 6) (C := RX6) (T := TX6) (N := 7) hx hb hts in_X6 hown hK hP 0 rfl rfl 3 (by decide) (hts _ kl_RX6_65) (fun _ h9 => h9) rfl dX6_wordIs_1 ?_
  refine lv_aload_n hx hb dX6_wordIs_4 rfl (lv_at hl 0 rfl) ?_
  refine va_get (v := .int wst) (D := D) (ci := 6) (C := RX6) (T := TX6) (N := 7) hx hb hts in_X6 hown hK hP 0 rfl rfl 4 (by decide) (hts _ kl_RX6_130) (fun _ h9 => h9) rfl dX6_wordIs_5 ?_
  refine lv_isub hx hb dX6_wordIs_8 ?_
  refine lv_aload_n hx hb dX6_wordIs_9 rfl (lv_at hl 1 rfl) ?_
  obtain ⟨hP, hD⟩ := ty_ipPD (E1 := [(ty_RD rd bt ln tg pl wst er ep), (rf_RW ct 0 bt 800 b)]) (E2 := []) hP hD rfl ty_mva
  refine ty_Ki hP hD hS hA (va_runV (As := []) (rest := [.int (pl - wst)]) ⟨hx, hb, hml, hown, hts⟩ (t_strlen l D ct S ws ph xx wd q9 _ hT hph hy1 hq9) (cm_V 0 hts kc_J0_length_8abf5 ki_RJ0 kl_RX6_223 kv_J0_length_8abf5 kx_J0_length_8abf5 kd_J0_length_8abf5 ⟨Nat.le_of_ble_eq_true rfl, Nat.le_of_ble_eq_true rfl⟩) (cm_preVt (ty_preS (As := [.ref wd]) hP hK hD hS hA hX) (vk_recv hs9 (Nat.zero_lt_one) hS) hR9) rfl rfl hl.1 rfl (lv_room (Nat.le_of_ble_eq_true rfl)) dX6_wordIs_10 ⟨Nat.le_of_ble_eq_true rfl, Nat.le_of_ble_eq_true rfl⟩) (fun r_1 u H locs hw_2 hP hD hS => ?_)
  obtain ⟨ws_3, rfl⟩ : ∃ z, z = u := ⟨_, rfl⟩
  obtain ⟨hT, rfl⟩ := hw_2
  obtain ⟨hP, hD⟩ := ty_shPD (w2 := ([(ty_RD rd bt ln tg pl wst er ep), (rf_RW ct 0 bt 800 b)] ++ ws_3)) hP hD rfl
  refine lv_icmp_eq (tgt := 18) hx hb dX6_wordIs_13 (by decide) (fun hc_4 => ?_) (fun hc_4 => ?_)
  · refine lv_iconst (v := 0) hx hb dX6_wordIs_18 (by decide) ?_
    refine lv_istore_n (lv' := [(2, .int 0), (0, .ref rd), (1, .ref wd)]) hx hb dX6_wordIs_19 rfl hl (by decide) rfl (fun ls hl => ?_)
    refine ty_loop (I := fun μ H locs ls => ∃ (ws : va_W) (y_5 : Int32), μ = (2147483648 - y_5.toInt).toNat ∧ ty_V ct S ph ws ∧ va_P D vwCl ([(ty_RD rd bt ln tg pl wst er ep), (rf_RW ct 0 bt 800 b)] ++ ws) H ∧ va_D A ([(ty_RD rd bt ln tg pl wst er ep), (rf_RW ct 0 bt 800 b)] ++ ws) ∧ va_S A s.heap H locs ∧ lv_has ls 3 [(0, .ref rd), (1, .ref wd), (2, .int y_5)] ∧ (0 ≤ y_5.toInt ∧ y_5.toInt ≤ q9.2.2.2.length) ∧ ∀ j : Nat, (j : Int) < y_5.toInt → b (wst.toInt.toNat + j) = q9.2.2.2.getD j 0) ⟨_, ws_3, (0 : Int32), rfl, hT, hP, hD, hS, (lv_sub hl [1, 2, 0] rfl), ⟨(by decide), (by have z : (0 : Int32).toInt = 0 := (by decide); omega)⟩, fun j hj => absurd hj (by have z : (0 : Int32).toInt = 0 := (by decide); omega)⟩ (fun μ H locs ls hI ih_20 => ?_)
    obtain ⟨ws, y_5, rfl, hT, hP, hD, hS, hl, hex_20⟩ := hI
    refine lv_iload_n hx hb dX6_wordIs_20 rfl (lv_at hl 2 rfl) ?_
    refine lv_aload_n hx hb dX6_wordIs_21 rfl (lv_at hl 1 rfl) ?_
    obtain ⟨hP, hD⟩ := ty_ipPD (E1 := [(ty_RD rd bt ln tg pl wst er ep), (rf_RW ct 0 bt 800 b)]) (E2 := []) hP hD rfl ty_mva
    refine ty_Ki hP hD hS hA (va_runV (As := []) (rest := [.int y_5]) ⟨hx, hb, hml, hown, hts⟩ (t_strlen l D ct S ws ph xx wd q9 _ hT hph hy1 hq9) (cm_V 0 hts kc_J0_length_8abf5 ki_RJ0 kl_RX6_223 kv_J0_length_8abf5 kx_J0_length_8abf5 kd_J0_length_8abf5 ⟨Nat.le_of_ble_eq_true rfl, Nat.le_of_ble_eq_true rfl⟩) (cm_preVt (ty_preS (As := [.ref wd]) hP hK hD hS hA hX) (vk_recv hs9 (Nat.zero_lt_one) hS) hR9) rfl rfl hl.1 rfl (lv_room (Nat.le_of_ble_eq_true rfl)) dX6_wordIs_22 ⟨Nat.le_of_ble_eq_true rfl, Nat.le_of_ble_eq_true rfl⟩) (fun r_6 u H locs hw_7 hP hD hS => ?_)
    obtain ⟨ws_8, rfl⟩ : ∃ z, z = u := ⟨_, rfl⟩
    obtain ⟨hT, rfl⟩ := hw_7
    obtain ⟨hP, hD⟩ := ty_shPD (w2 := ([(ty_RD rd bt ln tg pl wst er ep), (rf_RW ct 0 bt 800 b)] ++ ws_8)) hP hD rfl
    refine lv_icmp_ge (tgt := 57) hx hb dX6_wordIs_25 (by decide) (fun hc_9 => ?_) (fun hc_9 => ?_)
    · refine lv_iconst (v := 1) hx hb dX6_wordIs_57 (by decide) ?_
      exact W.zret (v := 1) hx hb hr (by decide) (fun t ht hW => ⟨⟨1, ws_8, rfl, ⟨hT, (Or.inl ⟨rfl, (rp_wd_eq (by have := rp_len (ty_sl hq9) hws hc_4; omega) (fun i hi => hex_20.2 i (by have := rp_kg (ty_sl hq9) hc_9; omega)))⟩)⟩, by rw [ht]; exact hP, by rw [hAe]; exact hD⟩, hS.F ht⟩) hS.2.2 dX6_wordIs_58
    · refine lv_aload_n hx hb dX6_wordIs_28 rfl (lv_at hl 0 rfl) ?_
      refine va_get (v := .ref bt) (D := D) (ci := 6) (C := RX6) (T := TX6) (N := 7) hx hb hts in_X6 hown hK hP 0 rfl rfl 0 (by decide) (hts _ kl_RX6_9) (fun _ h9 => h9) rfl dX6_wordIs_29 ?_
      refine lv_aload_n hx hb dX6_wordIs_32 rfl (lv_at hl 0 rfl) ?_
      refine va_get (v := .int wst) (D := D) (ci := 6) (C := RX6) (T := TX6) (N := 7) hx hb hts in_X6 hown hK hP 0 rfl rfl 4 (by decide) (hts _ kl_RX6_130) (fun _ h9 => h9) rfl dX6_wordIs_33 ?_
      refine lv_iload_n hx hb dX6_wordIs_36 rfl (lv_at hl 2 rfl) ?_
      refine lv_iadd hx hb dX6_wordIs_37 ?_
      obtain ⟨hP, hD⟩ := ty_ipPD (E1 := [(ty_RD rd bt ln tg pl wst er ep)]) (E2 := [(rf_RW ct 0 bt 800 b)]) hP hD rfl ty_mv2
      refine ty_Ki hP hD hS hA (va_runSN (As := [.ref bt, .int (wst + y_5)]) (rest := []) ⟨hx, hb, hml, hown, hts⟩ (r_at l D ct (fun _ => none) [] (fun _ => True) (fun _ _ _ => True) bt (wst + y_5) b _ ty_V0 ty_C0 ty_y10) (cm_SN 2 hts kc_X10_at ki_RX10 kl_RX6_227 ks_X10_at kd_X10_at ⟨Nat.le_of_ble_eq_true rfl, Nat.le_of_ble_eq_true rfl⟩) (ty_preS hP hK hD hS hA hX) rfl rfl hl.1 rfl (lv_room (Nat.le_of_ble_eq_true rfl)) dX6_wordIs_38 ⟨Nat.le_of_ble_eq_true rfl, Nat.le_of_ble_eq_true rfl⟩) (fun r_10 u H locs hw_11 hP hD hS => ?_)
      obtain ⟨ws_12, rfl⟩ : ∃ z, z = u := ⟨_, rfl⟩
      obtain ⟨hT9_13, rfl⟩ := hw_11
      obtain ⟨hP, hD⟩ := ty_bkPD (E := [(ty_RD rd bt ln tg pl wst er ep), (rf_RW ct 0 bt 800 b)]) hP hD rfl
      refine lv_aload_n hx hb dX6_wordIs_41 rfl (lv_at hl 1 rfl) ?_
      refine lv_iload_n hx hb dX6_wordIs_42 rfl (lv_at hl 2 rfl) ?_
      obtain ⟨hP, hD⟩ := ty_ipPD (E1 := [(ty_RD rd bt ln tg pl wst er ep), (rf_RW ct 0 bt 800 b)]) (E2 := []) hP hD rfl ty_mva
      refine ty_Ki hP hD hS hA (va_runV (As := [.int y_5]) (rest := [.int (rp_at b (wst + y_5))]) ⟨hx, hb, hml, hown, hts⟩ (t_charAt l D ct S ws_8 ph xx wd q9 y_5 _ hT hph hy1 hq9 (ty_nneg hex_20.1.1) (cm_lt hc_9)) (cm_V 1 hts kc_J0_charAt_5068e ki_RJ0 kl_RX6_231 kv_J0_charAt_5068e kx_J0_charAt_5068e kd_J0_charAt_5068e ⟨Nat.le_of_ble_eq_true rfl, Nat.le_of_ble_eq_true rfl⟩) (cm_preVt (ty_preS (As := [.ref wd, .int y_5]) hP hK hD hS hA hX) (vk_recv hs9 (Nat.zero_lt_one) hS) hR9) rfl rfl hl.1 rfl (lv_room (Nat.le_of_ble_eq_true rfl)) dX6_wordIs_43 ⟨Nat.le_of_ble_eq_true rfl, Nat.le_of_ble_eq_true rfl⟩) (fun r_14 u H locs hw_15 hP hD hS => ?_)
      obtain ⟨ws_16, rfl⟩ : ∃ z, z = u := ⟨_, rfl⟩
      obtain ⟨hT, hp_17⟩ := hw_15
      have hp_17 : (narrow .char (.int r_14) = .int r_14 ∧ r_14 = (q9.2.2.2).getD y_5.toNatClampNeg 0) := hp_17
      obtain ⟨hP, hD⟩ := ty_shPD (w2 := ([(ty_RD rd bt ln tg pl wst er ep), (rf_RW ct 0 bt 800 b)] ++ ws_16)) hP hD rfl
      refine lv_icmp_eq (tgt := 51) hx hb dX6_wordIs_46 (by decide) (fun hc_18 => ?_) (fun hc_18 => ?_)
      · refine lv_iinc (v := (y_5 + Int32.ofInt 1)) (lv' := [(2, .int (y_5 + Int32.ofInt 1)), (0, .ref rd), (1, .ref wd)]) hx hb dX6_wordIs_51 hl (k := 2) rfl rfl (by decide) rfl (fun ls hl => ?_)
        refine lv_goto (tgt := 20) hx hb dX6_wordIs_54 (by decide) ?_
        exact ih_20 _ _ _ _ (ty_inc (cm_lt hc_9)) ⟨ws_16, (y_5 + Int32.ofInt 1), rfl, hT, hP, hD, hS, (lv_sub hl [1, 2, 0] rfl), (by have := hex_20.1; have := rp_kl (ty_sl hq9) hc_9; have e : (y_5 + Int32.ofInt 1).toInt = y_5.toInt + 1 := rf_p1 (by have := rp_len (ty_sl hq9) hws hc_4; omega); omega), rp_wis (by have := rp_len (ty_sl hq9) hws hc_4; have := rp_kl (ty_sl hq9) hc_9; have := hex_20.1; omega) hex_20.2 hc_18 hp_17.2⟩
      · refine lv_iconst (v := 0) hx hb dX6_wordIs_49 (by decide) ?_
        exact W.zret (v := 0) hx hb hr (by decide) (fun t ht hW => ⟨⟨0, ws_16, rfl, ⟨hT, (Or.inr ⟨rfl, rp_win (by have := rp_len (ty_sl hq9) hws hc_4; have := rp_kl (ty_sl hq9) hc_9; have := hex_20.1; omega) (rp_kl (ty_sl hq9) hc_9) hc_18 hp_17.2⟩)⟩, by rw [ht]; exact hP, by rw [hAe]; exact hD⟩, hS.F ht⟩) hS.2.2 dX6_wordIs_50
  · refine lv_iconst (v := 0) hx hb dX6_wordIs_16 (by decide) ?_
    exact W.zret (v := 0) hx hb hr (by decide) (fun t ht hW => ⟨⟨0, ws_3, rfl, ⟨hT, (Or.inr ⟨rfl, rp_wd_nl (rp_lenN (ty_sl hq9) hws hc_4)⟩)⟩, by rw [ht]; exact hP, by rw [hAe]; exact hD⟩, hS.F ht⟩) hS.2.2 dX6_wordIs_17
