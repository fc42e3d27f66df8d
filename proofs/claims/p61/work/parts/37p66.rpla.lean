section TYS
variable {p : Program} {l : Launch} {e : Env} {R : Room} {s : State} {m : MethodId} {args : Array Value} {below : List Frame} {meth : Method} {c : Code} {H : Heap} {locs : List Loc} {cells slots : Nat} {Q : State → Prop}
variable {mc ms : Nat} {A : Nat → Prop} {H0 : Heap} {a : Array Value} {pc : Nat} {ls : Array Slot} {st0 rest : List Value} {D : va_G} {ct : Nat → ClassId} {ws wc wr E : va_W} {free : Addr → Prop} {S : ty_S} {b : Nat} {ph : va_W → Prop} {xx : Nat → Nat → Nat → Prop}
theorem ty_aald4V {cc : ByteArray} {v0 v1 u : Option Nat} (hexec : p.tables.exec = Jvm.exec) (hb : c.code = cc) (hK : va_K D vwCl (cT ct) s) (hP : va_P D vwCl (E ++ ws) H) (hD : va_D A (E ++ ws)) (hT : ty_V ct S ph ws) (hr : rp_rw b v0 v1 ws) {n : Nat} (ha : S b = some (.inr (4, n))) {i : Int32} (hin : vp_in i n) (hi : (i = 0 ∧ u = v0) ∨ (i = 1 ∧ u = v1)) (hdg : decode cc pc = .ok (.aaload, 1))
    (k0 : u = none → W p l e R s m args below meth c H locs cells slots Q (F0 m (pc + 1) ls (.null :: rest)))
    (kk : ∀ x : Nat, S x = some (.inl 9) → u = some x → W p l e R s m args below meth c H locs cells slots Q (F0 m (pc + 1) ls (.ref x :: rest))) : W p l e R s m args below meth c H locs cells slots Q (F0 m pc ls (.int i :: .ref b :: rest)) := by
  obtain ⟨j, e9, hj, hn, f, rfl, hf⟩ := hT.1 b _ ha
  have hu := rp_rwu hD hr hj
  have hfi : f i.toNatClampNeg = u := by
    rcases hi with ⟨q, r⟩ | ⟨q, r⟩
    · rw [q, r]
      exact hu.1
    · rw [q, r]
      exact hu.2
  refine va_aldq hexec hb hK hP (E.length + j) 4 (ty_app hj) rfl hin hdg ?_
  cases hx : f i.toNatClampNeg with
  | none => exact k0 (hfi.symm.trans hx)
  | some x => exact kk x (hf _ _ hx) (hfi.symm.trans hx)
theorem ty_aast4T {cc : ByteArray} (hexec : p.tables.exec = Jvm.exec) (hb : c.code = cc) (hK : va_K D vwCl (cT ct) s) (hP : va_P D vwCl (E ++ ws) H) (hD : va_D A (E ++ ws)) (hS0 : va_S A H0 H locs) (hT : ty_V ct S ph ws) {n v : Nat} (ha : S b = some (.inr (4, n))) (hv : S v = some (.inl 9)) {i : Int32} (hin : vp_in i n) (hdg : decode cc pc = .ok (.aastore, 1)) {ph2 : va_W → Prop} (hcl : ∀ (j : Nat) (cA : ClassId) (f : Nat → Option Nat), ws[j]? = some (b, .inl (cA, n, .inr (.inr (.inr (.inr f))))) → ph ws → ph2 (ws.set j (b, .inl (cA, n, .inr (.inr (.inr (.inr (va_up f i.toNatClampNeg (some v)))))))))
    (kk : ∀ (ws : va_W) (H1 : Heap) (locs1 : List Loc), ty_V ct S ph2 ws → va_P D vwCl (E ++ ws) H1 → va_D A (E ++ ws) → va_S A H0 H1 locs1 → W p l e R s m args below meth c H1 locs1 cells slots Q (F0 m (pc + 1) ls rest)) : W p l e R s m args below meth c H locs cells slots Q (F0 m pc ls (.ref v :: .int i :: .ref b :: rest)) := by
  obtain ⟨j, e9, hj, hn, f, rfl, hf⟩ := hT.1 b _ ha
  obtain ⟨j2, e2, hj2, fs, rfl, -, -⟩ := hT.1 v _ hv
  refine va_astq hexec hb hK hP hD hS0 (E.length + j) 4 (E.length + j2) 9 (ty_app hj) rfl (ty_app hj2) rfl hin hdg (fun H1 locs1 hP1 hD1 hS1 => ?_)
  rw [ty_aset] at hP1 hD1
  refine kk _ H1 locs1 ⟨ty_set hT.1 hj ha ⟨hn, _, rfl, fun j3 b3 h3 => ?_⟩, hcl _ _ _ hj hT.2⟩ hP1 hD1 hS1
  unfold va_up at h3
  split at h3
  · cases h3; exact hv
  · exact hf _ _ h3
end TYS
theorem dX6_next_0 : decode cX6_next 0 = .ok (.aload_n 0, 1) := by decide +kernel
theorem dX6_next_1 : decode cX6_next 1 = .ok (.getfield 65, 3) := by decide +kernel
theorem dX6_next_4 : decode cX6_next 4 = .ok (.aload_n 0, 1) := by decide +kernel
theorem dX6_next_5 : decode cX6_next 5 = .ok (.getfield 15, 3) := by decide +kernel
theorem dX6_next_8 : decode cX6_next 8 = .ok (.if_icmp .ge 34, 3) := by decide +kernel
theorem dX6_next_11 : decode cX6_next 11 = .ok (.aload_n 0, 1) := by decide +kernel
theorem dX6_next_12 : decode cX6_next 12 = .ok (.getfield 65, 3) := by decide +kernel
theorem dX6_next_15 : decode cX6_next 15 = .ok (.ifCond .lt 27, 3) := by decide +kernel
theorem dX6_next_18 : decode cX6_next 18 = .ok (.aload_n 0, 1) := by decide +kernel
theorem dX6_next_19 : decode cX6_next 19 = .ok (.getfield 65, 3) := by decide +kernel
theorem dX6_next_22 : decode cX6_next 22 = .ok (.aload_n 0, 1) := by decide +kernel
theorem dX6_next_23 : decode cX6_next 23 = .ok (.getfield 9, 3) := by decide +kernel
theorem dX6_next_26 : decode cX6_next 26 = .ok (.arraylength, 1) := by decide +kernel
theorem dX6_next_27 : decode cX6_next 27 = .ok (.if_icmp .ge 15, 3) := by decide +kernel
theorem dX6_next_30 : decode cX6_next 30 = .ok (.aload_n 0, 1) := by decide +kernel
theorem dX6_next_31 : decode cX6_next 31 = .ok (.getfield 9, 3) := by decide +kernel
theorem dX6_next_34 : decode cX6_next 34 = .ok (.aload_n 0, 1) := by decide +kernel
theorem dX6_next_35 : decode cX6_next 35 = .ok (.getfield 65, 3) := by decide +kernel
theorem dX6_next_38 : decode cX6_next 38 = .ok (.iaload, 1) := by decide +kernel
theorem dX6_next_39 : decode cX6_next 39 = .ok (.goto 4, 3) := by decide +kernel
theorem dX6_next_42 : decode cX6_next 42 = .ok (.iconst 0, 1) := by decide +kernel
theorem dX6_next_43 : decode cX6_next 43 = .ok (.ireturn, 1) := by decide +kernel
set_option maxRecDepth 100000 in
set_option maxHeartbeats 4000000 in
theorem r_next (l : Launch) (D : va_G) (ct : Nat → ClassId) (S : ty_S) (ws : va_W) (ph : va_W → Prop) (xx : Nat → Nat → Nat → Prop) (rd : Nat) (bt : Nat) (tg : Nat) (ln : Int32) (pl : Int32) (wst : Int32) (er : Int32) (ep : Int32) (b : Nat → Int32) (sz : Nat) (hT : ty_V ct S ph ws) (hph : ty_C ph xx) (hy1 : ty_y1 xx) (hln : 0 ≤ ln.toInt ∧ ln.toInt ≤ 800) (hpl : 0 ≤ pl.toInt ∧ pl.toInt ≤ ln.toInt) : Met l yX6_next (ws_ yX6_next cX6_next 1 (some .int)) ({ frames := 0, cells := 0, slots := 0, locals := 0 } : Room) (va_Pc [.ref rd] (cmP D ct sz ([(ty_RD rd bt ln tg pl wst er ep), (rf_RW ct 0 bt 800 b)] ++ ws))) (va_Qi (fun (r : Int32) (u9 : va_W) => ty_V ct S ph u9 ∧ r = (rp_nx b ln pl)) (cmB D ([(ty_RD rd bt ln tg pl wst er ep), (rf_RW ct 0 bt 800 b)] ++ ws) sz (fun (u9 : va_W) => ([(ty_RD rd bt ln tg pl wst er ep), (rf_RW ct 0 bt 800 b)] ++ u9))) (va_A ([(ty_RD rd bt ln tg pl wst er ep), (rf_RW ct 0 bt 800 b)] ++ ws) sz)) 0 0 (va_A ([(ty_RD rd bt ln tg pl wst er ep), (rf_RW ct 0 bt 800 b)] ++ ws) sz) := by
  refine Met.ofW (cc := cX6_next) (maxL := 1) (ret := (some .int)) (by decide) rfl ?_
  intro p e s m args below meth c s₁ B hml hv
  obtain ⟨rfl, hsz, hP, hK, hD0, hX⟩ := hv
  have hx := B.exec
  have hb := B.bytes
  have hr := B.returns
  have hts := ws_all (atoms_spec (ws := ws_ yX6_next cX6_next 1 (some .int)) B.pre)
  have hown : s.vm.findClass RX6 = some m.cls := findClass_of_methodNamed B.named
  have hlocks := B.notSynchronized
  subst hsz
  have hD := hD0.self (sz := s.heap.size)
  generalize hAe : va_A ([(ty_RD rd bt ln tg pl wst er ep), (rf_RW ct 0 bt 800 b)] ++ ws) s.heap.size = A at hD hX ⊢
  have hA : ∀ q : Nat, s.heap.size ≤ q → A q := fun q h => by rw [← hAe]; exact Or.inr h
  have hS : va_S A s.heap s.heap [] := va_S.rf
  have hl := lv_entry ([.ref rd]) (n := 1) (Nat.le_of_ble_eq_true rfl)
  rw [lg_entry_eq]
  generalize (lg_sl ([.ref rd]) ++ List.replicate (1 - (lg_sl ([.ref rd])).length) Slot.unset).toArray = ls at hl ⊢
  have hl : lv_has ls 1 [(0, .ref rd)] := hl
  refine lv_aload_n hx hb dX6_next_0 rfl (lv_at hl 0 rfl) ?_
  refine va_get (v := .int pl) (D := D) (ci := 6) (C := RX6) (T := TX6) (N := 7) hx hb hts in_X6 hown hK hP 0 rfl rfl 3 (by decide) (hts _ kl_RX6_65) (fun _ h9 => h9) rfl dX6_next_1 ?_
  refine lv_aload_n hx hb dX6_next_4 rfl (lv_at hl 0 rfl) ?_
  refine va_get (v := .int ln) (D := D) (ci := 6) (C := RX6) (T := TX6) (N := 7) hx hb hts in_X6 hown hK hP 0 rfl rfl 1 (by decide) (hts _ kl_RX6_15) (fun _ h9 => h9) rfl dX6_next_5 ?_
  refine lv_icmp_ge (tgt := 42) hx hb dX6_next_8 (by decide) (fun hc_1 => ?_) (fun hc_1 => ?_)
  · refine lv_iconst (v := 0) hx hb dX6_next_42 (by decide) ?_
    exact W.iret (v := 0) hx hb hr (fun t ht hW => ⟨⟨0, ws, rfl, ⟨hT, (if_neg (cm_nlt hc_1)).symm⟩, by rw [ht]; exact hP, by rw [hAe]; exact hD⟩, hS.F ht⟩) hS.2.2 dX6_next_43
  · refine lv_aload_n hx hb dX6_next_11 rfl (lv_at hl 0 rfl) ?_
    refine va_get (v := .int pl) (D := D) (ci := 6) (C := RX6) (T := TX6) (N := 7) hx hb hts in_X6 hown hK hP 0 rfl rfl 3 (by decide) (hts _ kl_RX6_65) (fun _ h9 => h9) rfl dX6_next_12 ?_
    refine lv_if_lt (tgt := 42) hx hb dX6_next_15 (by decide) (fun hc_2 => ?_) (fun hc_2 => ?_)
    · refine lv_iconst (v := 0) hx hb dX6_next_42 (by decide) ?_
      exact W.iret (v := 0) hx hb hr (fun t ht hW => ⟨⟨0, ws, rfl, ⟨hT, (rp_neg hc_2 hpl.1).elim⟩, by rw [ht]; exact hP, by rw [hAe]; exact hD⟩, hS.F ht⟩) hS.2.2 dX6_next_43
    · refine lv_aload_n hx hb dX6_next_18 rfl (lv_at hl 0 rfl) ?_
      refine va_get (v := .int pl) (D := D) (ci := 6) (C := RX6) (T := TX6) (N := 7) hx hb hts in_X6 hown hK hP 0 rfl rfl 3 (by decide) (hts _ kl_RX6_65) (fun _ h9 => h9) rfl dX6_next_19 ?_
      refine lv_aload_n hx hb dX6_next_22 rfl (lv_at hl 0 rfl) ?_
      refine va_get (v := .ref bt) (D := D) (ci := 6) (C := RX6) (T := TX6) (N := 7) hx hb hts in_X6 hown hK hP 0 rfl rfl 0 (by decide) (hts _ kl_RX6_9) (fun _ h9 => h9) rfl dX6_next_23 ?_
      refine va_alen hx hb hK hP 1 0 rfl rfl (v := 800) (show Int32.ofNat 800 = (800 : Int32) from by decide) dX6_next_26 ?_
      refine lv_icmp_ge (tgt := 42) hx hb dX6_next_27 (by decide) (fun hc_3 => ?_) (fun hc_3 => ?_)
      · refine lv_iconst (v := 0) hx hb dX6_next_42 (by decide) ?_
        exact W.iret (v := 0) hx hb hr (fun t ht hW => ⟨⟨0, ws, rfl, ⟨hT, (rp_big hc_3 (by have := (rf_lth hc_1); omega)).elim⟩, by rw [ht]; exact hP, by rw [hAe]; exact hD⟩, hS.F ht⟩) hS.2.2 dX6_next_43
      · refine lv_aload_n hx hb dX6_next_30 rfl (lv_at hl 0 rfl) ?_
        refine va_get (v := .ref bt) (D := D) (ci := 6) (C := RX6) (T := TX6) (N := 7) hx hb hts in_X6 hown hK hP 0 rfl rfl 0 (by decide) (hts _ kl_RX6_9) (fun _ h9 => h9) rfl dX6_next_31 ?_
        refine lv_aload_n hx hb dX6_next_34 rfl (lv_at hl 0 rfl) ?_
        refine va_get (v := .int pl) (D := D) (ci := 6) (C := RX6) (T := TX6) (N := 7) hx hb hts in_X6 hown hK hP 0 rfl rfl 3 (by decide) (hts _ kl_RX6_65) (fun _ h9 => h9) rfl dX6_next_35 ?_
        refine va_iald hx hb hK hP 1 0 rfl rfl (rp_vin (by have := (rf_lth hc_1); omega)) dX6_next_38 ?_
        refine lv_goto (tgt := 43) hx hb dX6_next_39 (by decide) ?_
        exact W.iret (v := (b pl.toNatClampNeg)) hx hb hr (fun t ht hW => ⟨⟨(b pl.toNatClampNeg), ws, rfl, ⟨hT, (if_pos (cm_lt hc_1)).symm⟩, by rw [ht]; exact hP, by rw [hAe]; exact hD⟩, hS.F ht⟩) hS.2.2 dX6_next_43
theorem dX6_isLetter_0 : decode cX6_isLetter 0 = .ok (.iload_n 0, 1) := by decide +kernel
theorem dX6_isLetter_1 : decode cX6_isLetter 1 = .ok (.bipush 97, 2) := by decide +kernel
theorem dX6_isLetter_3 : decode cX6_isLetter 3 = .ok (.if_icmp .lt 13, 3) := by decide +kernel
theorem dX6_isLetter_6 : decode cX6_isLetter 6 = .ok (.iload_n 0, 1) := by decide +kernel
theorem dX6_isLetter_7 : decode cX6_isLetter 7 = .ok (.bipush 122, 2) := by decide +kernel
theorem dX6_isLetter_9 : decode cX6_isLetter 9 = .ok (.if_icmp .gt 7, 3) := by decide +kernel
theorem dX6_isLetter_12 : decode cX6_isLetter 12 = .ok (.iconst 1, 1) := by decide +kernel
theorem dX6_isLetter_13 : decode cX6_isLetter 13 = .ok (.goto 4, 3) := by decide +kernel
theorem dX6_isLetter_16 : decode cX6_isLetter 16 = .ok (.iconst 0, 1) := by decide +kernel
theorem dX6_isLetter_17 : decode cX6_isLetter 17 = .ok (.ireturn, 1) := by decide +kernel
set_option maxRecDepth 100000 in
set_option maxHeartbeats 4000000 in
theorem r_isLetter (l : Launch) (D : va_G) (ct : Nat → ClassId) (S : ty_S) (ws : va_W) (ph : va_W → Prop) (xx : Nat → Nat → Nat → Prop) (p1 : Int32) (sz : Nat) (hT : ty_V ct S ph ws) (hph : ty_C ph xx) (hy1 : ty_y1 xx) : Met l yX6_isLetter (ws_ yX6_isLetter cX6_isLetter 1 (some .boolean)) ({ frames := 0, cells := 0, slots := 0, locals := 0 } : Room) (va_Pc [.int p1] (cmP D ct sz ([] ++ ws))) (va_Qi (fun (r : Int32) (u9 : va_W) => ty_V ct S ph u9 ∧ ((r = 1 ∧ 97 ≤ p1.toInt ∧ p1.toInt ≤ 122) ∨ (r = 0 ∧ ¬ (97 ≤ p1.toInt ∧ p1.toInt ≤ 122)))) (cmB D ([] ++ ws) sz (fun (u9 : va_W) => ([] ++ u9))) (va_A ([] ++ ws) sz)) 0 0 (va_A ([] ++ ws) sz) := by
  refine Met.ofW (cc := cX6_isLetter) (maxL := 1) (ret := (some .boolean)) (by decide) rfl ?_
  intro p e s m args below meth c s₁ B hml hv
  obtain ⟨rfl, hsz, hP, hK, hD0, hX⟩ := hv
  have hx := B.exec
  have hb := B.bytes
  have hr := B.returns
  have hts := ws_all (atoms_spec (ws := ws_ yX6_isLetter cX6_isLetter 1 (some .boolean)) B.pre)
  have hown : s.vm.findClass RX6 = some m.cls := findClass_of_methodNamed B.named
  have hlocks := B.notSynchronized
  subst hsz
  have hD := hD0.self (sz := s.heap.size)
  generalize hAe : va_A ([] ++ ws) s.heap.size = A at hD hX ⊢
  have hA : ∀ q : Nat, s.heap.size ≤ q → A q := fun q h => by rw [← hAe]; exact Or.inr h
  have hS : va_S A s.heap s.heap [] := va_S.rf
  have hl := lv_entry ([.int p1]) (n := 1) (Nat.le_of_ble_eq_true rfl)
  rw [lg_entry_eq]
  generalize (lg_sl ([.int p1]) ++ List.replicate (1 - (lg_sl ([.int p1])).length) Slot.unset).toArray = ls at hl ⊢
  have hl : lv_has ls 1 [(0, .int p1)] := hl
  refine lv_iload_n hx hb dX6_isLetter_0 rfl (lv_at hl 0 rfl) ?_
  refine lv_bipush (v := 97) hx hb dX6_isLetter_1 (by decide) ?_
  refine lv_icmp_lt (tgt := 16) hx hb dX6_isLetter_3 (by decide) (fun hc_1 => ?_) (fun hc_1 => ?_)
  · refine lv_iconst (v := 0) hx hb dX6_isLetter_16 (by decide) ?_
    exact W.zret (v := 0) hx hb hr (by decide) (fun t ht hW => ⟨⟨0, ws, rfl, ⟨hT, (Or.inr ⟨rfl, rp_out1 (L := 97) (U := 122) (by decide) hc_1⟩)⟩, by rw [ht]; exact hP, by rw [hAe]; exact hD⟩, hS.F ht⟩) hS.2.2 dX6_isLetter_17
  · refine lv_iload_n hx hb dX6_isLetter_6 rfl (lv_at hl 0 rfl) ?_
    refine lv_bipush (v := 122) hx hb dX6_isLetter_7 (by decide) ?_
    refine lv_icmp_gt (tgt := 16) hx hb dX6_isLetter_9 (by decide) (fun hc_2 => ?_) (fun hc_2 => ?_)
    · refine lv_iconst (v := 0) hx hb dX6_isLetter_16 (by decide) ?_
      exact W.zret (v := 0) hx hb hr (by decide) (fun t ht hW => ⟨⟨0, ws, rfl, ⟨hT, (Or.inr ⟨rfl, rp_out2 (L := 97) (U := 122) (by decide) hc_2⟩)⟩, by rw [ht]; exact hP, by rw [hAe]; exact hD⟩, hS.F ht⟩) hS.2.2 dX6_isLetter_17
    · refine lv_iconst (v := 1) hx hb dX6_isLetter_12 (by decide) ?_
      refine lv_goto (tgt := 17) hx hb dX6_isLetter_13 (by decide) ?_
      exact W.zret (v := 1) hx hb hr (by decide) (fun t ht hW => ⟨⟨1, ws, rfl, ⟨hT, (Or.inl ⟨rfl, rp_in1 (L := 97) (U := 122) (by decide) (by decide) hc_1 hc_2⟩)⟩, by rw [ht]; exact hP, by rw [hAe]; exact hD⟩, hS.F ht⟩) hS.2.2 dX6_isLetter_17
theorem dX6_isDigit_0 : decode cX6_isDigit 0 = .ok (.iload_n 0, 1) := by decide +kernel
theorem dX6_isDigit_1 : decode cX6_isDigit 1 = .ok (.bipush 48, 2) := by decide +kernel
theorem dX6_isDigit_3 : decode cX6_isDigit 3 = .ok (.if_icmp .lt 13, 3) := by decide +kernel
theorem dX6_isDigit_6 : decode cX6_isDigit 6 = .ok (.iload_n 0, 1) := by decide +kernel
theorem dX6_isDigit_7 : decode cX6_isDigit 7 = .ok (.bipush 57, 2) := by decide +kernel
theorem dX6_isDigit_9 : decode cX6_isDigit 9 = .ok (.if_icmp .gt 7, 3) := by decide +kernel
theorem dX6_isDigit_12 : decode cX6_isDigit 12 = .ok (.iconst 1, 1) := by decide +kernel
theorem dX6_isDigit_13 : decode cX6_isDigit 13 = .ok (.goto 4, 3) := by decide +kernel
theorem dX6_isDigit_16 : decode cX6_isDigit 16 = .ok (.iconst 0, 1) := by decide +kernel
theorem dX6_isDigit_17 : decode cX6_isDigit 17 = .ok (.ireturn, 1) := by decide +kernel
set_option maxRecDepth 100000 in
set_option maxHeartbeats 4000000 in
theorem r_isDigit (l : Launch) (D : va_G) (ct : Nat → ClassId) (S : ty_S) (ws : va_W) (ph : va_W → Prop) (xx : Nat → Nat → Nat → Prop) (p1 : Int32) (sz : Nat) (hT : ty_V ct S ph ws) (hph : ty_C ph xx) (hy1 : ty_y1 xx) : Met l yX6_isDigit (ws_ yX6_isDigit cX6_isDigit 1 (some .boolean)) ({ frames := 0, cells := 0, slots := 0, locals := 0 } : Room) (va_Pc [.int p1] (cmP D ct sz ([] ++ ws))) (va_Qi (fun (r : Int32) (u9 : va_W) => ty_V ct S ph u9 ∧ ((r = 1 ∧ 48 ≤ p1.toInt ∧ p1.toInt ≤ 57) ∨ (r = 0 ∧ ¬ (48 ≤ p1.toInt ∧ p1.toInt ≤ 57)))) (cmB D ([] ++ ws) sz (fun (u9 : va_W) => ([] ++ u9))) (va_A ([] ++ ws) sz)) 0 0 (va_A ([] ++ ws) sz) := by
  refine Met.ofW (cc := cX6_isDigit) (maxL := 1) (ret := (some .boolean)) (by decide) rfl ?_
  intro p e s m args below meth c s₁ B hml hv
  obtain ⟨rfl, hsz, hP, hK, hD0, hX⟩ := hv
  have hx := B.exec
  have hb := B.bytes
  have hr := B.returns
  have hts := ws_all (atoms_spec (ws := ws_ yX6_isDigit cX6_isDigit 1 (some .boolean)) B.pre)
  have hown : s.vm.findClass RX6 = some m.cls := findClass_of_methodNamed B.named
  have hlocks := B.notSynchronized
  subst hsz
  have hD := hD0.self (sz := s.heap.size)
  generalize hAe : va_A ([] ++ ws) s.heap.size = A at hD hX ⊢
  have hA : ∀ q : Nat, s.heap.size ≤ q → A q := fun q h => by rw [← hAe]; exact Or.inr h
  have hS : va_S A s.heap s.heap [] := va_S.rf
  have hl := lv_entry ([.int p1]) (n := 1) (Nat.le_of_ble_eq_true rfl)
  rw [lg_entry_eq]
  generalize (lg_sl ([.int p1]) ++ List.replicate (1 - (lg_sl ([.int p1])).length) Slot.unset).toArray = ls at hl ⊢
  have hl : lv_has ls 1 [(0, .int p1)] := hl
  refine lv_iload_n hx hb dX6_isDigit_0 rfl (lv_at hl 0 rfl) ?_
  refine lv_bipush (v := 48) hx hb dX6_isDigit_1 (by decide) ?_
  refine lv_icmp_lt (tgt := 16) hx hb dX6_isDigit_3 (by decide) (fun hc_1 => ?_) (fun hc_1 => ?_)
  · refine lv_iconst (v := 0) hx hb dX6_isDigit_16 (by decide) ?_
    exact W.zret (v := 0) hx hb hr (by decide) (fun t ht hW => ⟨⟨0, ws, rfl, ⟨hT, (Or.inr ⟨rfl, rp_out1 (L := 48) (U := 57) (by decide) hc_1⟩)⟩, by rw [ht]; exact hP, by rw [hAe]; exact hD⟩, hS.F ht⟩) hS.2.2 dX6_isDigit_17
  · refine lv_iload_n hx hb dX6_isDigit_6 rfl (lv_at hl 0 rfl) ?_
    refine lv_bipush (v := 57) hx hb dX6_isDigit_7 (by decide) ?_
    refine lv_icmp_gt (tgt := 16) hx hb dX6_isDigit_9 (by decide) (fun hc_2 => ?_) (fun hc_2 => ?_)
    · refine lv_iconst (v := 0) hx hb dX6_isDigit_16 (by decide) ?_
      exact W.zret (v := 0) hx hb hr (by decide) (fun t ht hW => ⟨⟨0, ws, rfl, ⟨hT, (Or.inr ⟨rfl, rp_out2 (L := 48) (U := 57) (by decide) hc_2⟩)⟩, by rw [ht]; exact hP, by rw [hAe]; exact hD⟩, hS.F ht⟩) hS.2.2 dX6_isDigit_17
    · refine lv_iconst (v := 1) hx hb dX6_isDigit_12 (by decide) ?_
      refine lv_goto (tgt := 17) hx hb dX6_isDigit_13 (by decide) ?_
      exact W.zret (v := 1) hx hb hr (by decide) (fun t ht hW => ⟨⟨1, ws, rfl, ⟨hT, (Or.inl ⟨rfl, rp_in1 (L := 48) (U := 57) (by decide) (by decide) hc_1 hc_2⟩)⟩, by rw [ht]; exact hP, by rw [hAe]; exact hD⟩, hS.F ht⟩) hS.2.2 dX6_isDigit_17
theorem dX6_fail_0 : decode cX6_fail 0 = .ok (.aload_n 0, 1) := by decide +kernel
theorem dX6_fail_1 : decode cX6_fail 1 = .ok (.getfield 58, 3) := by decide +kernel
theorem dX6_fail_4 : decode cX6_fail 4 = .ok (.ifCond .ne 13, 3) := by decide +kernel
theorem dX6_fail_7 : decode cX6_fail 7 = .ok (.aload_n 0, 1) := by decide +kernel
theorem dX6_fail_8 : decode cX6_fail 8 = .ok (.iload_n 1, 1) := by decide +kernel
theorem dX6_fail_9 : decode cX6_fail 9 = .ok (.putfield 58, 3) := by decide +kernel
theorem dX6_fail_12 : decode cX6_fail 12 = .ok (.aload_n 0, 1) := by decide +kernel
theorem dX6_fail_13 : decode cX6_fail 13 = .ok (.iload_n 2, 1) := by decide +kernel
theorem dX6_fail_14 : decode cX6_fail 14 = .ok (.putfield 236, 3) := by decide +kernel
theorem dX6_fail_17 : decode cX6_fail 17 = .ok (.return_, 1) := by decide +kernel
set_option maxRecDepth 100000 in
set_option maxHeartbeats 4000000 in
theorem r_fail (l : Launch) (D : va_G) (ct : Nat → ClassId) (S : ty_S) (ws : va_W) (ph : va_W → Prop) (xx : Nat → Nat → Nat → Prop) (rd : Nat) (bt : Nat) (tg : Nat) (ln : Int32) (pl : Int32) (wst : Int32) (er : Int32) (ep : Int32) (p1 : Int32) (p2 : Int32) (sz : Nat) (hT : ty_V ct S ph ws) (hph : ty_C ph xx) (hy1 : ty_y1 xx) (hk : ¬ p1 = 0) : Met l yX6_fail (ws_ yX6_fail cX6_fail 3 none) ({ frames := 0, cells := 0, slots := 0, locals := 0 } : Room) (va_Pc [.ref rd, .int p1, .int p2] (cmP D ct sz ([(ty_RD rd bt ln tg pl wst er ep)] ++ ws))) (va_Qv (fun (u : va_W × Int32 × Int32) => match u with | (u9, er1, ep1) => ty_V ct S ph u9 ∧ rp_o er ep er1 ep1 p1 p2 True) (cmB D ([(ty_RD rd bt ln tg pl wst er ep)] ++ ws) sz (fun (u : va_W × Int32 × Int32) => match u with | (u9, er1, ep1) => ([(ty_RD rd bt ln tg pl wst er1 ep1)] ++ u9))) (va_A ([(ty_RD rd bt ln tg pl wst er ep)] ++ ws) sz)) 0 0 (va_A ([(ty_RD rd bt ln tg pl wst er ep)] ++ ws) sz) := by
  refine Met.ofW (cc := cX6_fail) (maxL := 3) (ret := none) (by decide) rfl ?_
  intro p e s m args below meth c s₁ B hml hv
  obtain ⟨rfl, hsz, hP, hK, hD0, hX⟩ := hv
  have hx := B.exec
  have hb := B.bytes
  have hr := B.returns
  have hts := ws_all (atoms_spec (ws := ws_ yX6_fail cX6_fail 3 none) B.pre)
  have hown : s.vm.findClass RX6 = some m.cls := findClass_of_methodNamed B.named
  have hlocks := B.notSynchronized
  subst hsz
  have hD := hD0.self (sz := s.heap.size)
  generalize hAe : va_A ([(ty_RD rd bt ln tg pl wst er ep)] ++ ws) s.heap.size = A at hD hX ⊢
  have hA : ∀ q : Nat, s.heap.size ≤ q → A q := fun q h => by rw [← hAe]; exact Or.inr h
  have hS : va_S A s.heap s.heap [] := va_S.rf
  have hl := lv_entry ([.ref rd, .int p1, .int p2]) (n := 3) (Nat.le_of_ble_eq_true rfl)
  rw [lg_entry_eq]
  generalize (lg_sl ([.ref rd, .int p1, .int p2]) ++ List.replicate (3 - (lg_sl ([.ref rd, .int p1, .int p2])).length) Slot.unset).toArray = ls at hl ⊢
  have hl : lv_has ls 3 [(0, .ref rd), (1, .int p1), (2, .int p2)] := hl
  refine lv_aload_n hx hb dX6_fail_0 rfl (lv_at hl 0 rfl) ?_
  refine va_get (v := .int er) (D := D) (ci := 6) (C := RX6) (T := TX6) (N := 7) hx hb hts in_X6 hown hK hP 0 rfl rfl 5 (by decide) (hts _ kl_RX6_58) (fun _ h9 => h9) rfl dX6_fail_1 ?_
  refine lv_if_ne (tgt := 17) hx hb dX6_fail_4 (by decide) (fun hc_1 => ?_) (fun hc_1 => ?_)
  · exact W.vret hx hb hr (fun t ht hW => ⟨⟨(ws, er, ep), rfl, ⟨hT, ⟨fun _ => ⟨rfl, rfl⟩, fun q => absurd q hc_1⟩⟩, by rw [ht]; exact hP, by rw [hAe]; exact hD⟩, hS.F ht⟩) hS.2.2 dX6_fail_17
  · refine lv_aload_n hx hb dX6_fail_7 rfl (lv_at hl 0 rfl) ?_
    refine lv_iload_n hx hb dX6_fail_8 rfl (lv_at hl 1 rfl) ?_
    refine va_put (v := .int p1) (ty := .int) (D := D) (ci := 6) (C := RX6) (T := TX6) (N := 7) hx hb hts in_X6 tyX6 tyX6_ok nmX6 hown hK hP hD hS 0 rfl rfl 5 (by decide) (hts _ kl_RX6_58) (fun _ h9 => h9) rfl (by decide +kernel) rfl rfl (Nat.le_of_ble_eq_true rfl) dX6_fail_9 (fun H locs hP hD hS => ?_)
    have hP : va_P D vwCl ([(ty_RD rd bt ln tg pl wst p1 ep)] ++ ws) H := hP
    have hD : va_D A ([(ty_RD rd bt ln tg pl wst p1 ep)] ++ ws) := hD
    refine lv_aload_n hx hb dX6_fail_12 rfl (lv_at hl 0 rfl) ?_
    refine lv_iload_n hx hb dX6_fail_13 rfl (lv_at hl 2 rfl) ?_
    refine va_put (v := .int p2) (ty := .int) (D := D) (ci := 6) (C := RX6) (T := TX6) (N := 7) hx hb hts in_X6 tyX6 tyX6_ok nmX6 hown hK hP hD hS 0 rfl rfl 6 (by decide) (hts _ kl_RX6_236) (fun _ h9 => h9) rfl (by decide +kernel) rfl rfl (Nat.le_of_ble_eq_true rfl) dX6_fail_14 (fun H locs hP hD hS => ?_)
    have hP : va_P D vwCl ([(ty_RD rd bt ln tg pl wst p1 p2)] ++ ws) H := hP
    have hD : va_D A ([(ty_RD rd bt ln tg pl wst p1 p2)] ++ ws) := hD
    exact W.vret hx hb hr (fun t ht hW => ⟨⟨(ws, p1, p2), rfl, ⟨hT, ⟨fun q => absurd hc_1 q, fun _ => Or.inr ⟨hk, rfl, rfl⟩⟩⟩, by rw [ht]; exact hP, by rw [hAe]; exact hD⟩, hS.F ht⟩) hS.2.2 dX6_fail_17
theorem dX6_skipSpaces_0 : decode cX6_skipSpaces 0 = .ok (.aload_n 0, 1) := by decide +kernel
theorem dX6_skipSpaces_1 : decode cX6_skipSpaces 1 = .ok (.getfield 65, 3) := by decide +kernel
theorem dX6_skipSpaces_4 : decode cX6_skipSpaces 4 = .ok (.aload_n 0, 1) := by decide +kernel
theorem dX6_skipSpaces_5 : decode cX6_skipSpaces 5 = .ok (.getfield 15, 3) := by decide +kernel
theorem dX6_skipSpaces_8 : decode cX6_skipSpaces 8 = .ok (.if_icmp .ge 25, 3) := by decide +kernel
theorem dX6_skipSpaces_11 : decode cX6_skipSpaces 11 = .ok (.aload_n 0, 1) := by decide +kernel
theorem dX6_skipSpaces_12 : decode cX6_skipSpaces 12 = .ok (.invokevirtual 61, 3) := by decide +kernel
theorem dX6_skipSpaces_15 : decode cX6_skipSpaces 15 = .ok (.bipush 32, 2) := by decide +kernel
theorem dX6_skipSpaces_17 : decode cX6_skipSpaces 17 = .ok (.if_icmp .ne 16, 3) := by decide +kernel
theorem dX6_skipSpaces_20 : decode cX6_skipSpaces 20 = .ok (.aload_n 0, 1) := by decide +kernel
theorem dX6_skipSpaces_21 : decode cX6_skipSpaces 21 = .ok (.dup, 1) := by decide +kernel
theorem dX6_skipSpaces_22 : decode cX6_skipSpaces 22 = .ok (.getfield 65, 3) := by decide +kernel
theorem dX6_skipSpaces_25 : decode cX6_skipSpaces 25 = .ok (.iconst 1, 1) := by decide +kernel
theorem dX6_skipSpaces_26 : decode cX6_skipSpaces 26 = .ok (.iadd, 1) := by decide +kernel
theorem dX6_skipSpaces_27 : decode cX6_skipSpaces 27 = .ok (.putfield 65, 3) := by decide +kernel
theorem dX6_skipSpaces_30 : decode cX6_skipSpaces 30 = .ok (.goto (-30), 3) := by decide +kernel
theorem dX6_skipSpaces_33 : decode cX6_skipSpaces 33 = .ok (.return_, 1) := by decide +kernel
set_option maxRecDepth 100000 in
set_option maxHeartbeats 4000000 in
theorem r_skip (l : Launch) (D : va_G) (ct : Nat → ClassId) (S : ty_S) (ws : va_W) (ph : va_W → Prop) (xx : Nat → Nat → Nat → Prop) (rd : Nat) (bt : Nat) (tg : Nat) (ln : Int32) (pl : Int32) (wst : Int32) (er : Int32) (ep : Int32) (b : Nat → Int32) (sz : Nat) (hT : ty_V ct S ph ws) (hph : ty_C ph xx) (hy1 : ty_y1 xx) (hln : 0 ≤ ln.toInt ∧ ln.toInt ≤ 800) (hpl : 0 ≤ pl.toInt ∧ pl.toInt ≤ ln.toInt) : Met l yX6_skipSpaces (ws_ yX6_skipSpaces cX6_skipSpaces 1 none) ({ frames := 1, cells := 0, slots := 0, locals := 20 } : Room) (va_Pc [.ref rd] (cmP D ct sz ([(ty_RD rd bt ln tg pl wst er ep), (rf_RW ct 0 bt 800 b)] ++ ws))) (va_Qv (fun (u : va_W × Int32) => match u with | (u9, pl1) => ty_V ct S ph u9 ∧ pl1 = (rp_sk b ln pl)) (cmB D ([(ty_RD rd bt ln tg pl wst er ep), (rf_RW ct 0 bt 800 b)] ++ ws) sz (fun (u : va_W × Int32) => match u with | (u9, pl1) => ([(ty_RD rd bt ln tg pl1 wst er ep), (rf_RW ct 0 bt 800 b)] ++ u9))) (va_A ([(ty_RD rd bt ln tg pl wst er ep), (rf_RW ct 0 bt 800 b)] ++ ws) sz)) 0 0 (va_A ([(ty_RD rd bt ln tg pl wst er ep), (rf_RW ct 0 bt 800 b)] ++ ws) sz) := by
  refine Met.ofW (cc := cX6_skipSpaces) (maxL := 1) (ret := none) (by decide) rfl ?_
  intro p e s m args below meth c s₁ B hml hv
  obtain ⟨rfl, hsz, hP, hK, hD0, hX⟩ := hv
  have hx := B.exec
  have hb := B.bytes
  have hr := B.returns
  have hts := ws_all (atoms_spec (ws := ws_ yX6_skipSpaces cX6_skipSpaces 1 none) B.pre)
  have hown : s.vm.findClass RX6 = some m.cls := findClass_of_methodNamed B.named
  have hlocks := B.notSynchronized
  subst hsz
  have hD := hD0.self (sz := s.heap.size)
  generalize hAe : va_A ([(ty_RD rd bt ln tg pl wst er ep), (rf_RW ct 0 bt 800 b)] ++ ws) s.heap.size = A at hD hX ⊢
  have hA : ∀ q : Nat, s.heap.size ≤ q → A q := fun q h => by rw [← hAe]; exact Or.inr h
  have hS : va_S A s.heap s.heap [] := va_S.rf
  have hl := lv_entry ([.ref rd]) (n := 1) (Nat.le_of_ble_eq_true rfl)
  rw [lg_entry_eq]
  generalize (lg_sl ([.ref rd]) ++ List.replicate (1 - (lg_sl ([.ref rd])).length) Slot.unset).toArray = ls at hl ⊢
  have hl : lv_has ls 1 [(0, .ref rd)] := hl
  refine ty_loop (I := fun μ H locs ls => ∃ (ws : va_W) (y_1 : Int32), μ = (2147483648 - y_1.toInt).toNat ∧ ty_V ct S ph ws ∧ va_P D vwCl ([(ty_RD rd bt ln tg y_1 wst er ep), (rf_RW ct 0 bt 800 b)] ++ ws) H ∧ va_D A ([(ty_RD rd bt ln tg y_1 wst er ep), (rf_RW ct 0 bt 800 b)] ++ ws) ∧ va_S A s.heap H locs ∧ lv_has ls 1 [(0, .ref rd)] ∧ (pl.toInt ≤ y_1.toInt ∧ y_1.toInt ≤ ln.toInt) ∧ rp_sk b ln pl = rp_sk b ln y_1) ⟨_, ws, pl, rfl, hT, hP, hD, hS, (lv_sub hl [0] rfl), ⟨Int.le_refl _, hpl.2⟩, rfl⟩ (fun μ H locs ls hI ih_0 => ?_)
  obtain ⟨ws, y_1, rfl, hT, hP, hD, hS, hl, hex_0⟩ := hI
  refine lv_aload_n hx hb dX6_skipSpaces_0 rfl (lv_at hl 0 rfl) ?_
  refine va_get (v := .int y_1) (D := D) (ci := 6) (C := RX6) (T := TX6) (N := 7) hx hb hts in_X6 hown hK hP 0 rfl rfl 3 (by decide) (hts _ kl_RX6_65) (fun _ h9 => h9) rfl dX6_skipSpaces_1 ?_
  refine lv_aload_n hx hb dX6_skipSpaces_4 rfl (lv_at hl 0 rfl) ?_
  refine va_get (v := .int ln) (D := D) (ci := 6) (C := RX6) (T := TX6) (N := 7) hx hb hts in_X6 hown hK hP 0 rfl rfl 1 (by decide) (hts _ kl_RX6_15) (fun _ h9 => h9) rfl dX6_skipSpaces_5 ?_
  refine lv_icmp_ge (tgt := 33) hx hb dX6_skipSpaces_8 (by decide) (fun hc_2 => ?_) (fun hc_2 => ?_)
  · exact W.vret hx hb hr (fun t ht hW => ⟨⟨(ws, y_1), rfl, ⟨hT, ((hex_0.2).trans (rp_toE (by have := hex_0.1; omega) (rp_notE hc_2).2.2)).symm⟩, by rw [ht]; exact hP, by rw [hAe]; exact hD⟩, hS.F ht⟩) hS.2.2 dX6_skipSpaces_33
  · refine lv_aload_n hx hb dX6_skipSpaces_11 rfl (lv_at hl 0 rfl) ?_
    have hP : va_P D vwCl (([] ++ ws) ++ ([(ty_RD rd bt ln tg y_1 wst er ep), (rf_RW ct 0 bt 800 b)] ++ ([] : va_W))) H := ty_permP (w1 := (([] ++ [(ty_RD rd bt ln tg y_1 wst er ep), (rf_RW ct 0 bt 800 b)]) ++ ws)) hP ty_mv2
    have hD : va_D A (([] ++ ws) ++ ([(ty_RD rd bt ln tg y_1 wst er ep), (rf_RW ct 0 bt 800 b)] ++ ([] : va_W))) := ty_permD (w1 := (([] ++ [(ty_RD rd bt ln tg y_1 wst er ep), (rf_RW ct 0 bt 800 b)]) ++ ws)) hD ty_mv2
    refine ty_ki (wr := ([] ++ ws)) (wc := ([(ty_RD rd bt ln tg y_1 wst er ep), (rf_RW ct 0 bt 800 b)] ++ ([] : va_W))) (va_runV (As := []) (rest := []) ⟨hx, hb, hml, hown, hts⟩ (r_next l D ct (fun _ => none) [] (fun _ => True) (fun _ _ _ => True) rd bt tg ln y_1 wst er ep b _ ty_V0 ty_C0 ty_y10 hln (by have := hex_0.1; have := hln; omega)) (cm_V 0 hts kc_X6_next ki_RX6 kl_RX6_61 kv_X6_next kx_X6_next kd_X6_next ⟨Nat.le_of_ble_eq_true rfl, Nat.le_of_ble_eq_true rfl⟩) (ty_preE (wr := ([] ++ ws)) (wc := ([(ty_RD rd bt ln tg y_1 wst er ep), (rf_RW ct 0 bt 800 b)] ++ ([] : va_W))) (ci := 6) (q0 := (([] ++ ws) : va_W).length + 0) hP hK hD hS hA hX rfl (ty_app rfl)) rfl rfl hl.1 rfl (lv_room (Nat.le_of_ble_eq_true rfl)) dX6_skipSpaces_12 ⟨Nat.le_of_ble_eq_true rfl, Nat.le_of_ble_eq_true rfl⟩) hP hD hS hA (fun r_3 u H locs hw_4 hP hD hS => ?_)
    obtain ⟨ws_5, rfl⟩ : ∃ z, z = u := ⟨_, rfl⟩
    obtain ⟨hT9_6, rfl⟩ := hw_4
    have hP : va_P D vwCl ([(ty_RD rd bt ln tg y_1 wst er ep), (rf_RW ct 0 bt 800 b)] ++ ws) H := ty_bkP hP
    have hD : va_D A ([(ty_RD rd bt ln tg y_1 wst er ep), (rf_RW ct 0 bt 800 b)] ++ ws) := ty_bkD hD
    refine lv_bipush (v := 32) hx hb dX6_skipSpaces_15 (by decide) ?_
    refine lv_icmp_ne (tgt := 33) hx hb dX6_skipSpaces_17 (by decide) (fun hc_7 => ?_) (fun hc_7 => ?_)
    · exact W.vret hx hb hr (fun t ht hW => ⟨⟨(ws, y_1), rfl, ⟨hT, ((hex_0.2).trans (rp_toE (by have := hex_0.1; omega) (rp_spcN (rf_lth hc_2) hc_7))).symm⟩, by rw [ht]; exact hP, by rw [hAe]; exact hD⟩, hS.F ht⟩) hS.2.2 dX6_skipSpaces_33
    · refine lv_aload_n hx hb dX6_skipSpaces_20 rfl (lv_at hl 0 rfl) ?_
      refine lv_dup hx hb dX6_skipSpaces_21 rfl ?_
      refine va_get (v := .int y_1) (D := D) (ci := 6) (C := RX6) (T := TX6) (N := 7) hx hb hts in_X6 hown hK hP 0 rfl rfl 3 (by decide) (hts _ kl_RX6_65) (fun _ h9 => h9) rfl dX6_skipSpaces_22 ?_
      refine lv_iconst (v := 1) hx hb dX6_skipSpaces_25 (by decide) ?_
      refine lv_iadd hx hb dX6_skipSpaces_26 ?_
      refine va_put (v := .int (y_1 + 1)) (ty := .int) (D := D) (ci := 6) (C := RX6) (T := TX6) (N := 7) hx hb hts in_X6 tyX6 tyX6_ok nmX6 hown hK hP hD hS 0 rfl rfl 3 (by decide) (hts _ kl_RX6_65) (fun _ h9 => h9) rfl (by decide +kernel) rfl rfl (Nat.le_of_ble_eq_true rfl) dX6_skipSpaces_27 (fun H locs hP hD hS => ?_)
      have hP : va_P D vwCl ([(ty_RD rd bt ln tg (y_1 + 1) wst er ep), (rf_RW ct 0 bt 800 b)] ++ ws) H := hP
      have hD : va_D A ([(ty_RD rd bt ln tg (y_1 + 1) wst er ep), (rf_RW ct 0 bt 800 b)] ++ ws) := hD
      refine lv_goto (tgt := 0) hx hb dX6_skipSpaces_30 (by decide) ?_
      exact ih_0 _ _ _ _ (ty_inc1 (cm_lt hc_2)) ⟨ws, (y_1 + 1), rfl, hT, hP, hD, hS, (lv_sub hl [0] rfl), (by have := hex_0.1; have := (rf_lth hc_2); have e := rf_p1 (x := y_1) (by omega); omega), hex_0.2.trans (rp_toS (by have := hex_0.1; omega) (rp_spcI (rf_lth hc_2) hc_7))⟩
theorem dX6_readWord_0 : decode cX6_readWord 0 = .ok (.aload_n 0, 1) := by decide +kernel
theorem dX6_readWord_1 : decode cX6_readWord 1 = .ok (.invokevirtual 55, 3) := by decide +kernel
theorem dX6_readWord_4 : decode cX6_readWord 4 = .ok (.aload_n 0, 1) := by decide +kernel
theorem dX6_readWord_5 : decode cX6_readWord 5 = .ok (.aload_n 0, 1) := by decide +kernel
theorem dX6_readWord_6 : decode cX6_readWord 6 = .ok (.getfield 65, 3) := by decide +kernel
theorem dX6_readWord_9 : decode cX6_readWord 9 = .ok (.putfield 130, 3) := by decide +kernel
theorem dX6_readWord_12 : decode cX6_readWord 12 = .ok (.aload_n 0, 1) := by decide +kernel
theorem dX6_readWord_13 : decode cX6_readWord 13 = .ok (.invokevirtual 61, 3) := by decide +kernel
theorem dX6_readWord_16 : decode cX6_readWord 16 = .ok (.invokestatic 202, 3) := by decide +kernel
theorem dX6_readWord_19 : decode cX6_readWord 19 = .ok (.ifCond .ne 13, 3) := by decide +kernel
theorem dX6_readWord_22 : decode cX6_readWord 22 = .ok (.aload_n 0, 1) := by decide +kernel
theorem dX6_readWord_23 : decode cX6_readWord 23 = .ok (.iconst 1, 1) := by decide +kernel
theorem dX6_readWord_24 : decode cX6_readWord 24 = .ok (.aload_n 0, 1) := by decide +kernel
theorem dX6_readWord_25 : decode cX6_readWord 25 = .ok (.getfield 65, 3) := by decide +kernel
theorem dX6_readWord_28 : decode cX6_readWord 28 = .ok (.invokevirtual 68, 3) := by decide +kernel
theorem dX6_readWord_31 : decode cX6_readWord 31 = .ok (.return_, 1) := by decide +kernel
theorem dX6_readWord_32 : decode cX6_readWord 32 = .ok (.aload_n 0, 1) := by decide +kernel
theorem dX6_readWord_33 : decode cX6_readWord 33 = .ok (.getfield 65, 3) := by decide +kernel
theorem dX6_readWord_36 : decode cX6_readWord 36 = .ok (.aload_n 0, 1) := by decide +kernel
theorem dX6_readWord_37 : decode cX6_readWord 37 = .ok (.getfield 15, 3) := by decide +kernel
theorem dX6_readWord_40 : decode cX6_readWord 40 = .ok (.if_icmp .ge 26, 3) := by decide +kernel
theorem dX6_readWord_43 : decode cX6_readWord 43 = .ok (.aload_n 0, 1) := by decide +kernel
theorem dX6_readWord_44 : decode cX6_readWord 44 = .ok (.invokevirtual 61, 3) := by decide +kernel
theorem dX6_readWord_47 : decode cX6_readWord 47 = .ok (.invokestatic 202, 3) := by decide +kernel
theorem dX6_readWord_50 : decode cX6_readWord 50 = .ok (.ifCond .eq 16, 3) := by decide +kernel
theorem dX6_readWord_53 : decode cX6_readWord 53 = .ok (.aload_n 0, 1) := by decide +kernel
theorem dX6_readWord_54 : decode cX6_readWord 54 = .ok (.dup, 1) := by decide +kernel
theorem dX6_readWord_55 : decode cX6_readWord 55 = .ok (.getfield 65, 3) := by decide +kernel
theorem dX6_readWord_58 : decode cX6_readWord 58 = .ok (.iconst 1, 1) := by decide +kernel
theorem dX6_readWord_59 : decode cX6_readWord 59 = .ok (.iadd, 1) := by decide +kernel
theorem dX6_readWord_60 : decode cX6_readWord 60 = .ok (.putfield 65, 3) := by decide +kernel
theorem dX6_readWord_63 : decode cX6_readWord 63 = .ok (.goto (-31), 3) := by decide +kernel
theorem dX6_readWord_66 : decode cX6_readWord 66 = .ok (.return_, 1) := by decide +kernel
set_option maxRecDepth 100000 in
set_option maxHeartbeats 4000000 in
theorem r_readWord (l : Launch) (D : va_G) (ct : Nat → ClassId) (S : ty_S) (ws : va_W) (ph : va_W → Prop) (xx : Nat → Nat → Nat → Prop) (rd : Nat) (bt : Nat) (tg : Nat) (ln : Int32) (pl : Int32) (wst : Int32) (er : Int32) (ep : Int32) (b : Nat → Int32) (sz : Nat) (hT : ty_V ct S ph ws) (hph : ty_C ph xx) (hy1 : ty_y1 xx) (hln : 0 ≤ ln.toInt ∧ ln.toInt ≤ 800) (hpl : 0 ≤ pl.toInt ∧ pl.toInt ≤ ln.toInt) : Met l yX6_readWord (ws_ yX6_readWord cX6_readWord 1 none) ({ frames := 2, cells := 0, slots := 0, locals := 40 } : Room) (va_Pc [.ref rd] (cmP D ct sz ([(ty_RD rd bt ln tg pl wst er ep), (rf_RW ct 0 bt 800 b)] ++ ws))) (va_Qv (fun (u : va_W × Int32 × Int32 × Int32 × Int32) => match u with | (u9, pl1, ws1, er1, ep1) => ty_V ct S ph u9 ∧ pl1 = (rp_we b ln (rp_sk b ln pl)) ∧ ws1 = (rp_sk b ln pl) ∧ rp_o er ep er1 ep1 (rp_wk b ln (rp_sk b ln pl)) (rp_sk b ln pl) True) (cmB D ([(ty_RD rd bt ln tg pl wst er ep), (rf_RW ct 0 bt 800 b)] ++ ws) sz (fun (u : va_W × Int32 × Int32 × Int32 × Int32) => match u with | (u9, pl1, ws1, er1, ep1) => ([(ty_RD rd bt ln tg pl1 ws1 er1 ep1), (rf_RW ct 0 bt 800 b)] ++ u9))) (va_A ([(ty_RD rd bt ln tg pl wst er ep), (rf_RW ct 0 bt 800 b)] ++ ws) sz)) 0 0 (va_A ([(ty_RD rd bt ln tg pl wst er ep), (rf_RW ct 0 bt 800 b)] ++ ws) sz) := by
  refine Met.ofW (cc := cX6_readWord) (maxL := 1) (ret := none) (by decide) rfl ?_
  intro p e s m args below meth c s₁ B hml hv
  obtain ⟨rfl, hsz, hP, hK, hD0, hX⟩ := hv
  have hx := B.exec
  have hb := B.bytes
  have hr := B.returns
  have hts := ws_all (atoms_spec (ws := ws_ yX6_readWord cX6_readWord 1 none) B.pre)
  have hown : s.vm.findClass RX6 = some m.cls := findClass_of_methodNamed B.named
  have hlocks := B.notSynchronized
  subst hsz
  have hD := hD0.self (sz := s.heap.size)
  generalize hAe : va_A ([(ty_RD rd bt ln tg pl wst er ep), (rf_RW ct 0 bt 800 b)] ++ ws) s.heap.size = A at hD hX ⊢
  have hA : ∀ q : Nat, s.heap.size ≤ q → A q := fun q h => by rw [← hAe]; exact Or.inr h
  have hS : va_S A s.heap s.heap [] := va_S.rf
  have hl := lv_entry ([.ref rd]) (n := 1) (Nat.le_of_ble_eq_true rfl)
  rw [lg_entry_eq]
  generalize (lg_sl ([.ref rd]) ++ List.replicate (1 - (lg_sl ([.ref rd])).length) Slot.unset).toArray = ls at hl ⊢
  have hl : lv_has ls 1 [(0, .ref rd)] := hl
  refine lv_aload_n hx hb dX6_readWord_0 rfl (lv_at hl 0 rfl) ?_
  have hP : va_P D vwCl (([] ++ ws) ++ ([(ty_RD rd bt ln tg pl wst er ep), (rf_RW ct 0 bt 800 b)] ++ ([] : va_W))) s.heap := ty_permP (w1 := (([] ++ [(ty_RD rd bt ln tg pl wst er ep), (rf_RW ct 0 bt 800 b)]) ++ ws)) hP ty_mv2
  have hD : va_D A (([] ++ ws) ++ ([(ty_RD rd bt ln tg pl wst er ep), (rf_RW ct 0 bt 800 b)] ++ ([] : va_W))) := ty_permD (w1 := (([] ++ [(ty_RD rd bt ln tg pl wst er ep), (rf_RW ct 0 bt 800 b)]) ++ ws)) hD ty_mv2
  refine ty_kv (wr := ([] ++ ws)) (wc := ([(ty_RD rd bt ln tg pl wst er ep), (rf_RW ct 0 bt 800 b)] ++ ([] : va_W))) (va_runV (As := []) (rest := []) ⟨hx, hb, hml, hown, hts⟩ (r_skip l D ct (fun _ => none) [] (fun _ => True) (fun _ _ _ => True) rd bt tg ln pl wst er ep b _ ty_V0 ty_C0 ty_y10 hln hpl) (cm_V 0 hts kc_X6_skipSpaces ki_RX6 kl_RX6_55 kv_X6_skipSpaces kx_X6_skipSpaces kd_X6_skipSpaces ⟨Nat.le_of_ble_eq_true rfl, Nat.le_of_ble_eq_true rfl⟩) (ty_preE (wr := ([] ++ ws)) (wc := ([(ty_RD rd bt ln tg pl wst er ep), (rf_RW ct 0 bt 800 b)] ++ ([] : va_W))) (ci := 6) (q0 := (([] ++ ws) : va_W).length + 0) hP hK hD hS hA hX rfl (ty_app rfl)) rfl rfl hl.1 rfl (lv_room (Nat.le_of_ble_eq_true rfl)) dX6_readWord_1 ⟨Nat.le_of_ble_eq_true rfl, Nat.le_of_ble_eq_true rfl⟩) hP hD hS hA (fun u H locs hw_2 hP hD hS => ?_)
  obtain ⟨ws_3, pl1_4⟩ := u
  obtain ⟨hT9_5, hp_6⟩ := hw_2
  have hp_6 : pl1_4 = (rp_sk b ln pl) := hp_6
  have hP : va_P D vwCl ([(ty_RD rd bt ln tg pl1_4 wst er ep), (rf_RW ct 0 bt 800 b)] ++ ws) H := ty_bkP hP
  have hD : va_D A ([(ty_RD rd bt ln tg pl1_4 wst er ep), (rf_RW ct 0 bt 800 b)] ++ ws) := ty_bkD hD
  obtain rfl := hp_6
  have hsb := rp_sk_b (b := b) hln.2 hpl
  refine lv_aload_n hx hb dX6_readWord_4 rfl (lv_at hl 0 rfl) ?_
  refine lv_aload_n hx hb dX6_readWord_5 rfl (lv_at hl 0 rfl) ?_
  refine va_get (v := .int (rp_sk b ln pl)) (D := D) (ci := 6) (C := RX6) (T := TX6) (N := 7) hx hb hts in_X6 hown hK hP 0 rfl rfl 3 (by decide) (hts _ kl_RX6_65) (fun _ h9 => h9) rfl dX6_readWord_6 ?_
  refine va_put (v := .int (rp_sk b ln pl)) (ty := .int) (D := D) (ci := 6) (C := RX6) (T := TX6) (N := 7) hx hb hts in_X6 tyX6 tyX6_ok nmX6 hown hK hP hD hS 0 rfl rfl 4 (by decide) (hts _ kl_RX6_130) (fun _ h9 => h9) rfl (by decide +kernel) rfl rfl (Nat.le_of_ble_eq_true rfl) dX6_readWord_9 (fun H locs hP hD hS => ?_)
  have hP : va_P D vwCl ([(ty_RD rd bt ln tg (rp_sk b ln pl) (rp_sk b ln pl) er ep), (rf_RW ct 0 bt 800 b)] ++ ws) H := hP
  have hD : va_D A ([(ty_RD rd bt ln tg (rp_sk b ln pl) (rp_sk b ln pl) er ep), (rf_RW ct 0 bt 800 b)] ++ ws) := hD
  refine lv_aload_n hx hb dX6_readWord_12 rfl (lv_at hl 0 rfl) ?_
  have hP : va_P D vwCl (([] ++ ws) ++ ([(ty_RD rd bt ln tg (rp_sk b ln pl) (rp_sk b ln pl) er ep), (rf_RW ct 0 bt 800 b)] ++ ([] : va_W))) H := ty_permP (w1 := (([] ++ [(ty_RD rd bt ln tg (rp_sk b ln pl) (rp_sk b ln pl) er ep), (rf_RW ct 0 bt 800 b)]) ++ ws)) hP ty_mv2
  have hD : va_D A (([] ++ ws) ++ ([(ty_RD rd bt ln tg (rp_sk b ln pl) (rp_sk b ln pl) er ep), (rf_RW ct 0 bt 800 b)] ++ ([] : va_W))) := ty_permD (w1 := (([] ++ [(ty_RD rd bt ln tg (rp_sk b ln pl) (rp_sk b ln pl) er ep), (rf_RW ct 0 bt 800 b)]) ++ ws)) hD ty_mv2
  refine ty_ki (wr := ([] ++ ws)) (wc := ([(ty_RD rd bt ln tg (rp_sk b ln pl) (rp_sk b ln pl) er ep), (rf_RW ct 0 bt 800 b)] ++ ([] : va_W))) (va_runV (As := []) (rest := []) ⟨hx, hb, hml, hown, hts⟩ (r_next l D ct (fun _ => none) [] (fun _ => True) (fun _ _ _ => True) rd bt tg ln (rp_sk b ln pl) (rp_sk b ln pl) er ep b _ ty_V0 ty_C0 ty_y10 hln (by omega)) (cm_V 0 hts kc_X6_next ki_RX6 kl_RX6_61 kv_X6_next kx_X6_next kd_X6_next ⟨Nat.le_of_ble_eq_true rfl, Nat.le_of_ble_eq_true rfl⟩) (ty_preE (wr := ([] ++ ws)) (wc := ([(ty_RD rd bt ln tg (rp_sk b ln pl) (rp_sk b ln pl) er ep), (rf_RW ct 0 bt 800 b)] ++ ([] : va_W))) (ci := 6) (q0 := (([] ++ ws) : va_W).length + 0) hP hK hD hS hA hX rfl (ty_app rfl)) rfl rfl hl.1 rfl (lv_room (Nat.le_of_ble_eq_true rfl)) dX6_readWord_13 ⟨Nat.le_of_ble_eq_true rfl, Nat.le_of_ble_eq_true rfl⟩) hP hD hS hA (fun r_8 u H locs hw_9 hP hD hS => ?_)
  obtain ⟨ws_10, rfl⟩ : ∃ z, z = u := ⟨_, rfl⟩
  obtain ⟨hT9_11, rfl⟩ := hw_9
  have hP : va_P D vwCl ([(ty_RD rd bt ln tg (rp_sk b ln pl) (rp_sk b ln pl) er ep), (rf_RW ct 0 bt 800 b)] ++ ws) H := ty_bkP hP
  have hD : va_D A ([(ty_RD rd bt ln tg (rp_sk b ln pl) (rp_sk b ln pl) er ep), (rf_RW ct 0 bt 800 b)] ++ ws) := ty_bkD hD
  have hP : va_P D vwCl (([(ty_RD rd bt ln tg (rp_sk b ln pl) (rp_sk b ln pl) er ep), (rf_RW ct 0 bt 800 b)] ++ ws) ++ ([] ++ ([] : va_W))) H := ty_permP (w1 := (([(ty_RD rd bt ln tg (rp_sk b ln pl) (rp_sk b ln pl) er ep), (rf_RW ct 0 bt 800 b)] ++ []) ++ ws)) hP ty_mv2
  have hD : va_D A (([(ty_RD rd bt ln tg (rp_sk b ln pl) (rp_sk b ln pl) er ep), (rf_RW ct 0 bt 800 b)] ++ ws) ++ ([] ++ ([] : va_W))) := ty_permD (w1 := (([(ty_RD rd bt ln tg (rp_sk b ln pl) (rp_sk b ln pl) er ep), (rf_RW ct 0 bt 800 b)] ++ []) ++ ws)) hD ty_mv2
  refine ty_ki (wr := ([(ty_RD rd bt ln tg (rp_sk b ln pl) (rp_sk b ln pl) er ep), (rf_RW ct 0 bt 800 b)] ++ ws)) (wc := ([] ++ ([] : va_W))) (va_runS (As := [.int (rp_nx b ln (rp_sk b ln pl))]) (rest := []) ⟨hx, hb, hml, hown, hts⟩ (r_isLetter l D ct (fun _ => none) [] (fun _ => True) (fun _ _ _ => True) (rp_nx b ln (rp_sk b ln pl)) _ ty_V0 ty_C0 ty_y10) (cm_S 1 hts kc_X6_isLetter ki_RX6 kl_RX6_202 ks_X6_isLetter kd_X6_isLetter ⟨Nat.le_of_ble_eq_true rfl, Nat.le_of_ble_eq_true rfl⟩) (ty_preS (wr := ([(ty_RD rd bt ln tg (rp_sk b ln pl) (rp_sk b ln pl) er ep), (rf_RW ct 0 bt 800 b)] ++ ws)) (wc := ([] ++ ([] : va_W))) hP hK hD hS hA hX) rfl rfl hl.1 rfl (lv_room (Nat.le_of_ble_eq_true rfl)) dX6_readWord_16 ⟨Nat.le_of_ble_eq_true rfl, Nat.le_of_ble_eq_true rfl⟩) hP hD hS hA (fun r_12 u H locs hw_13 hP hD hS => ?_)
  obtain ⟨ws_14, rfl⟩ : ∃ z, z = u := ⟨_, rfl⟩
  obtain ⟨hT9_15, hp_16⟩ := hw_13
  have hp_16 : ((r_12 = 1 ∧ 97 ≤ (rp_nx b ln (rp_sk b ln pl)).toInt ∧ (rp_nx b ln (rp_sk b ln pl)).toInt ≤ 122) ∨ (r_12 = 0 ∧ ¬ (97 ≤ (rp_nx b ln (rp_sk b ln pl)).toInt ∧ (rp_nx b ln (rp_sk b ln pl)).toInt ≤ 122))) := hp_16
  have hP : va_P D vwCl ([(ty_RD rd bt ln tg (rp_sk b ln pl) (rp_sk b ln pl) er ep), (rf_RW ct 0 bt 800 b)] ++ ws) H := ty_bkP hP
  have hD : va_D A ([(ty_RD rd bt ln tg (rp_sk b ln pl) (rp_sk b ln pl) er ep), (rf_RW ct 0 bt 800 b)] ++ ws) := ty_bkD hD
  rcases hp_16 with ⟨rfl, hz_17⟩ | ⟨rfl, hz_18⟩
  · refine lv_if_ne (tgt := 32) hx hb dX6_readWord_19 (by decide) (fun _ => ?_) (fun hc => absurd hc (by decide))
    refine ty_loop (I := fun μ H locs ls => ∃ (ws : va_W) (y_19 : Int32), μ = (2147483648 - y_19.toInt).toNat ∧ ty_V ct S ph ws ∧ va_P D vwCl ([(ty_RD rd bt ln tg y_19 (rp_sk b ln pl) er ep), (rf_RW ct 0 bt 800 b)] ++ ws) H ∧ va_D A ([(ty_RD rd bt ln tg y_19 (rp_sk b ln pl) er ep), (rf_RW ct 0 bt 800 b)] ++ ws) ∧ va_S A s.heap H locs ∧ lv_has ls 1 [(0, .ref rd)] ∧ ((rp_sk b ln pl).toInt ≤ y_19.toInt ∧ y_19.toInt ≤ ln.toInt) ∧ rp_we b ln (rp_sk b ln pl) = rp_we b ln y_19) ⟨_, ws, (rp_sk b ln pl), rfl, hT, hP, hD, hS, (lv_sub hl [0] rfl), ⟨Int.le_refl _, hsb.2⟩, rfl⟩ (fun μ H locs ls hI ih_32 => ?_)
    obtain ⟨ws, y_19, rfl, hT, hP, hD, hS, hl, hex_32⟩ := hI
    refine lv_aload_n hx hb dX6_readWord_32 rfl (lv_at hl 0 rfl) ?_
    refine va_get (v := .int y_19) (D := D) (ci := 6) (C := RX6) (T := TX6) (N := 7) hx hb hts in_X6 hown hK hP 0 rfl rfl 3 (by decide) (hts _ kl_RX6_65) (fun _ h9 => h9) rfl dX6_readWord_33 ?_
    refine lv_aload_n hx hb dX6_readWord_36 rfl (lv_at hl 0 rfl) ?_
    refine va_get (v := .int ln) (D := D) (ci := 6) (C := RX6) (T := TX6) (N := 7) hx hb hts in_X6 hown hK hP 0 rfl rfl 1 (by decide) (hts _ kl_RX6_15) (fun _ h9 => h9) rfl dX6_readWord_37 ?_
    refine lv_icmp_ge (tgt := 66) hx hb dX6_readWord_40 (by decide) (fun hc_20 => ?_) (fun hc_20 => ?_)
    · exact W.vret hx hb hr (fun t ht hW => ⟨⟨(ws, y_19, (rp_sk b ln pl), er, ep), rfl, ⟨hT, ⟨(hex_32.2.trans (rp_toE (by have := hex_32.1; omega) (rp_notE hc_20).1)).symm, rfl, ⟨fun _ => ⟨rfl, rfl⟩, fun q9 => Or.inl ⟨if_pos (rp_letI hz_17), q9, rfl, trivial⟩⟩⟩⟩, by rw [ht]; exact hP, by rw [hAe]; exact hD⟩, hS.F ht⟩) hS.2.2 dX6_readWord_66
    · refine lv_aload_n hx hb dX6_readWord_43 rfl (lv_at hl 0 rfl) ?_
      have hP : va_P D vwCl (([] ++ ws) ++ ([(ty_RD rd bt ln tg y_19 (rp_sk b ln pl) er ep), (rf_RW ct 0 bt 800 b)] ++ ([] : va_W))) H := ty_permP (w1 := (([] ++ [(ty_RD rd bt ln tg y_19 (rp_sk b ln pl) er ep), (rf_RW ct 0 bt 800 b)]) ++ ws)) hP ty_mv2
      have hD : va_D A (([] ++ ws) ++ ([(ty_RD rd bt ln tg y_19 (rp_sk b ln pl) er ep), (rf_RW ct 0 bt 800 b)] ++ ([] : va_W))) := ty_permD (w1 := (([] ++ [(ty_RD rd bt ln tg y_19 (rp_sk b ln pl) er ep), (rf_RW ct 0 bt 800 b)]) ++ ws)) hD ty_mv2
      refine ty_ki (wr := ([] ++ ws)) (wc := ([(ty_RD rd bt ln tg y_19 (rp_sk b ln pl) er ep), (rf_RW ct 0 bt 800 b)] ++ ([] : va_W))) (va_runV (As := []) (rest := []) ⟨hx, hb, hml, hown, hts⟩ (r_next l D ct (fun _ => none) [] (fun _ => True) (fun _ _ _ => True) rd bt tg ln y_19 (rp_sk b ln pl) er ep b _ ty_V0 ty_C0 ty_y10 hln (by have := hex_32.1; omega)) (cm_V 0 hts kc_X6_next ki_RX6 kl_RX6_61 kv_X6_next kx_X6_next kd_X6_next ⟨Nat.le_of_ble_eq_true rfl, Nat.le_of_ble_eq_true rfl⟩) (ty_preE (wr := ([] ++ ws)) (wc := ([(ty_RD rd bt ln tg y_19 (rp_sk b ln pl) er ep), (rf_RW ct 0 bt 800 b)] ++ ([] : va_W))) (ci := 6) (q0 := (([] ++ ws) : va_W).length + 0) hP hK hD hS hA hX rfl (ty_app rfl)) rfl rfl hl.1 rfl (lv_room (Nat.le_of_ble_eq_true rfl)) dX6_readWord_44 ⟨Nat.le_of_ble_eq_true rfl, Nat.le_of_ble_eq_true rfl⟩) hP hD hS hA (fun r_21 u H locs hw_22 hP hD hS => ?_)
      obtain ⟨ws_23, rfl⟩ : ∃ z, z = u := ⟨_, rfl⟩
      obtain ⟨hT9_24, rfl⟩ := hw_22
      have hP : va_P D vwCl ([(ty_RD rd bt ln tg y_19 (rp_sk b ln pl) er ep), (rf_RW ct 0 bt 800 b)] ++ ws) H := ty_bkP hP
      have hD : va_D A ([(ty_RD rd bt ln tg y_19 (rp_sk b ln pl) er ep), (rf_RW ct 0 bt 800 b)] ++ ws) := ty_bkD hD
      have hP : va_P D vwCl (([(ty_RD rd bt ln tg y_19 (rp_sk b ln pl) er ep), (rf_RW ct 0 bt 800 b)] ++ ws) ++ ([] ++ ([] : va_W))) H := ty_permP (w1 := (([(ty_RD rd bt ln tg y_19 (rp_sk b ln pl) er ep), (rf_RW ct 0 bt 800 b)] ++ []) ++ ws)) hP ty_mv2
      have hD : va_D A (([(ty_RD rd bt ln tg y_19 (rp_sk b ln pl) er ep), (rf_RW ct 0 bt 800 b)] ++ ws) ++ ([] ++ ([] : va_W))) := ty_permD (w1 := (([(ty_RD rd bt ln tg y_19 (rp_sk b ln pl) er ep), (rf_RW ct 0 bt 800 b)] ++ []) ++ ws)) hD ty_mv2
      refine ty_ki (wr := ([(ty_RD rd bt ln tg y_19 (rp_sk b ln pl) er ep), (rf_RW ct 0 bt 800 b)] ++ ws)) (wc := ([] ++ ([] : va_W))) (va_runS (As := [.int (rp_nx b ln y_19)]) (rest := []) ⟨hx, hb, hml, hown, hts⟩ (r_isLetter l D ct (fun _ => none) [] (fun _ => True) (fun _ _ _ => True) (rp_nx b ln y_19) _ ty_V0 ty_C0 ty_y10) (cm_S 1 hts kc_X6_isLetter ki_RX6 kl_RX6_202 ks_X6_isLetter kd_X6_isLetter ⟨Nat.le_of_ble_eq_true rfl, Nat.le_of_ble_eq_true rfl⟩) (ty_preS (wr := ([(ty_RD rd bt ln tg y_19 (rp_sk b ln pl) er ep), (rf_RW ct 0 bt 800 b)] ++ ws)) (wc := ([] ++ ([] : va_W))) hP hK hD hS hA hX) rfl rfl hl.1 rfl (lv_room (Nat.le_of_ble_eq_true rfl)) dX6_readWord_47 ⟨Nat.le_of_ble_eq_true rfl, Nat.le_of_ble_eq_true rfl⟩) hP hD hS hA (fun r_25 u H locs hw_26 hP hD hS => ?_)
      obtain ⟨ws_27, rfl⟩ : ∃ z, z = u := ⟨_, rfl⟩
      obtain ⟨hT9_28, hp_29⟩ := hw_26
      have hp_29 : ((r_25 = 1 ∧ 97 ≤ (rp_nx b ln y_19).toInt ∧ (rp_nx b ln y_19).toInt ≤ 122) ∨ (r_25 = 0 ∧ ¬ (97 ≤ (rp_nx b ln y_19).toInt ∧ (rp_nx b ln y_19).toInt ≤ 122))) := hp_29
      have hP : va_P D vwCl ([(ty_RD rd bt ln tg y_19 (rp_sk b ln pl) er ep), (rf_RW ct 0 bt 800 b)] ++ ws) H := ty_bkP hP
      have hD : va_D A ([(ty_RD rd bt ln tg y_19 (rp_sk b ln pl) er ep), (rf_RW ct 0 bt 800 b)] ++ ws) := ty_bkD hD
      rcases hp_29 with ⟨rfl, hz_30⟩ | ⟨rfl, hz_31⟩
      · refine lv_if_eq (tgt := 66) hx hb dX6_readWord_50 (by decide) (fun hc => absurd hc (by decide)) (fun _ => ?_)
        refine lv_aload_n hx hb dX6_readWord_53 rfl (lv_at hl 0 rfl) ?_
        refine lv_dup hx hb dX6_readWord_54 rfl ?_
        refine va_get (v := .int y_19) (D := D) (ci := 6) (C := RX6) (T := TX6) (N := 7) hx hb hts in_X6 hown hK hP 0 rfl rfl 3 (by decide) (hts _ kl_RX6_65) (fun _ h9 => h9) rfl dX6_readWord_55 ?_
        refine lv_iconst (v := 1) hx hb dX6_readWord_58 (by decide) ?_
        refine lv_iadd hx hb dX6_readWord_59 ?_
        refine va_put (v := .int (y_19 + 1)) (ty := .int) (D := D) (ci := 6) (C := RX6) (T := TX6) (N := 7) hx hb hts in_X6 tyX6 tyX6_ok nmX6 hown hK hP hD hS 0 rfl rfl 3 (by decide) (hts _ kl_RX6_65) (fun _ h9 => h9) rfl (by decide +kernel) rfl rfl (Nat.le_of_ble_eq_true rfl) dX6_readWord_60 (fun H locs hP hD hS => ?_)
        have hP : va_P D vwCl ([(ty_RD rd bt ln tg (y_19 + 1) (rp_sk b ln pl) er ep), (rf_RW ct 0 bt 800 b)] ++ ws) H := hP
        have hD : va_D A ([(ty_RD rd bt ln tg (y_19 + 1) (rp_sk b ln pl) er ep), (rf_RW ct 0 bt 800 b)] ++ ws) := hD
        refine lv_goto (tgt := 32) hx hb dX6_readWord_63 (by decide) ?_
        exact ih_32 _ _ _ _ (ty_inc1 (cm_lt hc_20)) ⟨ws, (y_19 + 1), rfl, hT, hP, hD, hS, (lv_sub hl [0] rfl), (by have := hex_32.1; have := (rf_lth hc_20); have e := rf_p1 (x := y_19) (by omega); omega), hex_32.2.trans (rp_toS (by have := hex_32.1; omega) (rp_letI hz_30))⟩
      · refine lv_if_eq (tgt := 66) hx hb dX6_readWord_50 (by decide) (fun _ => ?_) (fun hc => absurd (by decide) hc)
        exact W.vret hx hb hr (fun t ht hW => ⟨⟨(ws, y_19, (rp_sk b ln pl), er, ep), rfl, ⟨hT, ⟨(hex_32.2.trans (rp_toE (by have := hex_32.1; omega) (rp_letN hz_31))).symm, rfl, ⟨fun _ => ⟨rfl, rfl⟩, fun q9 => Or.inl ⟨if_pos (rp_letI hz_17), q9, rfl, trivial⟩⟩⟩⟩, by rw [ht]; exact hP, by rw [hAe]; exact hD⟩, hS.F ht⟩) hS.2.2 dX6_readWord_66
  · refine lv_if_ne (tgt := 32) hx hb dX6_readWord_19 (by decide) (fun hc => absurd (by decide) hc) (fun _ => ?_)
    refine lv_aload_n hx hb dX6_readWord_22 rfl (lv_at hl 0 rfl) ?_
    refine lv_iconst (v := 1) hx hb dX6_readWord_23 (by decide) ?_
    refine lv_aload_n hx hb dX6_readWord_24 rfl (lv_at hl 0 rfl) ?_
    refine va_get (v := .int (rp_sk b ln pl)) (D := D) (ci := 6) (C := RX6) (T := TX6) (N := 7) hx hb hts in_X6 hown hK hP 0 rfl rfl 3 (by decide) (hts _ kl_RX6_65) (fun _ h9 => h9) rfl dX6_readWord_25 ?_
    have hP : va_P D vwCl ([(rf_RW ct 0 bt 800 b), (ty_RD rd bt ln tg (rp_sk b ln pl) (rp_sk b ln pl) er ep)] ++ ws) H := ty_permP hP (ty_ordp (E := [(ty_RD rd bt ln tg (rp_sk b ln pl) (rp_sk b ln pl) er ep), (rf_RW ct 0 bt 800 b)]) (E2 := [(rf_RW ct 0 bt 800 b), (ty_RD rd bt ln tg (rp_sk b ln pl) (rp_sk b ln pl) er ep)]) (n := 2) [1, 0] rfl rfl (by decide))
    have hD : va_D A ([(rf_RW ct 0 bt 800 b), (ty_RD rd bt ln tg (rp_sk b ln pl) (rp_sk b ln pl) er ep)] ++ ws) := ty_permD hD (ty_ordp (E := [(ty_RD rd bt ln tg (rp_sk b ln pl) (rp_sk b ln pl) er ep), (rf_RW ct 0 bt 800 b)]) (E2 := [(rf_RW ct 0 bt 800 b), (ty_RD rd bt ln tg (rp_sk b ln pl) (rp_sk b ln pl) er ep)]) (n := 2) [1, 0] rfl rfl (by decide))
    have hP : va_P D vwCl (([(rf_RW ct 0 bt 800 b)] ++ ws) ++ ([(ty_RD rd bt ln tg (rp_sk b ln pl) (rp_sk b ln pl) er ep)] ++ ([] : va_W))) H := ty_permP (w1 := (([(rf_RW ct 0 bt 800 b)] ++ [(ty_RD rd bt ln tg (rp_sk b ln pl) (rp_sk b ln pl) er ep)]) ++ ws)) hP ty_mv2
    have hD : va_D A (([(rf_RW ct 0 bt 800 b)] ++ ws) ++ ([(ty_RD rd bt ln tg (rp_sk b ln pl) (rp_sk b ln pl) er ep)] ++ ([] : va_W))) := ty_permD (w1 := (([(rf_RW ct 0 bt 800 b)] ++ [(ty_RD rd bt ln tg (rp_sk b ln pl) (rp_sk b ln pl) er ep)]) ++ ws)) hD ty_mv2
    refine ty_kv (wr := ([(rf_RW ct 0 bt 800 b)] ++ ws)) (wc := ([(ty_RD rd bt ln tg (rp_sk b ln pl) (rp_sk b ln pl) er ep)] ++ ([] : va_W))) (va_runV (As := [.int 1, .int (rp_sk b ln pl)]) (rest := []) ⟨hx, hb, hml, hown, hts⟩ (r_fail l D ct (fun _ => none) [] (fun _ => True) (fun _ _ _ => True) rd bt tg ln (rp_sk b ln pl) (rp_sk b ln pl) er ep (1 : Int32) (rp_sk b ln pl) _ ty_V0 ty_C0 ty_y10 (by decide)) (cm_V 2 hts kc_X6_fail ki_RX6 kl_RX6_68 kv_X6_fail kx_X6_fail kd_X6_fail ⟨Nat.le_of_ble_eq_true rfl, Nat.le_of_ble_eq_true rfl⟩) (ty_preE (wr := ([(rf_RW ct 0 bt 800 b)] ++ ws)) (wc := ([(ty_RD rd bt ln tg (rp_sk b ln pl) (rp_sk b ln pl) er ep)] ++ ([] : va_W))) (ci := 6) (q0 := (([(rf_RW ct 0 bt 800 b)] ++ ws) : va_W).length + 0) hP hK hD hS hA hX rfl (ty_app rfl)) rfl rfl hl.1 rfl (lv_room (Nat.le_of_ble_eq_true rfl)) dX6_readWord_28 ⟨Nat.le_of_ble_eq_true rfl, Nat.le_of_ble_eq_true rfl⟩) hP hD hS hA (fun u H locs hw_33 hP hD hS => ?_)
    obtain ⟨ws_34, er1_35, ep1_36⟩ := u
    obtain ⟨hT9_37, hp_38⟩ := hw_33
    have hp_38 : rp_o er ep er1_35 ep1_36 (1 : Int32) (rp_sk b ln pl) True := hp_38
    have hP : va_P D vwCl ([(rf_RW ct 0 bt 800 b), (ty_RD rd bt ln tg (rp_sk b ln pl) (rp_sk b ln pl) er1_35 ep1_36)] ++ ws) H := ty_bkP hP
    have hD : va_D A ([(rf_RW ct 0 bt 800 b), (ty_RD rd bt ln tg (rp_sk b ln pl) (rp_sk b ln pl) er1_35 ep1_36)] ++ ws) := ty_bkD hD
    have hP : va_P D vwCl ([(ty_RD rd bt ln tg (rp_sk b ln pl) (rp_sk b ln pl) er1_35 ep1_36), (rf_RW ct 0 bt 800 b)] ++ ws) H := ty_permP hP (ty_ordp (E := [(rf_RW ct 0 bt 800 b), (ty_RD rd bt ln tg (rp_sk b ln pl) (rp_sk b ln pl) er1_35 ep1_36)]) (E2 := [(ty_RD rd bt ln tg (rp_sk b ln pl) (rp_sk b ln pl) er1_35 ep1_36), (rf_RW ct 0 bt 800 b)]) (n := 2) [1, 0] rfl rfl (by decide))
    have hD : va_D A ([(ty_RD rd bt ln tg (rp_sk b ln pl) (rp_sk b ln pl) er1_35 ep1_36), (rf_RW ct 0 bt 800 b)] ++ ws) := ty_permD hD (ty_ordp (E := [(rf_RW ct 0 bt 800 b), (ty_RD rd bt ln tg (rp_sk b ln pl) (rp_sk b ln pl) er1_35 ep1_36)]) (E2 := [(ty_RD rd bt ln tg (rp_sk b ln pl) (rp_sk b ln pl) er1_35 ep1_36), (rf_RW ct 0 bt 800 b)]) (n := 2) [1, 0] rfl rfl (by decide))
    exact W.vret hx hb hr (fun t ht hW => ⟨⟨(ws, (rp_sk b ln pl), (rp_sk b ln pl), er1_35, ep1_36), rfl, ⟨hT, ⟨(rp_toE (by have := hsb; omega) (rp_letN hz_18)).symm, rfl, (by have := hp_38; rw [show rp_wk b ln (rp_sk b ln pl) = 1 from if_neg (rp_letN hz_18)]; exact this)⟩⟩, by rw [ht]; exact hP, by rw [hAe]; exact hD⟩, hS.F ht⟩) hS.2.2 dX6_readWord_31
set_option maxRecDepth 100000 in
set_option maxHeartbeats 4000000 in
theorem r_at (l : Launch) (D : va_G) (ct : Nat → ClassId) (S : ty_S) (ws : va_W) (ph : va_W → Prop) (xx : Nat → Nat → Nat → Prop) (p1 : Nat) (p2 : Int32) (b : Nat → Int32) (sz : Nat) (hT : ty_V ct S ph ws) (hph : ty_C ph xx) (hy1 : ty_y1 xx) : Met l yX10_at (ws_ yX10_at cX10_at 2 (some .int)) ({ frames := 0, cells := 0, slots := 0, locals := 0 } : Room) (va_Pc [.ref p1, .int p2] (cmP D ct sz ([(rf_RW ct 0 p1 800 b)] ++ ws))) (va_Qi (fun (r : Int32) (u9 : va_W) => ty_V ct S ph u9 ∧ r = (rp_at b p2)) (cmB D ([(rf_RW ct 0 p1 800 b)] ++ ws) sz (fun (u9 : va_W) => ([(rf_RW ct 0 p1 800 b)] ++ u9))) (va_A ([(rf_RW ct 0 p1 800 b)] ++ ws) sz)) 0 0 (va_A ([(rf_RW ct 0 p1 800 b)] ++ ws) sz) := by
  refine Met.ofW (cc := cX10_at) (maxL := 2) (ret := (some .int)) (by decide) rfl ?_
  intro p e s m args below meth c s₁ B hml hv
  obtain ⟨rfl, hsz, hP, hK, hD0, hX⟩ := hv
  have hx := B.exec
  have hb := B.bytes
  have hr := B.returns
  have hts := ws_all (atoms_spec (ws := ws_ yX10_at cX10_at 2 (some .int)) B.pre)
  have hown : s.vm.findClass RX10 = some m.cls := findClass_of_methodNamed B.named
  have hlocks := B.notSynchronized
  subst hsz
  have hD := hD0.self (sz := s.heap.size)
  generalize hAe : va_A ([(rf_RW ct 0 p1 800 b)] ++ ws) s.heap.size = A at hD hX ⊢
  have hA : ∀ q : Nat, s.heap.size ≤ q → A q := fun q h => by rw [← hAe]; exact Or.inr h
  have hS : va_S A s.heap s.heap [] := va_S.rf
  have hl := lv_entry ([.ref p1, .int p2]) (n := 2) (Nat.le_of_ble_eq_true rfl)
  rw [lg_entry_eq]
  generalize (lg_sl ([.ref p1, .int p2]) ++ List.replicate (2 - (lg_sl ([.ref p1, .int p2])).length) Slot.unset).toArray = ls at hl ⊢
  have hl : lv_has ls 2 [(0, .ref p1), (1, .int p2)] := hl
  refine lv_iload_n hx hb dX10_at_0 rfl (lv_at hl 1 rfl) ?_
  refine lv_if_lt (tgt := 10) hx hb dX10_at_1 (by decide) (fun hc_1 => ?_) (fun hc_1 => ?_)
  · refine lv_iconst (v := 0) hx hb dX10_at_10 (by decide) ?_
    refine lv_goto (tgt := 17) hx hb dX10_at_11 (by decide) ?_
    exact W.iret (v := 0) hx hb hr (fun t ht hW => ⟨⟨0, ws, rfl, ⟨hT, (if_neg (fun q => rp_neg hc_1 q.1)).symm⟩, by rw [ht]; exact hP, by rw [hAe]; exact hD⟩, hS.F ht⟩) hS.2.2 dX10_at_17
  · refine lv_iload_n hx hb dX10_at_4 rfl (lv_at hl 1 rfl) ?_
    refine lv_aload_n hx hb dX10_at_5 rfl (lv_at hl 0 rfl) ?_
    refine va_alen hx hb hK hP 0 0 rfl rfl (v := 800) (show Int32.ofNat 800 = (800 : Int32) from by decide) dX10_at_6 ?_
    refine lv_icmp_lt (tgt := 14) hx hb dX10_at_7 (by decide) (fun hc_2 => ?_) (fun hc_2 => ?_)
    · refine lv_aload_n hx hb dX10_at_14 rfl (lv_at hl 0 rfl) ?_
      refine lv_iload_n hx hb dX10_at_15 rfl (lv_at hl 1 rfl) ?_
      refine va_iald hx hb hK hP 0 0 rfl rfl (rp_vin ⟨rp_nn hc_1, rp_sml hc_2⟩) dX10_at_16 ?_
      exact W.iret (v := (b p2.toNatClampNeg)) hx hb hr (fun t ht hW => ⟨⟨(b p2.toNatClampNeg), ws, rfl, ⟨hT, (if_pos ⟨rp_nn hc_1, rp_sml hc_2⟩).symm⟩, by rw [ht]; exact hP, by rw [hAe]; exact hD⟩, hS.F ht⟩) hS.2.2 dX10_at_17
    · refine lv_iconst (v := 0) hx hb dX10_at_10 (by decide) ?_
      refine lv_goto (tgt := 17) hx hb dX10_at_11 (by decide) ?_
      exact W.iret (v := 0) hx hb hr (fun t ht hW => ⟨⟨0, ws, rfl, ⟨hT, (if_neg (fun q => by have := rp_nsml hc_2; omega)).symm⟩, by rw [ht]; exact hP, by rw [hAe]; exact hD⟩, hS.F ht⟩) hS.2.2 dX10_at_17
set_option maxRecDepth 100000 in
set_option maxHeartbeats 4000000 in
theorem r_nameCode (l : Launch) (D : va_G) (ct : Nat → ClassId) (S : ty_S) (ws : va_W) (ph : va_W → Prop) (xx : Nat → Nat → Nat → Prop) (p1 : Nat) (p2 : Int32) (p3 : Int32) (b : Nat → Int32) (sz : Nat) (hT : ty_V ct S ph ws) (hph : ty_C ph xx) (hy1 : ty_y1 xx) (hfr : 0 ≤ p2.toInt ∧ p2.toInt ≤ p3.toInt ∧ p3.toInt ≤ 800) : Met l yX10_nameCode (ws_ yX10_nameCode cX10_nameCode 6 (some .long)) ({ frames := 1, cells := 0, slots := 0, locals := 21 } : Room) (va_Pc [.ref p1, .int p2, .int p3] (cmP D ct sz ([(rf_RW ct 0 p1 800 b)] ++ ws))) (va_Ql (fun (r : Int64) (u9 : va_W) => ty_V ct S ph u9 ∧ r = (rp_cd (rp_wd b p2 p3))) (cmB D ([(rf_RW ct 0 p1 800 b)] ++ ws) sz (fun (u9 : va_W) => ([(rf_RW ct 0 p1 800 b)] ++ u9))) (va_A ([(rf_RW ct 0 p1 800 b)] ++ ws) sz)) 0 0 (va_A ([(rf_RW ct 0 p1 800 b)] ++ ws) sz) := by
  refine Met.ofW (cc := cX10_nameCode) (maxL := 6) (ret := (some .long)) (by decide) rfl ?_
  intro p e s m args below meth c s₁ B hml hv
  obtain ⟨rfl, hsz, hP, hK, hD0, hX⟩ := hv
  have hx := B.exec
  have hb := B.bytes
  have hr := B.returns
  have hts := ws_all (atoms_spec (ws := ws_ yX10_nameCode cX10_nameCode 6 (some .long)) B.pre)
  have hown : s.vm.findClass RX10 = some m.cls := findClass_of_methodNamed B.named
  have hlocks := B.notSynchronized
  subst hsz
  have hD := hD0.self (sz := s.heap.size)
  generalize hAe : va_A ([(rf_RW ct 0 p1 800 b)] ++ ws) s.heap.size = A at hD hX ⊢
  have hA : ∀ q : Nat, s.heap.size ≤ q → A q := fun q h => by rw [← hAe]; exact Or.inr h
  have hS : va_S A s.heap s.heap [] := va_S.rf
  have hl := lv_entry ([.ref p1, .int p2, .int p3]) (n := 6) (Nat.le_of_ble_eq_true rfl)
  rw [lg_entry_eq]
  generalize (lg_sl ([.ref p1, .int p2, .int p3]) ++ List.replicate (6 - (lg_sl ([.ref p1, .int p2, .int p3])).length) Slot.unset).toArray = ls at hl ⊢
  have hl : lv_has ls 6 [(0, .ref p1), (1, .int p2), (2, .int p3)] := hl
  refine lv_lconst (v := 0) hx hb dX10_nameCode_0 (by decide) ?_
  refine lv_lstore_n (lv' := [(3, .long 0), (0, .ref p1), (1, .int p2), (2, .int p3)]) hx hb dX10_nameCode_1 rfl hl (by decide) rfl (fun ls hl => ?_)
  refine lv_iload_n hx hb dX10_nameCode_2 rfl (lv_at hl 2 rfl) ?_
  refine lv_istore (lv' := [(5, .int p2), (3, .long 0), (0, .ref p1), (1, .int p2), (2, .int p3)]) hx hb dX10_nameCode_3 hl (by decide) rfl (fun ls hl => ?_)
  refine ty_loop (I := fun μ H locs ls => ∃ (ws : va_W) (y_1 : Int64) (y_2 : Int32), μ = (2147483648 - y_2.toInt).toNat ∧ ty_V ct S ph ws ∧ va_P D vwCl ([(rf_RW ct 0 p1 800 b)] ++ ws) H ∧ va_D A ([(rf_RW ct 0 p1 800 b)] ++ ws) ∧ va_S A s.heap H locs ∧ lv_has ls 6 [(0, .ref p1), (1, .int p2), (2, .int p3), (3, .long y_1), (5, .int y_2)] ∧ (p2.toInt ≤ y_2.toInt ∧ y_2.toInt ≤ p3.toInt) ∧ y_1 = rp_cd (rp_wd b p2 y_2)) ⟨_, ws, (0 : Int64), p2, rfl, hT, hP, hD, hS, (lv_sub hl [2, 3, 4, 1, 0] rfl), ⟨Int.le_refl _, hfr.2.1⟩, (by rw [rp_wd0]; rfl)⟩ (fun μ H locs ls hI ih_5 => ?_)
  obtain ⟨ws, y_1, y_2, rfl, hT, hP, hD, hS, hl, hex_5⟩ := hI
  refine lv_iload hx hb dX10_nameCode_5 (lv_at hl 4 rfl) ?_
  refine lv_iload_n hx hb dX10_nameCode_7 rfl (lv_at hl 2 rfl) ?_
  refine lv_icmp_ge (tgt := 31) hx hb dX10_nameCode_8 (by decide) (fun hc_3 => ?_) (fun hc_3 => ?_)
  · refine lv_lload_n hx hb dX10_nameCode_31 rfl (lv_at hl 3 rfl) ?_
    exact W.lret (v := y_1) hx hb hr (fun t ht hW => ⟨⟨y_1, ws, rfl, ⟨hT, (by have q := hex_5.1; have := (Int32.le_iff_toInt_le.mp hc_3); rw [hex_5.2]; congr 1; exact congrArg (rp_wd b p2) (Int32.toInt_inj.mp (by omega)))⟩, by rw [ht]; exact hP, by rw [hAe]; exact hD⟩, hS.F ht⟩) hS.2.2 dX10_nameCode_32
  · refine lv_lload_n hx hb dX10_nameCode_11 rfl (lv_at hl 3 rfl) ?_
    refine lv_ldc2 hx hb hown (hts _ kl_RX10_377) dX10_nameCode_12 ?_
    refine lv_lmul hx hb dX10_nameCode_15 ?_
    refine lv_aload_n hx hb dX10_nameCode_16 rfl (lv_at hl 0 rfl) ?_
    refine lv_iload hx hb dX10_nameCode_17 (lv_at hl 4 rfl) ?_
    have hP : va_P D vwCl (([] ++ ws) ++ ([(rf_RW ct 0 p1 800 b)] ++ ([] : va_W))) H := ty_permP (w1 := (([] ++ [(rf_RW ct 0 p1 800 b)]) ++ ws)) hP ty_mv2
    have hD : va_D A (([] ++ ws) ++ ([(rf_RW ct 0 p1 800 b)] ++ ([] : va_W))) := ty_permD (w1 := (([] ++ [(rf_RW ct 0 p1 800 b)]) ++ ws)) hD ty_mv2
    refine ty_ki (wr := ([] ++ ws)) (wc := ([(rf_RW ct 0 p1 800 b)] ++ ([] : va_W))) (va_runS (As := [.ref p1, .int y_2]) (rest := [.long (y_1 * 256)]) ⟨hx, hb, hml, hown, hts⟩ (r_at l D ct (fun _ => none) [] (fun _ => True) (fun _ _ _ => True) p1 y_2 b _ ty_V0 ty_C0 ty_y10) (cm_S 2 hts kc_X10_at ki_RX10 kl_RX10_216 ks_X10_at kd_X10_at ⟨Nat.le_of_ble_eq_true rfl, Nat.le_of_ble_eq_true rfl⟩) (ty_preS (wr := ([] ++ ws)) (wc := ([(rf_RW ct 0 p1 800 b)] ++ ([] : va_W))) hP hK hD hS hA hX) rfl rfl hl.1 rfl (lv_room (Nat.le_of_ble_eq_true rfl)) dX10_nameCode_19 ⟨Nat.le_of_ble_eq_true rfl, Nat.le_of_ble_eq_true rfl⟩) hP hD hS hA (fun r_4 u H locs hw_5 hP hD hS => ?_)
    obtain ⟨ws_6, rfl⟩ : ∃ z, z = u := ⟨_, rfl⟩
    obtain ⟨hT9_7, rfl⟩ := hw_5
    have hP : va_P D vwCl ([(rf_RW ct 0 p1 800 b)] ++ ws) H := ty_bkP hP
    have hD : va_D A ([(rf_RW ct 0 p1 800 b)] ++ ws) := ty_bkD hD
    refine lv_i2l hx hb dX10_nameCode_22 rfl ?_
    refine lv_ladd hx hb dX10_nameCode_23 ?_
    refine lv_lstore_n (lv' := [(3, .long ((y_1 * 256) + ((rp_at b y_2).toInt64))), (0, .ref p1), (1, .int p2), (2, .int p3), (5, .int y_2)]) hx hb dX10_nameCode_24 rfl hl (by decide) rfl (fun ls hl => ?_)
    refine lv_iinc (v := (y_2 + Int32.ofInt 1)) (lv' := [(5, .int (y_2 + Int32.ofInt 1)), (3, .long ((y_1 * 256) + ((rp_at b y_2).toInt64))), (0, .ref p1), (1, .int p2), (2, .int p3)]) hx hb dX10_nameCode_25 hl (k := 4) rfl rfl (by decide) rfl (fun ls hl => ?_)
    refine lv_goto (tgt := 5) hx hb dX10_nameCode_28 (by decide) ?_
    exact ih_5 _ _ _ _ (ty_inc (cm_lt hc_3)) ⟨ws, ((y_1 * 256) + ((rp_at b y_2).toInt64)), (y_2 + Int32.ofInt 1), rfl, hT, hP, hD, hS, (lv_sub hl [2, 3, 4, 1, 0] rfl), (by have := hex_5.1; have := (rf_lth hc_3); have e : (y_2 + Int32.ofInt 1).toInt = y_2.toInt + 1 := rf_p1 (by omega); omega), (by have q := hex_5.1; have := (rf_lth hc_3); show _ = rp_cd (rp_wd b p2 (y_2 + 1)); rw [rp_wds (by omega) (by omega), rp_cds, ← hex_5.2, rp_atb (by omega)])⟩
theorem dX6_readNumber_0 : decode cX6_readNumber 0 = .ok (.aload_n 0, 1) := by decide +kernel
theorem dX6_readNumber_1 : decode cX6_readNumber 1 = .ok (.invokevirtual 55, 3) := by decide +kernel
theorem dX6_readNumber_4 : decode cX6_readNumber 4 = .ok (.aload_n 0, 1) := by decide +kernel
theorem dX6_readNumber_5 : decode cX6_readNumber 5 = .ok (.getfield 65, 3) := by decide +kernel
theorem dX6_readNumber_8 : decode cX6_readNumber 8 = .ok (.istore_n 3, 1) := by decide +kernel
theorem dX6_readNumber_9 : decode cX6_readNumber 9 = .ok (.aload_n 0, 1) := by decide +kernel
theorem dX6_readNumber_10 : decode cX6_readNumber 10 = .ok (.getfield 58, 3) := by decide +kernel
theorem dX6_readNumber_13 : decode cX6_readNumber 13 = .ok (.ifCond .ne 13, 3) := by decide +kernel
theorem dX6_readNumber_16 : decode cX6_readNumber 16 = .ok (.aload_n 0, 1) := by decide +kernel
theorem dX6_readNumber_17 : decode cX6_readNumber 17 = .ok (.invokevirtual 61, 3) := by decide +kernel
theorem dX6_readNumber_20 : decode cX6_readNumber 20 = .ok (.invokestatic 154, 3) := by decide +kernel
theorem dX6_readNumber_23 : decode cX6_readNumber 23 = .ok (.ifCond .ne 14, 3) := by decide +kernel
theorem dX6_readNumber_26 : decode cX6_readNumber 26 = .ok (.aload_n 0, 1) := by decide +kernel
theorem dX6_readNumber_27 : decode cX6_readNumber 27 = .ok (.iconst 1, 1) := by decide +kernel
theorem dX6_readNumber_28 : decode cX6_readNumber 28 = .ok (.aload_n 0, 1) := by decide +kernel
theorem dX6_readNumber_29 : decode cX6_readNumber 29 = .ok (.getfield 65, 3) := by decide +kernel
theorem dX6_readNumber_32 : decode cX6_readNumber 32 = .ok (.invokevirtual 68, 3) := by decide +kernel
theorem dX6_readNumber_35 : decode cX6_readNumber 35 = .ok (.iload_n 1, 1) := by decide +kernel
theorem dX6_readNumber_36 : decode cX6_readNumber 36 = .ok (.ireturn, 1) := by decide +kernel
theorem dX6_readNumber_37 : decode cX6_readNumber 37 = .ok (.iconst 0, 1) := by decide +kernel
theorem dX6_readNumber_38 : decode cX6_readNumber 38 = .ok (.istore 4, 2) := by decide +kernel
theorem dX6_readNumber_40 : decode cX6_readNumber 40 = .ok (.aload_n 0, 1) := by decide +kernel
theorem dX6_readNumber_41 : decode cX6_readNumber 41 = .ok (.getfield 65, 3) := by decide +kernel
theorem dX6_readNumber_44 : decode cX6_readNumber 44 = .ok (.aload_n 0, 1) := by decide +kernel
theorem dX6_readNumber_45 : decode cX6_readNumber 45 = .ok (.getfield 15, 3) := by decide +kernel
theorem dX6_readNumber_48 : decode cX6_readNumber 48 = .ok (.if_icmp .ge 46, 3) := by decide +kernel
theorem dX6_readNumber_51 : decode cX6_readNumber 51 = .ok (.aload_n 0, 1) := by decide +kernel
theorem dX6_readNumber_52 : decode cX6_readNumber 52 = .ok (.invokevirtual 61, 3) := by decide +kernel
theorem dX6_readNumber_55 : decode cX6_readNumber 55 = .ok (.invokestatic 154, 3) := by decide +kernel
theorem dX6_readNumber_58 : decode cX6_readNumber 58 = .ok (.ifCond .eq 36, 3) := by decide +kernel
theorem dX6_readNumber_61 : decode cX6_readNumber 61 = .ok (.iload 4, 2) := by decide +kernel
theorem dX6_readNumber_63 : decode cX6_readNumber 63 = .ok (.bipush 10, 2) := by decide +kernel
theorem dX6_readNumber_65 : decode cX6_readNumber 65 = .ok (.imul, 1) := by decide +kernel
theorem dX6_readNumber_66 : decode cX6_readNumber 66 = .ok (.aload_n 0, 1) := by decide +kernel
theorem dX6_readNumber_67 : decode cX6_readNumber 67 = .ok (.invokevirtual 61, 3) := by decide +kernel
theorem dX6_readNumber_70 : decode cX6_readNumber 70 = .ok (.iadd, 1) := by decide +kernel
theorem dX6_readNumber_71 : decode cX6_readNumber 71 = .ok (.bipush 48, 2) := by decide +kernel
theorem dX6_readNumber_73 : decode cX6_readNumber 73 = .ok (.isub, 1) := by decide +kernel
theorem dX6_readNumber_74 : decode cX6_readNumber 74 = .ok (.ldc 235, 2) := by decide +kernel
theorem dX6_readNumber_76 : decode cX6_readNumber 76 = .ok (.invokestatic 91, 3) := by decide +kernel
theorem dX6_readNumber_79 : decode cX6_readNumber 79 = .ok (.istore 4, 2) := by decide +kernel
theorem dX6_readNumber_81 : decode cX6_readNumber 81 = .ok (.aload_n 0, 1) := by decide +kernel
theorem dX6_readNumber_82 : decode cX6_readNumber 82 = .ok (.dup, 1) := by decide +kernel
theorem dX6_readNumber_83 : decode cX6_readNumber 83 = .ok (.getfield 65, 3) := by decide +kernel
theorem dX6_readNumber_86 : decode cX6_readNumber 86 = .ok (.iconst 1, 1) := by decide +kernel
theorem dX6_readNumber_87 : decode cX6_readNumber 87 = .ok (.iadd, 1) := by decide +kernel
theorem dX6_readNumber_88 : decode cX6_readNumber 88 = .ok (.putfield 65, 3) := by decide +kernel
theorem dX6_readNumber_91 : decode cX6_readNumber 91 = .ok (.goto (-51), 3) := by decide +kernel
theorem dX6_readNumber_94 : decode cX6_readNumber 94 = .ok (.iload 4, 2) := by decide +kernel
theorem dX6_readNumber_96 : decode cX6_readNumber 96 = .ok (.iload_n 1, 1) := by decide +kernel
theorem dX6_readNumber_97 : decode cX6_readNumber 97 = .ok (.if_icmp .lt 9, 3) := by decide +kernel
theorem dX6_readNumber_100 : decode cX6_readNumber 100 = .ok (.iload 4, 2) := by decide +kernel
theorem dX6_readNumber_102 : decode cX6_readNumber 102 = .ok (.iload_n 2, 1) := by decide +kernel
theorem dX6_readNumber_103 : decode cX6_readNumber 103 = .ok (.if_icmp .le 11, 3) := by decide +kernel
theorem dX6_readNumber_106 : decode cX6_readNumber 106 = .ok (.aload_n 0, 1) := by decide +kernel
theorem dX6_readNumber_107 : decode cX6_readNumber 107 = .ok (.iconst 2, 1) := by decide +kernel
theorem dX6_readNumber_108 : decode cX6_readNumber 108 = .ok (.iload_n 3, 1) := by decide +kernel
theorem dX6_readNumber_109 : decode cX6_readNumber 109 = .ok (.invokevirtual 68, 3) := by decide +kernel
theorem dX6_readNumber_112 : decode cX6_readNumber 112 = .ok (.iload_n 1, 1) := by decide +kernel
theorem dX6_readNumber_113 : decode cX6_readNumber 113 = .ok (.ireturn, 1) := by decide +kernel
theorem dX6_readNumber_114 : decode cX6_readNumber 114 = .ok (.iload 4, 2) := by decide +kernel
theorem dX6_readNumber_116 : decode cX6_readNumber 116 = .ok (.ireturn, 1) := by decide +kernel
set_option maxRecDepth 100000 in
set_option maxHeartbeats 4000000 in
theorem r_readNumber (l : Launch) (D : va_G) (ct : Nat → ClassId) (S : ty_S) (ws : va_W) (ph : va_W → Prop) (xx : Nat → Nat → Nat → Prop) (rd : Nat) (bt : Nat) (tg : Nat) (ln : Int32) (pl : Int32) (wst : Int32) (er : Int32) (ep : Int32) (b : Nat → Int32) (p1 : Int32) (p2 : Int32) (L : Int) (U : Int) (sz : Nat) (hT : ty_V ct S ph ws) (hph : ty_C ph xx) (hy1 : ty_y1 xx) (hln : 0 ≤ ln.toInt ∧ ln.toInt ≤ 800) (hpl : 0 ≤ pl.toInt ∧ pl.toInt ≤ ln.toInt) (hL : p1.toInt = L) (hU : p2.toInt = U) : Met l yX6_readNumber (ws_ yX6_readNumber cX6_readNumber 5 (some .int)) ({ frames := 2, cells := 0, slots := 0, locals := 40 } : Room) (va_Pc [.ref rd, .int p1, .int p2] (cmP D ct sz ([(ty_RD rd bt ln tg pl wst er ep), (rf_RW ct 0 bt 800 b)] ++ ws))) (va_Qi (fun (r : Int32) (u : va_W × Int32 × Int32 × Int32) => match u with | (u9, pl1, er1, ep1) => ty_V ct S ph u9 ∧ (0 ≤ pl1.toInt ∧ pl1.toInt ≤ ln.toInt) ∧ rp_o er ep er1 ep1 (rp_rk b ln L U pl) (rp_rp b ln L U pl) (pl1 = rp_rp b ln L U pl ∧ r.toInt = rp_rv b ln pl)) (cmB D ([(ty_RD rd bt ln tg pl wst er ep), (rf_RW ct 0 bt 800 b)] ++ ws) sz (fun (u : va_W × Int32 × Int32 × Int32) => match u with | (u9, pl1, er1, ep1) => ([(ty_RD rd bt ln tg pl1 wst er1 ep1), (rf_RW ct 0 bt 800 b)] ++ u9))) (va_A ([(ty_RD rd bt ln tg pl wst er ep), (rf_RW ct 0 bt 800 b)] ++ ws) sz)) 0 0 (va_A ([(ty_RD rd bt ln tg pl wst er ep), (rf_RW ct 0 bt 800 b)] ++ ws) sz) := by
  refine Met.ofW (cc := cX6_readNumber) (maxL := 5) (ret := (some .int)) (by decide) rfl ?_
  intro p e s m args below meth c s₁ B hml hv
  obtain ⟨rfl, hsz, hP, hK, hD0, hX⟩ := hv
  have hx := B.exec
  have hb := B.bytes
  have hr := B.returns
  have hts := ws_all (atoms_spec (ws := ws_ yX6_readNumber cX6_readNumber 5 (some .int)) B.pre)
  have hown : s.vm.findClass RX6 = some m.cls := findClass_of_methodNamed B.named
  have hlocks := B.notSynchronized
  subst hsz
  have hD := hD0.self (sz := s.heap.size)
  generalize hAe : va_A ([(ty_RD rd bt ln tg pl wst er ep), (rf_RW ct 0 bt 800 b)] ++ ws) s.heap.size = A at hD hX ⊢
  have hA : ∀ q : Nat, s.heap.size ≤ q → A q := fun q h => by rw [← hAe]; exact Or.inr h
  have hS : va_S A s.heap s.heap [] := va_S.rf
  have hl := lv_entry ([.ref rd, .int p1, .int p2]) (n := 5) (Nat.le_of_ble_eq_true rfl)
  rw [lg_entry_eq]
  generalize (lg_sl ([.ref rd, .int p1, .int p2]) ++ List.replicate (5 - (lg_sl ([.ref rd, .int p1, .int p2])).length) Slot.unset).toArray = ls at hl ⊢
  have hl : lv_has ls 5 [(0, .ref rd), (1, .int p1), (2, .int p2)] := hl
  subst hL
  subst hU
  refine lv_aload_n hx hb dX6_readNumber_0 rfl (lv_at hl 0 rfl) ?_
  have hP : va_P D vwCl (([] ++ ws) ++ ([(ty_RD rd bt ln tg pl wst er ep), (rf_RW ct 0 bt 800 b)] ++ ([] : va_W))) s.heap := ty_permP (w1 := (([] ++ [(ty_RD rd bt ln tg pl wst er ep), (rf_RW ct 0 bt 800 b)]) ++ ws)) hP ty_mv2
  have hD : va_D A (([] ++ ws) ++ ([(ty_RD rd bt ln tg pl wst er ep), (rf_RW ct 0 bt 800 b)] ++ ([] : va_W))) := ty_permD (w1 := (([] ++ [(ty_RD rd bt ln tg pl wst er ep), (rf_RW ct 0 bt 800 b)]) ++ ws)) hD ty_mv2
  refine ty_kv (wr := ([] ++ ws)) (wc := ([(ty_RD rd bt ln tg pl wst er ep), (rf_RW ct 0 bt 800 b)] ++ ([] : va_W))) (va_runV (As := []) (rest := []) ⟨hx, hb, hml, hown, hts⟩ (r_skip l D ct (fun _ => none) [] (fun _ => True) (fun _ _ _ => True) rd bt tg ln pl wst er ep b _ ty_V0 ty_C0 ty_y10 hln hpl) (cm_V 0 hts kc_X6_skipSpaces ki_RX6 kl_RX6_55 kv_X6_skipSpaces kx_X6_skipSpaces kd_X6_skipSpaces ⟨Nat.le_of_ble_eq_true rfl, Nat.le_of_ble_eq_true rfl⟩) (ty_preE (wr := ([] ++ ws)) (wc := ([(ty_RD rd bt ln tg pl wst er ep), (rf_RW ct 0 bt 800 b)] ++ ([] : va_W))) (ci := 6) (q0 := (([] ++ ws) : va_W).length + 0) hP hK hD hS hA hX rfl (ty_app rfl)) rfl rfl hl.1 rfl (lv_room (Nat.le_of_ble_eq_true rfl)) dX6_readNumber_1 ⟨Nat.le_of_ble_eq_true rfl, Nat.le_of_ble_eq_true rfl⟩) hP hD hS hA (fun u H locs hw_2 hP hD hS => ?_)
  obtain ⟨ws_3, pl1_4⟩ := u
  obtain ⟨hT9_5, hp_6⟩ := hw_2
  have hp_6 : pl1_4 = (rp_sk b ln pl) := hp_6
  have hP : va_P D vwCl ([(ty_RD rd bt ln tg pl1_4 wst er ep), (rf_RW ct 0 bt 800 b)] ++ ws) H := ty_bkP hP
  have hD : va_D A ([(ty_RD rd bt ln tg pl1_4 wst er ep), (rf_RW ct 0 bt 800 b)] ++ ws) := ty_bkD hD
  obtain rfl := hp_6
  have hsb := rp_sk_b (b := b) hln.2 hpl
  refine lv_aload_n hx hb dX6_readNumber_4 rfl (lv_at hl 0 rfl) ?_
  refine va_get (v := .int (rp_sk b ln pl)) (D := D) (ci := 6) (C := RX6) (T := TX6) (N := 7) hx hb hts in_X6 hown hK hP 0 rfl rfl 3 (by decide) (hts _ kl_RX6_65) (fun _ h9 => h9) rfl dX6_readNumber_5 ?_
  refine lv_istore_n (lv' := [(3, .int (rp_sk b ln pl)), (0, .ref rd), (1, .int p1), (2, .int p2)]) hx hb dX6_readNumber_8 rfl hl (by decide) rfl (fun ls hl => ?_)
  refine lv_aload_n hx hb dX6_readNumber_9 rfl (lv_at hl 1 rfl) ?_
  refine va_get (v := .int er) (D := D) (ci := 6) (C := RX6) (T := TX6) (N := 7) hx hb hts in_X6 hown hK hP 0 rfl rfl 5 (by decide) (hts _ kl_RX6_58) (fun _ h9 => h9) rfl dX6_readNumber_10 ?_
  refine lv_if_ne (tgt := 26) hx hb dX6_readNumber_13 (by decide) (fun hc_8 => ?_) (fun hc_8 => ?_)
  · refine lv_aload_n hx hb dX6_readNumber_26 rfl (lv_at hl 1 rfl) ?_
    refine lv_iconst (v := 1) hx hb dX6_readNumber_27 (by decide) ?_
    refine lv_aload_n hx hb dX6_readNumber_28 rfl (lv_at hl 1 rfl) ?_
    refine va_get (v := .int (rp_sk b ln pl)) (D := D) (ci := 6) (C := RX6) (T := TX6) (N := 7) hx hb hts in_X6 hown hK hP 0 rfl rfl 3 (by decide) (hts _ kl_RX6_65) (fun _ h9 => h9) rfl dX6_readNumber_29 ?_
    have hP : va_P D vwCl ([(rf_RW ct 0 bt 800 b), (ty_RD rd bt ln tg (rp_sk b ln pl) wst er ep)] ++ ws) H := ty_permP hP (ty_ordp (E := [(ty_RD rd bt ln tg (rp_sk b ln pl) wst er ep), (rf_RW ct 0 bt 800 b)]) (E2 := [(rf_RW ct 0 bt 800 b), (ty_RD rd bt ln tg (rp_sk b ln pl) wst er ep)]) (n := 2) [1, 0] rfl rfl (by decide))
    have hD : va_D A ([(rf_RW ct 0 bt 800 b), (ty_RD rd bt ln tg (rp_sk b ln pl) wst er ep)] ++ ws) := ty_permD hD (ty_ordp (E := [(ty_RD rd bt ln tg (rp_sk b ln pl) wst er ep), (rf_RW ct 0 bt 800 b)]) (E2 := [(rf_RW ct 0 bt 800 b), (ty_RD rd bt ln tg (rp_sk b ln pl) wst er ep)]) (n := 2) [1, 0] rfl rfl (by decide))
    have hP : va_P D vwCl (([(rf_RW ct 0 bt 800 b)] ++ ws) ++ ([(ty_RD rd bt ln tg (rp_sk b ln pl) wst er ep)] ++ ([] : va_W))) H := ty_permP (w1 := (([(rf_RW ct 0 bt 800 b)] ++ [(ty_RD rd bt ln tg (rp_sk b ln pl) wst er ep)]) ++ ws)) hP ty_mv2
    have hD : va_D A (([(rf_RW ct 0 bt 800 b)] ++ ws) ++ ([(ty_RD rd bt ln tg (rp_sk b ln pl) wst er ep)] ++ ([] : va_W))) := ty_permD (w1 := (([(rf_RW ct 0 bt 800 b)] ++ [(ty_RD rd bt ln tg (rp_sk b ln pl) wst er ep)]) ++ ws)) hD ty_mv2
    refine ty_kv (wr := ([(rf_RW ct 0 bt 800 b)] ++ ws)) (wc := ([(ty_RD rd bt ln tg (rp_sk b ln pl) wst er ep)] ++ ([] : va_W))) (va_runV (As := [.int 1, .int (rp_sk b ln pl)]) (rest := []) ⟨hx, hb, hml, hown, hts⟩ (r_fail l D ct (fun _ => none) [] (fun _ => True) (fun _ _ _ => True) rd bt tg ln (rp_sk b ln pl) wst er ep (1 : Int32) (rp_sk b ln pl) _ ty_V0 ty_C0 ty_y10 (by decide)) (cm_V 2 hts kc_X6_fail ki_RX6 kl_RX6_68 kv_X6_fail kx_X6_fail kd_X6_fail ⟨Nat.le_of_ble_eq_true rfl, Nat.le_of_ble_eq_true rfl⟩) (ty_preE (wr := ([(rf_RW ct 0 bt 800 b)] ++ ws)) (wc := ([(ty_RD rd bt ln tg (rp_sk b ln pl) wst er ep)] ++ ([] : va_W))) (ci := 6) (q0 := (([(rf_RW ct 0 bt 800 b)] ++ ws) : va_W).length + 0) hP hK hD hS hA hX rfl (ty_app rfl)) rfl rfl hl.1 rfl (lv_room (Nat.le_of_ble_eq_true rfl)) dX6_readNumber_32 ⟨Nat.le_of_ble_eq_true rfl, Nat.le_of_ble_eq_true rfl⟩) hP hD hS hA (fun u H locs hw_10 hP hD hS => ?_)
    obtain ⟨ws_11, er1_12, ep1_13⟩ := u
    obtain ⟨hT9_14, hp_15⟩ := hw_10
    have hp_15 : rp_o er ep er1_12 ep1_13 (1 : Int32) (rp_sk b ln pl) True := hp_15
    have hP : va_P D vwCl ([(rf_RW ct 0 bt 800 b), (ty_RD rd bt ln tg (rp_sk b ln pl) wst er1_12 ep1_13)] ++ ws) H := ty_bkP hP
    have hD : va_D A ([(rf_RW ct 0 bt 800 b), (ty_RD rd bt ln tg (rp_sk b ln pl) wst er1_12 ep1_13)] ++ ws) := ty_bkD hD
    refine lv_iload_n hx hb dX6_readNumber_35 rfl (lv_at hl 2 rfl) ?_
    have hP : va_P D vwCl ([(ty_RD rd bt ln tg (rp_sk b ln pl) wst er1_12 ep1_13), (rf_RW ct 0 bt 800 b)] ++ ws) H := ty_permP hP (ty_ordp (E := [(rf_RW ct 0 bt 800 b), (ty_RD rd bt ln tg (rp_sk b ln pl) wst er1_12 ep1_13)]) (E2 := [(ty_RD rd bt ln tg (rp_sk b ln pl) wst er1_12 ep1_13), (rf_RW ct 0 bt 800 b)]) (n := 2) [1, 0] rfl rfl (by decide))
    have hD : va_D A ([(ty_RD rd bt ln tg (rp_sk b ln pl) wst er1_12 ep1_13), (rf_RW ct 0 bt 800 b)] ++ ws) := ty_permD hD (ty_ordp (E := [(rf_RW ct 0 bt 800 b), (ty_RD rd bt ln tg (rp_sk b ln pl) wst er1_12 ep1_13)]) (E2 := [(ty_RD rd bt ln tg (rp_sk b ln pl) wst er1_12 ep1_13), (rf_RW ct 0 bt 800 b)]) (n := 2) [1, 0] rfl rfl (by decide))
    exact W.iret (v := p1) hx hb hr (fun t ht hW => ⟨⟨p1, (ws, (rp_sk b ln pl), er1_12, ep1_13), rfl, ⟨hT, ⟨(by have := hsb; omega), rp_rne hc_8 hp_15⟩⟩, by rw [ht]; exact hP, by rw [hAe]; exact hD⟩, hS.F ht⟩) hS.2.2 dX6_readNumber_36
  · refine lv_aload_n hx hb dX6_readNumber_16 rfl (lv_at hl 1 rfl) ?_
    have hP : va_P D vwCl (([] ++ ws) ++ ([(ty_RD rd bt ln tg (rp_sk b ln pl) wst er ep), (rf_RW ct 0 bt 800 b)] ++ ([] : va_W))) H := ty_permP (w1 := (([] ++ [(ty_RD rd bt ln tg (rp_sk b ln pl) wst er ep), (rf_RW ct 0 bt 800 b)]) ++ ws)) hP ty_mv2
    have hD : va_D A (([] ++ ws) ++ ([(ty_RD rd bt ln tg (rp_sk b ln pl) wst er ep), (rf_RW ct 0 bt 800 b)] ++ ([] : va_W))) := ty_permD (w1 := (([] ++ [(ty_RD rd bt ln tg (rp_sk b ln pl) wst er ep), (rf_RW ct 0 bt 800 b)]) ++ ws)) hD ty_mv2
    refine ty_ki (wr := ([] ++ ws)) (wc := ([(ty_RD rd bt ln tg (rp_sk b ln pl) wst er ep), (rf_RW ct 0 bt 800 b)] ++ ([] : va_W))) (va_runV (As := []) (rest := []) ⟨hx, hb, hml, hown, hts⟩ (r_next l D ct (fun _ => none) [] (fun _ => True) (fun _ _ _ => True) rd bt tg ln (rp_sk b ln pl) wst er ep b _ ty_V0 ty_C0 ty_y10 hln (by omega)) (cm_V 0 hts kc_X6_next ki_RX6 kl_RX6_61 kv_X6_next kx_X6_next kd_X6_next ⟨Nat.le_of_ble_eq_true rfl, Nat.le_of_ble_eq_true rfl⟩) (ty_preE (wr := ([] ++ ws)) (wc := ([(ty_RD rd bt ln tg (rp_sk b ln pl) wst er ep), (rf_RW ct 0 bt 800 b)] ++ ([] : va_W))) (ci := 6) (q0 := (([] ++ ws) : va_W).length + 0) hP hK hD hS hA hX rfl (ty_app rfl)) rfl rfl hl.1 rfl (lv_room (Nat.le_of_ble_eq_true rfl)) dX6_readNumber_17 ⟨Nat.le_of_ble_eq_true rfl, Nat.le_of_ble_eq_true rfl⟩) hP hD hS hA (fun r_16 u H locs hw_17 hP hD hS => ?_)
    obtain ⟨ws_18, rfl⟩ : ∃ z, z = u := ⟨_, rfl⟩
    obtain ⟨hT9_19, rfl⟩ := hw_17
    have hP : va_P D vwCl ([(ty_RD rd bt ln tg (rp_sk b ln pl) wst er ep), (rf_RW ct 0 bt 800 b)] ++ ws) H := ty_bkP hP
    have hD : va_D A ([(ty_RD rd bt ln tg (rp_sk b ln pl) wst er ep), (rf_RW ct 0 bt 800 b)] ++ ws) := ty_bkD hD
    have hP : va_P D vwCl (([(ty_RD rd bt ln tg (rp_sk b ln pl) wst er ep), (rf_RW ct 0 bt 800 b)] ++ ws) ++ ([] ++ ([] : va_W))) H := ty_permP (w1 := (([(ty_RD rd bt ln tg (rp_sk b ln pl) wst er ep), (rf_RW ct 0 bt 800 b)] ++ []) ++ ws)) hP ty_mv2
    have hD : va_D A (([(ty_RD rd bt ln tg (rp_sk b ln pl) wst er ep), (rf_RW ct 0 bt 800 b)] ++ ws) ++ ([] ++ ([] : va_W))) := ty_permD (w1 := (([(ty_RD rd bt ln tg (rp_sk b ln pl) wst er ep), (rf_RW ct 0 bt 800 b)] ++ []) ++ ws)) hD ty_mv2
    refine ty_ki (wr := ([(ty_RD rd bt ln tg (rp_sk b ln pl) wst er ep), (rf_RW ct 0 bt 800 b)] ++ ws)) (wc := ([] ++ ([] : va_W))) (va_runS (As := [.int (rp_nx b ln (rp_sk b ln pl))]) (rest := []) ⟨hx, hb, hml, hown, hts⟩ (r_isDigit l D ct (fun _ => none) [] (fun _ => True) (fun _ _ _ => True) (rp_nx b ln (rp_sk b ln pl)) _ ty_V0 ty_C0 ty_y10) (cm_S 1 hts kc_X6_isDigit ki_RX6 kl_RX6_154 ks_X6_isDigit kd_X6_isDigit ⟨Nat.le_of_ble_eq_true rfl, Nat.le_of_ble_eq_true rfl⟩) (ty_preS (wr := ([(ty_RD rd bt ln tg (rp_sk b ln pl) wst er ep), (rf_RW ct 0 bt 800 b)] ++ ws)) (wc := ([] ++ ([] : va_W))) hP hK hD hS hA hX) rfl rfl hl.1 rfl (lv_room (Nat.le_of_ble_eq_true rfl)) dX6_readNumber_20 ⟨Nat.le_of_ble_eq_true rfl, Nat.le_of_ble_eq_true rfl⟩) hP hD hS hA (fun r_20 u H locs hw_21 hP hD hS => ?_)
    obtain ⟨ws_22, rfl⟩ : ∃ z, z = u := ⟨_, rfl⟩
    obtain ⟨hT9_23, hp_24⟩ := hw_21
    have hp_24 : ((r_20 = 1 ∧ 48 ≤ (rp_nx b ln (rp_sk b ln pl)).toInt ∧ (rp_nx b ln (rp_sk b ln pl)).toInt ≤ 57) ∨ (r_20 = 0 ∧ ¬ (48 ≤ (rp_nx b ln (rp_sk b ln pl)).toInt ∧ (rp_nx b ln (rp_sk b ln pl)).toInt ≤ 57))) := hp_24
    have hP : va_P D vwCl ([(ty_RD rd bt ln tg (rp_sk b ln pl) wst er ep), (rf_RW ct 0 bt 800 b)] ++ ws) H := ty_bkP hP
    have hD : va_D A ([(ty_RD rd bt ln tg (rp_sk b ln pl) wst er ep), (rf_RW ct 0 bt 800 b)] ++ ws) := ty_bkD hD
    rcases hp_24 with ⟨rfl, hz_25⟩ | ⟨rfl, hz_26⟩
    · refine lv_if_ne (tgt := 37) hx hb dX6_readNumber_23 (by decide) (fun _ => ?_) (fun hc => absurd hc (by decide))
      refine lv_iconst (v := 0) hx hb dX6_readNumber_37 (by decide) ?_
      refine lv_istore (lv' := [(4, .int 0), (3, .int (rp_sk b ln pl)), (0, .ref rd), (1, .int p1), (2, .int p2)]) hx hb dX6_readNumber_38 hl (by decide) rfl (fun ls hl => ?_)
      refine ty_loop (I := fun μ H locs ls => ∃ (ws : va_W) (y_27 : Int32) (y_28 : Int32), μ = (2147483648 - y_28.toInt).toNat ∧ ty_V ct S ph ws ∧ va_P D vwCl ([(ty_RD rd bt ln tg y_28 wst er ep), (rf_RW ct 0 bt 800 b)] ++ ws) H ∧ va_D A ([(ty_RD rd bt ln tg y_28 wst er ep), (rf_RW ct 0 bt 800 b)] ++ ws) ∧ va_S A s.heap H locs ∧ lv_has ls 5 [(0, .ref rd), (1, .int p1), (2, .int p2), (3, .int (rp_sk b ln pl)), (4, .int y_27)] ∧ ((rp_sk b ln pl).toInt ≤ y_28.toInt ∧ y_28.toInt ≤ ln.toInt) ∧ (0 ≤ y_27.toInt ∧ y_27.toInt ≤ 100000000) ∧ rp_de b ln (rp_sk b ln pl) = rp_de b ln y_28 ∧ rp_num b ln (rp_sk b ln pl) 0 = rp_num b ln y_28 y_27.toInt) ⟨_, ws, (0 : Int32), (rp_sk b ln pl), rfl, hT, hP, hD, hS, (lv_sub hl [2, 3, 4, 1, 0] rfl), ⟨Int.le_refl _, hsb.2⟩, (by decide), rfl, rfl⟩ (fun μ H locs ls hI ih_40 => ?_)
      obtain ⟨ws, y_27, y_28, rfl, hT, hP, hD, hS, hl, hex_40⟩ := hI
      refine lv_aload_n hx hb dX6_readNumber_40 rfl (lv_at hl 0 rfl) ?_
      refine va_get (v := .int y_28) (D := D) (ci := 6) (C := RX6) (T := TX6) (N := 7) hx hb hts in_X6 hown hK hP 0 rfl rfl 3 (by decide) (hts _ kl_RX6_65) (fun _ h9 => h9) rfl dX6_readNumber_41 ?_
      refine lv_aload_n hx hb dX6_readNumber_44 rfl (lv_at hl 0 rfl) ?_
      refine va_get (v := .int ln) (D := D) (ci := 6) (C := RX6) (T := TX6) (N := 7) hx hb hts in_X6 hown hK hP 0 rfl rfl 1 (by decide) (hts _ kl_RX6_15) (fun _ h9 => h9) rfl dX6_readNumber_45 ?_
      refine lv_icmp_ge (tgt := 94) hx hb dX6_readNumber_48 (by decide) (fun hc_29 => ?_) (fun hc_29 => ?_)
      · have he_30 : rp_de b ln (rp_sk b ln pl) = y_28 ∧ rp_num b ln (rp_sk b ln pl) 0 = y_27.toInt := ⟨hex_40.2.2.1.trans (rp_toE (by have := hex_40.1; omega) (rp_notE hc_29).2.1), hex_40.2.2.2.trans (rp_numE (by have := hex_40.1; omega) (rp_notE hc_29).2.1)⟩
        refine lv_iload hx hb dX6_readNumber_94 (lv_at hl 4 rfl) ?_
        refine lv_iload_n hx hb dX6_readNumber_96 rfl (lv_at hl 1 rfl) ?_
        refine lv_icmp_lt (tgt := 106) hx hb dX6_readNumber_97 (by decide) (fun hc_31 => ?_) (fun hc_31 => ?_)
        · refine lv_aload_n hx hb dX6_readNumber_106 rfl (lv_at hl 0 rfl) ?_
          refine lv_iconst (v := 2) hx hb dX6_readNumber_107 (by decide) ?_
          refine lv_iload_n hx hb dX6_readNumber_108 rfl (lv_at hl 3 rfl) ?_
          have hP : va_P D vwCl ([(rf_RW ct 0 bt 800 b), (ty_RD rd bt ln tg y_28 wst er ep)] ++ ws) H := ty_permP hP (ty_ordp (E := [(ty_RD rd bt ln tg y_28 wst er ep), (rf_RW ct 0 bt 800 b)]) (E2 := [(rf_RW ct 0 bt 800 b), (ty_RD rd bt ln tg y_28 wst er ep)]) (n := 2) [1, 0] rfl rfl (by decide))
          have hD : va_D A ([(rf_RW ct 0 bt 800 b), (ty_RD rd bt ln tg y_28 wst er ep)] ++ ws) := ty_permD hD (ty_ordp (E := [(ty_RD rd bt ln tg y_28 wst er ep), (rf_RW ct 0 bt 800 b)]) (E2 := [(rf_RW ct 0 bt 800 b), (ty_RD rd bt ln tg y_28 wst er ep)]) (n := 2) [1, 0] rfl rfl (by decide))
          have hP : va_P D vwCl (([(rf_RW ct 0 bt 800 b)] ++ ws) ++ ([(ty_RD rd bt ln tg y_28 wst er ep)] ++ ([] : va_W))) H := ty_permP (w1 := (([(rf_RW ct 0 bt 800 b)] ++ [(ty_RD rd bt ln tg y_28 wst er ep)]) ++ ws)) hP ty_mv2
          have hD : va_D A (([(rf_RW ct 0 bt 800 b)] ++ ws) ++ ([(ty_RD rd bt ln tg y_28 wst er ep)] ++ ([] : va_W))) := ty_permD (w1 := (([(rf_RW ct 0 bt 800 b)] ++ [(ty_RD rd bt ln tg y_28 wst er ep)]) ++ ws)) hD ty_mv2
          refine ty_kv (wr := ([(rf_RW ct 0 bt 800 b)] ++ ws)) (wc := ([(ty_RD rd bt ln tg y_28 wst er ep)] ++ ([] : va_W))) (va_runV (As := [.int 2, .int (rp_sk b ln pl)]) (rest := []) ⟨hx, hb, hml, hown, hts⟩ (r_fail l D ct (fun _ => none) [] (fun _ => True) (fun _ _ _ => True) rd bt tg ln y_28 wst er ep (2 : Int32) (rp_sk b ln pl) _ ty_V0 ty_C0 ty_y10 (by decide)) (cm_V 2 hts kc_X6_fail ki_RX6 kl_RX6_68 kv_X6_fail kx_X6_fail kd_X6_fail ⟨Nat.le_of_ble_eq_true rfl, Nat.le_of_ble_eq_true rfl⟩) (ty_preE (wr := ([(rf_RW ct 0 bt 800 b)] ++ ws)) (wc := ([(ty_RD rd bt ln tg y_28 wst er ep)] ++ ([] : va_W))) (ci := 6) (q0 := (([(rf_RW ct 0 bt 800 b)] ++ ws) : va_W).length + 0) hP hK hD hS hA hX rfl (ty_app rfl)) rfl rfl hl.1 rfl (lv_room (Nat.le_of_ble_eq_true rfl)) dX6_readNumber_109 ⟨Nat.le_of_ble_eq_true rfl, Nat.le_of_ble_eq_true rfl⟩) hP hD hS hA (fun u H locs hw_33 hP hD hS => ?_)
          obtain ⟨ws_34, er1_35, ep1_36⟩ := u
          obtain ⟨hT9_37, hp_38⟩ := hw_33
          have hp_38 : rp_o er ep er1_35 ep1_36 (2 : Int32) (rp_sk b ln pl) True := hp_38
          have hP : va_P D vwCl ([(rf_RW ct 0 bt 800 b), (ty_RD rd bt ln tg y_28 wst er1_35 ep1_36)] ++ ws) H := ty_bkP hP
          have hD : va_D A ([(rf_RW ct 0 bt 800 b), (ty_RD rd bt ln tg y_28 wst er1_35 ep1_36)] ++ ws) := ty_bkD hD
          refine lv_iload_n hx hb dX6_readNumber_112 rfl (lv_at hl 1 rfl) ?_
          have hP : va_P D vwCl ([(ty_RD rd bt ln tg y_28 wst er1_35 ep1_36), (rf_RW ct 0 bt 800 b)] ++ ws) H := ty_permP hP (ty_ordp (E := [(rf_RW ct 0 bt 800 b), (ty_RD rd bt ln tg y_28 wst er1_35 ep1_36)]) (E2 := [(ty_RD rd bt ln tg y_28 wst er1_35 ep1_36), (rf_RW ct 0 bt 800 b)]) (n := 2) [1, 0] rfl rfl (by decide))
          have hD : va_D A ([(ty_RD rd bt ln tg y_28 wst er1_35 ep1_36), (rf_RW ct 0 bt 800 b)] ++ ws) := ty_permD hD (ty_ordp (E := [(rf_RW ct 0 bt 800 b), (ty_RD rd bt ln tg y_28 wst er1_35 ep1_36)]) (E2 := [(ty_RD rd bt ln tg y_28 wst er1_35 ep1_36), (rf_RW ct 0 bt 800 b)]) (n := 2) [1, 0] rfl rfl (by decide))
          exact W.iret (v := p1) hx hb hr (fun t ht hW => ⟨⟨p1, (ws, y_28, er1_35, ep1_36), rfl, ⟨hT, ⟨(by have := hex_40.1; omega), rp_rnb (rp_digI hz_25) (rp_lt2 (Or.inl hc_31)) he_30 hp_38⟩⟩, by rw [ht]; exact hP, by rw [hAe]; exact hD⟩, hS.F ht⟩) hS.2.2 dX6_readNumber_113
        · refine lv_iload hx hb dX6_readNumber_100 (lv_at hl 4 rfl) ?_
          refine lv_iload_n hx hb dX6_readNumber_102 rfl (lv_at hl 2 rfl) ?_
          refine lv_icmp_le (tgt := 114) hx hb dX6_readNumber_103 (by decide) (fun hc_39 => ?_) (fun hc_39 => ?_)
          · refine lv_iload hx hb dX6_readNumber_114 (lv_at hl 4 rfl) ?_
            exact W.iret (v := y_27) hx hb hr (fun t ht hW => ⟨⟨y_27, (ws, y_28, er, ep), rfl, ⟨hT, ⟨(by have := hex_40.1; omega), rp_rno (rp_digI hz_25) hc_8 (rp_gel hc_31 hc_39) he_30⟩⟩, by rw [ht]; exact hP, by rw [hAe]; exact hD⟩, hS.F ht⟩) hS.2.2 dX6_readNumber_116
          · refine lv_aload_n hx hb dX6_readNumber_106 rfl (lv_at hl 0 rfl) ?_
            refine lv_iconst (v := 2) hx hb dX6_readNumber_107 (by decide) ?_
            refine lv_iload_n hx hb dX6_readNumber_108 rfl (lv_at hl 3 rfl) ?_
            have hP : va_P D vwCl ([(rf_RW ct 0 bt 800 b), (ty_RD rd bt ln tg y_28 wst er ep)] ++ ws) H := ty_permP hP (ty_ordp (E := [(ty_RD rd bt ln tg y_28 wst er ep), (rf_RW ct 0 bt 800 b)]) (E2 := [(rf_RW ct 0 bt 800 b), (ty_RD rd bt ln tg y_28 wst er ep)]) (n := 2) [1, 0] rfl rfl (by decide))
            have hD : va_D A ([(rf_RW ct 0 bt 800 b), (ty_RD rd bt ln tg y_28 wst er ep)] ++ ws) := ty_permD hD (ty_ordp (E := [(ty_RD rd bt ln tg y_28 wst er ep), (rf_RW ct 0 bt 800 b)]) (E2 := [(rf_RW ct 0 bt 800 b), (ty_RD rd bt ln tg y_28 wst er ep)]) (n := 2) [1, 0] rfl rfl (by decide))
            have hP : va_P D vwCl (([(rf_RW ct 0 bt 800 b)] ++ ws) ++ ([(ty_RD rd bt ln tg y_28 wst er ep)] ++ ([] : va_W))) H := ty_permP (w1 := (([(rf_RW ct 0 bt 800 b)] ++ [(ty_RD rd bt ln tg y_28 wst er ep)]) ++ ws)) hP ty_mv2
            have hD : va_D A (([(rf_RW ct 0 bt 800 b)] ++ ws) ++ ([(ty_RD rd bt ln tg y_28 wst er ep)] ++ ([] : va_W))) := ty_permD (w1 := (([(rf_RW ct 0 bt 800 b)] ++ [(ty_RD rd bt ln tg y_28 wst er ep)]) ++ ws)) hD ty_mv2
            refine ty_kv (wr := ([(rf_RW ct 0 bt 800 b)] ++ ws)) (wc := ([(ty_RD rd bt ln tg y_28 wst er ep)] ++ ([] : va_W))) (va_runV (As := [.int 2, .int (rp_sk b ln pl)]) (rest := []) ⟨hx, hb, hml, hown, hts⟩ (r_fail l D ct (fun _ => none) [] (fun _ => True) (fun _ _ _ => True) rd bt tg ln y_28 wst er ep (2 : Int32) (rp_sk b ln pl) _ ty_V0 ty_C0 ty_y10 (by decide)) (cm_V 2 hts kc_X6_fail ki_RX6 kl_RX6_68 kv_X6_fail kx_X6_fail kd_X6_fail ⟨Nat.le_of_ble_eq_true rfl, Nat.le_of_ble_eq_true rfl⟩) (ty_preE (wr := ([(rf_RW ct 0 bt 800 b)] ++ ws)) (wc := ([(ty_RD rd bt ln tg y_28 wst er ep)] ++ ([] : va_W))) (ci := 6) (q0 := (([(rf_RW ct 0 bt 800 b)] ++ ws) : va_W).length + 0) hP hK hD hS hA hX rfl (ty_app rfl)) rfl rfl hl.1 rfl (lv_room (Nat.le_of_ble_eq_true rfl)) dX6_readNumber_109 ⟨Nat.le_of_ble_eq_true rfl, Nat.le_of_ble_eq_true rfl⟩) hP hD hS hA (fun u H locs hw_41 hP hD hS => ?_)
            obtain ⟨ws_42, er1_43, ep1_44⟩ := u
            obtain ⟨hT9_45, hp_46⟩ := hw_41
            have hp_46 : rp_o er ep er1_43 ep1_44 (2 : Int32) (rp_sk b ln pl) True := hp_46
            have hP : va_P D vwCl ([(rf_RW ct 0 bt 800 b), (ty_RD rd bt ln tg y_28 wst er1_43 ep1_44)] ++ ws) H := ty_bkP hP
            have hD : va_D A ([(rf_RW ct 0 bt 800 b), (ty_RD rd bt ln tg y_28 wst er1_43 ep1_44)] ++ ws) := ty_bkD hD
            refine lv_iload_n hx hb dX6_readNumber_112 rfl (lv_at hl 1 rfl) ?_
            have hP : va_P D vwCl ([(ty_RD rd bt ln tg y_28 wst er1_43 ep1_44), (rf_RW ct 0 bt 800 b)] ++ ws) H := ty_permP hP (ty_ordp (E := [(rf_RW ct 0 bt 800 b), (ty_RD rd bt ln tg y_28 wst er1_43 ep1_44)]) (E2 := [(ty_RD rd bt ln tg y_28 wst er1_43 ep1_44), (rf_RW ct 0 bt 800 b)]) (n := 2) [1, 0] rfl rfl (by decide))
            have hD : va_D A ([(ty_RD rd bt ln tg y_28 wst er1_43 ep1_44), (rf_RW ct 0 bt 800 b)] ++ ws) := ty_permD hD (ty_ordp (E := [(rf_RW ct 0 bt 800 b), (ty_RD rd bt ln tg y_28 wst er1_43 ep1_44)]) (E2 := [(ty_RD rd bt ln tg y_28 wst er1_43 ep1_44), (rf_RW ct 0 bt 800 b)]) (n := 2) [1, 0] rfl rfl (by decide))
            exact W.iret (v := p1) hx hb hr (fun t ht hW => ⟨⟨p1, (ws, y_28, er1_43, ep1_44), rfl, ⟨hT, ⟨(by have := hex_40.1; omega), rp_rnb (rp_digI hz_25) (rp_lt2 (Or.inr hc_39)) he_30 hp_46⟩⟩, by rw [ht]; exact hP, by rw [hAe]; exact hD⟩, hS.F ht⟩) hS.2.2 dX6_readNumber_113
      · refine lv_aload_n hx hb dX6_readNumber_51 rfl (lv_at hl 0 rfl) ?_
        have hP : va_P D vwCl (([] ++ ws) ++ ([(ty_RD rd bt ln tg y_28 wst er ep), (rf_RW ct 0 bt 800 b)] ++ ([] : va_W))) H := ty_permP (w1 := (([] ++ [(ty_RD rd bt ln tg y_28 wst er ep), (rf_RW ct 0 bt 800 b)]) ++ ws)) hP ty_mv2
        have hD : va_D A (([] ++ ws) ++ ([(ty_RD rd bt ln tg y_28 wst er ep), (rf_RW ct 0 bt 800 b)] ++ ([] : va_W))) := ty_permD (w1 := (([] ++ [(ty_RD rd bt ln tg y_28 wst er ep), (rf_RW ct 0 bt 800 b)]) ++ ws)) hD ty_mv2
        refine ty_ki (wr := ([] ++ ws)) (wc := ([(ty_RD rd bt ln tg y_28 wst er ep), (rf_RW ct 0 bt 800 b)] ++ ([] : va_W))) (va_runV (As := []) (rest := []) ⟨hx, hb, hml, hown, hts⟩ (r_next l D ct (fun _ => none) [] (fun _ => True) (fun _ _ _ => True) rd bt tg ln y_28 wst er ep b _ ty_V0 ty_C0 ty_y10 hln (by have := hex_40.1; omega)) (cm_V 0 hts kc_X6_next ki_RX6 kl_RX6_61 kv_X6_next kx_X6_next kd_X6_next ⟨Nat.le_of_ble_eq_true rfl, Nat.le_of_ble_eq_true rfl⟩) (ty_preE (wr := ([] ++ ws)) (wc := ([(ty_RD rd bt ln tg y_28 wst er ep), (rf_RW ct 0 bt 800 b)] ++ ([] : va_W))) (ci := 6) (q0 := (([] ++ ws) : va_W).length + 0) hP hK hD hS hA hX rfl (ty_app rfl)) rfl rfl hl.1 rfl (lv_room (Nat.le_of_ble_eq_true rfl)) dX6_readNumber_52 ⟨Nat.le_of_ble_eq_true rfl, Nat.le_of_ble_eq_true rfl⟩) hP hD hS hA (fun r_47 u H locs hw_48 hP hD hS => ?_)
        obtain ⟨ws_49, rfl⟩ : ∃ z, z = u := ⟨_, rfl⟩
        obtain ⟨hT9_50, rfl⟩ := hw_48
        have hP : va_P D vwCl ([(ty_RD rd bt ln tg y_28 wst er ep), (rf_RW ct 0 bt 800 b)] ++ ws) H := ty_bkP hP
        have hD : va_D A ([(ty_RD rd bt ln tg y_28 wst er ep), (rf_RW ct 0 bt 800 b)] ++ ws) := ty_bkD hD
        have hP : va_P D vwCl (([(ty_RD rd bt ln tg y_28 wst er ep), (rf_RW ct 0 bt 800 b)] ++ ws) ++ ([] ++ ([] : va_W))) H := ty_permP (w1 := (([(ty_RD rd bt ln tg y_28 wst er ep), (rf_RW ct 0 bt 800 b)] ++ []) ++ ws)) hP ty_mv2
        have hD : va_D A (([(ty_RD rd bt ln tg y_28 wst er ep), (rf_RW ct 0 bt 800 b)] ++ ws) ++ ([] ++ ([] : va_W))) := ty_permD (w1 := (([(ty_RD rd bt ln tg y_28 wst er ep), (rf_RW ct 0 bt 800 b)] ++ []) ++ ws)) hD ty_mv2
        refine ty_ki (wr := ([(ty_RD rd bt ln tg y_28 wst er ep), (rf_RW ct 0 bt 800 b)] ++ ws)) (wc := ([] ++ ([] : va_W))) (va_runS (As := [.int (rp_nx b ln y_28)]) (rest := []) ⟨hx, hb, hml, hown, hts⟩ (r_isDigit l D ct (fun _ => none) [] (fun _ => True) (fun _ _ _ => True) (rp_nx b ln y_28) _ ty_V0 ty_C0 ty_y10) (cm_S 1 hts kc_X6_isDigit ki_RX6 kl_RX6_154 ks_X6_isDigit kd_X6_isDigit ⟨Nat.le_of_ble_eq_true rfl, Nat.le_of_ble_eq_true rfl⟩) (ty_preS (wr := ([(ty_RD rd bt ln tg y_28 wst er ep), (rf_RW ct 0 bt 800 b)] ++ ws)) (wc := ([] ++ ([] : va_W))) hP hK hD hS hA hX) rfl rfl hl.1 rfl (lv_room (Nat.le_of_ble_eq_true rfl)) dX6_readNumber_55 ⟨Nat.le_of_ble_eq_true rfl, Nat.le_of_ble_eq_true rfl⟩) hP hD hS hA (fun r_51 u H locs hw_52 hP hD hS => ?_)
        obtain ⟨ws_53, rfl⟩ : ∃ z, z = u := ⟨_, rfl⟩
        obtain ⟨hT9_54, hp_55⟩ := hw_52
        have hp_55 : ((r_51 = 1 ∧ 48 ≤ (rp_nx b ln y_28).toInt ∧ (rp_nx b ln y_28).toInt ≤ 57) ∨ (r_51 = 0 ∧ ¬ (48 ≤ (rp_nx b ln y_28).toInt ∧ (rp_nx b ln y_28).toInt ≤ 57))) := hp_55
        have hP : va_P D vwCl ([(ty_RD rd bt ln tg y_28 wst er ep), (rf_RW ct 0 bt 800 b)] ++ ws) H := ty_bkP hP
        have hD : va_D A ([(ty_RD rd bt ln tg y_28 wst er ep), (rf_RW ct 0 bt 800 b)] ++ ws) := ty_bkD hD
        rcases hp_55 with ⟨rfl, hz_56⟩ | ⟨rfl, hz_57⟩
        · refine lv_if_eq (tgt := 94) hx hb dX6_readNumber_58 (by decide) (fun hc => absurd hc (by decide)) (fun _ => ?_)
          refine lv_iload hx hb dX6_readNumber_61 (lv_at hl 4 rfl) ?_
          refine lv_bipush (v := 10) hx hb dX6_readNumber_63 (by decide) ?_
          refine lv_imul hx hb dX6_readNumber_65 ?_
          refine lv_aload_n hx hb dX6_readNumber_66 rfl (lv_at hl 0 rfl) ?_
          have hP : va_P D vwCl (([] ++ ws) ++ ([(ty_RD rd bt ln tg y_28 wst er ep), (rf_RW ct 0 bt 800 b)] ++ ([] : va_W))) H := ty_permP (w1 := (([] ++ [(ty_RD rd bt ln tg y_28 wst er ep), (rf_RW ct 0 bt 800 b)]) ++ ws)) hP ty_mv2
          have hD : va_D A (([] ++ ws) ++ ([(ty_RD rd bt ln tg y_28 wst er ep), (rf_RW ct 0 bt 800 b)] ++ ([] : va_W))) := ty_permD (w1 := (([] ++ [(ty_RD rd bt ln tg y_28 wst er ep), (rf_RW ct 0 bt 800 b)]) ++ ws)) hD ty_mv2
          refine ty_ki (wr := ([] ++ ws)) (wc := ([(ty_RD rd bt ln tg y_28 wst er ep), (rf_RW ct 0 bt 800 b)] ++ ([] : va_W))) (va_runV (As := []) (rest := [.int (y_27 * 10)]) ⟨hx, hb, hml, hown, hts⟩ (r_next l D ct (fun _ => none) [] (fun _ => True) (fun _ _ _ => True) rd bt tg ln y_28 wst er ep b _ ty_V0 ty_C0 ty_y10 hln (by have := hex_40.1; omega)) (cm_V 0 hts kc_X6_next ki_RX6 kl_RX6_61 kv_X6_next kx_X6_next kd_X6_next ⟨Nat.le_of_ble_eq_true rfl, Nat.le_of_ble_eq_true rfl⟩) (ty_preE (wr := ([] ++ ws)) (wc := ([(ty_RD rd bt ln tg y_28 wst er ep), (rf_RW ct 0 bt 800 b)] ++ ([] : va_W))) (ci := 6) (q0 := (([] ++ ws) : va_W).length + 0) hP hK hD hS hA hX rfl (ty_app rfl)) rfl rfl hl.1 rfl (lv_room (Nat.le_of_ble_eq_true rfl)) dX6_readNumber_67 ⟨Nat.le_of_ble_eq_true rfl, Nat.le_of_ble_eq_true rfl⟩) hP hD hS hA (fun r_58 u H locs hw_59 hP hD hS => ?_)
          obtain ⟨ws_60, rfl⟩ : ∃ z, z = u := ⟨_, rfl⟩
          obtain ⟨hT9_61, rfl⟩ := hw_59
          have hP : va_P D vwCl ([(ty_RD rd bt ln tg y_28 wst er ep), (rf_RW ct 0 bt 800 b)] ++ ws) H := ty_bkP hP
          have hD : va_D A ([(ty_RD rd bt ln tg y_28 wst er ep), (rf_RW ct 0 bt 800 b)] ++ ws) := ty_bkD hD
          refine lv_iadd hx hb dX6_readNumber_70 ?_
          refine lv_bipush (v := 48) hx hb dX6_readNumber_71 (by decide) ?_
          refine lv_isub hx hb dX6_readNumber_73 ?_
          refine lv_ldc hx hb hown (hts _ kl_RX6_235) dX6_readNumber_74 ?_
          refine va_mmin hx hb (hml.trans hl.1.symm) hown (hts _ kl_RX6_91) (hts _ jm_min_s) (hts _ ki_RJ9) (hts _ jm_min_c) (Nat.le_of_ble_eq_true rfl) (Nat.le_of_ble_eq_true rfl) (Nat.le_of_ble_eq_true rfl) (Nat.le_of_ble_eq_true rfl) dX6_readNumber_76 ?_
          refine lv_istore (lv' := [(4, .int (if 100000000 < (((y_27 * 10) + (rp_nx b ln y_28)) - 48) then 100000000 else (((y_27 * 10) + (rp_nx b ln y_28)) - 48))), (0, .ref rd), (1, .int p1), (2, .int p2), (3, .int (rp_sk b ln pl))]) hx hb dX6_readNumber_79 hl (by decide) rfl (fun ls hl => ?_)
          refine lv_aload_n hx hb dX6_readNumber_81 rfl (lv_at hl 1 rfl) ?_
          refine lv_dup hx hb dX6_readNumber_82 rfl ?_
          refine va_get (v := .int y_28) (D := D) (ci := 6) (C := RX6) (T := TX6) (N := 7) hx hb hts in_X6 hown hK hP 0 rfl rfl 3 (by decide) (hts _ kl_RX6_65) (fun _ h9 => h9) rfl dX6_readNumber_83 ?_
          refine lv_iconst (v := 1) hx hb dX6_readNumber_86 (by decide) ?_
          refine lv_iadd hx hb dX6_readNumber_87 ?_
          refine va_put (v := .int (y_28 + 1)) (ty := .int) (D := D) (ci := 6) (C := RX6) (T := TX6) (N := 7) hx hb hts in_X6 tyX6 tyX6_ok nmX6 hown hK hP hD hS 0 rfl rfl 3 (by decide) (hts _ kl_RX6_65) (fun _ h9 => h9) rfl (by decide +kernel) rfl rfl (Nat.le_of_ble_eq_true rfl) dX6_readNumber_88 (fun H locs hP hD hS => ?_)
          have hP : va_P D vwCl ([(ty_RD rd bt ln tg (y_28 + 1) wst er ep), (rf_RW ct 0 bt 800 b)] ++ ws) H := hP
          have hD : va_D A ([(ty_RD rd bt ln tg (y_28 + 1) wst er ep), (rf_RW ct 0 bt 800 b)] ++ ws) := hD
          refine lv_goto (tgt := 40) hx hb dX6_readNumber_91 (by decide) ?_
          exact ih_40 _ _ _ _ (ty_inc1 (cm_lt hc_29)) ⟨ws, (if 100000000 < (((y_27 * 10) + (rp_nx b ln y_28)) - 48) then 100000000 else (((y_27 * 10) + (rp_nx b ln y_28)) - 48)), (y_28 + 1), rfl, hT, hP, hD, hS, (lv_sub hl [1, 2, 3, 4, 0] rfl), (by have := hex_40.1; have := (rf_lth hc_29); have e := rf_p1 (x := y_28) (by omega); omega), (by have e := rp_sum hex_40.2.1 hz_56; rw [e]; have := hz_56; have := hex_40.2.1; omega), hex_40.2.2.1.trans (rp_toS (by have := hex_40.1; omega) (rp_digI hz_56)), (by rw [hex_40.2.2.2, rp_numS (by have := hex_40.1; omega) (rp_digI hz_56), ← rp_nxb (rf_lth hc_29)]; exact congrArg _ (rp_sum hex_40.2.1 hz_56).symm)⟩
        · refine lv_if_eq (tgt := 94) hx hb dX6_readNumber_58 (by decide) (fun _ => ?_) (fun hc => absurd (by decide) hc)
          have he_62 : rp_de b ln (rp_sk b ln pl) = y_28 ∧ rp_num b ln (rp_sk b ln pl) 0 = y_27.toInt := ⟨hex_40.2.2.1.trans (rp_toE (by have := hex_40.1; omega) (rp_digN hz_57)), hex_40.2.2.2.trans (rp_numE (by have := hex_40.1; omega) (rp_digN hz_57))⟩
          refine lv_iload hx hb dX6_readNumber_94 (lv_at hl 4 rfl) ?_
          refine lv_iload_n hx hb dX6_readNumber_96 rfl (lv_at hl 1 rfl) ?_
          refine lv_icmp_lt (tgt := 106) hx hb dX6_readNumber_97 (by decide) (fun hc_63 => ?_) (fun hc_63 => ?_)
          · refine lv_aload_n hx hb dX6_readNumber_106 rfl (lv_at hl 0 rfl) ?_
            refine lv_iconst (v := 2) hx hb dX6_readNumber_107 (by decide) ?_
            refine lv_iload_n hx hb dX6_readNumber_108 rfl (lv_at hl 3 rfl) ?_
            have hP : va_P D vwCl ([(rf_RW ct 0 bt 800 b), (ty_RD rd bt ln tg y_28 wst er ep)] ++ ws) H := ty_permP hP (ty_ordp (E := [(ty_RD rd bt ln tg y_28 wst er ep), (rf_RW ct 0 bt 800 b)]) (E2 := [(rf_RW ct 0 bt 800 b), (ty_RD rd bt ln tg y_28 wst er ep)]) (n := 2) [1, 0] rfl rfl (by decide))
            have hD : va_D A ([(rf_RW ct 0 bt 800 b), (ty_RD rd bt ln tg y_28 wst er ep)] ++ ws) := ty_permD hD (ty_ordp (E := [(ty_RD rd bt ln tg y_28 wst er ep), (rf_RW ct 0 bt 800 b)]) (E2 := [(rf_RW ct 0 bt 800 b), (ty_RD rd bt ln tg y_28 wst er ep)]) (n := 2) [1, 0] rfl rfl (by decide))
            have hP : va_P D vwCl (([(rf_RW ct 0 bt 800 b)] ++ ws) ++ ([(ty_RD rd bt ln tg y_28 wst er ep)] ++ ([] : va_W))) H := ty_permP (w1 := (([(rf_RW ct 0 bt 800 b)] ++ [(ty_RD rd bt ln tg y_28 wst er ep)]) ++ ws)) hP ty_mv2
            have hD : va_D A (([(rf_RW ct 0 bt 800 b)] ++ ws) ++ ([(ty_RD rd bt ln tg y_28 wst er ep)] ++ ([] : va_W))) := ty_permD (w1 := (([(rf_RW ct 0 bt 800 b)] ++ [(ty_RD rd bt ln tg y_28 wst er ep)]) ++ ws)) hD ty_mv2
            refine ty_kv (wr := ([(rf_RW ct 0 bt 800 b)] ++ ws)) (wc := ([(ty_RD rd bt ln tg y_28 wst er ep)] ++ ([] : va_W))) (va_runV (As := [.int 2, .int (rp_sk b ln pl)]) (rest := []) ⟨hx, hb, hml, hown, hts⟩ (r_fail l D ct (fun _ => none) [] (fun _ => True) (fun _ _ _ => True) rd bt tg ln y_28 wst er ep (2 : Int32) (rp_sk b ln pl) _ ty_V0 ty_C0 ty_y10 (by decide)) (cm_V 2 hts kc_X6_fail ki_RX6 kl_RX6_68 kv_X6_fail kx_X6_fail kd_X6_fail ⟨Nat.le_of_ble_eq_true rfl, Nat.le_of_ble_eq_true rfl⟩) (ty_preE (wr := ([(rf_RW ct 0 bt 800 b)] ++ ws)) (wc := ([(ty_RD rd bt ln tg y_28 wst er ep)] ++ ([] : va_W))) (ci := 6) (q0 := (([(rf_RW ct 0 bt 800 b)] ++ ws) : va_W).length + 0) hP hK hD hS hA hX rfl (ty_app rfl)) rfl rfl hl.1 rfl (lv_room (Nat.le_of_ble_eq_true rfl)) dX6_readNumber_109 ⟨Nat.le_of_ble_eq_true rfl, Nat.le_of_ble_eq_true rfl⟩) hP hD hS hA (fun u H locs hw_65 hP hD hS => ?_)
            obtain ⟨ws_66, er1_67, ep1_68⟩ := u
            obtain ⟨hT9_69, hp_70⟩ := hw_65
            have hp_70 : rp_o er ep er1_67 ep1_68 (2 : Int32) (rp_sk b ln pl) True := hp_70
            have hP : va_P D vwCl ([(rf_RW ct 0 bt 800 b), (ty_RD rd bt ln tg y_28 wst er1_67 ep1_68)] ++ ws) H := ty_bkP hP
            have hD : va_D A ([(rf_RW ct 0 bt 800 b), (ty_RD rd bt ln tg y_28 wst er1_67 ep1_68)] ++ ws) := ty_bkD hD
            refine lv_iload_n hx hb dX6_readNumber_112 rfl (lv_at hl 1 rfl) ?_
            have hP : va_P D vwCl ([(ty_RD rd bt ln tg y_28 wst er1_67 ep1_68), (rf_RW ct 0 bt 800 b)] ++ ws) H := ty_permP hP (ty_ordp (E := [(rf_RW ct 0 bt 800 b), (ty_RD rd bt ln tg y_28 wst er1_67 ep1_68)]) (E2 := [(ty_RD rd bt ln tg y_28 wst er1_67 ep1_68), (rf_RW ct 0 bt 800 b)]) (n := 2) [1, 0] rfl rfl (by decide))
            have hD : va_D A ([(ty_RD rd bt ln tg y_28 wst er1_67 ep1_68), (rf_RW ct 0 bt 800 b)] ++ ws) := ty_permD hD (ty_ordp (E := [(rf_RW ct 0 bt 800 b), (ty_RD rd bt ln tg y_28 wst er1_67 ep1_68)]) (E2 := [(ty_RD rd bt ln tg y_28 wst er1_67 ep1_68), (rf_RW ct 0 bt 800 b)]) (n := 2) [1, 0] rfl rfl (by decide))
            exact W.iret (v := p1) hx hb hr (fun t ht hW => ⟨⟨p1, (ws, y_28, er1_67, ep1_68), rfl, ⟨hT, ⟨(by have := hex_40.1; omega), rp_rnb (rp_digI hz_25) (rp_lt2 (Or.inl hc_63)) he_62 hp_70⟩⟩, by rw [ht]; exact hP, by rw [hAe]; exact hD⟩, hS.F ht⟩) hS.2.2 dX6_readNumber_113
          · refine lv_iload hx hb dX6_readNumber_100 (lv_at hl 4 rfl) ?_
            refine lv_iload_n hx hb dX6_readNumber_102 rfl (lv_at hl 2 rfl) ?_
            refine lv_icmp_le (tgt := 114) hx hb dX6_readNumber_103 (by decide) (fun hc_71 => ?_) (fun hc_71 => ?_)
            · refine lv_iload hx hb dX6_readNumber_114 (lv_at hl 4 rfl) ?_
              exact W.iret (v := y_27) hx hb hr (fun t ht hW => ⟨⟨y_27, (ws, y_28, er, ep), rfl, ⟨hT, ⟨(by have := hex_40.1; omega), rp_rno (rp_digI hz_25) hc_8 (rp_gel hc_63 hc_71) he_62⟩⟩, by rw [ht]; exact hP, by rw [hAe]; exact hD⟩, hS.F ht⟩) hS.2.2 dX6_readNumber_116
            · refine lv_aload_n hx hb dX6_readNumber_106 rfl (lv_at hl 0 rfl) ?_
              refine lv_iconst (v := 2) hx hb dX6_readNumber_107 (by decide) ?_
              refine lv_iload_n hx hb dX6_readNumber_108 rfl (lv_at hl 3 rfl) ?_
              have hP : va_P D vwCl ([(rf_RW ct 0 bt 800 b), (ty_RD rd bt ln tg y_28 wst er ep)] ++ ws) H := ty_permP hP (ty_ordp (E := [(ty_RD rd bt ln tg y_28 wst er ep), (rf_RW ct 0 bt 800 b)]) (E2 := [(rf_RW ct 0 bt 800 b), (ty_RD rd bt ln tg y_28 wst er ep)]) (n := 2) [1, 0] rfl rfl (by decide))
              have hD : va_D A ([(rf_RW ct 0 bt 800 b), (ty_RD rd bt ln tg y_28 wst er ep)] ++ ws) := ty_permD hD (ty_ordp (E := [(ty_RD rd bt ln tg y_28 wst er ep), (rf_RW ct 0 bt 800 b)]) (E2 := [(rf_RW ct 0 bt 800 b), (ty_RD rd bt ln tg y_28 wst er ep)]) (n := 2) [1, 0] rfl rfl (by decide))
              have hP : va_P D vwCl (([(rf_RW ct 0 bt 800 b)] ++ ws) ++ ([(ty_RD rd bt ln tg y_28 wst er ep)] ++ ([] : va_W))) H := ty_permP (w1 := (([(rf_RW ct 0 bt 800 b)] ++ [(ty_RD rd bt ln tg y_28 wst er ep)]) ++ ws)) hP ty_mv2
              have hD : va_D A (([(rf_RW ct 0 bt 800 b)] ++ ws) ++ ([(ty_RD rd bt ln tg y_28 wst er ep)] ++ ([] : va_W))) := ty_permD (w1 := (([(rf_RW ct 0 bt 800 b)] ++ [(ty_RD rd bt ln tg y_28 wst er ep)]) ++ ws)) hD ty_mv2
              refine ty_kv (wr := ([(rf_RW ct 0 bt 800 b)] ++ ws)) (wc := ([(ty_RD rd bt ln tg y_28 wst er ep)] ++ ([] : va_W))) (va_runV (As := [.int 2, .int (rp_sk b ln pl)]) (rest := []) ⟨hx, hb, hml, hown, hts⟩ (r_fail l D ct (fun _ => none) [] (fun _ => True) (fun _ _ _ => True) rd bt tg ln y_28 wst er ep (2 : Int32) (rp_sk b ln pl) _ ty_V0 ty_C0 ty_y10 (by decide)) (cm_V 2 hts kc_X6_fail ki_RX6 kl_RX6_68 kv_X6_fail kx_X6_fail kd_X6_fail ⟨Nat.le_of_ble_eq_true rfl, Nat.le_of_ble_eq_true rfl⟩) (ty_preE (wr := ([(rf_RW ct 0 bt 800 b)] ++ ws)) (wc := ([(ty_RD rd bt ln tg y_28 wst er ep)] ++ ([] : va_W))) (ci := 6) (q0 := (([(rf_RW ct 0 bt 800 b)] ++ ws) : va_W).length + 0) hP hK hD hS hA hX rfl (ty_app rfl)) rfl rfl hl.1 rfl (lv_room (Nat.le_of_ble_eq_true rfl)) dX6_readNumber_109 ⟨Nat.le_of_ble_eq_true rfl, Nat.le_of_ble_eq_true rfl⟩) hP hD hS hA (fun u H locs hw_73 hP hD hS => ?_)
              obtain ⟨ws_74, er1_75, ep1_76⟩ := u
              obtain ⟨hT9_77, hp_78⟩ := hw_73
              have hp_78 : rp_o er ep er1_75 ep1_76 (2 : Int32) (rp_sk b ln pl) True := hp_78
              have hP : va_P D vwCl ([(rf_RW ct 0 bt 800 b), (ty_RD rd bt ln tg y_28 wst er1_75 ep1_76)] ++ ws) H := ty_bkP hP
              have hD : va_D A ([(rf_RW ct 0 bt 800 b), (ty_RD rd bt ln tg y_28 wst er1_75 ep1_76)] ++ ws) := ty_bkD hD
              refine lv_iload_n hx hb dX6_readNumber_112 rfl (lv_at hl 1 rfl) ?_
              have hP : va_P D vwCl ([(ty_RD rd bt ln tg y_28 wst er1_75 ep1_76), (rf_RW ct 0 bt 800 b)] ++ ws) H := ty_permP hP (ty_ordp (E := [(rf_RW ct 0 bt 800 b), (ty_RD rd bt ln tg y_28 wst er1_75 ep1_76)]) (E2 := [(ty_RD rd bt ln tg y_28 wst er1_75 ep1_76), (rf_RW ct 0 bt 800 b)]) (n := 2) [1, 0] rfl rfl (by decide))
              have hD : va_D A ([(ty_RD rd bt ln tg y_28 wst er1_75 ep1_76), (rf_RW ct 0 bt 800 b)] ++ ws) := ty_permD hD (ty_ordp (E := [(rf_RW ct 0 bt 800 b), (ty_RD rd bt ln tg y_28 wst er1_75 ep1_76)]) (E2 := [(ty_RD rd bt ln tg y_28 wst er1_75 ep1_76), (rf_RW ct 0 bt 800 b)]) (n := 2) [1, 0] rfl rfl (by decide))
              exact W.iret (v := p1) hx hb hr (fun t ht hW => ⟨⟨p1, (ws, y_28, er1_75, ep1_76), rfl, ⟨hT, ⟨(by have := hex_40.1; omega), rp_rnb (rp_digI hz_25) (rp_lt2 (Or.inr hc_71)) he_62 hp_78⟩⟩, by rw [ht]; exact hP, by rw [hAe]; exact hD⟩, hS.F ht⟩) hS.2.2 dX6_readNumber_113
    · refine lv_if_ne (tgt := 37) hx hb dX6_readNumber_23 (by decide) (fun hc => absurd (by decide) hc) (fun _ => ?_)
      refine lv_aload_n hx hb dX6_readNumber_26 rfl (lv_at hl 1 rfl) ?_
      refine lv_iconst (v := 1) hx hb dX6_readNumber_27 (by decide) ?_
      refine lv_aload_n hx hb dX6_readNumber_28 rfl (lv_at hl 1 rfl) ?_
      refine va_get (v := .int (rp_sk b ln pl)) (D := D) (ci := 6) (C := RX6) (T := TX6) (N := 7) hx hb hts in_X6 hown hK hP 0 rfl rfl 3 (by decide) (hts _ kl_RX6_65) (fun _ h9 => h9) rfl dX6_readNumber_29 ?_
      have hP : va_P D vwCl ([(rf_RW ct 0 bt 800 b), (ty_RD rd bt ln tg (rp_sk b ln pl) wst er ep)] ++ ws) H := ty_permP hP (ty_ordp (E := [(ty_RD rd bt ln tg (rp_sk b ln pl) wst er ep), (rf_RW ct 0 bt 800 b)]) (E2 := [(rf_RW ct 0 bt 800 b), (ty_RD rd bt ln tg (rp_sk b ln pl) wst er ep)]) (n := 2) [1, 0] rfl rfl (by decide))
      have hD : va_D A ([(rf_RW ct 0 bt 800 b), (ty_RD rd bt ln tg (rp_sk b ln pl) wst er ep)] ++ ws) := ty_permD hD (ty_ordp (E := [(ty_RD rd bt ln tg (rp_sk b ln pl) wst er ep), (rf_RW ct 0 bt 800 b)]) (E2 := [(rf_RW ct 0 bt 800 b), (ty_RD rd bt ln tg (rp_sk b ln pl) wst er ep)]) (n := 2) [1, 0] rfl rfl (by decide))
      have hP : va_P D vwCl (([(rf_RW ct 0 bt 800 b)] ++ ws) ++ ([(ty_RD rd bt ln tg (rp_sk b ln pl) wst er ep)] ++ ([] : va_W))) H := ty_permP (w1 := (([(rf_RW ct 0 bt 800 b)] ++ [(ty_RD rd bt ln tg (rp_sk b ln pl) wst er ep)]) ++ ws)) hP ty_mv2
      have hD : va_D A (([(rf_RW ct 0 bt 800 b)] ++ ws) ++ ([(ty_RD rd bt ln tg (rp_sk b ln pl) wst er ep)] ++ ([] : va_W))) := ty_permD (w1 := (([(rf_RW ct 0 bt 800 b)] ++ [(ty_RD rd bt ln tg (rp_sk b ln pl) wst er ep)]) ++ ws)) hD ty_mv2
      refine ty_kv (wr := ([(rf_RW ct 0 bt 800 b)] ++ ws)) (wc := ([(ty_RD rd bt ln tg (rp_sk b ln pl) wst er ep)] ++ ([] : va_W))) (va_runV (As := [.int 1, .int (rp_sk b ln pl)]) (rest := []) ⟨hx, hb, hml, hown, hts⟩ (r_fail l D ct (fun _ => none) [] (fun _ => True) (fun _ _ _ => True) rd bt tg ln (rp_sk b ln pl) wst er ep (1 : Int32) (rp_sk b ln pl) _ ty_V0 ty_C0 ty_y10 (by decide)) (cm_V 2 hts kc_X6_fail ki_RX6 kl_RX6_68 kv_X6_fail kx_X6_fail kd_X6_fail ⟨Nat.le_of_ble_eq_true rfl, Nat.le_of_ble_eq_true rfl⟩) (ty_preE (wr := ([(rf_RW ct 0 bt 800 b)] ++ ws)) (wc := ([(ty_RD rd bt ln tg (rp_sk b ln pl) wst er ep)] ++ ([] : va_W))) (ci := 6) (q0 := (([(rf_RW ct 0 bt 800 b)] ++ ws) : va_W).length + 0) hP hK hD hS hA hX rfl (ty_app rfl)) rfl rfl hl.1 rfl (lv_room (Nat.le_of_ble_eq_true rfl)) dX6_readNumber_32 ⟨Nat.le_of_ble_eq_true rfl, Nat.le_of_ble_eq_true rfl⟩) hP hD hS hA (fun u H locs hw_80 hP hD hS => ?_)
      obtain ⟨ws_81, er1_82, ep1_83⟩ := u
      obtain ⟨hT9_84, hp_85⟩ := hw_80
      have hp_85 : rp_o er ep er1_82 ep1_83 (1 : Int32) (rp_sk b ln pl) True := hp_85
      have hP : va_P D vwCl ([(rf_RW ct 0 bt 800 b), (ty_RD rd bt ln tg (rp_sk b ln pl) wst er1_82 ep1_83)] ++ ws) H := ty_bkP hP
      have hD : va_D A ([(rf_RW ct 0 bt 800 b), (ty_RD rd bt ln tg (rp_sk b ln pl) wst er1_82 ep1_83)] ++ ws) := ty_bkD hD
      refine lv_iload_n hx hb dX6_readNumber_35 rfl (lv_at hl 2 rfl) ?_
      have hP : va_P D vwCl ([(ty_RD rd bt ln tg (rp_sk b ln pl) wst er1_82 ep1_83), (rf_RW ct 0 bt 800 b)] ++ ws) H := ty_permP hP (ty_ordp (E := [(rf_RW ct 0 bt 800 b), (ty_RD rd bt ln tg (rp_sk b ln pl) wst er1_82 ep1_83)]) (E2 := [(ty_RD rd bt ln tg (rp_sk b ln pl) wst er1_82 ep1_83), (rf_RW ct 0 bt 800 b)]) (n := 2) [1, 0] rfl rfl (by decide))
      have hD : va_D A ([(ty_RD rd bt ln tg (rp_sk b ln pl) wst er1_82 ep1_83), (rf_RW ct 0 bt 800 b)] ++ ws) := ty_permD hD (ty_ordp (E := [(rf_RW ct 0 bt 800 b), (ty_RD rd bt ln tg (rp_sk b ln pl) wst er1_82 ep1_83)]) (E2 := [(ty_RD rd bt ln tg (rp_sk b ln pl) wst er1_82 ep1_83), (rf_RW ct 0 bt 800 b)]) (n := 2) [1, 0] rfl rfl (by decide))
      exact W.iret (v := p1) hx hb hr (fun t ht hW => ⟨⟨p1, (ws, (rp_sk b ln pl), er1_82, ep1_83), rfl, ⟨hT, ⟨(by have := hsb; omega), rp_rnn (rp_digN hz_26) hp_85⟩⟩, by rw [ht]; exact hP, by rw [hAe]; exact hD⟩, hS.F ht⟩) hS.2.2 dX6_readNumber_36
theorem dX6_wordIs_0 : decode cX6_wordIs 0 = .ok (.aload_n 0, 1) := by decide +kernel
theorem dX6_wordIs_1 : decode cX6_wordIs 1 = .ok (.getfield 65, 3) := by decide +kernel
theorem dX6_wordIs_4 : decode cX6_wordIs 4 = .ok (.aload_n 0, 1) := by decide +kernel
theorem dX6_wordIs_5 : decode cX6_wordIs 5 = .ok (.getfield 130, 3) := by decide +kernel
theorem dX6_wordIs_8 : decode cX6_wordIs 8 = .ok (.isub, 1) := by decide +kernel
theorem dX6_wordIs_9 : decode cX6_wordIs 9 = .ok (.aload_n 1, 1) := by decide +kernel
theorem dX6_wordIs_10 : decode cX6_wordIs 10 = .ok (.invokevirtual 223, 3) := by decide +kernel
theorem dX6_wordIs_13 : decode cX6_wordIs 13 = .ok (.if_icmp .eq 5, 3) := by decide +kernel
theorem dX6_wordIs_16 : decode cX6_wordIs 16 = .ok (.iconst 0, 1) := by decide +kernel
theorem dX6_wordIs_17 : decode cX6_wordIs 17 = .ok (.ireturn, 1) := by decide +kernel
theorem dX6_wordIs_18 : decode cX6_wordIs 18 = .ok (.iconst 0, 1) := by decide +kernel
theorem dX6_wordIs_19 : decode cX6_wordIs 19 = .ok (.istore_n 2, 1) := by decide +kernel
theorem dX6_wordIs_20 : decode cX6_wordIs 20 = .ok (.iload_n 2, 1) := by decide +kernel
theorem dX6_wordIs_21 : decode cX6_wordIs 21 = .ok (.aload_n 1, 1) := by decide +kernel
theorem dX6_wordIs_22 : decode cX6_wordIs 22 = .ok (.invokevirtual 223, 3) := by decide +kernel
theorem dX6_wordIs_25 : decode cX6_wordIs 25 = .ok (.if_icmp .ge 32, 3) := by decide +kernel
theorem dX6_wordIs_28 : decode cX6_wordIs 28 = .ok (.aload_n 0, 1) := by decide +kernel
theorem dX6_wordIs_29 : decode cX6_wordIs 29 = .ok (.getfield 9, 3) := by decide +kernel
theorem dX6_wordIs_32 : decode cX6_wordIs 32 = .ok (.aload_n 0, 1) := by decide +kernel
theorem dX6_wordIs_33 : decode cX6_wordIs 33 = .ok (.getfield 130, 3) := by decide +kernel
theorem dX6_wordIs_36 : decode cX6_wordIs 36 = .ok (.iload_n 2, 1) := by decide +kernel
theorem dX6_wordIs_37 : decode cX6_wordIs 37 = .ok (.iadd, 1) := by decide +kernel
theorem dX6_wordIs_38 : decode cX6_wordIs 38 = .ok (.invokestatic 227, 3) := by decide +kernel
theorem dX6_wordIs_41 : decode cX6_wordIs 41 = .ok (.aload_n 1, 1) := by decide +kernel
theorem dX6_wordIs_42 : decode cX6_wordIs 42 = .ok (.iload_n 2, 1) := by decide +kernel
theorem dX6_wordIs_43 : decode cX6_wordIs 43 = .ok (.invokevirtual 231, 3) := by decide +kernel
theorem dX6_wordIs_46 : decode cX6_wordIs 46 = .ok (.if_icmp .eq 5, 3) := by decide +kernel
theorem dX6_wordIs_49 : decode cX6_wordIs 49 = .ok (.iconst 0, 1) := by decide +kernel
theorem dX6_wordIs_50 : decode cX6_wordIs 50 = .ok (.ireturn, 1) := by decide +kernel
theorem dX6_wordIs_51 : decode cX6_wordIs 51 = .ok (.iinc 2 1, 3) := by decide +kernel
theorem dX6_wordIs_54 : decode cX6_wordIs 54 = .ok (.goto (-34), 3) := by decide +kernel
theorem dX6_wordIs_57 : decode cX6_wordIs 57 = .ok (.iconst 1, 1) := by decide +kernel
theorem dX6_wordIs_58 : decode cX6_wordIs 58 = .ok (.ireturn, 1) := by decide +kernel
set_option maxRecDepth 100000 in
set_option maxHeartbeats 4000000 in
theorem r_wordIs (l : Launch) (D : va_G) (ct : Nat → ClassId) (S : ty_S) (ws : va_W) (ph : va_W → Prop) (xx : Nat → Nat → Nat → Prop) (rd : Nat) (bt : Nat) (tg : Nat) (ln : Int32) (pl : Int32) (wst : Int32) (er : Int32) (ep : Int32) (b : Nat → Int32) (wd : Nat) (q9 : cm_sq) (sz : Nat) (hT : ty_V ct S ph ws) (hph : ty_C ph xx) (hy1 : ty_y1 xx) (hln : 0 ≤ ln.toInt ∧ ln.toInt ≤ 800) (hpl : 0 ≤ pl.toInt ∧ pl.toInt ≤ ln.toInt) (hws : 0 ≤ wst.toInt ∧ wst.toInt ≤ pl.toInt) (hq9 : q9 ∈ cm_strs) : Met l yX6_wordIs (ws_ yX6_wordIs cX6_wordIs 3 (some .boolean)) ({ frames := 4, cells := 0, slots := 0, locals := 85 } : Room) (va_Pc [.ref rd, .ref wd] (cmPs D ct sz ([(ty_RD rd bt ln tg pl wst er ep), (rf_RW ct 0 bt 800 b)] ++ ws) q9 wd)) (va_Qi (fun (r : Int32) (u9 : va_W) => ty_V ct S ph u9 ∧ ((r = 1 ∧ rp_wd b wst pl = q9.2.2.2) ∨ (r = 0 ∧ ¬ rp_wd b wst pl = q9.2.2.2))) (cmB D ([(ty_RD rd bt ln tg pl wst er ep), (rf_RW ct 0 bt 800 b)] ++ ws) sz (fun (u9 : va_W) => ([(ty_RD rd bt ln tg pl wst er ep), (rf_RW ct 0 bt 800 b)] ++ u9))) (va_A ([(ty_RD rd bt ln tg pl wst er ep), (rf_RW ct 0 bt 800 b)] ++ ws) sz)) 0 0 (va_A ([(ty_RD rd bt ln tg pl wst er ep), (rf_RW ct 0 bt 800 b)] ++ ws) sz) := by
  refine Met.ofW (cc := cX6_wordIs) (maxL := 3) (ret := (some .boolean)) (by decide) rfl ?_
  intro p e s m args below meth c s₁ B hml hv
  obtain ⟨rfl, ⟨hsz, hP, hK, hD0, hX⟩, hR9⟩ := hv
  have hx := B.exec
  have hb := B.bytes
  have hr := B.returns
  have hts := ws_all (atoms_spec (ws := ws_ yX6_wordIs cX6_wordIs 3 (some .boolean)) B.pre)
  have hown : s.vm.findClass RX6 = some m.cls := findClass_of_methodNamed B.named
  have hlocks := B.notSynchronized
  subst hsz
  have hD := hD0.self (sz := s.heap.size)
  generalize hAe : va_A ([(ty_RD rd bt ln tg pl wst er ep), (rf_RW ct 0 bt 800 b)] ++ ws) s.heap.size = A at hD hX ⊢
  have hA : ∀ q : Nat, s.heap.size ≤ q → A q := fun q h => by rw [← hAe]; exact Or.inr h
  have hS : va_S A s.heap s.heap [] := va_S.rf
  obtain ⟨a9, v9, hr9, hs9⟩ := hX.2.2.2.1 q9 hq9
  have e9 : a9 = wd := cm_sinj hr9 hR9
  rw [e9] at hs9
  have hl := lv_entry ([.ref rd, .ref wd]) (n := 3) (Nat.le_of_ble_eq_true rfl)
  rw [lg_entry_eq]
  generalize (lg_sl ([.ref rd, .ref wd]) ++ List.replicate (3 - (lg_sl ([.ref rd, .ref wd])).length) Slot.unset).toArray = ls at hl ⊢
  have hl : lv_has ls 3 [(0, .ref rd), (1, .ref wd)] := hl
  refine lv_aload_n hx hb dX6_wordIs_0 rfl (lv_at hl 0 rfl) ?_
  refine va_get (v := .int pl) (D := D) (ci := 6) (C := RX6) (T := TX6) (N := 7) hx hb hts in_X6 hown hK hP 0 rfl rfl 3 (by decide) (hts _ kl_RX6_65) (fun _ h9 => h9) rfl dX6_wordIs_1 ?_
  refine lv_aload_n hx hb dX6_wordIs_4 rfl (lv_at hl 0 rfl) ?_
  refine va_get (v := .int wst) (D := D) (ci := 6) (C := RX6) (T := TX6) (N := 7) hx hb hts in_X6 hown hK hP 0 rfl rfl 4 (by decide) (hts _ kl_RX6_130) (fun _ h9 => h9) rfl dX6_wordIs_5 ?_
  refine lv_isub hx hb dX6_wordIs_8 ?_
  refine lv_aload_n hx hb dX6_wordIs_9 rfl (lv_at hl 1 rfl) ?_
  refine ty_ki (wr := [(ty_RD rd bt ln tg pl wst er ep), (rf_RW ct 0 bt 800 b)]) (wc := ([] ++ ws)) (va_runV (As := []) (rest := [.int (pl - wst)]) ⟨hx, hb, hml, hown, hts⟩ (t_strlen l D ct S ws ph xx wd q9 _ hT hph hy1 hq9) (cm_V 0 hts kc_J0_length_8abf5 ki_RJ0 kl_RX6_223 kv_J0_length_8abf5 kx_J0_length_8abf5 kd_J0_length_8abf5 ⟨Nat.le_of_ble_eq_true rfl, Nat.le_of_ble_eq_true rfl⟩) (cm_preVt (ty_preS (wr := [(ty_RD rd bt ln tg pl wst er ep), (rf_RW ct 0 bt 800 b)]) (wc := ([] ++ ws)) (As := [.ref wd]) hP hK hD hS hA hX) (vk_recv hs9 (Nat.zero_lt_one) hS) hR9) rfl rfl hl.1 rfl (lv_room (Nat.le_of_ble_eq_true rfl)) dX6_wordIs_10 ⟨Nat.le_of_ble_eq_true rfl, Nat.le_of_ble_eq_true rfl⟩) hP hD hS hA (fun r_1 u H locs hw_2 hP hD hS => ?_)
  obtain ⟨ws_3, rfl⟩ : ∃ z, z = u := ⟨_, rfl⟩
  obtain ⟨hT, rfl⟩ := hw_2
  have hP : va_P D vwCl ([(ty_RD rd bt ln tg pl wst er ep), (rf_RW ct 0 bt 800 b)] ++ ws_3) H := hP
  have hD : va_D A ([(ty_RD rd bt ln tg pl wst er ep), (rf_RW ct 0 bt 800 b)] ++ ws_3) := hD
  refine lv_icmp_eq (tgt := 18) hx hb dX6_wordIs_13 (by decide) (fun hc_4 => ?_) (fun hc_4 => ?_)
  · refine lv_iconst (v := 0) hx hb dX6_wordIs_18 (by decide) ?_
    refine lv_istore_n (lv' := [(2, .int 0), (0, .ref rd), (1, .ref wd)]) hx hb dX6_wordIs_19 rfl hl (by decide) rfl (fun ls hl => ?_)
    refine ty_loop (I := fun μ H locs ls => ∃ (ws : va_W) (y_5 : Int32), μ = (2147483648 - y_5.toInt).toNat ∧ ty_V ct S ph ws ∧ va_P D vwCl ([(ty_RD rd bt ln tg pl wst er ep), (rf_RW ct 0 bt 800 b)] ++ ws) H ∧ va_D A ([(ty_RD rd bt ln tg pl wst er ep), (rf_RW ct 0 bt 800 b)] ++ ws) ∧ va_S A s.heap H locs ∧ lv_has ls 3 [(0, .ref rd), (1, .ref wd), (2, .int y_5)] ∧ (0 ≤ y_5.toInt ∧ y_5.toInt ≤ q9.2.2.2.length) ∧ ∀ j : Nat, (j : Int) < y_5.toInt → b (wst.toInt.toNat + j) = q9.2.2.2.getD j 0) ⟨_, ws_3, (0 : Int32), rfl, hT, hP, hD, hS, (lv_sub hl [1, 2, 0] rfl), ⟨(by decide), (by have z : (0 : Int32).toInt = 0 := (by decide); omega)⟩, fun j hj => absurd hj (by have z : (0 : Int32).toInt = 0 := (by decide); omega)⟩ (fun μ H locs ls hI ih_20 => ?_)
    obtain ⟨ws, y_5, rfl, hT, hP, hD, hS, hl, hex_20⟩ := hI
    refine lv_iload_n hx hb dX6_wordIs_20 rfl (lv_at hl 2 rfl) ?_
    refine lv_aload_n hx hb dX6_wordIs_21 rfl (lv_at hl 1 rfl) ?_
    refine ty_ki (wr := [(ty_RD rd bt ln tg pl wst er ep), (rf_RW ct 0 bt 800 b)]) (wc := ([] ++ ws)) (va_runV (As := []) (rest := [.int y_5]) ⟨hx, hb, hml, hown, hts⟩ (t_strlen l D ct S ws ph xx wd q9 _ hT hph hy1 hq9) (cm_V 0 hts kc_J0_length_8abf5 ki_RJ0 kl_RX6_223 kv_J0_length_8abf5 kx_J0_length_8abf5 kd_J0_length_8abf5 ⟨Nat.le_of_ble_eq_true rfl, Nat.le_of_ble_eq_true rfl⟩) (cm_preVt (ty_preS (wr := [(ty_RD rd bt ln tg pl wst er ep), (rf_RW ct 0 bt 800 b)]) (wc := ([] ++ ws)) (As := [.ref wd]) hP hK hD hS hA hX) (vk_recv hs9 (Nat.zero_lt_one) hS) hR9) rfl rfl hl.1 rfl (lv_room (Nat.le_of_ble_eq_true rfl)) dX6_wordIs_22 ⟨Nat.le_of_ble_eq_true rfl, Nat.le_of_ble_eq_true rfl⟩) hP hD hS hA (fun r_6 u H locs hw_7 hP hD hS => ?_)
    obtain ⟨ws_8, rfl⟩ : ∃ z, z = u := ⟨_, rfl⟩
    obtain ⟨hT, rfl⟩ := hw_7
    have hP : va_P D vwCl ([(ty_RD rd bt ln tg pl wst er ep), (rf_RW ct 0 bt 800 b)] ++ ws_8) H := hP
    have hD : va_D A ([(ty_RD rd bt ln tg pl wst er ep), (rf_RW ct 0 bt 800 b)] ++ ws_8) := hD
    refine lv_icmp_ge (tgt := 57) hx hb dX6_wordIs_25 (by decide) (fun hc_9 => ?_) (fun hc_9 => ?_)
    · refine lv_iconst (v := 1) hx hb dX6_wordIs_57 (by decide) ?_
      exact W.zret (v := 1) hx hb hr (by decide) (fun t ht hW => ⟨⟨1, ws_8, rfl, ⟨hT, (Or.inl ⟨rfl, (rp_wd_eq (by have := rp_len (ty_sl hq9) hws hc_4; omega) (fun i hi => hex_20.2 i (by have := rp_kg (ty_sl hq9) hc_9; omega)))⟩)⟩, by rw [ht]; exact hP, by rw [hAe]; exact hD⟩, hS.F ht⟩) hS.2.2 dX6_wordIs_58
    · refine lv_aload_n hx hb dX6_wordIs_28 rfl (lv_at hl 0 rfl) ?_
      refine va_get (v := .ref bt) (D := D) (ci := 6) (C := RX6) (T := TX6) (N := 7) hx hb hts in_X6 hown hK hP 0 rfl rfl 0 (by decide) (hts _ kl_RX6_9) (fun _ h9 => h9) rfl dX6_wordIs_29 ?_
      refine lv_aload_n hx hb dX6_wordIs_32 rfl (lv_at hl 0 rfl) ?_
      refine va_get (v := .int wst) (D := D) (ci := 6) (C := RX6) (T := TX6) (N := 7) hx hb hts in_X6 hown hK hP 0 rfl rfl 4 (by decide) (hts _ kl_RX6_130) (fun _ h9 => h9) rfl dX6_wordIs_33 ?_
      refine lv_iload_n hx hb dX6_wordIs_36 rfl (lv_at hl 2 rfl) ?_
      refine lv_iadd hx hb dX6_wordIs_37 ?_
      have hP : va_P D vwCl (([(ty_RD rd bt ln tg pl wst er ep)] ++ ws_8) ++ ([(rf_RW ct 0 bt 800 b)] ++ ([] : va_W))) H := ty_permP (w1 := (([(ty_RD rd bt ln tg pl wst er ep)] ++ [(rf_RW ct 0 bt 800 b)]) ++ ws_8)) hP ty_mv2
      have hD : va_D A (([(ty_RD rd bt ln tg pl wst er ep)] ++ ws_8) ++ ([(rf_RW ct 0 bt 800 b)] ++ ([] : va_W))) := ty_permD (w1 := (([(ty_RD rd bt ln tg pl wst er ep)] ++ [(rf_RW ct 0 bt 800 b)]) ++ ws_8)) hD ty_mv2
      refine ty_ki (wr := ([(ty_RD rd bt ln tg pl wst er ep)] ++ ws_8)) (wc := ([(rf_RW ct 0 bt 800 b)] ++ ([] : va_W))) (va_runSN (As := [.ref bt, .int (wst + y_5)]) (rest := []) ⟨hx, hb, hml, hown, hts⟩ (r_at l D ct (fun _ => none) [] (fun _ => True) (fun _ _ _ => True) bt (wst + y_5) b _ ty_V0 ty_C0 ty_y10) (cm_SN 2 hts kc_X10_at ki_RX10 kl_RX6_227 ks_X10_at kd_X10_at ⟨Nat.le_of_ble_eq_true rfl, Nat.le_of_ble_eq_true rfl⟩) (ty_preS (wr := ([(ty_RD rd bt ln tg pl wst er ep)] ++ ws_8)) (wc := ([(rf_RW ct 0 bt 800 b)] ++ ([] : va_W))) hP hK hD hS hA hX) rfl rfl hl.1 rfl (lv_room (Nat.le_of_ble_eq_true rfl)) dX6_wordIs_38 ⟨Nat.le_of_ble_eq_true rfl, Nat.le_of_ble_eq_true rfl⟩) hP hD hS hA (fun r_10 u H locs hw_11 hP hD hS => ?_)
      obtain ⟨ws_12, rfl⟩ : ∃ z, z = u := ⟨_, rfl⟩
      obtain ⟨hT9_13, rfl⟩ := hw_11
      have hP : va_P D vwCl ([(ty_RD rd bt ln tg pl wst er ep), (rf_RW ct 0 bt 800 b)] ++ ws_8) H := ty_bkP hP
      have hD : va_D A ([(ty_RD rd bt ln tg pl wst er ep), (rf_RW ct 0 bt 800 b)] ++ ws_8) := ty_bkD hD
      refine lv_aload_n hx hb dX6_wordIs_41 rfl (lv_at hl 1 rfl) ?_
      refine lv_iload_n hx hb dX6_wordIs_42 rfl (lv_at hl 2 rfl) ?_
      refine ty_ki (wr := [(ty_RD rd bt ln tg pl wst er ep), (rf_RW ct 0 bt 800 b)]) (wc := ([] ++ ws_8)) (va_runV (As := [.int y_5]) (rest := [.int (rp_at b (wst + y_5))]) ⟨hx, hb, hml, hown, hts⟩ (t_charAt l D ct S ws_8 ph xx wd q9 y_5 _ hT hph hy1 hq9 (ty_nneg hex_20.1.1) (cm_lt hc_9)) (cm_V 1 hts kc_J0_charAt_5068e ki_RJ0 kl_RX6_231 kv_J0_charAt_5068e kx_J0_charAt_5068e kd_J0_charAt_5068e ⟨Nat.le_of_ble_eq_true rfl, Nat.le_of_ble_eq_true rfl⟩) (cm_preVt (ty_preS (wr := [(ty_RD rd bt ln tg pl wst er ep), (rf_RW ct 0 bt 800 b)]) (wc := ([] ++ ws_8)) (As := [.ref wd, .int y_5]) hP hK hD hS hA hX) (vk_recv hs9 (Nat.zero_lt_one) hS) hR9) rfl rfl hl.1 rfl (lv_room (Nat.le_of_ble_eq_true rfl)) dX6_wordIs_43 ⟨Nat.le_of_ble_eq_true rfl, Nat.le_of_ble_eq_true rfl⟩) hP hD hS hA (fun r_14 u H locs hw_15 hP hD hS => ?_)
      obtain ⟨ws_16, rfl⟩ : ∃ z, z = u := ⟨_, rfl⟩
      obtain ⟨hT, hp_17⟩ := hw_15
      have hp_17 : (narrow .char (.int r_14) = .int r_14 ∧ r_14 = (q9.2.2.2).getD y_5.toNatClampNeg 0) := hp_17
      have hP : va_P D vwCl ([(ty_RD rd bt ln tg pl wst er ep), (rf_RW ct 0 bt 800 b)] ++ ws_16) H := hP
      have hD : va_D A ([(ty_RD rd bt ln tg pl wst er ep), (rf_RW ct 0 bt 800 b)] ++ ws_16) := hD
      refine lv_icmp_eq (tgt := 51) hx hb dX6_wordIs_46 (by decide) (fun hc_18 => ?_) (fun hc_18 => ?_)
      · refine lv_iinc (v := (y_5 + Int32.ofInt 1)) (lv' := [(2, .int (y_5 + Int32.ofInt 1)), (0, .ref rd), (1, .ref wd)]) hx hb dX6_wordIs_51 hl (k := 2) rfl rfl (by decide) rfl (fun ls hl => ?_)
        refine lv_goto (tgt := 20) hx hb dX6_wordIs_54 (by decide) ?_
        exact ih_20 _ _ _ _ (ty_inc (cm_lt hc_9)) ⟨ws_16, (y_5 + Int32.ofInt 1), rfl, hT, hP, hD, hS, (lv_sub hl [1, 2, 0] rfl), (by have := hex_20.1; have := rp_kl (ty_sl hq9) hc_9; have e : (y_5 + Int32.ofInt 1).toInt = y_5.toInt + 1 := rf_p1 (by have := rp_len (ty_sl hq9) hws hc_4; omega); omega), rp_wis (by have := rp_len (ty_sl hq9) hws hc_4; have := rp_kl (ty_sl hq9) hc_9; have := hex_20.1; omega) hex_20.2 hc_18 hp_17.2⟩
      · refine lv_iconst (v := 0) hx hb dX6_wordIs_49 (by decide) ?_
        exact W.zret (v := 0) hx hb hr (by decide) (fun t ht hW => ⟨⟨0, ws_16, rfl, ⟨hT, (Or.inr ⟨rfl, rp_win (by have := rp_len (ty_sl hq9) hws hc_4; have := rp_kl (ty_sl hq9) hc_9; have := hex_20.1; omega) (rp_kl (ty_sl hq9) hc_9) hc_18 hp_17.2⟩)⟩, by rw [ht]; exact hP, by rw [hAe]; exact hD⟩, hS.F ht⟩) hS.2.2 dX6_wordIs_50
  · refine lv_iconst (v := 0) hx hb dX6_wordIs_16 (by decide) ?_
    exact W.zret (v := 0) hx hb hr (by decide) (fun t ht hW => ⟨⟨0, ws_3, rfl, ⟨hT, (Or.inr ⟨rfl, rp_wd_nl (rp_lenN (ty_sl hq9) hws hc_4)⟩)⟩, by rw [ht]; exact hP, by rw [hAe]; exact hD⟩, hS.F ht⟩) hS.2.2 dX6_wordIs_17
set_option maxRecDepth 100000 in
set_option maxHeartbeats 4000000 in
theorem r_find (l : Launch) (D : va_G) (ct : Nat → ClassId) (S : ty_S) (ws : va_W) (sp : Nat) (ps : rp_PS sp) (cu : Nat) (na : Nat) (pr : Nat) (ch : Nat) (cnt : Int32) (nc : Int32) (np : Int32) (nf : Nat → Int64) (p1 : Int64) (sz : Nat) (hT : ty_V ct S (rp_F ps cu na pr ch cnt nc np nf) ws) (h_cu : S cu = some (.inl 2)) (h_na : S na = some (.inr (1, 4))) (hcn : 0 ≤ cnt.toInt ∧ cnt.toInt ≤ 4) : Met l yX2_find (ws_ yX2_find cX2_find 4 (some .int)) ({ frames := 0, cells := 0, slots := 0, locals := 0 } : Room) (va_Pc [.ref cu, .long p1] (cmP D ct sz ([] ++ ws))) (va_Qi (fun (r : Int32) (u9 : va_W) => ty_V ct S (rp_F ps cu na pr ch cnt nc np nf) u9 ∧ ((r = -1 ∧ ∀ i : Nat, (i : Int) < cnt.toInt → ¬ nf i = p1) ∨ ((0 ≤ r.toInt ∧ r.toInt < cnt.toInt) ∧ ∃ i : Nat, (i : Int) < cnt.toInt ∧ nf i = p1))) (cmB D ([] ++ ws) sz (fun (u9 : va_W) => ([] ++ u9))) (va_A ([] ++ ws) sz)) 0 0 (va_A ([] ++ ws) sz) := by
  refine Met.ofW (cc := cX2_find) (maxL := 4) (ret := (some .int)) (by decide) rfl ?_
  intro p e s m args below meth c s₁ B hml hv
  obtain ⟨rfl, hsz, hP, hK, hD0, hX⟩ := hv
  have hx := B.exec
  have hb := B.bytes
  have hr := B.returns
  have hts := ws_all (atoms_spec (ws := ws_ yX2_find cX2_find 4 (some .int)) B.pre)
  have hown : s.vm.findClass RX2 = some m.cls := findClass_of_methodNamed B.named
  have hlocks := B.notSynchronized
  subst hsz
  have hD := hD0.self (sz := s.heap.size)
  generalize hAe : va_A ([] ++ ws) s.heap.size = A at hD hX ⊢
  have hA : ∀ q : Nat, s.heap.size ≤ q → A q := fun q h => by rw [← hAe]; exact Or.inr h
  have hS : va_S A s.heap s.heap [] := va_S.rf
  have hl := lv_entry ([.ref cu, .long p1]) (n := 4) (Nat.le_of_ble_eq_true rfl)
  rw [lg_entry_eq]
  generalize (lg_sl ([.ref cu, .long p1]) ++ List.replicate (4 - (lg_sl ([.ref cu, .long p1])).length) Slot.unset).toArray = ls at hl ⊢
  have hl : lv_has ls 4 [(0, .ref cu), (1, .long p1)] := hl
  refine lv_iconst (v := 0) hx hb dX2_find_0 (by decide) ?_
  refine lv_istore_n (lv' := [(3, .int 0), (0, .ref cu), (1, .long p1)]) hx hb dX2_find_1 rfl hl (by decide) rfl (fun ls hl => ?_)
  refine ty_loop (I := fun μ H locs ls => ∃ (ws : va_W) (y_1 : Int32), μ = (2147483648 - y_1.toInt).toNat ∧ ty_V ct S (rp_F ps cu na pr ch cnt nc np nf) ws ∧ va_P D vwCl ([] ++ ws) H ∧ va_D A ([] ++ ws) ∧ va_S A s.heap H locs ∧ lv_has ls 4 [(0, .ref cu), (1, .long p1), (3, .int y_1)] ∧ 0 ≤ y_1.toInt ∧ ∀ i : Nat, (i : Int) < y_1.toInt → ¬ nf i = p1) ⟨_, ws, (0 : Int32), rfl, hT, hP, hD, hS, (lv_sub hl [1, 2, 0] rfl), (by decide), fun i hi => absurd hi (by have z : (0 : Int32).toInt = 0 := (by decide); omega)⟩ (fun μ H locs ls hI ih_2 => ?_)
  obtain ⟨ws, y_1, rfl, hT, hP, hD, hS, hl, hex_2⟩ := hI
  refine lv_iload_n hx hb dX2_find_2 rfl (lv_at hl 2 rfl) ?_
  refine lv_aload_n hx hb dX2_find_3 rfl (lv_at hl 0 rfl) ?_
  refine ty_getD (v := .int cnt) (E := []) (ws := ws) (D := D) (ci := 2) (C := RX2) (T := TX2) (N := 4) hx hb hts in_X2 hown hK hP hD hT h_cu rfl 0 (by decide) (hts _ kl_RX2_22) (fun _ h9 => h9) (ty_fcd hT.2.2.1) dX2_find_4 ?_
  refine lv_icmp_ge (tgt := 38) hx hb dX2_find_7 (by decide) (fun hc_2 => ?_) (fun hc_2 => ?_)
  · refine lv_iconst (v := (-1)) hx hb dX2_find_38 (by decide) ?_
    exact W.iret (v := (-1)) hx hb hr (fun t ht hW => ⟨⟨(-1), ws, rfl, ⟨hT, (Or.inl ⟨rfl, fun i hi => hex_2.2 i (by have := (Int32.le_iff_toInt_le.mp hc_2); have := hcn; omega)⟩)⟩, by rw [ht]; exact hP, by rw [hAe]; exact hD⟩, hS.F ht⟩) hS.2.2 dX2_find_39
  · refine lv_iload_n hx hb dX2_find_10 rfl (lv_at hl 2 rfl) ?_
    refine lv_aload_n hx hb dX2_find_11 rfl (lv_at hl 0 rfl) ?_
    refine ty_getD (v := .ref na) (E := []) (ws := ws) (D := D) (ci := 2) (C := RX2) (T := TX2) (N := 4) hx hb hts in_X2 hown hK hP hD hT h_cu rfl 1 (by decide) (hts _ kl_RX2_9) (fun _ h9 => h9) (ty_fcd hT.2.1.2.1) dX2_find_12 ?_
    refine ty_alen1 (E := []) (ws := ws) hx hb hK hP hT h_na dX2_find_15 ?_
    refine cm_cst (y := 4) (by decide) ?_
    refine lv_icmp_ge (tgt := 38) hx hb dX2_find_16 (by decide) (fun hc_3 => ?_) (fun hc_3 => ?_)
    · refine lv_iconst (v := (-1)) hx hb dX2_find_38 (by decide) ?_
      exact W.iret (v := (-1)) hx hb hr (fun t ht hW => ⟨⟨(-1), ws, rfl, ⟨hT, (Or.inl ⟨rfl, fun i hi => hex_2.2 i (by have := (rp_4g hc_3); have := hcn; omega)⟩)⟩, by rw [ht]; exact hP, by rw [hAe]; exact hD⟩, hS.F ht⟩) hS.2.2 dX2_find_39
    · refine lv_aload_n hx hb dX2_find_19 rfl (lv_at hl 0 rfl) ?_
      refine ty_getD (v := .ref na) (E := []) (ws := ws) (D := D) (ci := 2) (C := RX2) (T := TX2) (N := 4) hx hb hts in_X2 hown hK hP hD hT h_cu rfl 1 (by decide) (hts _ kl_RX2_9) (fun _ h9 => h9) (ty_fcd hT.2.1.2.1) dX2_find_20 ?_
      refine lv_iload_n hx hb dX2_find_23 rfl (lv_at hl 2 rfl) ?_
      refine ty_laldE (E := []) (ws := ws) hx hb hK hP hD hT (nf := nf) hT.2.2.2.2.2 h_na (cm_vin2 (ty_lt hT.1 h_na) (ty_nneg hex_2.1) (cm_lt hc_3)) dX2_find_24 ?_
      refine lv_lload_n hx hb dX2_find_25 rfl (lv_at hl 1 rfl) ?_
      refine W.lcmp hx hb dX2_find_26 ?_
      refine lv_if_ne (tgt := 32) hx hb dX2_find_27 (by decide) (fun hc_4 => ?_) (fun hc_4 => ?_)
      · refine lv_iinc (v := (y_1 + Int32.ofInt 1)) (lv' := [(3, .int (y_1 + Int32.ofInt 1)), (0, .ref cu), (1, .long p1)]) hx hb dX2_find_32 hl (k := 2) rfl rfl (by decide) rfl (fun ls hl => ?_)
        refine lv_goto (tgt := 2) hx hb dX2_find_35 (by decide) ?_
        exact ih_2 _ _ _ _ (ty_inc (cm_lt hc_2)) ⟨ws, (y_1 + Int32.ofInt 1), rfl, hT, hP, hD, hS, (lv_sub hl [1, 2, 0] rfl), (by have := hex_2.1; have := rp_4 hc_3; have e : (y_1 + Int32.ofInt 1).toInt = y_1.toInt + 1 := rf_p1 (by omega); omega), rp_fis hex_2.1 (rp_4 hc_3) hex_2.2 (rp_lc1 hc_4)⟩
      · refine lv_iload_n hx hb dX2_find_30 rfl (lv_at hl 2 rfl) ?_
        exact W.iret (v := y_1) hx hb hr (fun t ht hW => ⟨⟨y_1, ws, rfl, ⟨hT, (Or.inr ⟨⟨hex_2.1, (rf_lth hc_2)⟩, ⟨_, (by show ((Int32.toInt _).toNat : Int) < _; have := (rf_lth hc_2); have := hex_2.1; omega), rp_lc0 hc_4⟩⟩)⟩, by rw [ht]; exact hP, by rw [hAe]; exact hD⟩, hS.F ht⟩) hS.2.2 dX2_find_31
set_option maxRecDepth 100000 in
set_option maxHeartbeats 4000000 in
theorem r_add (l : Launch) (D : va_G) (ct : Nat → ClassId) (S : ty_S) (ws : va_W) (sp : Nat) (ps : rp_PS sp) (cu : Nat) (na : Nat) (pr : Nat) (ch : Nat) (cnt : Int32) (nc : Int32) (np : Int32) (nf : Nat → Int64) (p1 : Int64) (sz : Nat) (hT : ty_V ct S (rp_F ps cu na pr ch cnt nc np nf) ws) (h_cu : S cu = some (.inl 2)) (h_na : S na = some (.inr (1, 4))) (hcn : 0 ≤ cnt.toInt ∧ cnt.toInt < 4) : Met l yX2_add (ws_ yX2_add cX2_add 3 none) ({ frames := 1, cells := 0, slots := 0, locals := 22 } : Room) (va_Pc [.ref cu, .long p1] (cmP D ct sz ([] ++ ws))) (va_Qv (fun (u9 : va_W) => ty_V ct S (rp_F ps cu na pr ch (cnt + 1) nc np (vp_updL nf cnt.toNatClampNeg p1)) u9) (cmB D ([] ++ ws) sz (fun (u9 : va_W) => ([] ++ u9))) (va_A ([] ++ ws) sz)) 0 0 (va_A ([] ++ ws) sz) := by
  refine Met.ofW (cc := cX2_add) (maxL := 3) (ret := none) (by decide) rfl ?_
  intro p e s m args below meth c s₁ B hml hv
  obtain ⟨rfl, hsz, hP, hK, hD0, hX⟩ := hv
  have hx := B.exec
  have hb := B.bytes
  have hr := B.returns
  have hts := ws_all (atoms_spec (ws := ws_ yX2_add cX2_add 3 none) B.pre)
  have hown : s.vm.findClass RX2 = some m.cls := findClass_of_methodNamed B.named
  have hlocks := B.notSynchronized
  subst hsz
  have hD := hD0.self (sz := s.heap.size)
  generalize hAe : va_A ([] ++ ws) s.heap.size = A at hD hX ⊢
  have hA : ∀ q : Nat, s.heap.size ≤ q → A q := fun q h => by rw [← hAe]; exact Or.inr h
  have hS : va_S A s.heap s.heap [] := va_S.rf
  have hl := lv_entry ([.ref cu, .long p1]) (n := 3) (Nat.le_of_ble_eq_true rfl)
  rw [lg_entry_eq]
  generalize (lg_sl ([.ref cu, .long p1]) ++ List.replicate (3 - (lg_sl ([.ref cu, .long p1])).length) Slot.unset).toArray = ls at hl ⊢
  have hl : lv_has ls 3 [(0, .ref cu), (1, .long p1)] := hl
  refine lv_aload_n hx hb dX2_add_0 rfl (lv_at hl 0 rfl) ?_
  refine ty_getD (v := .int cnt) (E := []) (ws := ws) (D := D) (ci := 2) (C := RX2) (T := TX2) (N := 4) hx hb hts in_X2 hown hK hP hD hT h_cu rfl 0 (by decide) (hts _ kl_RX2_22) (fun _ h9 => h9) (ty_fcd hT.2.2.1) dX2_add_1 ?_
  refine lv_if_lt (tgt := 51) hx hb dX2_add_4 (by decide) (fun hc => absurd hc (ty_nneg hcn.1)) (fun _ => ?_)
  refine lv_aload_n hx hb dX2_add_7 rfl (lv_at hl 0 rfl) ?_
  refine ty_getD (v := .int cnt) (E := []) (ws := ws) (D := D) (ci := 2) (C := RX2) (T := TX2) (N := 4) hx hb hts in_X2 hown hK hP hD hT h_cu rfl 0 (by decide) (hts _ kl_RX2_22) (fun _ h9 => h9) (ty_fcd hT.2.2.1) dX2_add_8 ?_
  refine lv_aload_n hx hb dX2_add_11 rfl (lv_at hl 0 rfl) ?_
  refine ty_getD (v := .ref na) (E := []) (ws := ws) (D := D) (ci := 2) (C := RX2) (T := TX2) (N := 4) hx hb hts in_X2 hown hK hP hD hT h_cu rfl 1 (by decide) (hts _ kl_RX2_9) (fun _ h9 => h9) (ty_fcd hT.2.1.2.1) dX2_add_12 ?_
  refine ty_alen1 (E := []) (ws := ws) hx hb hK hP hT h_na dX2_add_15 ?_
  refine cm_cst (y := 4) (by decide) ?_
  refine lv_icmp_ge (tgt := 51) hx hb dX2_add_16 (by decide) (fun hc => absurd hc (rp_n4 hcn.2)) (fun _ => ?_)
  refine lv_aload_n hx hb dX2_add_19 rfl (lv_at hl 0 rfl) ?_
  refine ty_getD (v := .ref na) (E := []) (ws := ws) (D := D) (ci := 2) (C := RX2) (T := TX2) (N := 4) hx hb hts in_X2 hown hK hP hD hT h_cu rfl 1 (by decide) (hts _ kl_RX2_9) (fun _ h9 => h9) (ty_fcd hT.2.1.2.1) dX2_add_20 ?_
  refine lv_aload_n hx hb dX2_add_23 rfl (lv_at hl 0 rfl) ?_
  refine ty_getD (v := .int cnt) (E := []) (ws := ws) (D := D) (ci := 2) (C := RX2) (T := TX2) (N := 4) hx hb hts in_X2 hown hK hP hD hT h_cu rfl 0 (by decide) (hts _ kl_RX2_22) (fun _ h9 => h9) (ty_fcd hT.2.2.1) dX2_add_24 ?_
  refine lv_lload_n hx hb dX2_add_27 rfl (lv_at hl 1 rfl) ?_
  refine ty_lastT (E := []) (ws := ws) hx hb hK hP hD hS hT h_na (cm_vin2 (ty_lt hT.1 h_na) (ty_nneg hcn.1) (cm_lt (rp_n4 hcn.2))) dX2_add_28 (nf := nf) hT.2.2.2.2.2 (ph2 := (rp_F ps cu na pr ch cnt nc np (vp_updL nf cnt.toNatClampNeg p1))) (fun j cA hj h => rp_Fnf _ _ j cA hj h) (fun ws_1 H locs hT hP hD hS => ?_)
  refine lv_aload_n hx hb dX2_add_29 rfl (lv_at hl 0 rfl) ?_
  refine ty_get (E := []) (ws := ws_1) (D := D) (ci := 2) (C := RX2) (T := TX2) (N := 4) hx hb hts in_X2 hown hK hP hT h_cu rfl 2 (by decide) (hts _ kl_RX2_15) (fun _ h9 => h9) rfl dX2_add_30 (fun _ hv_2 hf_3 => ?_)
  obtain ⟨a_4, n_5, rfl, ha_6⟩ := hv_2
  refine lv_aload_n hx hb dX2_add_33 rfl (lv_at hl 0 rfl) ?_
  refine ty_getD (v := .int cnt) (E := []) (ws := ws_1) (D := D) (ci := 2) (C := RX2) (T := TX2) (N := 4) hx hb hts in_X2 hown hK hP hD hT h_cu rfl 0 (by decide) (hts _ kl_RX2_22) (fun _ h9 => h9) (ty_fcd hT.2.2.1) dX2_add_34 ?_
  refine lv_iconst (v := 0) hx hb dX2_add_37 (by decide) ?_
  refine ty_kv (wr := []) (wc := ([] ++ ws_1)) (va_runSN (As := [.ref a_4, .int cnt, .int 0]) (rest := []) ⟨hx, hb, hml, hown, hts⟩ (t_X10_put l D ct S ws_1 (rp_F ps cu na pr ch cnt nc np (vp_updL nf cnt.toNatClampNeg p1)) rp_xF a_4 n_5 cnt (0 : Int32) _ hT ha_6 rp_FC rp_F1) (cm_SN 3 hts kc_X10_put ki_RX10 kl_RX2_26 ks_X10_put kd_X10_put ⟨Nat.le_of_ble_eq_true rfl, Nat.le_of_ble_eq_true rfl⟩) (ty_preS (wr := []) (wc := ([] ++ ws_1)) hP hK hD hS hA hX) rfl rfl hl.1 rfl (lv_room (Nat.le_of_ble_eq_true rfl)) dX2_add_38 ⟨Nat.le_of_ble_eq_true rfl, Nat.le_of_ble_eq_true rfl⟩) hP hD hS hA (fun u H locs hw_8 hP hD hS => ?_)
  obtain ⟨ws_9, rfl⟩ : ∃ z, z = u := ⟨_, rfl⟩
  obtain ⟨hT, hp_10⟩ := hw_8
  have hp_10 : ty_fdle ws_1 ws_9 := hp_10
  have hP : va_P D vwCl ([] ++ ws_9) H := hP
  have hD : va_D A ([] ++ ws_9) := hD
  refine lv_aload_n hx hb dX2_add_41 rfl (lv_at hl 0 rfl) ?_
  refine lv_dup hx hb dX2_add_42 rfl ?_
  refine ty_getD (v := .int cnt) (E := []) (ws := ws_9) (D := D) (ci := 2) (C := RX2) (T := TX2) (N := 4) hx hb hts in_X2 hown hK hP hD hT h_cu rfl 0 (by decide) (hts _ kl_RX2_22) (fun _ h9 => h9) (ty_fcd hT.2.2.1) dX2_add_43 ?_
  refine lv_iconst (v := 1) hx hb dX2_add_46 (by decide) ?_
  refine lv_iadd hx hb dX2_add_47 ?_
  refine ty_putT (v := .int (cnt + 1)) (ty := .int) (E := []) (ws := ws_9) (D := D) (ci := 2) (C := RX2) (T := TX2) (N := 4) hx hb hts in_X2 tyX2 tyX2_ok nmX2 hown hK hP hD hS hT h_cu rfl 0 (by decide) (hts _ kl_RX2_22) (fun _ h9 => h9) rfl (by decide +kernel) rfl rfl rfl ⟨_, rfl⟩ dX2_add_48 (ph2 := (rp_F ps cu na pr ch (cnt + 1) nc np (vp_updL nf cnt.toNatClampNeg p1))) (fun j fs hj hl h => rp_Fcnt _ j fs hj hl h) (fun ws_11 H locs hT hfd_12 hP hD hS => ?_)
  exact W.vret hx hb hr (fun t ht hW => ⟨⟨ws_11, rfl, hT, by rw [ht]; exact hP, by rw [hAe]; exact hD⟩, hS.F ht⟩) hS.2.2 dX2_add_51
set_option maxRecDepth 100000 in
set_option maxHeartbeats 4000000 in
theorem r_padd (l : Launch) (D : va_G) (ct : Nat → ClassId) (S : ty_S) (ws : va_W) (sp : Nat) (ps : rp_PS sp) (cu : Nat) (na : Nat) (pr : Nat) (ch : Nat) (cnt : Int32) (nc : Int32) (np : Int32) (nf : Nat → Int64) (sz : Nat) (hT : ty_V ct S (rp_F ps cu na pr ch cnt nc np nf) ws) (h_pr : S pr = some (.inl 5)) (hnp : 0 ≤ np.toInt ∧ np.toInt < 4) : Met l yX5_add (ws_ yX5_add cX5_add 1 none) ({ frames := 1, cells := 0, slots := 0, locals := 22 } : Room) (va_Pc [.ref pr] (cmP D ct sz ([] ++ ws))) (va_Qv (fun (u9 : va_W) => ty_V ct S (rp_F ps cu na pr ch cnt nc (np + 1) nf) u9) (cmB D ([] ++ ws) sz (fun (u9 : va_W) => ([] ++ u9))) (va_A ([] ++ ws) sz)) 0 0 (va_A ([] ++ ws) sz) := by
  refine Met.ofW (cc := cX5_add) (maxL := 1) (ret := none) (by decide) rfl ?_
  intro p e s m args below meth c s₁ B hml hv
  obtain ⟨rfl, hsz, hP, hK, hD0, hX⟩ := hv
  have hx := B.exec
  have hb := B.bytes
  have hr := B.returns
  have hts := ws_all (atoms_spec (ws := ws_ yX5_add cX5_add 1 none) B.pre)
  have hown : s.vm.findClass RX5 = some m.cls := findClass_of_methodNamed B.named
  have hlocks := B.notSynchronized
  subst hsz
  have hD := hD0.self (sz := s.heap.size)
  generalize hAe : va_A ([] ++ ws) s.heap.size = A at hD hX ⊢
  have hA : ∀ q : Nat, s.heap.size ≤ q → A q := fun q h => by rw [← hAe]; exact Or.inr h
  have hS : va_S A s.heap s.heap [] := va_S.rf
  have hl := lv_entry ([.ref pr]) (n := 1) (Nat.le_of_ble_eq_true rfl)
  rw [lg_entry_eq]
  generalize (lg_sl ([.ref pr]) ++ List.replicate (1 - (lg_sl ([.ref pr])).length) Slot.unset).toArray = ls at hl ⊢
  have hl : lv_has ls 1 [(0, .ref pr)] := hl
  refine lv_aload_n hx hb dX5_add_0 rfl (lv_at hl 0 rfl) ?_
  refine ty_get (E := []) (ws := ws) (D := D) (ci := 5) (C := RX5) (T := TX5) (N := 5) hx hb hts in_X5 hown hK hP hT h_pr rfl 1 (by decide) (hts _ kl_RX5_9) (fun _ h9 => h9) rfl dX5_add_1 (fun _ hv_1 hf_2 => ?_)
  obtain ⟨a_3, n_4, rfl, ha_5⟩ := hv_1
  refine lv_aload_n hx hb dX5_add_4 rfl (lv_at hl 0 rfl) ?_
  refine ty_getD (v := .int np) (E := []) (ws := ws) (D := D) (ci := 5) (C := RX5) (T := TX5) (N := 5) hx hb hts in_X5 hown hK hP hD hT h_pr rfl 0 (by decide) (hts _ kl_RX5_24) (fun _ h9 => h9) (ty_fcd hT.2.2.2.2.1) dX5_add_5 ?_
  refine lv_iconst (v := 0) hx hb dX5_add_8 (by decide) ?_
  refine ty_kv (wr := []) (wc := ([] ++ ws)) (va_runSN (As := [.ref a_3, .int np, .int 0]) (rest := []) ⟨hx, hb, hml, hown, hts⟩ (t_X10_put l D ct S ws (rp_F ps cu na pr ch cnt nc np nf) rp_xF a_3 n_4 np (0 : Int32) _ hT ha_5 rp_FC rp_F1) (cm_SN 3 hts kc_X10_put ki_RX10 kl_RX5_28 ks_X10_put kd_X10_put ⟨Nat.le_of_ble_eq_true rfl, Nat.le_of_ble_eq_true rfl⟩) (ty_preS (wr := []) (wc := ([] ++ ws)) hP hK hD hS hA hX) rfl rfl hl.1 rfl (lv_room (Nat.le_of_ble_eq_true rfl)) dX5_add_9 ⟨Nat.le_of_ble_eq_true rfl, Nat.le_of_ble_eq_true rfl⟩) hP hD hS hA (fun u H locs hw_7 hP hD hS => ?_)
  obtain ⟨ws_8, rfl⟩ : ∃ z, z = u := ⟨_, rfl⟩
  obtain ⟨hT, hp_9⟩ := hw_7
  have hp_9 : ty_fdle ws ws_8 := hp_9
  have hP : va_P D vwCl ([] ++ ws_8) H := hP
  have hD : va_D A ([] ++ ws_8) := hD
  refine lv_aload_n hx hb dX5_add_12 rfl (lv_at hl 0 rfl) ?_
  refine lv_dup hx hb dX5_add_13 rfl ?_
  refine ty_getD (v := .int np) (E := []) (ws := ws_8) (D := D) (ci := 5) (C := RX5) (T := TX5) (N := 5) hx hb hts in_X5 hown hK hP hD hT h_pr rfl 0 (by decide) (hts _ kl_RX5_24) (fun _ h9 => h9) (ty_fcd hT.2.2.2.2.1) dX5_add_14 ?_
  refine lv_iconst (v := 1) hx hb dX5_add_17 (by decide) ?_
  refine lv_iadd hx hb dX5_add_18 ?_
  refine ty_putT (v := .int (np + 1)) (ty := .int) (E := []) (ws := ws_8) (D := D) (ci := 5) (C := RX5) (T := TX5) (N := 5) hx hb hts in_X5 tyX5 tyX5_ok nmX5 hown hK hP hD hS hT h_pr rfl 0 (by decide) (hts _ kl_RX5_24) (fun _ h9 => h9) rfl (by decide +kernel) rfl rfl rfl ⟨_, rfl, (ty_add4 hnp)⟩ dX5_add_19 (ph2 := (rp_F ps cu na pr ch cnt nc (np + 1) nf)) (fun j fs hj hl h => rp_Fnp _ j fs hj hl h) (fun ws_10 H locs hT hfd_11 hP hD hS => ?_)
  exact W.vret hx hb hr (fun t ht hW => ⟨⟨ws_10, rfl, hT, by rw [ht]; exact hP, by rw [hAe]; exact hD⟩, hS.F ht⟩) hS.2.2 dX5_add_22
theorem dX6_readStep_0 : decode cX6_readStep 0 = .ok (.aload_n 0, 1) := by decide +kernel
theorem dX6_readStep_1 : decode cX6_readStep 1 = .ok (.ldc 209, 2) := by decide +kernel
theorem dX6_readStep_3 : decode cX6_readStep 3 = .ok (.invokevirtual 28, 3) := by decide +kernel
theorem dX6_readStep_6 : decode cX6_readStep 6 = .ok (.ifCond .eq 29, 3) := by decide +kernel
theorem dX6_readStep_9 : decode cX6_readStep 9 = .ok (.aload_n 0, 1) := by decide +kernel
theorem dX6_readStep_10 : decode cX6_readStep 10 = .ok (.iconst 1, 1) := by decide +kernel
theorem dX6_readStep_11 : decode cX6_readStep 11 = .ok (.sipush 5000, 3) := by decide +kernel
theorem dX6_readStep_14 : decode cX6_readStep 14 = .ok (.invokevirtual 74, 3) := by decide +kernel
theorem dX6_readStep_17 : decode cX6_readStep 17 = .ok (.istore_n 3, 1) := by decide +kernel
theorem dX6_readStep_18 : decode cX6_readStep 18 = .ok (.aload_n 1, 1) := by decide +kernel
theorem dX6_readStep_19 : decode cX6_readStep 19 = .ok (.iconst 0, 1) := by decide +kernel
theorem dX6_readStep_20 : decode cX6_readStep 20 = .ok (.iload_n 3, 1) := by decide +kernel
theorem dX6_readStep_21 : decode cX6_readStep 21 = .ok (.aload_n 0, 1) := by decide +kernel
theorem dX6_readStep_22 : decode cX6_readStep 22 = .ok (.iconst 0, 1) := by decide +kernel
theorem dX6_readStep_23 : decode cX6_readStep 23 = .ok (.sipush 5000, 3) := by decide +kernel
theorem dX6_readStep_26 : decode cX6_readStep 26 = .ok (.invokevirtual 74, 3) := by decide +kernel
theorem dX6_readStep_29 : decode cX6_readStep 29 = .ok (.invokevirtual 211, 3) := by decide +kernel
theorem dX6_readStep_32 : decode cX6_readStep 32 = .ok (.goto 142, 3) := by decide +kernel
theorem dX6_readStep_35 : decode cX6_readStep 35 = .ok (.aload_n 0, 1) := by decide +kernel
theorem dX6_readStep_36 : decode cX6_readStep 36 = .ok (.ldc 215, 2) := by decide +kernel
theorem dX6_readStep_38 : decode cX6_readStep 38 = .ok (.invokevirtual 28, 3) := by decide +kernel
theorem dX6_readStep_41 : decode cX6_readStep 41 = .ok (.ifCond .eq 29, 3) := by decide +kernel
theorem dX6_readStep_44 : decode cX6_readStep 44 = .ok (.aload_n 0, 1) := by decide +kernel
theorem dX6_readStep_45 : decode cX6_readStep 45 = .ok (.iconst 0, 1) := by decide +kernel
theorem dX6_readStep_46 : decode cX6_readStep 46 = .ok (.sipush 5000, 3) := by decide +kernel
theorem dX6_readStep_49 : decode cX6_readStep 49 = .ok (.invokevirtual 74, 3) := by decide +kernel
theorem dX6_readStep_52 : decode cX6_readStep 52 = .ok (.istore_n 3, 1) := by decide +kernel
theorem dX6_readStep_53 : decode cX6_readStep 53 = .ok (.aload_n 1, 1) := by decide +kernel
theorem dX6_readStep_54 : decode cX6_readStep 54 = .ok (.iconst 1, 1) := by decide +kernel
theorem dX6_readStep_55 : decode cX6_readStep 55 = .ok (.iload_n 3, 1) := by decide +kernel
theorem dX6_readStep_56 : decode cX6_readStep 56 = .ok (.aload_n 0, 1) := by decide +kernel
theorem dX6_readStep_57 : decode cX6_readStep 57 = .ok (.iconst 1, 1) := by decide +kernel
theorem dX6_readStep_58 : decode cX6_readStep 58 = .ok (.sipush 5000, 3) := by decide +kernel
theorem dX6_readStep_61 : decode cX6_readStep 61 = .ok (.invokevirtual 74, 3) := by decide +kernel
theorem dX6_readStep_64 : decode cX6_readStep 64 = .ok (.invokevirtual 211, 3) := by decide +kernel
theorem dX6_readStep_67 : decode cX6_readStep 67 = .ok (.goto 107, 3) := by decide +kernel
theorem dX6_readStep_70 : decode cX6_readStep 70 = .ok (.aload_n 0, 1) := by decide +kernel
theorem dX6_readStep_71 : decode cX6_readStep 71 = .ok (.ldc 217, 2) := by decide +kernel
theorem dX6_readStep_73 : decode cX6_readStep 73 = .ok (.invokevirtual 28, 3) := by decide +kernel
theorem dX6_readStep_76 : decode cX6_readStep 76 = .ok (.ifCond .eq 29, 3) := by decide +kernel
theorem dX6_readStep_79 : decode cX6_readStep 79 = .ok (.aload_n 0, 1) := by decide +kernel
theorem dX6_readStep_80 : decode cX6_readStep 80 = .ok (.iconst 1, 1) := by decide +kernel
theorem dX6_readStep_81 : decode cX6_readStep 81 = .ok (.sipush 5000, 3) := by decide +kernel
theorem dX6_readStep_84 : decode cX6_readStep 84 = .ok (.invokevirtual 74, 3) := by decide +kernel
theorem dX6_readStep_87 : decode cX6_readStep 87 = .ok (.istore_n 3, 1) := by decide +kernel
theorem dX6_readStep_88 : decode cX6_readStep 88 = .ok (.aload_n 1, 1) := by decide +kernel
theorem dX6_readStep_89 : decode cX6_readStep 89 = .ok (.iconst 2, 1) := by decide +kernel
theorem dX6_readStep_90 : decode cX6_readStep 90 = .ok (.iload_n 3, 1) := by decide +kernel
theorem dX6_readStep_91 : decode cX6_readStep 91 = .ok (.aload_n 0, 1) := by decide +kernel
theorem dX6_readStep_92 : decode cX6_readStep 92 = .ok (.iconst 0, 1) := by decide +kernel
theorem dX6_readStep_93 : decode cX6_readStep 93 = .ok (.sipush 5000, 3) := by decide +kernel
theorem dX6_readStep_96 : decode cX6_readStep 96 = .ok (.invokevirtual 74, 3) := by decide +kernel
theorem dX6_readStep_99 : decode cX6_readStep 99 = .ok (.invokevirtual 211, 3) := by decide +kernel
theorem dX6_readStep_102 : decode cX6_readStep 102 = .ok (.goto 72, 3) := by decide +kernel
theorem dX6_readStep_105 : decode cX6_readStep 105 = .ok (.aload_n 0, 1) := by decide +kernel
theorem dX6_readStep_106 : decode cX6_readStep 106 = .ok (.ldc 219, 2) := by decide +kernel
theorem dX6_readStep_108 : decode cX6_readStep 108 = .ok (.invokevirtual 28, 3) := by decide +kernel
theorem dX6_readStep_111 : decode cX6_readStep 111 = .ok (.ifCond .eq 20, 3) := by decide +kernel
theorem dX6_readStep_114 : decode cX6_readStep 114 = .ok (.aload_n 1, 1) := by decide +kernel
theorem dX6_readStep_115 : decode cX6_readStep 115 = .ok (.iconst 3, 1) := by decide +kernel
theorem dX6_readStep_116 : decode cX6_readStep 116 = .ok (.aload_n 0, 1) := by decide +kernel
theorem dX6_readStep_117 : decode cX6_readStep 117 = .ok (.iconst 1, 1) := by decide +kernel
theorem dX6_readStep_118 : decode cX6_readStep 118 = .ok (.sipush 5000, 3) := by decide +kernel
theorem dX6_readStep_121 : decode cX6_readStep 121 = .ok (.invokevirtual 74, 3) := by decide +kernel
theorem dX6_readStep_124 : decode cX6_readStep 124 = .ok (.iconst 0, 1) := by decide +kernel
theorem dX6_readStep_125 : decode cX6_readStep 125 = .ok (.invokevirtual 211, 3) := by decide +kernel
theorem dX6_readStep_128 : decode cX6_readStep 128 = .ok (.goto 46, 3) := by decide +kernel
theorem dX6_readStep_131 : decode cX6_readStep 131 = .ok (.aload_n 0, 1) := by decide +kernel
theorem dX6_readStep_132 : decode cX6_readStep 132 = .ok (.ldc 221, 2) := by decide +kernel
theorem dX6_readStep_134 : decode cX6_readStep 134 = .ok (.invokevirtual 28, 3) := by decide +kernel
theorem dX6_readStep_137 : decode cX6_readStep 137 = .ok (.ifCond .eq 28, 3) := by decide +kernel
theorem dX6_readStep_140 : decode cX6_readStep 140 = .ok (.aload_n 0, 1) := by decide +kernel
theorem dX6_readStep_141 : decode cX6_readStep 141 = .ok (.iconst 0, 1) := by decide +kernel
theorem dX6_readStep_142 : decode cX6_readStep 142 = .ok (.iload_n 2, 1) := by decide +kernel
theorem dX6_readStep_143 : decode cX6_readStep 143 = .ok (.iconst 1, 1) := by decide +kernel
theorem dX6_readStep_144 : decode cX6_readStep 144 = .ok (.isub, 1) := by decide +kernel
theorem dX6_readStep_145 : decode cX6_readStep 145 = .ok (.invokevirtual 74, 3) := by decide +kernel
theorem dX6_readStep_148 : decode cX6_readStep 148 = .ok (.istore_n 3, 1) := by decide +kernel
theorem dX6_readStep_149 : decode cX6_readStep 149 = .ok (.aload_n 1, 1) := by decide +kernel
theorem dX6_readStep_150 : decode cX6_readStep 150 = .ok (.iconst 4, 1) := by decide +kernel
theorem dX6_readStep_151 : decode cX6_readStep 151 = .ok (.iload_n 3, 1) := by decide +kernel
theorem dX6_readStep_152 : decode cX6_readStep 152 = .ok (.aload_n 0, 1) := by decide +kernel
theorem dX6_readStep_153 : decode cX6_readStep 153 = .ok (.iconst 1, 1) := by decide +kernel
theorem dX6_readStep_154 : decode cX6_readStep 154 = .ok (.bipush 50, 2) := by decide +kernel
theorem dX6_readStep_156 : decode cX6_readStep 156 = .ok (.invokevirtual 74, 3) := by decide +kernel
theorem dX6_readStep_159 : decode cX6_readStep 159 = .ok (.invokevirtual 211, 3) := by decide +kernel
theorem dX6_readStep_162 : decode cX6_readStep 162 = .ok (.goto 12, 3) := by decide +kernel
theorem dX6_readStep_165 : decode cX6_readStep 165 = .ok (.aload_n 0, 1) := by decide +kernel
theorem dX6_readStep_166 : decode cX6_readStep 166 = .ok (.iconst 1, 1) := by decide +kernel
theorem dX6_readStep_167 : decode cX6_readStep 167 = .ok (.aload_n 0, 1) := by decide +kernel
theorem dX6_readStep_168 : decode cX6_readStep 168 = .ok (.getfield 130, 3) := by decide +kernel
theorem dX6_readStep_171 : decode cX6_readStep 171 = .ok (.invokevirtual 68, 3) := by decide +kernel
theorem dX6_readStep_174 : decode cX6_readStep 174 = .ok (.return_, 1) := by decide +kernel
set_option maxRecDepth 100000 in
set_option maxHeartbeats 4000000 in
theorem r_readStep (l : Launch) (D : va_G) (ct : Nat → ClassId) (S : ty_S) (ws : va_W) (rd : Nat) (bt : Nat) (tg : Nat) (ln : Int32) (pl : Int32) (wst : Int32) (er : Int32) (ep : Int32) (b : Nat → Int32) (ps : rp_PS tg) (cu : Nat) (na : Nat) (pr : Nat) (ch : Nat) (cnt : Int32) (nc : Int32) (np : Int32) (nf : Nat → Int64) (p2 : Int32) (sz : Nat) (hT : ty_V ct S (rp_F ps cu na pr ch cnt nc np nf) ws) (h_pr : S pr = some (.inl 5)) (hln : 0 ≤ ln.toInt ∧ ln.toInt ≤ 800) (hpl : 0 ≤ pl.toInt ∧ pl.toInt ≤ ln.toInt) (hw : pl = rp_we b ln wst) (hws : 0 ≤ wst.toInt ∧ wst.toInt ≤ pl.toInt) (hst : 0 ≤ p2.toInt ∧ p2.toInt ≤ 11) : Met l yX6_readStep (ws_ yX6_readStep cX6_readStep 4 none) ({ frames := 5, cells := 0, slots := 0, locals := 107 } : Room) (va_Pc [.ref rd, .ref pr, .int p2] (cmP D ct sz ([(ty_RD rd bt ln tg pl wst er ep), (rf_RW ct 0 bt 800 b)] ++ ws))) (va_Qv (fun (u : va_W × Int32 × Int32 × Int32) => match u with | (u9, pl1, er1, ep1) => ty_V ct S (rp_F ps cu na pr ch cnt nc np nf) u9 ∧ (0 ≤ pl1.toInt ∧ pl1.toInt ≤ ln.toInt) ∧ rp_o er ep er1 ep1 (rp_stk b ln p2.toInt wst) (rp_stp b ln p2.toInt wst) (pl1 = rp_stp b ln p2.toInt wst)) (cmB D ([(ty_RD rd bt ln tg pl wst er ep), (rf_RW ct 0 bt 800 b)] ++ ws) sz (fun (u : va_W × Int32 × Int32 × Int32) => match u with | (u9, pl1, er1, ep1) => ([(ty_RD rd bt ln tg pl1 wst er1 ep1), (rf_RW ct 0 bt 800 b)] ++ u9))) (va_A ([(ty_RD rd bt ln tg pl wst er ep), (rf_RW ct 0 bt 800 b)] ++ ws) sz)) 0 0 (va_A ([(ty_RD rd bt ln tg pl wst er ep), (rf_RW ct 0 bt 800 b)] ++ ws) sz) := by
  refine Met.ofW (cc := cX6_readStep) (maxL := 4) (ret := none) (by decide) rfl ?_
  intro p e s m args below meth c s₁ B hml hv
  obtain ⟨rfl, hsz, hP, hK, hD0, hX⟩ := hv
  have hx := B.exec
  have hb := B.bytes
  have hr := B.returns
  have hts := ws_all (atoms_spec (ws := ws_ yX6_readStep cX6_readStep 4 none) B.pre)
  have hown : s.vm.findClass RX6 = some m.cls := findClass_of_methodNamed B.named
  have hlocks := B.notSynchronized
  subst hsz
  have hD := hD0.self (sz := s.heap.size)
  generalize hAe : va_A ([(ty_RD rd bt ln tg pl wst er ep), (rf_RW ct 0 bt 800 b)] ++ ws) s.heap.size = A at hD hX ⊢
  have hA : ∀ q : Nat, s.heap.size ≤ q → A q := fun q h => by rw [← hAe]; exact Or.inr h
  have hS : va_S A s.heap s.heap [] := va_S.rf
  have hl := lv_entry ([.ref rd, .ref pr, .int p2]) (n := 4) (Nat.le_of_ble_eq_true rfl)
  rw [lg_entry_eq]
  generalize (lg_sl ([.ref rd, .ref pr, .int p2]) ++ List.replicate (4 - (lg_sl ([.ref rd, .ref pr, .int p2])).length) Slot.unset).toArray = ls at hl ⊢
  have hl : lv_has ls 4 [(0, .ref rd), (1, .ref pr), (2, .int p2)] := hl
  have hwd : rp_wd b wst pl = rp_w b ln wst := by rw [hw]; rfl
  refine lv_aload_n hx hb dX6_readStep_0 rfl (lv_at hl 0 rfl) ?_
  obtain ⟨sa_1, sv_2, hsr_3, hss_4⟩ := hX.2.2.2.1 ("CellCycler$Reader", 209, "charge", [99, 104, 97, 114, 103, 101]) (by decide +kernel)
  refine va_ldcS hx hb hown hsr_3 dX6_readStep_1 ?_
  have hP : va_P D vwCl (([] ++ ws) ++ ([(ty_RD rd bt ln tg pl wst er ep), (rf_RW ct 0 bt 800 b)] ++ ([] : va_W))) s.heap := ty_permP (w1 := (([] ++ [(ty_RD rd bt ln tg pl wst er ep), (rf_RW ct 0 bt 800 b)]) ++ ws)) hP ty_mv2
  have hD : va_D A (([] ++ ws) ++ ([(ty_RD rd bt ln tg pl wst er ep), (rf_RW ct 0 bt 800 b)] ++ ([] : va_W))) := ty_permD (w1 := (([] ++ [(ty_RD rd bt ln tg pl wst er ep), (rf_RW ct 0 bt 800 b)]) ++ ws)) hD ty_mv2
  refine ty_ki (wr := ([] ++ ws)) (wc := ([(ty_RD rd bt ln tg pl wst er ep), (rf_RW ct 0 bt 800 b)] ++ ([] : va_W))) (va_runV (As := [.ref sa_1]) (rest := []) ⟨hx, hb, hml, hown, hts⟩ (r_wordIs l D ct (fun _ => none) [] (fun _ => True) (fun _ _ _ => True) rd bt tg ln pl wst er ep b sa_1 ("CellCycler$Reader", 209, "charge", [99, 104, 97, 114, 103, 101]) _ ty_V0 ty_C0 ty_y10 hln hpl hws (by decide +kernel)) (cm_V 1 hts kc_X6_wordIs ki_RX6 kl_RX6_28 kv_X6_wordIs kx_X6_wordIs kd_X6_wordIs ⟨Nat.le_of_ble_eq_true rfl, Nat.le_of_ble_eq_true rfl⟩) (cm_preVs (ty_preE (wr := ([] ++ ws)) (wc := ([(ty_RD rd bt ln tg pl wst er ep), (rf_RW ct 0 bt 800 b)] ++ ([] : va_W))) (ci := 6) (q0 := (([] ++ ws) : va_W).length + 0) hP hK hD hS hA hX rfl (ty_app rfl)) hsr_3) rfl rfl hl.1 rfl (lv_room (Nat.le_of_ble_eq_true rfl)) dX6_readStep_3 ⟨Nat.le_of_ble_eq_true rfl, Nat.le_of_ble_eq_true rfl⟩) hP hD hS hA (fun r_5 u H locs hw_6 hP hD hS => ?_)
  obtain ⟨ws_7, rfl⟩ : ∃ z, z = u := ⟨_, rfl⟩
  obtain ⟨hT9_8, hp_9⟩ := hw_6
  have hp_9 : ((r_5 = 1 ∧ rp_wd b wst pl = ("CellCycler$Reader", 209, "charge", [99, 104, 97, 114, 103, 101]).2.2.2) ∨ (r_5 = 0 ∧ ¬ rp_wd b wst pl = ("CellCycler$Reader", 209, "charge", [99, 104, 97, 114, 103, 101]).2.2.2)) := hp_9
  have hP : va_P D vwCl ([(ty_RD rd bt ln tg pl wst er ep), (rf_RW ct 0 bt 800 b)] ++ ws) H := ty_bkP hP
  have hD : va_D A ([(ty_RD rd bt ln tg pl wst er ep), (rf_RW ct 0 bt 800 b)] ++ ws) := ty_bkD hD
  rcases hp_9 with ⟨rfl, hz_10⟩ | ⟨rfl, hz_11⟩
  · refine lv_if_eq (tgt := 35) hx hb dX6_readStep_6 (by decide) (fun hc => absurd hc (by decide)) (fun _ => ?_)
    refine lv_aload_n hx hb dX6_readStep_9 rfl (lv_at hl 0 rfl) ?_
    refine lv_iconst (v := 1) hx hb dX6_readStep_10 (by decide) ?_
    refine lv_sipush (v := 5000) hx hb dX6_readStep_11 (by decide) ?_
    have hP : va_P D vwCl (([] ++ ws) ++ ([(ty_RD rd bt ln tg pl wst er ep), (rf_RW ct 0 bt 800 b)] ++ ([] : va_W))) H := ty_permP (w1 := (([] ++ [(ty_RD rd bt ln tg pl wst er ep), (rf_RW ct 0 bt 800 b)]) ++ ws)) hP ty_mv2
    have hD : va_D A (([] ++ ws) ++ ([(ty_RD rd bt ln tg pl wst er ep), (rf_RW ct 0 bt 800 b)] ++ ([] : va_W))) := ty_permD (w1 := (([] ++ [(ty_RD rd bt ln tg pl wst er ep), (rf_RW ct 0 bt 800 b)]) ++ ws)) hD ty_mv2
    refine ty_ki (wr := ([] ++ ws)) (wc := ([(ty_RD rd bt ln tg pl wst er ep), (rf_RW ct 0 bt 800 b)] ++ ([] : va_W))) (va_runV (As := [.int 1, .int 5000]) (rest := []) ⟨hx, hb, hml, hown, hts⟩ (r_readNumber l D ct (fun _ => none) [] (fun _ => True) (fun _ _ _ => True) rd bt tg ln pl wst er ep b (1 : Int32) (5000 : Int32) 1 5000 _ ty_V0 ty_C0 ty_y10 hln hpl (by decide) (by decide)) (cm_V 2 hts kc_X6_readNumber ki_RX6 kl_RX6_74 kv_X6_readNumber kx_X6_readNumber kd_X6_readNumber ⟨Nat.le_of_ble_eq_true rfl, Nat.le_of_ble_eq_true rfl⟩) (ty_preE (wr := ([] ++ ws)) (wc := ([(ty_RD rd bt ln tg pl wst er ep), (rf_RW ct 0 bt 800 b)] ++ ([] : va_W))) (ci := 6) (q0 := (([] ++ ws) : va_W).length + 0) hP hK hD hS hA hX rfl (ty_app rfl)) rfl rfl hl.1 rfl (lv_room (Nat.le_of_ble_eq_true rfl)) dX6_readStep_14 ⟨Nat.le_of_ble_eq_true rfl, Nat.le_of_ble_eq_true rfl⟩) hP hD hS hA (fun r_12 u H locs hw_13 hP hD hS => ?_)
    obtain ⟨ws_14, pl1_15, er1_16, ep1_17⟩ := u
    obtain ⟨hT9_18, hp_19⟩ := hw_13
    have hp_19 : (0 ≤ pl1_15.toInt ∧ pl1_15.toInt ≤ ln.toInt) ∧ rp_o er ep er1_16 ep1_17 (rp_rk b ln 1 5000 pl) (rp_rp b ln 1 5000 pl) (pl1_15 = rp_rp b ln 1 5000 pl ∧ r_12.toInt = rp_rv b ln pl) := hp_19
    have hP : va_P D vwCl ([(ty_RD rd bt ln tg pl1_15 wst er1_16 ep1_17), (rf_RW ct 0 bt 800 b)] ++ ws) H := ty_bkP hP
    have hD : va_D A ([(ty_RD rd bt ln tg pl1_15 wst er1_16 ep1_17), (rf_RW ct 0 bt 800 b)] ++ ws) := ty_bkD hD
    obtain ⟨hb_20, ho_21⟩ := hp_19
    refine lv_istore_n (lv' := [(3, .int r_12), (0, .ref rd), (1, .ref pr), (2, .int p2)]) hx hb dX6_readStep_17 rfl hl (by decide) rfl (fun ls hl => ?_)
    refine lv_aload_n hx hb dX6_readStep_18 rfl (lv_at hl 2 rfl) ?_
    refine lv_iconst (v := 0) hx hb dX6_readStep_19 (by decide) ?_
    refine lv_iload_n hx hb dX6_readStep_20 rfl (lv_at hl 0 rfl) ?_
    refine lv_aload_n hx hb dX6_readStep_21 rfl (lv_at hl 1 rfl) ?_
    refine lv_iconst (v := 0) hx hb dX6_readStep_22 (by decide) ?_
    refine lv_sipush (v := 5000) hx hb dX6_readStep_23 (by decide) ?_
    have hP : va_P D vwCl (([] ++ ws) ++ ([(ty_RD rd bt ln tg pl1_15 wst er1_16 ep1_17), (rf_RW ct 0 bt 800 b)] ++ ([] : va_W))) H := ty_permP (w1 := (([] ++ [(ty_RD rd bt ln tg pl1_15 wst er1_16 ep1_17), (rf_RW ct 0 bt 800 b)]) ++ ws)) hP ty_mv2
    have hD : va_D A (([] ++ ws) ++ ([(ty_RD rd bt ln tg pl1_15 wst er1_16 ep1_17), (rf_RW ct 0 bt 800 b)] ++ ([] : va_W))) := ty_permD (w1 := (([] ++ [(ty_RD rd bt ln tg pl1_15 wst er1_16 ep1_17), (rf_RW ct 0 bt 800 b)]) ++ ws)) hD ty_mv2
    refine ty_ki (wr := ([] ++ ws)) (wc := ([(ty_RD rd bt ln tg pl1_15 wst er1_16 ep1_17), (rf_RW ct 0 bt 800 b)] ++ ([] : va_W))) (va_runV (As := [.int 0, .int 5000]) (rest := [.int r_12, .int 0, .ref pr]) ⟨hx, hb, hml, hown, hts⟩ (r_readNumber l D ct (fun _ => none) [] (fun _ => True) (fun _ _ _ => True) rd bt tg ln pl1_15 wst er1_16 ep1_17 b (0 : Int32) (5000 : Int32) 0 5000 _ ty_V0 ty_C0 ty_y10 hln hb_20 (by decide) (by decide)) (cm_V 2 hts kc_X6_readNumber ki_RX6 kl_RX6_74 kv_X6_readNumber kx_X6_readNumber kd_X6_readNumber ⟨Nat.le_of_ble_eq_true rfl, Nat.le_of_ble_eq_true rfl⟩) (ty_preE (wr := ([] ++ ws)) (wc := ([(ty_RD rd bt ln tg pl1_15 wst er1_16 ep1_17), (rf_RW ct 0 bt 800 b)] ++ ([] : va_W))) (ci := 6) (q0 := (([] ++ ws) : va_W).length + 0) hP hK hD hS hA hX rfl (ty_app rfl)) rfl rfl hl.1 rfl (lv_room (Nat.le_of_ble_eq_true rfl)) dX6_readStep_26 ⟨Nat.le_of_ble_eq_true rfl, Nat.le_of_ble_eq_true rfl⟩) hP hD hS hA (fun r_22 u H locs hw_23 hP hD hS => ?_)
    obtain ⟨ws_24, pl1_25, er1_26, ep1_27⟩ := u
    obtain ⟨hT9_28, hp_29⟩ := hw_23
    have hp_29 : (0 ≤ pl1_25.toInt ∧ pl1_25.toInt ≤ ln.toInt) ∧ rp_o er1_16 ep1_17 er1_26 ep1_27 (rp_rk b ln 0 5000 pl1_15) (rp_rp b ln 0 5000 pl1_15) (pl1_25 = rp_rp b ln 0 5000 pl1_15 ∧ r_22.toInt = rp_rv b ln pl1_15) := hp_29
    have hP : va_P D vwCl ([(ty_RD rd bt ln tg pl1_25 wst er1_26 ep1_27), (rf_RW ct 0 bt 800 b)] ++ ws) H := ty_bkP hP
    have hD : va_D A ([(ty_RD rd bt ln tg pl1_25 wst er1_26 ep1_27), (rf_RW ct 0 bt 800 b)] ++ ws) := ty_bkD hD
    obtain ⟨hb_30, ho_31⟩ := hp_29
    refine ty_kv (wr := [(ty_RD rd bt ln tg pl1_25 wst er1_26 ep1_27), (rf_RW ct 0 bt 800 b)]) (wc := ([] ++ ws)) (va_runVN (As := [.int 0, .int r_12, .int r_22]) (rest := []) ⟨hx, hb, hml, hown, hts⟩ (t_X5_addStepToLast l D ct S ws (rp_F ps cu na pr ch cnt nc np nf) rp_xF pr (0 : Int32) r_12 r_22 _ hT h_pr rp_FC rp_F1) (cm_VN 3 hts kc_X5_addStepToLast ki_RX5 kl_RX6_211 kv_X5_addStepToLast kx_X5_addStepToLast kd_X5_addStepToLast ⟨Nat.le_of_ble_eq_true rfl, Nat.le_of_ble_eq_true rfl⟩) (ty_preV (wr := [(ty_RD rd bt ln tg pl1_25 wst er1_26 ep1_27), (rf_RW ct 0 bt 800 b)]) (E := []) (ws := ws) (ci := 5) hP hK hD hS hA hX hT rfl h_pr) rfl rfl hl.1 rfl (lv_room (Nat.le_of_ble_eq_true rfl)) dX6_readStep_29 ⟨Nat.le_of_ble_eq_true rfl, Nat.le_of_ble_eq_true rfl⟩) hP hD hS hA (fun u H locs hw_33 hP hD hS => ?_)
    obtain ⟨ws_34, rfl⟩ : ∃ z, z = u := ⟨_, rfl⟩
    have hT := hw_33
    have hP : va_P D vwCl ([(ty_RD rd bt ln tg pl1_25 wst er1_26 ep1_27), (rf_RW ct 0 bt 800 b)] ++ ws_34) H := hP
    have hD : va_D A ([(ty_RD rd bt ln tg pl1_25 wst er1_26 ep1_27), (rf_RW ct 0 bt 800 b)] ++ ws_34) := hD
    refine lv_goto (tgt := 174) hx hb dX6_readStep_32 (by decide) ?_
    exact W.vret hx hb hr (fun t ht hW => ⟨⟨(ws_34, pl1_25, er1_26, ep1_27), rfl, ⟨hT, ⟨hb_30, (by simp only [rp_stk, rp_stp, if_pos (hwd.symm.trans hz_10)]; rw [← hw]; exact (rp_seq (ho_21) ho_31.1 (fun e v => by subst e;  exact rp_ow ho_31 (fun z => z.1))))⟩⟩, by rw [ht]; exact hP, by rw [hAe]; exact hD⟩, hS.F ht⟩) hS.2.2 dX6_readStep_174
  · refine lv_if_eq (tgt := 35) hx hb dX6_readStep_6 (by decide) (fun _ => ?_) (fun hc => absurd (by decide) hc)
    refine lv_aload_n hx hb dX6_readStep_35 rfl (lv_at hl 0 rfl) ?_
    obtain ⟨sa_35, sv_36, hsr_37, hss_38⟩ := hX.2.2.2.1 ("CellCycler$Reader", 215, "hold", [104, 111, 108, 100]) (by decide +kernel)
    refine va_ldcS hx hb hown hsr_37 dX6_readStep_36 ?_
    have hP : va_P D vwCl (([] ++ ws) ++ ([(ty_RD rd bt ln tg pl wst er ep), (rf_RW ct 0 bt 800 b)] ++ ([] : va_W))) H := ty_permP (w1 := (([] ++ [(ty_RD rd bt ln tg pl wst er ep), (rf_RW ct 0 bt 800 b)]) ++ ws)) hP ty_mv2
    have hD : va_D A (([] ++ ws) ++ ([(ty_RD rd bt ln tg pl wst er ep), (rf_RW ct 0 bt 800 b)] ++ ([] : va_W))) := ty_permD (w1 := (([] ++ [(ty_RD rd bt ln tg pl wst er ep), (rf_RW ct 0 bt 800 b)]) ++ ws)) hD ty_mv2
    refine ty_ki (wr := ([] ++ ws)) (wc := ([(ty_RD rd bt ln tg pl wst er ep), (rf_RW ct 0 bt 800 b)] ++ ([] : va_W))) (va_runV (As := [.ref sa_35]) (rest := []) ⟨hx, hb, hml, hown, hts⟩ (r_wordIs l D ct (fun _ => none) [] (fun _ => True) (fun _ _ _ => True) rd bt tg ln pl wst er ep b sa_35 ("CellCycler$Reader", 215, "hold", [104, 111, 108, 100]) _ ty_V0 ty_C0 ty_y10 hln hpl hws (by decide +kernel)) (cm_V 1 hts kc_X6_wordIs ki_RX6 kl_RX6_28 kv_X6_wordIs kx_X6_wordIs kd_X6_wordIs ⟨Nat.le_of_ble_eq_true rfl, Nat.le_of_ble_eq_true rfl⟩) (cm_preVs (ty_preE (wr := ([] ++ ws)) (wc := ([(ty_RD rd bt ln tg pl wst er ep), (rf_RW ct 0 bt 800 b)] ++ ([] : va_W))) (ci := 6) (q0 := (([] ++ ws) : va_W).length + 0) hP hK hD hS hA hX rfl (ty_app rfl)) hsr_37) rfl rfl hl.1 rfl (lv_room (Nat.le_of_ble_eq_true rfl)) dX6_readStep_38 ⟨Nat.le_of_ble_eq_true rfl, Nat.le_of_ble_eq_true rfl⟩) hP hD hS hA (fun r_39 u H locs hw_40 hP hD hS => ?_)
    obtain ⟨ws_41, rfl⟩ : ∃ z, z = u := ⟨_, rfl⟩
    obtain ⟨hT9_42, hp_43⟩ := hw_40
    have hp_43 : ((r_39 = 1 ∧ rp_wd b wst pl = ("CellCycler$Reader", 215, "hold", [104, 111, 108, 100]).2.2.2) ∨ (r_39 = 0 ∧ ¬ rp_wd b wst pl = ("CellCycler$Reader", 215, "hold", [104, 111, 108, 100]).2.2.2)) := hp_43
    have hP : va_P D vwCl ([(ty_RD rd bt ln tg pl wst er ep), (rf_RW ct 0 bt 800 b)] ++ ws) H := ty_bkP hP
    have hD : va_D A ([(ty_RD rd bt ln tg pl wst er ep), (rf_RW ct 0 bt 800 b)] ++ ws) := ty_bkD hD
    rcases hp_43 with ⟨rfl, hz_44⟩ | ⟨rfl, hz_45⟩
    · refine lv_if_eq (tgt := 70) hx hb dX6_readStep_41 (by decide) (fun hc => absurd hc (by decide)) (fun _ => ?_)
      refine lv_aload_n hx hb dX6_readStep_44 rfl (lv_at hl 0 rfl) ?_
      refine lv_iconst (v := 0) hx hb dX6_readStep_45 (by decide) ?_
      refine lv_sipush (v := 5000) hx hb dX6_readStep_46 (by decide) ?_
      have hP : va_P D vwCl (([] ++ ws) ++ ([(ty_RD rd bt ln tg pl wst er ep), (rf_RW ct 0 bt 800 b)] ++ ([] : va_W))) H := ty_permP (w1 := (([] ++ [(ty_RD rd bt ln tg pl wst er ep), (rf_RW ct 0 bt 800 b)]) ++ ws)) hP ty_mv2
      have hD : va_D A (([] ++ ws) ++ ([(ty_RD rd bt ln tg pl wst er ep), (rf_RW ct 0 bt 800 b)] ++ ([] : va_W))) := ty_permD (w1 := (([] ++ [(ty_RD rd bt ln tg pl wst er ep), (rf_RW ct 0 bt 800 b)]) ++ ws)) hD ty_mv2
      refine ty_ki (wr := ([] ++ ws)) (wc := ([(ty_RD rd bt ln tg pl wst er ep), (rf_RW ct 0 bt 800 b)] ++ ([] : va_W))) (va_runV (As := [.int 0, .int 5000]) (rest := []) ⟨hx, hb, hml, hown, hts⟩ (r_readNumber l D ct (fun _ => none) [] (fun _ => True) (fun _ _ _ => True) rd bt tg ln pl wst er ep b (0 : Int32) (5000 : Int32) 0 5000 _ ty_V0 ty_C0 ty_y10 hln hpl (by decide) (by decide)) (cm_V 2 hts kc_X6_readNumber ki_RX6 kl_RX6_74 kv_X6_readNumber kx_X6_readNumber kd_X6_readNumber ⟨Nat.le_of_ble_eq_true rfl, Nat.le_of_ble_eq_true rfl⟩) (ty_preE (wr := ([] ++ ws)) (wc := ([(ty_RD rd bt ln tg pl wst er ep), (rf_RW ct 0 bt 800 b)] ++ ([] : va_W))) (ci := 6) (q0 := (([] ++ ws) : va_W).length + 0) hP hK hD hS hA hX rfl (ty_app rfl)) rfl rfl hl.1 rfl (lv_room (Nat.le_of_ble_eq_true rfl)) dX6_readStep_49 ⟨Nat.le_of_ble_eq_true rfl, Nat.le_of_ble_eq_true rfl⟩) hP hD hS hA (fun r_46 u H locs hw_47 hP hD hS => ?_)
      obtain ⟨ws_48, pl1_49, er1_50, ep1_51⟩ := u
      obtain ⟨hT9_52, hp_53⟩ := hw_47
      have hp_53 : (0 ≤ pl1_49.toInt ∧ pl1_49.toInt ≤ ln.toInt) ∧ rp_o er ep er1_50 ep1_51 (rp_rk b ln 0 5000 pl) (rp_rp b ln 0 5000 pl) (pl1_49 = rp_rp b ln 0 5000 pl ∧ r_46.toInt = rp_rv b ln pl) := hp_53
      have hP : va_P D vwCl ([(ty_RD rd bt ln tg pl1_49 wst er1_50 ep1_51), (rf_RW ct 0 bt 800 b)] ++ ws) H := ty_bkP hP
      have hD : va_D A ([(ty_RD rd bt ln tg pl1_49 wst er1_50 ep1_51), (rf_RW ct 0 bt 800 b)] ++ ws) := ty_bkD hD
      obtain ⟨hb_54, ho_55⟩ := hp_53
      refine lv_istore_n (lv' := [(3, .int r_46), (0, .ref rd), (1, .ref pr), (2, .int p2)]) hx hb dX6_readStep_52 rfl hl (by decide) rfl (fun ls hl => ?_)
      refine lv_aload_n hx hb dX6_readStep_53 rfl (lv_at hl 2 rfl) ?_
      refine lv_iconst (v := 1) hx hb dX6_readStep_54 (by decide) ?_
      refine lv_iload_n hx hb dX6_readStep_55 rfl (lv_at hl 0 rfl) ?_
      refine lv_aload_n hx hb dX6_readStep_56 rfl (lv_at hl 1 rfl) ?_
      refine lv_iconst (v := 1) hx hb dX6_readStep_57 (by decide) ?_
      refine lv_sipush (v := 5000) hx hb dX6_readStep_58 (by decide) ?_
      have hP : va_P D vwCl (([] ++ ws) ++ ([(ty_RD rd bt ln tg pl1_49 wst er1_50 ep1_51), (rf_RW ct 0 bt 800 b)] ++ ([] : va_W))) H := ty_permP (w1 := (([] ++ [(ty_RD rd bt ln tg pl1_49 wst er1_50 ep1_51), (rf_RW ct 0 bt 800 b)]) ++ ws)) hP ty_mv2
      have hD : va_D A (([] ++ ws) ++ ([(ty_RD rd bt ln tg pl1_49 wst er1_50 ep1_51), (rf_RW ct 0 bt 800 b)] ++ ([] : va_W))) := ty_permD (w1 := (([] ++ [(ty_RD rd bt ln tg pl1_49 wst er1_50 ep1_51), (rf_RW ct 0 bt 800 b)]) ++ ws)) hD ty_mv2
      refine ty_ki (wr := ([] ++ ws)) (wc := ([(ty_RD rd bt ln tg pl1_49 wst er1_50 ep1_51), (rf_RW ct 0 bt 800 b)] ++ ([] : va_W))) (va_runV (As := [.int 1, .int 5000]) (rest := [.int r_46, .int 1, .ref pr]) ⟨hx, hb, hml, hown, hts⟩ (r_readNumber l D ct (fun _ => none) [] (fun _ => True) (fun _ _ _ => True) rd bt tg ln pl1_49 wst er1_50 ep1_51 b (1 : Int32) (5000 : Int32) 1 5000 _ ty_V0 ty_C0 ty_y10 hln hb_54 (by decide) (by decide)) (cm_V 2 hts kc_X6_readNumber ki_RX6 kl_RX6_74 kv_X6_readNumber kx_X6_readNumber kd_X6_readNumber ⟨Nat.le_of_ble_eq_true rfl, Nat.le_of_ble_eq_true rfl⟩) (ty_preE (wr := ([] ++ ws)) (wc := ([(ty_RD rd bt ln tg pl1_49 wst er1_50 ep1_51), (rf_RW ct 0 bt 800 b)] ++ ([] : va_W))) (ci := 6) (q0 := (([] ++ ws) : va_W).length + 0) hP hK hD hS hA hX rfl (ty_app rfl)) rfl rfl hl.1 rfl (lv_room (Nat.le_of_ble_eq_true rfl)) dX6_readStep_61 ⟨Nat.le_of_ble_eq_true rfl, Nat.le_of_ble_eq_true rfl⟩) hP hD hS hA (fun r_56 u H locs hw_57 hP hD hS => ?_)
      obtain ⟨ws_58, pl1_59, er1_60, ep1_61⟩ := u
      obtain ⟨hT9_62, hp_63⟩ := hw_57
      have hp_63 : (0 ≤ pl1_59.toInt ∧ pl1_59.toInt ≤ ln.toInt) ∧ rp_o er1_50 ep1_51 er1_60 ep1_61 (rp_rk b ln 1 5000 pl1_49) (rp_rp b ln 1 5000 pl1_49) (pl1_59 = rp_rp b ln 1 5000 pl1_49 ∧ r_56.toInt = rp_rv b ln pl1_49) := hp_63
      have hP : va_P D vwCl ([(ty_RD rd bt ln tg pl1_59 wst er1_60 ep1_61), (rf_RW ct 0 bt 800 b)] ++ ws) H := ty_bkP hP
      have hD : va_D A ([(ty_RD rd bt ln tg pl1_59 wst er1_60 ep1_61), (rf_RW ct 0 bt 800 b)] ++ ws) := ty_bkD hD
      obtain ⟨hb_64, ho_65⟩ := hp_63
      refine ty_kv (wr := [(ty_RD rd bt ln tg pl1_59 wst er1_60 ep1_61), (rf_RW ct 0 bt 800 b)]) (wc := ([] ++ ws)) (va_runVN (As := [.int 1, .int r_46, .int r_56]) (rest := []) ⟨hx, hb, hml, hown, hts⟩ (t_X5_addStepToLast l D ct S ws (rp_F ps cu na pr ch cnt nc np nf) rp_xF pr (1 : Int32) r_46 r_56 _ hT h_pr rp_FC rp_F1) (cm_VN 3 hts kc_X5_addStepToLast ki_RX5 kl_RX6_211 kv_X5_addStepToLast kx_X5_addStepToLast kd_X5_addStepToLast ⟨Nat.le_of_ble_eq_true rfl, Nat.le_of_ble_eq_true rfl⟩) (ty_preV (wr := [(ty_RD rd bt ln tg pl1_59 wst er1_60 ep1_61), (rf_RW ct 0 bt 800 b)]) (E := []) (ws := ws) (ci := 5) hP hK hD hS hA hX hT rfl h_pr) rfl rfl hl.1 rfl (lv_room (Nat.le_of_ble_eq_true rfl)) dX6_readStep_64 ⟨Nat.le_of_ble_eq_true rfl, Nat.le_of_ble_eq_true rfl⟩) hP hD hS hA (fun u H locs hw_67 hP hD hS => ?_)
      obtain ⟨ws_68, rfl⟩ : ∃ z, z = u := ⟨_, rfl⟩
      have hT := hw_67
      have hP : va_P D vwCl ([(ty_RD rd bt ln tg pl1_59 wst er1_60 ep1_61), (rf_RW ct 0 bt 800 b)] ++ ws_68) H := hP
      have hD : va_D A ([(ty_RD rd bt ln tg pl1_59 wst er1_60 ep1_61), (rf_RW ct 0 bt 800 b)] ++ ws_68) := hD
      refine lv_goto (tgt := 174) hx hb dX6_readStep_67 (by decide) ?_
      exact W.vret hx hb hr (fun t ht hW => ⟨⟨(ws_68, pl1_59, er1_60, ep1_61), rfl, ⟨hT, ⟨hb_64, (by simp only [rp_stk, rp_stp, if_neg (fun q => hz_11 (hwd.trans q)), if_pos (hwd.symm.trans hz_44)]; rw [← hw]; exact (rp_seq (ho_55) ho_65.1 (fun e v => by subst e;  exact rp_ow ho_65 (fun z => z.1))))⟩⟩, by rw [ht]; exact hP, by rw [hAe]; exact hD⟩, hS.F ht⟩) hS.2.2 dX6_readStep_174
    · refine lv_if_eq (tgt := 70) hx hb dX6_readStep_41 (by decide) (fun _ => ?_) (fun hc => absurd (by decide) hc)
      refine lv_aload_n hx hb dX6_readStep_70 rfl (lv_at hl 0 rfl) ?_
      obtain ⟨sa_69, sv_70, hsr_71, hss_72⟩ := hX.2.2.2.1 ("CellCycler$Reader", 217, "discharge", [100, 105, 115, 99, 104, 97, 114, 103, 101]) (by decide +kernel)
      refine va_ldcS hx hb hown hsr_71 dX6_readStep_71 ?_
      have hP : va_P D vwCl (([] ++ ws) ++ ([(ty_RD rd bt ln tg pl wst er ep), (rf_RW ct 0 bt 800 b)] ++ ([] : va_W))) H := ty_permP (w1 := (([] ++ [(ty_RD rd bt ln tg pl wst er ep), (rf_RW ct 0 bt 800 b)]) ++ ws)) hP ty_mv2
      have hD : va_D A (([] ++ ws) ++ ([(ty_RD rd bt ln tg pl wst er ep), (rf_RW ct 0 bt 800 b)] ++ ([] : va_W))) := ty_permD (w1 := (([] ++ [(ty_RD rd bt ln tg pl wst er ep), (rf_RW ct 0 bt 800 b)]) ++ ws)) hD ty_mv2
      refine ty_ki (wr := ([] ++ ws)) (wc := ([(ty_RD rd bt ln tg pl wst er ep), (rf_RW ct 0 bt 800 b)] ++ ([] : va_W))) (va_runV (As := [.ref sa_69]) (rest := []) ⟨hx, hb, hml, hown, hts⟩ (r_wordIs l D ct (fun _ => none) [] (fun _ => True) (fun _ _ _ => True) rd bt tg ln pl wst er ep b sa_69 ("CellCycler$Reader", 217, "discharge", [100, 105, 115, 99, 104, 97, 114, 103, 101]) _ ty_V0 ty_C0 ty_y10 hln hpl hws (by decide +kernel)) (cm_V 1 hts kc_X6_wordIs ki_RX6 kl_RX6_28 kv_X6_wordIs kx_X6_wordIs kd_X6_wordIs ⟨Nat.le_of_ble_eq_true rfl, Nat.le_of_ble_eq_true rfl⟩) (cm_preVs (ty_preE (wr := ([] ++ ws)) (wc := ([(ty_RD rd bt ln tg pl wst er ep), (rf_RW ct 0 bt 800 b)] ++ ([] : va_W))) (ci := 6) (q0 := (([] ++ ws) : va_W).length + 0) hP hK hD hS hA hX rfl (ty_app rfl)) hsr_71) rfl rfl hl.1 rfl (lv_room (Nat.le_of_ble_eq_true rfl)) dX6_readStep_73 ⟨Nat.le_of_ble_eq_true rfl, Nat.le_of_ble_eq_true rfl⟩) hP hD hS hA (fun r_73 u H locs hw_74 hP hD hS => ?_)
      obtain ⟨ws_75, rfl⟩ : ∃ z, z = u := ⟨_, rfl⟩
      obtain ⟨hT9_76, hp_77⟩ := hw_74
      have hp_77 : ((r_73 = 1 ∧ rp_wd b wst pl = ("CellCycler$Reader", 217, "discharge", [100, 105, 115, 99, 104, 97, 114, 103, 101]).2.2.2) ∨ (r_73 = 0 ∧ ¬ rp_wd b wst pl = ("CellCycler$Reader", 217, "discharge", [100, 105, 115, 99, 104, 97, 114, 103, 101]).2.2.2)) := hp_77
      have hP : va_P D vwCl ([(ty_RD rd bt ln tg pl wst er ep), (rf_RW ct 0 bt 800 b)] ++ ws) H := ty_bkP hP
      have hD : va_D A ([(ty_RD rd bt ln tg pl wst er ep), (rf_RW ct 0 bt 800 b)] ++ ws) := ty_bkD hD
      rcases hp_77 with ⟨rfl, hz_78⟩ | ⟨rfl, hz_79⟩
      · refine lv_if_eq (tgt := 105) hx hb dX6_readStep_76 (by decide) (fun hc => absurd hc (by decide)) (fun _ => ?_)
        refine lv_aload_n hx hb dX6_readStep_79 rfl (lv_at hl 0 rfl) ?_
        refine lv_iconst (v := 1) hx hb dX6_readStep_80 (by decide) ?_
        refine lv_sipush (v := 5000) hx hb dX6_readStep_81 (by decide) ?_
        have hP : va_P D vwCl (([] ++ ws) ++ ([(ty_RD rd bt ln tg pl wst er ep), (rf_RW ct 0 bt 800 b)] ++ ([] : va_W))) H := ty_permP (w1 := (([] ++ [(ty_RD rd bt ln tg pl wst er ep), (rf_RW ct 0 bt 800 b)]) ++ ws)) hP ty_mv2
        have hD : va_D A (([] ++ ws) ++ ([(ty_RD rd bt ln tg pl wst er ep), (rf_RW ct 0 bt 800 b)] ++ ([] : va_W))) := ty_permD (w1 := (([] ++ [(ty_RD rd bt ln tg pl wst er ep), (rf_RW ct 0 bt 800 b)]) ++ ws)) hD ty_mv2
        refine ty_ki (wr := ([] ++ ws)) (wc := ([(ty_RD rd bt ln tg pl wst er ep), (rf_RW ct 0 bt 800 b)] ++ ([] : va_W))) (va_runV (As := [.int 1, .int 5000]) (rest := []) ⟨hx, hb, hml, hown, hts⟩ (r_readNumber l D ct (fun _ => none) [] (fun _ => True) (fun _ _ _ => True) rd bt tg ln pl wst er ep b (1 : Int32) (5000 : Int32) 1 5000 _ ty_V0 ty_C0 ty_y10 hln hpl (by decide) (by decide)) (cm_V 2 hts kc_X6_readNumber ki_RX6 kl_RX6_74 kv_X6_readNumber kx_X6_readNumber kd_X6_readNumber ⟨Nat.le_of_ble_eq_true rfl, Nat.le_of_ble_eq_true rfl⟩) (ty_preE (wr := ([] ++ ws)) (wc := ([(ty_RD rd bt ln tg pl wst er ep), (rf_RW ct 0 bt 800 b)] ++ ([] : va_W))) (ci := 6) (q0 := (([] ++ ws) : va_W).length + 0) hP hK hD hS hA hX rfl (ty_app rfl)) rfl rfl hl.1 rfl (lv_room (Nat.le_of_ble_eq_true rfl)) dX6_readStep_84 ⟨Nat.le_of_ble_eq_true rfl, Nat.le_of_ble_eq_true rfl⟩) hP hD hS hA (fun r_80 u H locs hw_81 hP hD hS => ?_)
        obtain ⟨ws_82, pl1_83, er1_84, ep1_85⟩ := u
        obtain ⟨hT9_86, hp_87⟩ := hw_81
        have hp_87 : (0 ≤ pl1_83.toInt ∧ pl1_83.toInt ≤ ln.toInt) ∧ rp_o er ep er1_84 ep1_85 (rp_rk b ln 1 5000 pl) (rp_rp b ln 1 5000 pl) (pl1_83 = rp_rp b ln 1 5000 pl ∧ r_80.toInt = rp_rv b ln pl) := hp_87
        have hP : va_P D vwCl ([(ty_RD rd bt ln tg pl1_83 wst er1_84 ep1_85), (rf_RW ct 0 bt 800 b)] ++ ws) H := ty_bkP hP
        have hD : va_D A ([(ty_RD rd bt ln tg pl1_83 wst er1_84 ep1_85), (rf_RW ct 0 bt 800 b)] ++ ws) := ty_bkD hD
        obtain ⟨hb_88, ho_89⟩ := hp_87
        refine lv_istore_n (lv' := [(3, .int r_80), (0, .ref rd), (1, .ref pr), (2, .int p2)]) hx hb dX6_readStep_87 rfl hl (by decide) rfl (fun ls hl => ?_)
        refine lv_aload_n hx hb dX6_readStep_88 rfl (lv_at hl 2 rfl) ?_
        refine lv_iconst (v := 2) hx hb dX6_readStep_89 (by decide) ?_
        refine lv_iload_n hx hb dX6_readStep_90 rfl (lv_at hl 0 rfl) ?_
        refine lv_aload_n hx hb dX6_readStep_91 rfl (lv_at hl 1 rfl) ?_
        refine lv_iconst (v := 0) hx hb dX6_readStep_92 (by decide) ?_
        refine lv_sipush (v := 5000) hx hb dX6_readStep_93 (by decide) ?_
        have hP : va_P D vwCl (([] ++ ws) ++ ([(ty_RD rd bt ln tg pl1_83 wst er1_84 ep1_85), (rf_RW ct 0 bt 800 b)] ++ ([] : va_W))) H := ty_permP (w1 := (([] ++ [(ty_RD rd bt ln tg pl1_83 wst er1_84 ep1_85), (rf_RW ct 0 bt 800 b)]) ++ ws)) hP ty_mv2
        have hD : va_D A (([] ++ ws) ++ ([(ty_RD rd bt ln tg pl1_83 wst er1_84 ep1_85), (rf_RW ct 0 bt 800 b)] ++ ([] : va_W))) := ty_permD (w1 := (([] ++ [(ty_RD rd bt ln tg pl1_83 wst er1_84 ep1_85), (rf_RW ct 0 bt 800 b)]) ++ ws)) hD ty_mv2
        refine ty_ki (wr := ([] ++ ws)) (wc := ([(ty_RD rd bt ln tg pl1_83 wst er1_84 ep1_85), (rf_RW ct 0 bt 800 b)] ++ ([] : va_W))) (va_runV (As := [.int 0, .int 5000]) (rest := [.int r_80, .int 2, .ref pr]) ⟨hx, hb, hml, hown, hts⟩ (r_readNumber l D ct (fun _ => none) [] (fun _ => True) (fun _ _ _ => True) rd bt tg ln pl1_83 wst er1_84 ep1_85 b (0 : Int32) (5000 : Int32) 0 5000 _ ty_V0 ty_C0 ty_y10 hln hb_88 (by decide) (by decide)) (cm_V 2 hts kc_X6_readNumber ki_RX6 kl_RX6_74 kv_X6_readNumber kx_X6_readNumber kd_X6_readNumber ⟨Nat.le_of_ble_eq_true rfl, Nat.le_of_ble_eq_true rfl⟩) (ty_preE (wr := ([] ++ ws)) (wc := ([(ty_RD rd bt ln tg pl1_83 wst er1_84 ep1_85), (rf_RW ct 0 bt 800 b)] ++ ([] : va_W))) (ci := 6) (q0 := (([] ++ ws) : va_W).length + 0) hP hK hD hS hA hX rfl (ty_app rfl)) rfl rfl hl.1 rfl (lv_room (Nat.le_of_ble_eq_true rfl)) dX6_readStep_96 ⟨Nat.le_of_ble_eq_true rfl, Nat.le_of_ble_eq_true rfl⟩) hP hD hS hA (fun r_90 u H locs hw_91 hP hD hS => ?_)
        obtain ⟨ws_92, pl1_93, er1_94, ep1_95⟩ := u
        obtain ⟨hT9_96, hp_97⟩ := hw_91
        have hp_97 : (0 ≤ pl1_93.toInt ∧ pl1_93.toInt ≤ ln.toInt) ∧ rp_o er1_84 ep1_85 er1_94 ep1_95 (rp_rk b ln 0 5000 pl1_83) (rp_rp b ln 0 5000 pl1_83) (pl1_93 = rp_rp b ln 0 5000 pl1_83 ∧ r_90.toInt = rp_rv b ln pl1_83) := hp_97
        have hP : va_P D vwCl ([(ty_RD rd bt ln tg pl1_93 wst er1_94 ep1_95), (rf_RW ct 0 bt 800 b)] ++ ws) H := ty_bkP hP
        have hD : va_D A ([(ty_RD rd bt ln tg pl1_93 wst er1_94 ep1_95), (rf_RW ct 0 bt 800 b)] ++ ws) := ty_bkD hD
        obtain ⟨hb_98, ho_99⟩ := hp_97
        refine ty_kv (wr := [(ty_RD rd bt ln tg pl1_93 wst er1_94 ep1_95), (rf_RW ct 0 bt 800 b)]) (wc := ([] ++ ws)) (va_runVN (As := [.int 2, .int r_80, .int r_90]) (rest := []) ⟨hx, hb, hml, hown, hts⟩ (t_X5_addStepToLast l D ct S ws (rp_F ps cu na pr ch cnt nc np nf) rp_xF pr (2 : Int32) r_80 r_90 _ hT h_pr rp_FC rp_F1) (cm_VN 3 hts kc_X5_addStepToLast ki_RX5 kl_RX6_211 kv_X5_addStepToLast kx_X5_addStepToLast kd_X5_addStepToLast ⟨Nat.le_of_ble_eq_true rfl, Nat.le_of_ble_eq_true rfl⟩) (ty_preV (wr := [(ty_RD rd bt ln tg pl1_93 wst er1_94 ep1_95), (rf_RW ct 0 bt 800 b)]) (E := []) (ws := ws) (ci := 5) hP hK hD hS hA hX hT rfl h_pr) rfl rfl hl.1 rfl (lv_room (Nat.le_of_ble_eq_true rfl)) dX6_readStep_99 ⟨Nat.le_of_ble_eq_true rfl, Nat.le_of_ble_eq_true rfl⟩) hP hD hS hA (fun u H locs hw_101 hP hD hS => ?_)
        obtain ⟨ws_102, rfl⟩ : ∃ z, z = u := ⟨_, rfl⟩
        have hT := hw_101
        have hP : va_P D vwCl ([(ty_RD rd bt ln tg pl1_93 wst er1_94 ep1_95), (rf_RW ct 0 bt 800 b)] ++ ws_102) H := hP
        have hD : va_D A ([(ty_RD rd bt ln tg pl1_93 wst er1_94 ep1_95), (rf_RW ct 0 bt 800 b)] ++ ws_102) := hD
        refine lv_goto (tgt := 174) hx hb dX6_readStep_102 (by decide) ?_
        exact W.vret hx hb hr (fun t ht hW => ⟨⟨(ws_102, pl1_93, er1_94, ep1_95), rfl, ⟨hT, ⟨hb_98, (by simp only [rp_stk, rp_stp, if_neg (fun q => hz_11 (hwd.trans q)), if_neg (fun q => hz_45 (hwd.trans q)), if_pos (hwd.symm.trans hz_78)]; rw [← hw]; exact (rp_seq (ho_89) ho_99.1 (fun e v => by subst e;  exact rp_ow ho_99 (fun z => z.1))))⟩⟩, by rw [ht]; exact hP, by rw [hAe]; exact hD⟩, hS.F ht⟩) hS.2.2 dX6_readStep_174
      · refine lv_if_eq (tgt := 105) hx hb dX6_readStep_76 (by decide) (fun _ => ?_) (fun hc => absurd (by decide) hc)
        refine lv_aload_n hx hb dX6_readStep_105 rfl (lv_at hl 0 rfl) ?_
        obtain ⟨sa_103, sv_104, hsr_105, hss_106⟩ := hX.2.2.2.1 ("CellCycler$Reader", 219, "rest", [114, 101, 115, 116]) (by decide +kernel)
        refine va_ldcS hx hb hown hsr_105 dX6_readStep_106 ?_
        have hP : va_P D vwCl (([] ++ ws) ++ ([(ty_RD rd bt ln tg pl wst er ep), (rf_RW ct 0 bt 800 b)] ++ ([] : va_W))) H := ty_permP (w1 := (([] ++ [(ty_RD rd bt ln tg pl wst er ep), (rf_RW ct 0 bt 800 b)]) ++ ws)) hP ty_mv2
        have hD : va_D A (([] ++ ws) ++ ([(ty_RD rd bt ln tg pl wst er ep), (rf_RW ct 0 bt 800 b)] ++ ([] : va_W))) := ty_permD (w1 := (([] ++ [(ty_RD rd bt ln tg pl wst er ep), (rf_RW ct 0 bt 800 b)]) ++ ws)) hD ty_mv2
        refine ty_ki (wr := ([] ++ ws)) (wc := ([(ty_RD rd bt ln tg pl wst er ep), (rf_RW ct 0 bt 800 b)] ++ ([] : va_W))) (va_runV (As := [.ref sa_103]) (rest := []) ⟨hx, hb, hml, hown, hts⟩ (r_wordIs l D ct (fun _ => none) [] (fun _ => True) (fun _ _ _ => True) rd bt tg ln pl wst er ep b sa_103 ("CellCycler$Reader", 219, "rest", [114, 101, 115, 116]) _ ty_V0 ty_C0 ty_y10 hln hpl hws (by decide +kernel)) (cm_V 1 hts kc_X6_wordIs ki_RX6 kl_RX6_28 kv_X6_wordIs kx_X6_wordIs kd_X6_wordIs ⟨Nat.le_of_ble_eq_true rfl, Nat.le_of_ble_eq_true rfl⟩) (cm_preVs (ty_preE (wr := ([] ++ ws)) (wc := ([(ty_RD rd bt ln tg pl wst er ep), (rf_RW ct 0 bt 800 b)] ++ ([] : va_W))) (ci := 6) (q0 := (([] ++ ws) : va_W).length + 0) hP hK hD hS hA hX rfl (ty_app rfl)) hsr_105) rfl rfl hl.1 rfl (lv_room (Nat.le_of_ble_eq_true rfl)) dX6_readStep_108 ⟨Nat.le_of_ble_eq_true rfl, Nat.le_of_ble_eq_true rfl⟩) hP hD hS hA (fun r_107 u H locs hw_108 hP hD hS => ?_)
        obtain ⟨ws_109, rfl⟩ : ∃ z, z = u := ⟨_, rfl⟩
        obtain ⟨hT9_110, hp_111⟩ := hw_108
        have hp_111 : ((r_107 = 1 ∧ rp_wd b wst pl = ("CellCycler$Reader", 219, "rest", [114, 101, 115, 116]).2.2.2) ∨ (r_107 = 0 ∧ ¬ rp_wd b wst pl = ("CellCycler$Reader", 219, "rest", [114, 101, 115, 116]).2.2.2)) := hp_111
        have hP : va_P D vwCl ([(ty_RD rd bt ln tg pl wst er ep), (rf_RW ct 0 bt 800 b)] ++ ws) H := ty_bkP hP
        have hD : va_D A ([(ty_RD rd bt ln tg pl wst er ep), (rf_RW ct 0 bt 800 b)] ++ ws) := ty_bkD hD
        rcases hp_111 with ⟨rfl, hz_112⟩ | ⟨rfl, hz_113⟩
        · refine lv_if_eq (tgt := 131) hx hb dX6_readStep_111 (by decide) (fun hc => absurd hc (by decide)) (fun _ => ?_)
          refine lv_aload_n hx hb dX6_readStep_114 rfl (lv_at hl 1 rfl) ?_
          refine lv_iconst (v := 3) hx hb dX6_readStep_115 (by decide) ?_
          refine lv_aload_n hx hb dX6_readStep_116 rfl (lv_at hl 0 rfl) ?_
          refine lv_iconst (v := 1) hx hb dX6_readStep_117 (by decide) ?_
          refine lv_sipush (v := 5000) hx hb dX6_readStep_118 (by decide) ?_
          have hP : va_P D vwCl (([] ++ ws) ++ ([(ty_RD rd bt ln tg pl wst er ep), (rf_RW ct 0 bt 800 b)] ++ ([] : va_W))) H := ty_permP (w1 := (([] ++ [(ty_RD rd bt ln tg pl wst er ep), (rf_RW ct 0 bt 800 b)]) ++ ws)) hP ty_mv2
          have hD : va_D A (([] ++ ws) ++ ([(ty_RD rd bt ln tg pl wst er ep), (rf_RW ct 0 bt 800 b)] ++ ([] : va_W))) := ty_permD (w1 := (([] ++ [(ty_RD rd bt ln tg pl wst er ep), (rf_RW ct 0 bt 800 b)]) ++ ws)) hD ty_mv2
          refine ty_ki (wr := ([] ++ ws)) (wc := ([(ty_RD rd bt ln tg pl wst er ep), (rf_RW ct 0 bt 800 b)] ++ ([] : va_W))) (va_runV (As := [.int 1, .int 5000]) (rest := [.int 3, .ref pr]) ⟨hx, hb, hml, hown, hts⟩ (r_readNumber l D ct (fun _ => none) [] (fun _ => True) (fun _ _ _ => True) rd bt tg ln pl wst er ep b (1 : Int32) (5000 : Int32) 1 5000 _ ty_V0 ty_C0 ty_y10 hln hpl (by decide) (by decide)) (cm_V 2 hts kc_X6_readNumber ki_RX6 kl_RX6_74 kv_X6_readNumber kx_X6_readNumber kd_X6_readNumber ⟨Nat.le_of_ble_eq_true rfl, Nat.le_of_ble_eq_true rfl⟩) (ty_preE (wr := ([] ++ ws)) (wc := ([(ty_RD rd bt ln tg pl wst er ep), (rf_RW ct 0 bt 800 b)] ++ ([] : va_W))) (ci := 6) (q0 := (([] ++ ws) : va_W).length + 0) hP hK hD hS hA hX rfl (ty_app rfl)) rfl rfl hl.1 rfl (lv_room (Nat.le_of_ble_eq_true rfl)) dX6_readStep_121 ⟨Nat.le_of_ble_eq_true rfl, Nat.le_of_ble_eq_true rfl⟩) hP hD hS hA (fun r_114 u H locs hw_115 hP hD hS => ?_)
          obtain ⟨ws_116, pl1_117, er1_118, ep1_119⟩ := u
          obtain ⟨hT9_120, hp_121⟩ := hw_115
          have hp_121 : (0 ≤ pl1_117.toInt ∧ pl1_117.toInt ≤ ln.toInt) ∧ rp_o er ep er1_118 ep1_119 (rp_rk b ln 1 5000 pl) (rp_rp b ln 1 5000 pl) (pl1_117 = rp_rp b ln 1 5000 pl ∧ r_114.toInt = rp_rv b ln pl) := hp_121
          have hP : va_P D vwCl ([(ty_RD rd bt ln tg pl1_117 wst er1_118 ep1_119), (rf_RW ct 0 bt 800 b)] ++ ws) H := ty_bkP hP
          have hD : va_D A ([(ty_RD rd bt ln tg pl1_117 wst er1_118 ep1_119), (rf_RW ct 0 bt 800 b)] ++ ws) := ty_bkD hD
          obtain ⟨hb_122, ho_123⟩ := hp_121
          refine lv_iconst (v := 0) hx hb dX6_readStep_124 (by decide) ?_
          refine ty_kv (wr := [(ty_RD rd bt ln tg pl1_117 wst er1_118 ep1_119), (rf_RW ct 0 bt 800 b)]) (wc := ([] ++ ws)) (va_runVN (As := [.int 3, .int r_114, .int 0]) (rest := []) ⟨hx, hb, hml, hown, hts⟩ (t_X5_addStepToLast l D ct S ws (rp_F ps cu na pr ch cnt nc np nf) rp_xF pr (3 : Int32) r_114 (0 : Int32) _ hT h_pr rp_FC rp_F1) (cm_VN 3 hts kc_X5_addStepToLast ki_RX5 kl_RX6_211 kv_X5_addStepToLast kx_X5_addStepToLast kd_X5_addStepToLast ⟨Nat.le_of_ble_eq_true rfl, Nat.le_of_ble_eq_true rfl⟩) (ty_preV (wr := [(ty_RD rd bt ln tg pl1_117 wst er1_118 ep1_119), (rf_RW ct 0 bt 800 b)]) (E := []) (ws := ws) (ci := 5) hP hK hD hS hA hX hT rfl h_pr) rfl rfl hl.1 rfl (lv_room (Nat.le_of_ble_eq_true rfl)) dX6_readStep_125 ⟨Nat.le_of_ble_eq_true rfl, Nat.le_of_ble_eq_true rfl⟩) hP hD hS hA (fun u H locs hw_125 hP hD hS => ?_)
          obtain ⟨ws_126, rfl⟩ : ∃ z, z = u := ⟨_, rfl⟩
          have hT := hw_125
          have hP : va_P D vwCl ([(ty_RD rd bt ln tg pl1_117 wst er1_118 ep1_119), (rf_RW ct 0 bt 800 b)] ++ ws_126) H := hP
          have hD : va_D A ([(ty_RD rd bt ln tg pl1_117 wst er1_118 ep1_119), (rf_RW ct 0 bt 800 b)] ++ ws_126) := hD
          refine lv_goto (tgt := 174) hx hb dX6_readStep_128 (by decide) ?_
          exact W.vret hx hb hr (fun t ht hW => ⟨⟨(ws_126, pl1_117, er1_118, ep1_119), rfl, ⟨hT, ⟨hb_122, (by simp only [rp_stk, rp_stp, if_neg (fun q => hz_11 (hwd.trans q)), if_neg (fun q => hz_45 (hwd.trans q)), if_neg (fun q => hz_79 (hwd.trans q)), if_pos (hwd.symm.trans hz_112)]; rw [← hw]; exact (rp_ow ho_123 (fun z => z.1)))⟩⟩, by rw [ht]; exact hP, by rw [hAe]; exact hD⟩, hS.F ht⟩) hS.2.2 dX6_readStep_174
        · refine lv_if_eq (tgt := 131) hx hb dX6_readStep_111 (by decide) (fun _ => ?_) (fun hc => absurd (by decide) hc)
          refine lv_aload_n hx hb dX6_readStep_131 rfl (lv_at hl 0 rfl) ?_
          obtain ⟨sa_127, sv_128, hsr_129, hss_130⟩ := hX.2.2.2.1 ("CellCycler$Reader", 221, "repeat", [114, 101, 112, 101, 97, 116]) (by decide +kernel)
          refine va_ldcS hx hb hown hsr_129 dX6_readStep_132 ?_
          have hP : va_P D vwCl (([] ++ ws) ++ ([(ty_RD rd bt ln tg pl wst er ep), (rf_RW ct 0 bt 800 b)] ++ ([] : va_W))) H := ty_permP (w1 := (([] ++ [(ty_RD rd bt ln tg pl wst er ep), (rf_RW ct 0 bt 800 b)]) ++ ws)) hP ty_mv2
          have hD : va_D A (([] ++ ws) ++ ([(ty_RD rd bt ln tg pl wst er ep), (rf_RW ct 0 bt 800 b)] ++ ([] : va_W))) := ty_permD (w1 := (([] ++ [(ty_RD rd bt ln tg pl wst er ep), (rf_RW ct 0 bt 800 b)]) ++ ws)) hD ty_mv2
          refine ty_ki (wr := ([] ++ ws)) (wc := ([(ty_RD rd bt ln tg pl wst er ep), (rf_RW ct 0 bt 800 b)] ++ ([] : va_W))) (va_runV (As := [.ref sa_127]) (rest := []) ⟨hx, hb, hml, hown, hts⟩ (r_wordIs l D ct (fun _ => none) [] (fun _ => True) (fun _ _ _ => True) rd bt tg ln pl wst er ep b sa_127 ("CellCycler$Reader", 221, "repeat", [114, 101, 112, 101, 97, 116]) _ ty_V0 ty_C0 ty_y10 hln hpl hws (by decide +kernel)) (cm_V 1 hts kc_X6_wordIs ki_RX6 kl_RX6_28 kv_X6_wordIs kx_X6_wordIs kd_X6_wordIs ⟨Nat.le_of_ble_eq_true rfl, Nat.le_of_ble_eq_true rfl⟩) (cm_preVs (ty_preE (wr := ([] ++ ws)) (wc := ([(ty_RD rd bt ln tg pl wst er ep), (rf_RW ct 0 bt 800 b)] ++ ([] : va_W))) (ci := 6) (q0 := (([] ++ ws) : va_W).length + 0) hP hK hD hS hA hX rfl (ty_app rfl)) hsr_129) rfl rfl hl.1 rfl (lv_room (Nat.le_of_ble_eq_true rfl)) dX6_readStep_134 ⟨Nat.le_of_ble_eq_true rfl, Nat.le_of_ble_eq_true rfl⟩) hP hD hS hA (fun r_131 u H locs hw_132 hP hD hS => ?_)
          obtain ⟨ws_133, rfl⟩ : ∃ z, z = u := ⟨_, rfl⟩
          obtain ⟨hT9_134, hp_135⟩ := hw_132
          have hp_135 : ((r_131 = 1 ∧ rp_wd b wst pl = ("CellCycler$Reader", 221, "repeat", [114, 101, 112, 101, 97, 116]).2.2.2) ∨ (r_131 = 0 ∧ ¬ rp_wd b wst pl = ("CellCycler$Reader", 221, "repeat", [114, 101, 112, 101, 97, 116]).2.2.2)) := hp_135
          have hP : va_P D vwCl ([(ty_RD rd bt ln tg pl wst er ep), (rf_RW ct 0 bt 800 b)] ++ ws) H := ty_bkP hP
          have hD : va_D A ([(ty_RD rd bt ln tg pl wst er ep), (rf_RW ct 0 bt 800 b)] ++ ws) := ty_bkD hD
          rcases hp_135 with ⟨rfl, hz_136⟩ | ⟨rfl, hz_137⟩
          · refine lv_if_eq (tgt := 165) hx hb dX6_readStep_137 (by decide) (fun hc => absurd hc (by decide)) (fun _ => ?_)
            refine lv_aload_n hx hb dX6_readStep_140 rfl (lv_at hl 0 rfl) ?_
            refine lv_iconst (v := 0) hx hb dX6_readStep_141 (by decide) ?_
            refine lv_iload_n hx hb dX6_readStep_142 rfl (lv_at hl 2 rfl) ?_
            refine lv_iconst (v := 1) hx hb dX6_readStep_143 (by decide) ?_
            refine lv_isub hx hb dX6_readStep_144 ?_
            have hP : va_P D vwCl (([] ++ ws) ++ ([(ty_RD rd bt ln tg pl wst er ep), (rf_RW ct 0 bt 800 b)] ++ ([] : va_W))) H := ty_permP (w1 := (([] ++ [(ty_RD rd bt ln tg pl wst er ep), (rf_RW ct 0 bt 800 b)]) ++ ws)) hP ty_mv2
            have hD : va_D A (([] ++ ws) ++ ([(ty_RD rd bt ln tg pl wst er ep), (rf_RW ct 0 bt 800 b)] ++ ([] : va_W))) := ty_permD (w1 := (([] ++ [(ty_RD rd bt ln tg pl wst er ep), (rf_RW ct 0 bt 800 b)]) ++ ws)) hD ty_mv2
            refine ty_ki (wr := ([] ++ ws)) (wc := ([(ty_RD rd bt ln tg pl wst er ep), (rf_RW ct 0 bt 800 b)] ++ ([] : va_W))) (va_runV (As := [.int 0, .int (p2 - 1)]) (rest := []) ⟨hx, hb, hml, hown, hts⟩ (r_readNumber l D ct (fun _ => none) [] (fun _ => True) (fun _ _ _ => True) rd bt tg ln pl wst er ep b (0 : Int32) (p2 - 1) 0 (p2.toInt - 1) _ ty_V0 ty_C0 ty_y10 hln hpl (by decide) (rp_mm1 hst.1)) (cm_V 2 hts kc_X6_readNumber ki_RX6 kl_RX6_74 kv_X6_readNumber kx_X6_readNumber kd_X6_readNumber ⟨Nat.le_of_ble_eq_true rfl, Nat.le_of_ble_eq_true rfl⟩) (ty_preE (wr := ([] ++ ws)) (wc := ([(ty_RD rd bt ln tg pl wst er ep), (rf_RW ct 0 bt 800 b)] ++ ([] : va_W))) (ci := 6) (q0 := (([] ++ ws) : va_W).length + 0) hP hK hD hS hA hX rfl (ty_app rfl)) rfl rfl hl.1 rfl (lv_room (Nat.le_of_ble_eq_true rfl)) dX6_readStep_145 ⟨Nat.le_of_ble_eq_true rfl, Nat.le_of_ble_eq_true rfl⟩) hP hD hS hA (fun r_138 u H locs hw_139 hP hD hS => ?_)
            obtain ⟨ws_140, pl1_141, er1_142, ep1_143⟩ := u
            obtain ⟨hT9_144, hp_145⟩ := hw_139
            have hp_145 : (0 ≤ pl1_141.toInt ∧ pl1_141.toInt ≤ ln.toInt) ∧ rp_o er ep er1_142 ep1_143 (rp_rk b ln 0 (p2.toInt - 1) pl) (rp_rp b ln 0 (p2.toInt - 1) pl) (pl1_141 = rp_rp b ln 0 (p2.toInt - 1) pl ∧ r_138.toInt = rp_rv b ln pl) := hp_145
            have hP : va_P D vwCl ([(ty_RD rd bt ln tg pl1_141 wst er1_142 ep1_143), (rf_RW ct 0 bt 800 b)] ++ ws) H := ty_bkP hP
            have hD : va_D A ([(ty_RD rd bt ln tg pl1_141 wst er1_142 ep1_143), (rf_RW ct 0 bt 800 b)] ++ ws) := ty_bkD hD
            obtain ⟨hb_146, ho_147⟩ := hp_145
            refine lv_istore_n (lv' := [(3, .int r_138), (0, .ref rd), (1, .ref pr), (2, .int p2)]) hx hb dX6_readStep_148 rfl hl (by decide) rfl (fun ls hl => ?_)
            refine lv_aload_n hx hb dX6_readStep_149 rfl (lv_at hl 2 rfl) ?_
            refine lv_iconst (v := 4) hx hb dX6_readStep_150 (by decide) ?_
            refine lv_iload_n hx hb dX6_readStep_151 rfl (lv_at hl 0 rfl) ?_
            refine lv_aload_n hx hb dX6_readStep_152 rfl (lv_at hl 1 rfl) ?_
            refine lv_iconst (v := 1) hx hb dX6_readStep_153 (by decide) ?_
            refine lv_bipush (v := 50) hx hb dX6_readStep_154 (by decide) ?_
            have hP : va_P D vwCl (([] ++ ws) ++ ([(ty_RD rd bt ln tg pl1_141 wst er1_142 ep1_143), (rf_RW ct 0 bt 800 b)] ++ ([] : va_W))) H := ty_permP (w1 := (([] ++ [(ty_RD rd bt ln tg pl1_141 wst er1_142 ep1_143), (rf_RW ct 0 bt 800 b)]) ++ ws)) hP ty_mv2
            have hD : va_D A (([] ++ ws) ++ ([(ty_RD rd bt ln tg pl1_141 wst er1_142 ep1_143), (rf_RW ct 0 bt 800 b)] ++ ([] : va_W))) := ty_permD (w1 := (([] ++ [(ty_RD rd bt ln tg pl1_141 wst er1_142 ep1_143), (rf_RW ct 0 bt 800 b)]) ++ ws)) hD ty_mv2
            refine ty_ki (wr := ([] ++ ws)) (wc := ([(ty_RD rd bt ln tg pl1_141 wst er1_142 ep1_143), (rf_RW ct 0 bt 800 b)] ++ ([] : va_W))) (va_runV (As := [.int 1, .int 50]) (rest := [.int r_138, .int 4, .ref pr]) ⟨hx, hb, hml, hown, hts⟩ (r_readNumber l D ct (fun _ => none) [] (fun _ => True) (fun _ _ _ => True) rd bt tg ln pl1_141 wst er1_142 ep1_143 b (1 : Int32) (50 : Int32) 1 50 _ ty_V0 ty_C0 ty_y10 hln hb_146 (by decide) (by decide)) (cm_V 2 hts kc_X6_readNumber ki_RX6 kl_RX6_74 kv_X6_readNumber kx_X6_readNumber kd_X6_readNumber ⟨Nat.le_of_ble_eq_true rfl, Nat.le_of_ble_eq_true rfl⟩) (ty_preE (wr := ([] ++ ws)) (wc := ([(ty_RD rd bt ln tg pl1_141 wst er1_142 ep1_143), (rf_RW ct 0 bt 800 b)] ++ ([] : va_W))) (ci := 6) (q0 := (([] ++ ws) : va_W).length + 0) hP hK hD hS hA hX rfl (ty_app rfl)) rfl rfl hl.1 rfl (lv_room (Nat.le_of_ble_eq_true rfl)) dX6_readStep_156 ⟨Nat.le_of_ble_eq_true rfl, Nat.le_of_ble_eq_true rfl⟩) hP hD hS hA (fun r_148 u H locs hw_149 hP hD hS => ?_)
            obtain ⟨ws_150, pl1_151, er1_152, ep1_153⟩ := u
            obtain ⟨hT9_154, hp_155⟩ := hw_149
            have hp_155 : (0 ≤ pl1_151.toInt ∧ pl1_151.toInt ≤ ln.toInt) ∧ rp_o er1_142 ep1_143 er1_152 ep1_153 (rp_rk b ln 1 50 pl1_141) (rp_rp b ln 1 50 pl1_141) (pl1_151 = rp_rp b ln 1 50 pl1_141 ∧ r_148.toInt = rp_rv b ln pl1_141) := hp_155
            have hP : va_P D vwCl ([(ty_RD rd bt ln tg pl1_151 wst er1_152 ep1_153), (rf_RW ct 0 bt 800 b)] ++ ws) H := ty_bkP hP
            have hD : va_D A ([(ty_RD rd bt ln tg pl1_151 wst er1_152 ep1_153), (rf_RW ct 0 bt 800 b)] ++ ws) := ty_bkD hD
            obtain ⟨hb_156, ho_157⟩ := hp_155
            refine ty_kv (wr := [(ty_RD rd bt ln tg pl1_151 wst er1_152 ep1_153), (rf_RW ct 0 bt 800 b)]) (wc := ([] ++ ws)) (va_runVN (As := [.int 4, .int r_138, .int r_148]) (rest := []) ⟨hx, hb, hml, hown, hts⟩ (t_X5_addStepToLast l D ct S ws (rp_F ps cu na pr ch cnt nc np nf) rp_xF pr (4 : Int32) r_138 r_148 _ hT h_pr rp_FC rp_F1) (cm_VN 3 hts kc_X5_addStepToLast ki_RX5 kl_RX6_211 kv_X5_addStepToLast kx_X5_addStepToLast kd_X5_addStepToLast ⟨Nat.le_of_ble_eq_true rfl, Nat.le_of_ble_eq_true rfl⟩) (ty_preV (wr := [(ty_RD rd bt ln tg pl1_151 wst er1_152 ep1_153), (rf_RW ct 0 bt 800 b)]) (E := []) (ws := ws) (ci := 5) hP hK hD hS hA hX hT rfl h_pr) rfl rfl hl.1 rfl (lv_room (Nat.le_of_ble_eq_true rfl)) dX6_readStep_159 ⟨Nat.le_of_ble_eq_true rfl, Nat.le_of_ble_eq_true rfl⟩) hP hD hS hA (fun u H locs hw_159 hP hD hS => ?_)
            obtain ⟨ws_160, rfl⟩ : ∃ z, z = u := ⟨_, rfl⟩
            have hT := hw_159
            have hP : va_P D vwCl ([(ty_RD rd bt ln tg pl1_151 wst er1_152 ep1_153), (rf_RW ct 0 bt 800 b)] ++ ws_160) H := hP
            have hD : va_D A ([(ty_RD rd bt ln tg pl1_151 wst er1_152 ep1_153), (rf_RW ct 0 bt 800 b)] ++ ws_160) := hD
            refine lv_goto (tgt := 174) hx hb dX6_readStep_162 (by decide) ?_
            exact W.vret hx hb hr (fun t ht hW => ⟨⟨(ws_160, pl1_151, er1_152, ep1_153), rfl, ⟨hT, ⟨hb_156, (by simp only [rp_stk, rp_stp, if_neg (fun q => hz_11 (hwd.trans q)), if_neg (fun q => hz_45 (hwd.trans q)), if_neg (fun q => hz_79 (hwd.trans q)), if_neg (fun q => hz_113 (hwd.trans q)), if_pos (hwd.symm.trans hz_136)]; rw [← hw]; exact (rp_seq (ho_147) ho_157.1 (fun e v => by subst e;  exact rp_ow ho_157 (fun z => z.1))))⟩⟩, by rw [ht]; exact hP, by rw [hAe]; exact hD⟩, hS.F ht⟩) hS.2.2 dX6_readStep_174
          · refine lv_if_eq (tgt := 165) hx hb dX6_readStep_137 (by decide) (fun _ => ?_) (fun hc => absurd (by decide) hc)
            refine lv_aload_n hx hb dX6_readStep_165 rfl (lv_at hl 0 rfl) ?_
            refine lv_iconst (v := 1) hx hb dX6_readStep_166 (by decide) ?_
            refine lv_aload_n hx hb dX6_readStep_167 rfl (lv_at hl 0 rfl) ?_
            refine va_get (v := .int wst) (D := D) (ci := 6) (C := RX6) (T := TX6) (N := 7) hx hb hts in_X6 hown hK hP 0 rfl rfl 4 (by decide) (hts _ kl_RX6_130) (fun _ h9 => h9) rfl dX6_readStep_168 ?_
            have hP : va_P D vwCl ([(rf_RW ct 0 bt 800 b), (ty_RD rd bt ln tg pl wst er ep)] ++ ws) H := ty_permP hP (ty_ordp (E := [(ty_RD rd bt ln tg pl wst er ep), (rf_RW ct 0 bt 800 b)]) (E2 := [(rf_RW ct 0 bt 800 b), (ty_RD rd bt ln tg pl wst er ep)]) (n := 2) [1, 0] rfl rfl (by decide))
            have hD : va_D A ([(rf_RW ct 0 bt 800 b), (ty_RD rd bt ln tg pl wst er ep)] ++ ws) := ty_permD hD (ty_ordp (E := [(ty_RD rd bt ln tg pl wst er ep), (rf_RW ct 0 bt 800 b)]) (E2 := [(rf_RW ct 0 bt 800 b), (ty_RD rd bt ln tg pl wst er ep)]) (n := 2) [1, 0] rfl rfl (by decide))
            have hP : va_P D vwCl (([(rf_RW ct 0 bt 800 b)] ++ ws) ++ ([(ty_RD rd bt ln tg pl wst er ep)] ++ ([] : va_W))) H := ty_permP (w1 := (([(rf_RW ct 0 bt 800 b)] ++ [(ty_RD rd bt ln tg pl wst er ep)]) ++ ws)) hP ty_mv2
            have hD : va_D A (([(rf_RW ct 0 bt 800 b)] ++ ws) ++ ([(ty_RD rd bt ln tg pl wst er ep)] ++ ([] : va_W))) := ty_permD (w1 := (([(rf_RW ct 0 bt 800 b)] ++ [(ty_RD rd bt ln tg pl wst er ep)]) ++ ws)) hD ty_mv2
            refine ty_kv (wr := ([(rf_RW ct 0 bt 800 b)] ++ ws)) (wc := ([(ty_RD rd bt ln tg pl wst er ep)] ++ ([] : va_W))) (va_runV (As := [.int 1, .int wst]) (rest := []) ⟨hx, hb, hml, hown, hts⟩ (r_fail l D ct (fun _ => none) [] (fun _ => True) (fun _ _ _ => True) rd bt tg ln pl wst er ep (1 : Int32) wst _ ty_V0 ty_C0 ty_y10 (by decide)) (cm_V 2 hts kc_X6_fail ki_RX6 kl_RX6_68 kv_X6_fail kx_X6_fail kd_X6_fail ⟨Nat.le_of_ble_eq_true rfl, Nat.le_of_ble_eq_true rfl⟩) (ty_preE (wr := ([(rf_RW ct 0 bt 800 b)] ++ ws)) (wc := ([(ty_RD rd bt ln tg pl wst er ep)] ++ ([] : va_W))) (ci := 6) (q0 := (([(rf_RW ct 0 bt 800 b)] ++ ws) : va_W).length + 0) hP hK hD hS hA hX rfl (ty_app rfl)) rfl rfl hl.1 rfl (lv_room (Nat.le_of_ble_eq_true rfl)) dX6_readStep_171 ⟨Nat.le_of_ble_eq_true rfl, Nat.le_of_ble_eq_true rfl⟩) hP hD hS hA (fun u H locs hw_162 hP hD hS => ?_)
            obtain ⟨ws_163, er1_164, ep1_165⟩ := u
            obtain ⟨hT9_166, hp_167⟩ := hw_162
            have hp_167 : rp_o er ep er1_164 ep1_165 (1 : Int32) wst True := hp_167
            have hP : va_P D vwCl ([(rf_RW ct 0 bt 800 b), (ty_RD rd bt ln tg pl wst er1_164 ep1_165)] ++ ws) H := ty_bkP hP
            have hD : va_D A ([(rf_RW ct 0 bt 800 b), (ty_RD rd bt ln tg pl wst er1_164 ep1_165)] ++ ws) := ty_bkD hD
            have hP : va_P D vwCl ([(ty_RD rd bt ln tg pl wst er1_164 ep1_165), (rf_RW ct 0 bt 800 b)] ++ ws) H := ty_permP hP (ty_ordp (E := [(rf_RW ct 0 bt 800 b), (ty_RD rd bt ln tg pl wst er1_164 ep1_165)]) (E2 := [(ty_RD rd bt ln tg pl wst er1_164 ep1_165), (rf_RW ct 0 bt 800 b)]) (n := 2) [1, 0] rfl rfl (by decide))
            have hD : va_D A ([(ty_RD rd bt ln tg pl wst er1_164 ep1_165), (rf_RW ct 0 bt 800 b)] ++ ws) := ty_permD hD (ty_ordp (E := [(rf_RW ct 0 bt 800 b), (ty_RD rd bt ln tg pl wst er1_164 ep1_165)]) (E2 := [(ty_RD rd bt ln tg pl wst er1_164 ep1_165), (rf_RW ct 0 bt 800 b)]) (n := 2) [1, 0] rfl rfl (by decide))
            exact W.vret hx hb hr (fun t ht hW => ⟨⟨(ws, pl, er1_164, ep1_165), rfl, ⟨hT, ⟨hpl, (by simp only [rp_stk, rp_stp, if_neg (fun q => hz_11 (hwd.trans q)), if_neg (fun q => hz_45 (hwd.trans q)), if_neg (fun q => hz_79 (hwd.trans q)), if_neg (fun q => hz_113 (hwd.trans q)), if_neg (fun q => hz_137 (hwd.trans q))]; exact rp_ofail (by decide) hp_167)⟩⟩, by rw [ht]; exact hP, by rw [hAe]; exact hD⟩, hS.F ht⟩) hS.2.2 dX6_readStep_174
theorem dX6_readSetting_0 : decode cX6_readSetting 0 = .ok (.aload_n 0, 1) := by decide +kernel
theorem dX6_readSetting_1 : decode cX6_readSetting 1 = .ok (.ldc 72, 2) := by decide +kernel
theorem dX6_readSetting_3 : decode cX6_readSetting 3 = .ok (.invokevirtual 28, 3) := by decide +kernel
theorem dX6_readSetting_6 : decode cX6_readSetting 6 = .ok (.ifCond .eq 20, 3) := by decide +kernel
theorem dX6_readSetting_9 : decode cX6_readSetting 9 = .ok (.aload_n 1, 1) := by decide +kernel
theorem dX6_readSetting_10 : decode cX6_readSetting 10 = .ok (.aload_n 0, 1) := by decide +kernel
theorem dX6_readSetting_11 : decode cX6_readSetting 11 = .ok (.sipush 500, 3) := by decide +kernel
theorem dX6_readSetting_14 : decode cX6_readSetting 14 = .ok (.sipush 1000, 3) := by decide +kernel
theorem dX6_readSetting_17 : decode cX6_readSetting 17 = .ok (.invokevirtual 74, 3) := by decide +kernel
theorem dX6_readSetting_20 : decode cX6_readSetting 20 = .ok (.putfield 78, 3) := by decide +kernel
theorem dX6_readSetting_23 : decode cX6_readSetting 23 = .ok (.goto 230, 3) := by decide +kernel
theorem dX6_readSetting_26 : decode cX6_readSetting 26 = .ok (.aload_n 0, 1) := by decide +kernel
theorem dX6_readSetting_27 : decode cX6_readSetting 27 = .ok (.ldc 82, 2) := by decide +kernel
theorem dX6_readSetting_29 : decode cX6_readSetting 29 = .ok (.invokevirtual 28, 3) := by decide +kernel
theorem dX6_readSetting_32 : decode cX6_readSetting 32 = .ok (.ifCond .eq 18, 3) := by decide +kernel
theorem dX6_readSetting_35 : decode cX6_readSetting 35 = .ok (.aload_n 1, 1) := by decide +kernel
theorem dX6_readSetting_36 : decode cX6_readSetting 36 = .ok (.aload_n 0, 1) := by decide +kernel
theorem dX6_readSetting_37 : decode cX6_readSetting 37 = .ok (.bipush 100, 2) := by decide +kernel
theorem dX6_readSetting_39 : decode cX6_readSetting 39 = .ok (.ldc 84, 2) := by decide +kernel
theorem dX6_readSetting_41 : decode cX6_readSetting 41 = .ok (.invokevirtual 74, 3) := by decide +kernel
theorem dX6_readSetting_44 : decode cX6_readSetting 44 = .ok (.putfield 85, 3) := by decide +kernel
theorem dX6_readSetting_47 : decode cX6_readSetting 47 = .ok (.goto 206, 3) := by decide +kernel
theorem dX6_readSetting_50 : decode cX6_readSetting 50 = .ok (.aload_n 0, 1) := by decide +kernel
theorem dX6_readSetting_51 : decode cX6_readSetting 51 = .ok (.ldc 87, 2) := by decide +kernel
theorem dX6_readSetting_53 : decode cX6_readSetting 53 = .ok (.invokevirtual 28, 3) := by decide +kernel
theorem dX6_readSetting_56 : decode cX6_readSetting 56 = .ok (.ifCond .eq 36, 3) := by decide +kernel
theorem dX6_readSetting_59 : decode cX6_readSetting 59 = .ok (.aload_n 1, 1) := by decide +kernel
theorem dX6_readSetting_60 : decode cX6_readSetting 60 = .ok (.aload_n 0, 1) := by decide +kernel
theorem dX6_readSetting_61 : decode cX6_readSetting 61 = .ok (.iconst 1, 1) := by decide +kernel
theorem dX6_readSetting_62 : decode cX6_readSetting 62 = .ok (.sipush 10000, 3) := by decide +kernel
theorem dX6_readSetting_65 : decode cX6_readSetting 65 = .ok (.invokevirtual 74, 3) := by decide +kernel
theorem dX6_readSetting_68 : decode cX6_readSetting 68 = .ok (.putfield 89, 3) := by decide +kernel
theorem dX6_readSetting_71 : decode cX6_readSetting 71 = .ok (.aload_n 1, 1) := by decide +kernel
theorem dX6_readSetting_72 : decode cX6_readSetting 72 = .ok (.aload_n 0, 1) := by decide +kernel
theorem dX6_readSetting_73 : decode cX6_readSetting 73 = .ok (.iconst 0, 1) := by decide +kernel
theorem dX6_readSetting_74 : decode cX6_readSetting 74 = .ok (.bipush 100, 2) := by decide +kernel
theorem dX6_readSetting_76 : decode cX6_readSetting 76 = .ok (.aload_n 1, 1) := by decide +kernel
theorem dX6_readSetting_77 : decode cX6_readSetting 77 = .ok (.getfield 89, 3) := by decide +kernel
theorem dX6_readSetting_80 : decode cX6_readSetting 80 = .ok (.invokestatic 91, 3) := by decide +kernel
theorem dX6_readSetting_83 : decode cX6_readSetting 83 = .ok (.invokevirtual 74, 3) := by decide +kernel
theorem dX6_readSetting_86 : decode cX6_readSetting 86 = .ok (.putfield 96, 3) := by decide +kernel
theorem dX6_readSetting_89 : decode cX6_readSetting 89 = .ok (.goto 164, 3) := by decide +kernel
theorem dX6_readSetting_92 : decode cX6_readSetting 92 = .ok (.aload_n 0, 1) := by decide +kernel
theorem dX6_readSetting_93 : decode cX6_readSetting 93 = .ok (.ldc 99, 2) := by decide +kernel
