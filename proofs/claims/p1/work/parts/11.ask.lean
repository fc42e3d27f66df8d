theorem cm_upto1 {x : Int32} (h : 0 ≤ x ∧ x ≤ 1) : x = 0 ∨ x = 1 := by
  obtain ⟨h0, h1⟩ := h
  rw [Int32.le_iff_toInt_le] at h0 h1
  have z : (0 : Int32).toInt = 0 := by decide
  have y : (1 : Int32).toInt = 1 := by decide
  have k : x.toInt = 0 ∨ x.toInt = 1 := by omega
  rcases k with k | k
  · exact Or.inl (Int32.toInt_inj.mp (k.trans (by decide)))
  · exact Or.inr (Int32.toInt_inj.mp (k.trans (by decide)))
theorem cm_upto2 {x : Int32} (h : 0 ≤ x ∧ x ≤ 2) : x = 0 ∨ x = 1 ∨ x = 2 := by
  obtain ⟨h0, h1⟩ := h
  rw [Int32.le_iff_toInt_le] at h0 h1
  have z : (0 : Int32).toInt = 0 := by decide
  have y : (2 : Int32).toInt = 2 := by decide
  have k : x.toInt = 0 ∨ x.toInt = 1 ∨ x.toInt = 2 := by omega
  rcases k with k | k | k
  · exact Or.inl (Int32.toInt_inj.mp (k.trans (by decide)))
  · exact Or.inr (Or.inl (Int32.toInt_inj.mp (k.trans (by decide))))
  · exact Or.inr (Or.inr (Int32.toInt_inj.mp (k.trans (by decide))))
theorem cm_upto3 {x : Int32} (h : 0 ≤ x ∧ x ≤ 3) : x = 0 ∨ x = 1 ∨ x = 2 ∨ x = 3 := by
  obtain ⟨h0, h1⟩ := h
  rw [Int32.le_iff_toInt_le] at h0 h1
  have z : (0 : Int32).toInt = 0 := by decide
  have y : (3 : Int32).toInt = 3 := by decide
  have k : x.toInt = 0 ∨ x.toInt = 1 ∨ x.toInt = 2 ∨ x.toInt = 3 := by omega
  rcases k with k | k | k | k
  · exact Or.inl (Int32.toInt_inj.mp (k.trans (by decide)))
  · exact Or.inr (Or.inl (Int32.toInt_inj.mp (k.trans (by decide))))
  · exact Or.inr (Or.inr (Or.inl (Int32.toInt_inj.mp (k.trans (by decide)))))
  · exact Or.inr (Or.inr (Or.inr (Int32.toInt_inj.mp (k.trans (by decide)))))
theorem cm_upto4 {x : Int32} (h : 0 ≤ x ∧ x ≤ 4) : x = 0 ∨ x = 1 ∨ x = 2 ∨ x = 3 ∨ x = 4 := by
  obtain ⟨h0, h1⟩ := h
  rw [Int32.le_iff_toInt_le] at h0 h1
  have z : (0 : Int32).toInt = 0 := by decide
  have y : (4 : Int32).toInt = 4 := by decide
  have k : x.toInt = 0 ∨ x.toInt = 1 ∨ x.toInt = 2 ∨ x.toInt = 3 ∨ x.toInt = 4 := by omega
  rcases k with k | k | k | k | k
  · exact Or.inl (Int32.toInt_inj.mp (k.trans (by decide)))
  · exact Or.inr (Or.inl (Int32.toInt_inj.mp (k.trans (by decide))))
  · exact Or.inr (Or.inr (Or.inl (Int32.toInt_inj.mp (k.trans (by decide)))))
  · exact Or.inr (Or.inr (Or.inr (Or.inl (Int32.toInt_inj.mp (k.trans (by decide))))))
  · exact Or.inr (Or.inr (Or.inr (Or.inr (Int32.toInt_inj.mp (k.trans (by decide))))))
theorem cm_upto5 {x : Int32} (h : 0 ≤ x ∧ x ≤ 5) : x = 0 ∨ x = 1 ∨ x = 2 ∨ x = 3 ∨ x = 4 ∨ x = 5 := by
  obtain ⟨h0, h1⟩ := h
  rw [Int32.le_iff_toInt_le] at h0 h1
  have z : (0 : Int32).toInt = 0 := by decide
  have y : (5 : Int32).toInt = 5 := by decide
  have k : x.toInt = 0 ∨ x.toInt = 1 ∨ x.toInt = 2 ∨ x.toInt = 3 ∨ x.toInt = 4 ∨ x.toInt = 5 := by omega
  rcases k with k | k | k | k | k | k
  · exact Or.inl (Int32.toInt_inj.mp (k.trans (by decide)))
  · exact Or.inr (Or.inl (Int32.toInt_inj.mp (k.trans (by decide))))
  · exact Or.inr (Or.inr (Or.inl (Int32.toInt_inj.mp (k.trans (by decide)))))
  · exact Or.inr (Or.inr (Or.inr (Or.inl (Int32.toInt_inj.mp (k.trans (by decide))))))
  · exact Or.inr (Or.inr (Or.inr (Or.inr (Or.inl (Int32.toInt_inj.mp (k.trans (by decide)))))))
  · exact Or.inr (Or.inr (Or.inr (Or.inr (Or.inr (Int32.toInt_inj.mp (k.trans (by decide)))))))
theorem cm_upto7 {x : Int32} (h : 0 ≤ x ∧ x ≤ 7) : x = 0 ∨ x = 1 ∨ x = 2 ∨ x = 3 ∨ x = 4 ∨ x = 5 ∨ x = 6 ∨ x = 7 := by
  obtain ⟨h0, h1⟩ := h
  rw [Int32.le_iff_toInt_le] at h0 h1
  have z : (0 : Int32).toInt = 0 := by decide
  have y : (7 : Int32).toInt = 7 := by decide
  have k : x.toInt = 0 ∨ x.toInt = 1 ∨ x.toInt = 2 ∨ x.toInt = 3 ∨ x.toInt = 4 ∨ x.toInt = 5 ∨ x.toInt = 6 ∨ x.toInt = 7 := by omega
  rcases k with k | k | k | k | k | k | k | k
  · exact Or.inl (Int32.toInt_inj.mp (k.trans (by decide)))
  · exact Or.inr (Or.inl (Int32.toInt_inj.mp (k.trans (by decide))))
  · exact Or.inr (Or.inr (Or.inl (Int32.toInt_inj.mp (k.trans (by decide)))))
  · exact Or.inr (Or.inr (Or.inr (Or.inl (Int32.toInt_inj.mp (k.trans (by decide))))))
  · exact Or.inr (Or.inr (Or.inr (Or.inr (Or.inl (Int32.toInt_inj.mp (k.trans (by decide)))))))
  · exact Or.inr (Or.inr (Or.inr (Or.inr (Or.inr (Or.inl (Int32.toInt_inj.mp (k.trans (by decide))))))))
  · exact Or.inr (Or.inr (Or.inr (Or.inr (Or.inr (Or.inr (Or.inl (Int32.toInt_inj.mp (k.trans (by decide)))))))))
  · exact Or.inr (Or.inr (Or.inr (Or.inr (Or.inr (Or.inr (Or.inr (Int32.toInt_inj.mp (k.trans (by decide)))))))))
theorem cm_upto10 {x : Int32} (h : 0 ≤ x ∧ x ≤ 10) : x = 0 ∨ x = 1 ∨ x = 2 ∨ x = 3 ∨ x = 4 ∨ x = 5 ∨ x = 6 ∨ x = 7 ∨ x = 8 ∨ x = 9 ∨ x = 10 := by
  obtain ⟨h0, h1⟩ := h
  rw [Int32.le_iff_toInt_le] at h0 h1
  have z : (0 : Int32).toInt = 0 := by decide
  have y : (10 : Int32).toInt = 10 := by decide
  have k : x.toInt = 0 ∨ x.toInt = 1 ∨ x.toInt = 2 ∨ x.toInt = 3 ∨ x.toInt = 4 ∨ x.toInt = 5 ∨ x.toInt = 6 ∨ x.toInt = 7 ∨ x.toInt = 8 ∨ x.toInt = 9 ∨ x.toInt = 10 := by omega
  rcases k with k | k | k | k | k | k | k | k | k | k | k
  · exact Or.inl (Int32.toInt_inj.mp (k.trans (by decide)))
  · exact Or.inr (Or.inl (Int32.toInt_inj.mp (k.trans (by decide))))
  · exact Or.inr (Or.inr (Or.inl (Int32.toInt_inj.mp (k.trans (by decide)))))
  · exact Or.inr (Or.inr (Or.inr (Or.inl (Int32.toInt_inj.mp (k.trans (by decide))))))
  · exact Or.inr (Or.inr (Or.inr (Or.inr (Or.inl (Int32.toInt_inj.mp (k.trans (by decide)))))))
  · exact Or.inr (Or.inr (Or.inr (Or.inr (Or.inr (Or.inl (Int32.toInt_inj.mp (k.trans (by decide))))))))
  · exact Or.inr (Or.inr (Or.inr (Or.inr (Or.inr (Or.inr (Or.inl (Int32.toInt_inj.mp (k.trans (by decide)))))))))
  · exact Or.inr (Or.inr (Or.inr (Or.inr (Or.inr (Or.inr (Or.inr (Or.inl (Int32.toInt_inj.mp (k.trans (by decide))))))))))
  · exact Or.inr (Or.inr (Or.inr (Or.inr (Or.inr (Or.inr (Or.inr (Or.inr (Or.inl (Int32.toInt_inj.mp (k.trans (by decide)))))))))))
  · exact Or.inr (Or.inr (Or.inr (Or.inr (Or.inr (Or.inr (Or.inr (Or.inr (Or.inr (Or.inl (Int32.toInt_inj.mp (k.trans (by decide))))))))))))
  · exact Or.inr (Or.inr (Or.inr (Or.inr (Or.inr (Or.inr (Or.inr (Or.inr (Or.inr (Or.inr (Int32.toInt_inj.mp (k.trans (by decide))))))))))))
theorem dX10_needRange_0 : decode cX10_needRange 0 = .ok (.iload_n 0, 1) := by decide +kernel
theorem dX10_needRange_1 : decode cX10_needRange 1 = .ok (.iload_n 1, 1) := by decide +kernel
theorem dX10_needRange_2 : decode cX10_needRange 2 = .ok (.if_icmp .lt 8, 3) := by decide +kernel
theorem dX10_needRange_5 : decode cX10_needRange 5 = .ok (.iload_n 0, 1) := by decide +kernel
theorem dX10_needRange_6 : decode cX10_needRange 6 = .ok (.iload_n 2, 1) := by decide +kernel
theorem dX10_needRange_7 : decode cX10_needRange 7 = .ok (.if_icmp .le 11, 3) := by decide +kernel
theorem dX10_needRange_10 : decode cX10_needRange 10 = .ok (.new 354, 3) := by decide +kernel
theorem dX10_needRange_13 : decode cX10_needRange 13 = .ok (.dup, 1) := by decide +kernel
theorem dX10_needRange_14 : decode cX10_needRange 14 = .ok (.invokespecial 356, 3) := by decide +kernel
theorem dX10_needRange_17 : decode cX10_needRange 17 = .ok (.athrow, 1) := by decide +kernel
theorem dX10_needRange_18 : decode cX10_needRange 18 = .ok (.return_, 1) := by decide +kernel
set_option maxRecDepth 100000 in
set_option maxHeartbeats 4000000 in
theorem c_needRange (l : Launch) (hfl : l.stackTraces = false) (D : va_G) (ct : Nat → ClassId) (n : Int32) (lo : Int32) (hi : Int32) (sz : Nat) : vx_Met l yX10_needRange (ws_ yX10_needRange cX10_needRange 3 none) ({ frames := 6, cells := 1, slots := 6, locals := 90 } : Room) (va_Pc [.int n, .int lo, .int hi] (cmP D ct sz [])) (va_Qv (fun (_ : Unit) => lo ≤ n ∧ n ≤ hi) (cmB D [] sz (fun _ : Unit => [])) (va_A [] sz)) (vx_X (fun _ : Unit => n < lo ∨ hi < n) (cmBX D [] sz "java/lang/IllegalArgumentException" (fun _ : Unit => [])) (va_A [] sz)) 1 6 (va_A [] sz) := by
  refine vx_ofW (cc := cX10_needRange) (maxL := 3) (ret := none) (by decide) rfl ?_
  intro p e s m args below meth c s₁ B hml hex hv
  obtain ⟨rfl, hsz, hP, hK, hD0, hX⟩ := hv
  have hx := B.exec
  have hb := B.bytes
  have hr := B.returns
  have hts := ws_all (atoms_spec (ws := ws_ yX10_needRange cX10_needRange 3 none) B.pre)
  have hown : s.vm.findClass RX10 = some m.cls := findClass_of_methodNamed B.named
  have hlocks := B.notSynchronized
  subst hsz
  have hD := hD0.self (sz := s.heap.size)
  generalize hAe : va_A [] s.heap.size = A at hD hX ⊢
  have hA : ∀ q : Nat, s.heap.size ≤ q → A q := fun q h => by rw [← hAe]; exact Or.inr h
  have hS : va_S A s.heap s.heap [] := va_S.rf
  have hl := lv_entry ([.int n, .int lo, .int hi]) (n := 3) (Nat.le_of_ble_eq_true rfl)
  rw [lg_entry_eq]
  generalize (lg_sl ([.int n, .int lo, .int hi]) ++ List.replicate (3 - (lg_sl ([.int n, .int lo, .int hi])).length) Slot.unset).toArray = ls at hl ⊢
  have hl : lv_has ls 3 [(0, .int n), (1, .int lo), (2, .int hi)] := hl
  refine lv_iload_n hx hb dX10_needRange_0 rfl (lv_at hl 0 rfl) ?_
  refine lv_iload_n hx hb dX10_needRange_1 rfl (lv_at hl 1 rfl) ?_
  refine lv_icmp_lt (tgt := 10) hx hb dX10_needRange_2 (by decide) (fun hc_1 => ?_) (fun hc_1 => ?_)
  · have hP9 := hP.sub (ws' := []) [] rfl
    have hD9 := hD.sub (ws' := []) [] (by decide) rfl
    exact vx_throw0 (names := cm_names) hx hb hfl hown (by decide +kernel) (by decide +kernel) (hts _ kl_RX10_354) (hts _ ki_java_lang_IllegalArgumentException) (cm_at0 kt_RX10_356 hts) ktg_RX10_356 hX.1 hX.2.1 hS (hl.1.trans hml.symm) dX10_needRange_10 dX10_needRange_13 dX10_needRange_14 dX10_needRange_17 (fun x hx => (hex x hx).elim) (Nat.le_of_ble_eq_true rfl) (Nat.le_of_ble_eq_true rfl) (Nat.le_of_ble_eq_true rfl) (Nat.le_of_ble_eq_true rfl) hlocks (fun t hv hz hk => ⟨(), (Or.inl hc_1), ⟨rfl, hP9.kept (fun k q hq => hk q.1 ((hP9 k q hq).lt)), by rw [hAe]; exact hD9⟩, cm_F hS hz hk⟩) hS.2.2 (Nat.le_of_ble_eq_true rfl) (Nat.le_of_ble_eq_true rfl)
  · refine lv_iload_n hx hb dX10_needRange_5 rfl (lv_at hl 0 rfl) ?_
    refine lv_iload_n hx hb dX10_needRange_6 rfl (lv_at hl 2 rfl) ?_
    refine lv_icmp_le (tgt := 18) hx hb dX10_needRange_7 (by decide) (fun hc_2 => ?_) (fun hc_2 => ?_)
    · have hP9 := hP.sub (ws' := []) [] rfl
      have hD9 := hD.sub (ws' := []) [] (by decide) rfl
      refine W.widen (k := 1) (n := 6) (Nat.le_of_ble_eq_true rfl) (Nat.le_of_ble_eq_true rfl) ?_
      refine vx_ret ?_
      exact W.vret hx hb hr (fun t ht hW => ⟨⟨(), rfl, ⟨cm_le hc_1, hc_2⟩, by rw [ht]; exact hP9, by rw [hAe]; exact hD9⟩, hS.F ht⟩) hS.2.2 dX10_needRange_18
    · have hP9 := hP.sub (ws' := []) [] rfl
      have hD9 := hD.sub (ws' := []) [] (by decide) rfl
      exact vx_throw0 (names := cm_names) hx hb hfl hown (by decide +kernel) (by decide +kernel) (hts _ kl_RX10_354) (hts _ ki_java_lang_IllegalArgumentException) (cm_at0 kt_RX10_356 hts) ktg_RX10_356 hX.1 hX.2.1 hS (hl.1.trans hml.symm) dX10_needRange_10 dX10_needRange_13 dX10_needRange_14 dX10_needRange_17 (fun x hx => (hex x hx).elim) (Nat.le_of_ble_eq_true rfl) (Nat.le_of_ble_eq_true rfl) (Nat.le_of_ble_eq_true rfl) (Nat.le_of_ble_eq_true rfl) hlocks (fun t hv hz hk => ⟨(), (Or.inr (cm_lt hc_2)), ⟨rfl, hP9.kept (fun k q hq => hk q.1 ((hP9 k q hq).lt)), by rw [hAe]; exact hD9⟩, cm_F hS hz hk⟩) hS.2.2 (Nat.le_of_ble_eq_true rfl) (Nat.le_of_ble_eq_true rfl)
theorem dX9_channelAt_0 : decode cX9_channelAt 0 = .ok (.iload_n 1, 1) := by decide +kernel
theorem dX9_channelAt_1 : decode cX9_channelAt 1 = .ok (.ifCond .lt 20, 3) := by decide +kernel
theorem dX9_channelAt_4 : decode cX9_channelAt 4 = .ok (.iload_n 1, 1) := by decide +kernel
theorem dX9_channelAt_5 : decode cX9_channelAt 5 = .ok (.aload_n 0, 1) := by decide +kernel
theorem dX9_channelAt_6 : decode cX9_channelAt 6 = .ok (.getfield 64, 3) := by decide +kernel
theorem dX9_channelAt_9 : decode cX9_channelAt 9 = .ok (.if_icmp .ge 12, 3) := by decide +kernel
theorem dX9_channelAt_21 : decode cX9_channelAt 21 = .ok (.aconst_null, 1) := by decide +kernel
theorem dX9_channelAt_22 : decode cX9_channelAt 22 = .ok (.areturn, 1) := by decide +kernel
set_option maxRecDepth 100000 in
set_option maxHeartbeats 4000000 in
theorem c_channelAt_0 (l : Launch) (D : va_G) (ct : Nat → ClassId) (w : Nat) (w_se : Nat) (w_cu : Nat) (w_pr : Nat) (w_ch : Nat) (w_re : Nat) (w_lo : Nat) (k : Int32) (sz : Nat) : Met l yX9_channelAt (ws_ yX9_channelAt cX9_channelAt 2 (some (.object "CellCycler$Channel"))) ({ frames := 0, cells := 0, slots := 0, locals := 0 } : Room) (va_Pc [.ref w, .int k] (cmP D ct sz [(w, .inr (9, [.int 0, .ref w_se, .ref w_cu, .ref w_pr, .int 0, .ref w_ch, .ref w_re, .ref w_lo]))])) (va_Qq (fun (r : Option Nat) (_ : Unit) => r = none) (cmB D [(w, .inr (9, [.int 0, .ref w_se, .ref w_cu, .ref w_pr, .int 0, .ref w_ch, .ref w_re, .ref w_lo]))] sz (fun _ : Unit => [(w, .inr (9, [.int 0, .ref w_se, .ref w_cu, .ref w_pr, .int 0, .ref w_ch, .ref w_re, .ref w_lo]))])) (va_A [(w, .inr (9, [.int 0, .ref w_se, .ref w_cu, .ref w_pr, .int 0, .ref w_ch, .ref w_re, .ref w_lo]))] sz)) 0 0 (va_A [(w, .inr (9, [.int 0, .ref w_se, .ref w_cu, .ref w_pr, .int 0, .ref w_ch, .ref w_re, .ref w_lo]))] sz) := by
  refine Met.ofW (cc := cX9_channelAt) (maxL := 2) (ret := (some (.object "CellCycler$Channel"))) (by decide) rfl ?_
  intro p e s m args below meth c s₁ B hml hv
  obtain ⟨rfl, hsz, hP, hK, hD0, hX⟩ := hv
  have hx := B.exec
  have hb := B.bytes
  have hr := B.returns
  have hts := ws_all (atoms_spec (ws := ws_ yX9_channelAt cX9_channelAt 2 (some (.object "CellCycler$Channel"))) B.pre)
  have hown : s.vm.findClass RX9 = some m.cls := findClass_of_methodNamed B.named
  have hlocks := B.notSynchronized
  subst hsz
  have hD := hD0.self (sz := s.heap.size)
  generalize hAe : va_A [(w, .inr (9, [.int 0, .ref w_se, .ref w_cu, .ref w_pr, .int 0, .ref w_ch, .ref w_re, .ref w_lo]))] s.heap.size = A at hD hX ⊢
  have hA : ∀ q : Nat, s.heap.size ≤ q → A q := fun q h => by rw [← hAe]; exact Or.inr h
  have hS : va_S A s.heap s.heap [] := va_S.rf
  have hl := lv_entry ([.ref w, .int k]) (n := 2) (Nat.le_of_ble_eq_true rfl)
  rw [lg_entry_eq]
  generalize (lg_sl ([.ref w, .int k]) ++ List.replicate (2 - (lg_sl ([.ref w, .int k])).length) Slot.unset).toArray = ls at hl ⊢
  have hl : lv_has ls 2 [(0, .ref w), (1, .int k)] := hl
  refine lv_iload_n hx hb dX9_channelAt_0 rfl (lv_at hl 1 rfl) ?_
  refine lv_if_lt (tgt := 21) hx hb dX9_channelAt_1 (by decide) (fun hc_1 => ?_) (fun hc_1 => ?_)
  · refine lv_null hx hb dX9_channelAt_21 ?_
    have hP9 := hP.sub (ws' := [(w, .inr (9, [.int 0, .ref w_se, .ref w_cu, .ref w_pr, .int 0, .ref w_ch, .ref w_re, .ref w_lo]))]) [0] rfl
    have hD9 := hD.sub (ws' := [(w, .inr (9, [.int 0, .ref w_se, .ref w_cu, .ref w_pr, .int 0, .ref w_ch, .ref w_re, .ref w_lo]))]) [0] (by decide) rfl
    exact W.aret (v := .null) hx hb hr (Or.inl ⟨_, rfl⟩) (Or.inl rfl) (fun t ht hW => ⟨⟨none, (), rfl, rfl, by rw [ht]; exact hP9, by rw [hAe]; exact hD9⟩, hS.F ht⟩) hS.2.2 dX9_channelAt_22
  · refine lv_iload_n hx hb dX9_channelAt_4 rfl (lv_at hl 1 rfl) ?_
    refine lv_aload_n hx hb dX9_channelAt_5 rfl (lv_at hl 0 rfl) ?_
    refine va_get (v := .int 0) (D := D) (ci := 9) (C := RX9) (T := TX9) (N := 8) hx hb hts in_X9 hown hK hP 0 rfl rfl 4 (by decide) (hts _ kl_RX9_64) (fun _ h9 => h9) rfl dX9_channelAt_6 ?_
    refine lv_icmp_ge (tgt := 21) hx hb dX9_channelAt_9 (by decide) (fun _ => ?_) (fun hc => absurd (cm_le hc_1) hc)
    refine lv_null hx hb dX9_channelAt_21 ?_
    have hP9 := hP.sub (ws' := [(w, .inr (9, [.int 0, .ref w_se, .ref w_cu, .ref w_pr, .int 0, .ref w_ch, .ref w_re, .ref w_lo]))]) [0] rfl
    have hD9 := hD.sub (ws' := [(w, .inr (9, [.int 0, .ref w_se, .ref w_cu, .ref w_pr, .int 0, .ref w_ch, .ref w_re, .ref w_lo]))]) [0] (by decide) rfl
    exact W.aret (v := .null) hx hb hr (Or.inl ⟨_, rfl⟩) (Or.inl rfl) (fun t ht hW => ⟨⟨none, (), rfl, rfl, by rw [ht]; exact hP9, by rw [hAe]; exact hD9⟩, hS.F ht⟩) hS.2.2 dX9_channelAt_22
theorem dX10_needChannel_0 : decode cX10_needChannel 0 = .ok (.aload_n 0, 1) := by decide +kernel
theorem dX10_needChannel_1 : decode cX10_needChannel 1 = .ok (.getfield 10, 3) := by decide +kernel
theorem dX10_needChannel_4 : decode cX10_needChannel 4 = .ok (.iload_n 1, 1) := by decide +kernel
theorem dX10_needChannel_5 : decode cX10_needChannel 5 = .ok (.invokevirtual 125, 3) := by decide +kernel
theorem dX10_needChannel_8 : decode cX10_needChannel 8 = .ok (.astore_n 2, 1) := by decide +kernel
theorem dX10_needChannel_9 : decode cX10_needChannel 9 = .ok (.aload_n 2, 1) := by decide +kernel
theorem dX10_needChannel_10 : decode cX10_needChannel 10 = .ok (.ifnonnull 11, 3) := by decide +kernel
theorem dX10_needChannel_13 : decode cX10_needChannel 13 = .ok (.new 357, 3) := by decide +kernel
theorem dX10_needChannel_16 : decode cX10_needChannel 16 = .ok (.dup, 1) := by decide +kernel
theorem dX10_needChannel_17 : decode cX10_needChannel 17 = .ok (.invokespecial 359, 3) := by decide +kernel
theorem dX10_needChannel_20 : decode cX10_needChannel 20 = .ok (.athrow, 1) := by decide +kernel
set_option maxRecDepth 100000 in
set_option maxHeartbeats 4000000 in
theorem c_needChannel_0 (l : Launch) (hfl : l.stackTraces = false) (D : va_G) (ct : Nat → ClassId) (x : Nat) (w : Nat) (sp : Nat) (sv : Nat) (bu : Nat) (w_se : Nat) (w_cu : Nat) (w_pr : Nat) (w_ch : Nat) (w_re : Nat) (w_lo : Nat) (k : Int32) (sz : Nat) : vx_Met l yX10_needChannel (ws_ yX10_needChannel cX10_needChannel 3 (some (.object "CellCycler$Channel"))) ({ frames := 6, cells := 1, slots := 6, locals := 90 } : Room) (va_Pc [.ref x, .int k] (cmP D ct sz [(x, .inr (10, [.ref w, .ref sp, .ref sv, .ref bu, .int 0, .int 0])), (w, .inr (9, [.int 0, .ref w_se, .ref w_cu, .ref w_pr, .int 0, .ref w_ch, .ref w_re, .ref w_lo]))])) (va_Qq (fun (r : Option Nat) (_ : Unit) => False) (cmB D [(x, .inr (10, [.ref w, .ref sp, .ref sv, .ref bu, .int 0, .int 0])), (w, .inr (9, [.int 0, .ref w_se, .ref w_cu, .ref w_pr, .int 0, .ref w_ch, .ref w_re, .ref w_lo]))] sz (fun _ : Unit => [(x, .inr (10, [.ref w, .ref sp, .ref sv, .ref bu, .int 0, .int 0])), (w, .inr (9, [.int 0, .ref w_se, .ref w_cu, .ref w_pr, .int 0, .ref w_ch, .ref w_re, .ref w_lo]))])) (va_A [(x, .inr (10, [.ref w, .ref sp, .ref sv, .ref bu, .int 0, .int 0])), (w, .inr (9, [.int 0, .ref w_se, .ref w_cu, .ref w_pr, .int 0, .ref w_ch, .ref w_re, .ref w_lo]))] sz)) (vx_X (fun _ : Unit => True) (cmBX D [(x, .inr (10, [.ref w, .ref sp, .ref sv, .ref bu, .int 0, .int 0])), (w, .inr (9, [.int 0, .ref w_se, .ref w_cu, .ref w_pr, .int 0, .ref w_ch, .ref w_re, .ref w_lo]))] sz "java/lang/IndexOutOfBoundsException" (fun _ : Unit => [(x, .inr (10, [.ref w, .ref sp, .ref sv, .ref bu, .int 0, .int 0])), (w, .inr (9, [.int 0, .ref w_se, .ref w_cu, .ref w_pr, .int 0, .ref w_ch, .ref w_re, .ref w_lo]))])) (va_A [(x, .inr (10, [.ref w, .ref sp, .ref sv, .ref bu, .int 0, .int 0])), (w, .inr (9, [.int 0, .ref w_se, .ref w_cu, .ref w_pr, .int 0, .ref w_ch, .ref w_re, .ref w_lo]))] sz)) 1 6 (va_A [(x, .inr (10, [.ref w, .ref sp, .ref sv, .ref bu, .int 0, .int 0])), (w, .inr (9, [.int 0, .ref w_se, .ref w_cu, .ref w_pr, .int 0, .ref w_ch, .ref w_re, .ref w_lo]))] sz) := by
  refine vx_ofW (cc := cX10_needChannel) (maxL := 3) (ret := (some (.object "CellCycler$Channel"))) (by decide) rfl ?_
  intro p e s m args below meth c s₁ B hml hex hv
  obtain ⟨rfl, hsz, hP, hK, hD0, hX⟩ := hv
  have hx := B.exec
  have hb := B.bytes
  have hr := B.returns
  have hts := ws_all (atoms_spec (ws := ws_ yX10_needChannel cX10_needChannel 3 (some (.object "CellCycler$Channel"))) B.pre)
  have hown : s.vm.findClass RX10 = some m.cls := findClass_of_methodNamed B.named
  have hlocks := B.notSynchronized
  subst hsz
  have hD := hD0.self (sz := s.heap.size)
  generalize hAe : va_A [(x, .inr (10, [.ref w, .ref sp, .ref sv, .ref bu, .int 0, .int 0])), (w, .inr (9, [.int 0, .ref w_se, .ref w_cu, .ref w_pr, .int 0, .ref w_ch, .ref w_re, .ref w_lo]))] s.heap.size = A at hD hX ⊢
  have hA : ∀ q : Nat, s.heap.size ≤ q → A q := fun q h => by rw [← hAe]; exact Or.inr h
  have hS : va_S A s.heap s.heap [] := va_S.rf
  have hl := lv_entry ([.ref x, .int k]) (n := 3) (Nat.le_of_ble_eq_true rfl)
  rw [lg_entry_eq]
  generalize (lg_sl ([.ref x, .int k]) ++ List.replicate (3 - (lg_sl ([.ref x, .int k])).length) Slot.unset).toArray = ls at hl ⊢
  have hl : lv_has ls 3 [(0, .ref x), (1, .int k)] := hl
  refine lv_aload_n hx hb dX10_needChannel_0 rfl (lv_at hl 0 rfl) ?_
  refine va_get (v := .ref w) (D := D) (ci := 10) (C := RX10) (T := TX10) (N := 6) hx hb hts in_X10 hown hK hP 0 rfl rfl 0 (by decide) (hts _ kl_RX10_10) (fun _ h9 => h9) rfl dX10_needChannel_1 ?_
  refine lv_iload_n hx hb dX10_needChannel_4 rfl (lv_at hl 1 rfl) ?_
  refine cm_kq (wr := [(x, .inr (10, [.ref w, .ref sp, .ref sv, .ref bu, .int 0, .int 0]))]) (va_runVN (As := [.int k]) (rest := []) ⟨hx, hb, hml, hown, hts⟩ (c_channelAt_0 l D ct w w_se w_cu w_pr w_ch w_re w_lo k _) (cm_VN 1 hts kc_X9_channelAt ki_RX9 kl_RX10_125 kv_X9_channelAt kx_X9_channelAt kd_X9_channelAt ⟨Nat.le_of_ble_eq_true rfl, Nat.le_of_ble_eq_true rfl⟩) (cm_preV hP hK hD hS hA hX [1] rfl rfl rfl (q0 := 1) (ci := 9) rfl rfl) rfl rfl hl.1 rfl (lv_room (Nat.le_of_ble_eq_true rfl)) dX10_needChannel_5 ⟨Nat.le_of_ble_eq_true rfl, Nat.le_of_ble_eq_true rfl⟩) hP hD hS hA [1] [0] rfl rfl rfl (by decide) (fun r_1 u H locs hw_2 hP hD hS => ?_)
  have hw_2 : r_1 = none := hw_2
  obtain rfl := hw_2
  have hP : va_P D vwCl [(x, .inr (10, [.ref w, .ref sp, .ref sv, .ref bu, .int 0, .int 0])), (w, .inr (9, [.int 0, .ref w_se, .ref w_cu, .ref w_pr, .int 0, .ref w_ch, .ref w_re, .ref w_lo]))] H := hP
  have hD : va_D A [(x, .inr (10, [.ref w, .ref sp, .ref sv, .ref bu, .int 0, .int 0])), (w, .inr (9, [.int 0, .ref w_se, .ref w_cu, .ref w_pr, .int 0, .ref w_ch, .ref w_re, .ref w_lo]))] := hD
  refine W.eq (g2 := F0 m 8 ls (.null :: [])) rfl ?_
  refine lv_astore_nN (lv' := [(2, .null), (0, .ref x), (1, .int k)]) hx hb dX10_needChannel_8 rfl hl (by decide) rfl (fun ls hl => ?_)
  refine lv_aload_nN hx hb dX10_needChannel_9 rfl (lv_at hl 0 rfl) ?_
  refine lv_ifnonnullN hx hb dX10_needChannel_10 ?_
  have hP9 := hP.sub (ws' := [(x, .inr (10, [.ref w, .ref sp, .ref sv, .ref bu, .int 0, .int 0])), (w, .inr (9, [.int 0, .ref w_se, .ref w_cu, .ref w_pr, .int 0, .ref w_ch, .ref w_re, .ref w_lo]))]) [0, 1] rfl
  have hD9 := hD.sub (ws' := [(x, .inr (10, [.ref w, .ref sp, .ref sv, .ref bu, .int 0, .int 0])), (w, .inr (9, [.int 0, .ref w_se, .ref w_cu, .ref w_pr, .int 0, .ref w_ch, .ref w_re, .ref w_lo]))]) [0, 1] (by decide) rfl
  exact vx_throw0 (names := cm_names) hx hb hfl hown (by decide +kernel) (by decide +kernel) (hts _ kl_RX10_357) (hts _ ki_java_lang_IndexOutOfBoundsException) (cm_at0 kt_RX10_359 hts) ktg_RX10_359 hX.1 hX.2.1 hS (hl.1.trans hml.symm) dX10_needChannel_13 dX10_needChannel_16 dX10_needChannel_17 dX10_needChannel_20 (fun x hx => (hex x hx).elim) (Nat.le_of_ble_eq_true rfl) (Nat.le_of_ble_eq_true rfl) (Nat.le_of_ble_eq_true rfl) (Nat.le_of_ble_eq_true rfl) hlocks (fun t hv hz hk => ⟨(), trivial, ⟨rfl, hP9.kept (fun k q hq => hk q.1 ((hP9 k q hq).lt)), by rw [hAe]; exact hD9⟩, cm_F hS hz hk⟩) hS.2.2 (Nat.le_of_ble_eq_true rfl) (Nat.le_of_ble_eq_true rfl)
theorem dX10_needProgram_0 : decode cX10_needProgram 0 = .ok (.iload_n 1, 1) := by decide +kernel
theorem dX10_needProgram_1 : decode cX10_needProgram 1 = .ok (.ifCond .lt 17, 3) := by decide +kernel
theorem dX10_needProgram_4 : decode cX10_needProgram 4 = .ok (.iload_n 1, 1) := by decide +kernel
theorem dX10_needProgram_5 : decode cX10_needProgram 5 = .ok (.aload_n 0, 1) := by decide +kernel
theorem dX10_needProgram_6 : decode cX10_needProgram 6 = .ok (.getfield 10, 3) := by decide +kernel
theorem dX10_needProgram_9 : decode cX10_needProgram 9 = .ok (.getfield 85, 3) := by decide +kernel
theorem dX10_needProgram_12 : decode cX10_needProgram 12 = .ok (.getfield 89, 3) := by decide +kernel
theorem dX10_needProgram_15 : decode cX10_needProgram 15 = .ok (.if_icmp .lt 11, 3) := by decide +kernel
theorem dX10_needProgram_18 : decode cX10_needProgram 18 = .ok (.new 357, 3) := by decide +kernel
theorem dX10_needProgram_21 : decode cX10_needProgram 21 = .ok (.dup, 1) := by decide +kernel
theorem dX10_needProgram_22 : decode cX10_needProgram 22 = .ok (.invokespecial 359, 3) := by decide +kernel
theorem dX10_needProgram_25 : decode cX10_needProgram 25 = .ok (.athrow, 1) := by decide +kernel
set_option maxRecDepth 100000 in
set_option maxHeartbeats 4000000 in
theorem c_needProgram_0 (l : Launch) (hfl : l.stackTraces = false) (D : va_G) (ct : Nat → ClassId) (x : Nat) (w : Nat) (sp : Nat) (sv : Nat) (bu : Nat) (w_se : Nat) (w_cu : Nat) (w_pr : Nat) (w_ch : Nat) (w_re : Nat) (w_lo : Nat) (w_p1 : Nat) (w_p2 : Nat) (w_p3 : Nat) (w_p4 : Nat) (k : Int32) (sz : Nat) : vx_Met l yX10_needProgram (ws_ yX10_needProgram cX10_needProgram 2 none) ({ frames := 6, cells := 1, slots := 6, locals := 90 } : Room) (va_Pc [.ref x, .int k] (cmP D ct sz [(x, .inr (10, [.ref w, .ref sp, .ref sv, .ref bu, .int 0, .int 0])), (w, .inr (9, [.int 0, .ref w_se, .ref w_cu, .ref w_pr, .int 0, .ref w_ch, .ref w_re, .ref w_lo])), (w_pr, .inr (5, [.int 0, .ref w_p1, .ref w_p2, .ref w_p3, .ref w_p4]))])) (va_Qv (fun (_ : Unit) => False) (cmB D [(x, .inr (10, [.ref w, .ref sp, .ref sv, .ref bu, .int 0, .int 0])), (w, .inr (9, [.int 0, .ref w_se, .ref w_cu, .ref w_pr, .int 0, .ref w_ch, .ref w_re, .ref w_lo])), (w_pr, .inr (5, [.int 0, .ref w_p1, .ref w_p2, .ref w_p3, .ref w_p4]))] sz (fun _ : Unit => [(x, .inr (10, [.ref w, .ref sp, .ref sv, .ref bu, .int 0, .int 0])), (w, .inr (9, [.int 0, .ref w_se, .ref w_cu, .ref w_pr, .int 0, .ref w_ch, .ref w_re, .ref w_lo])), (w_pr, .inr (5, [.int 0, .ref w_p1, .ref w_p2, .ref w_p3, .ref w_p4]))])) (va_A [(x, .inr (10, [.ref w, .ref sp, .ref sv, .ref bu, .int 0, .int 0])), (w, .inr (9, [.int 0, .ref w_se, .ref w_cu, .ref w_pr, .int 0, .ref w_ch, .ref w_re, .ref w_lo])), (w_pr, .inr (5, [.int 0, .ref w_p1, .ref w_p2, .ref w_p3, .ref w_p4]))] sz)) (vx_X (fun _ : Unit => True) (cmBX D [(x, .inr (10, [.ref w, .ref sp, .ref sv, .ref bu, .int 0, .int 0])), (w, .inr (9, [.int 0, .ref w_se, .ref w_cu, .ref w_pr, .int 0, .ref w_ch, .ref w_re, .ref w_lo])), (w_pr, .inr (5, [.int 0, .ref w_p1, .ref w_p2, .ref w_p3, .ref w_p4]))] sz "java/lang/IndexOutOfBoundsException" (fun _ : Unit => [(x, .inr (10, [.ref w, .ref sp, .ref sv, .ref bu, .int 0, .int 0])), (w, .inr (9, [.int 0, .ref w_se, .ref w_cu, .ref w_pr, .int 0, .ref w_ch, .ref w_re, .ref w_lo])), (w_pr, .inr (5, [.int 0, .ref w_p1, .ref w_p2, .ref w_p3, .ref w_p4]))])) (va_A [(x, .inr (10, [.ref w, .ref sp, .ref sv, .ref bu, .int 0, .int 0])), (w, .inr (9, [.int 0, .ref w_se, .ref w_cu, .ref w_pr, .int 0, .ref w_ch, .ref w_re, .ref w_lo])), (w_pr, .inr (5, [.int 0, .ref w_p1, .ref w_p2, .ref w_p3, .ref w_p4]))] sz)) 1 6 (va_A [(x, .inr (10, [.ref w, .ref sp, .ref sv, .ref bu, .int 0, .int 0])), (w, .inr (9, [.int 0, .ref w_se, .ref w_cu, .ref w_pr, .int 0, .ref w_ch, .ref w_re, .ref w_lo])), (w_pr, .inr (5, [.int 0, .ref w_p1, .ref w_p2, .ref w_p3, .ref w_p4]))] sz) := by
  refine vx_ofW (cc := cX10_needProgram) (maxL := 2) (ret := none) (by decide) rfl ?_
  intro p e s m args below meth c s₁ B hml hex hv
  obtain ⟨rfl, hsz, hP, hK, hD0, hX⟩ := hv
  have hx := B.exec
  have hb := B.bytes
  have hr := B.returns
  have hts := ws_all (atoms_spec (ws := ws_ yX10_needProgram cX10_needProgram 2 none) B.pre)
  have hown : s.vm.findClass RX10 = some m.cls := findClass_of_methodNamed B.named
  have hlocks := B.notSynchronized
  subst hsz
  have hD := hD0.self (sz := s.heap.size)
  generalize hAe : va_A [(x, .inr (10, [.ref w, .ref sp, .ref sv, .ref bu, .int 0, .int 0])), (w, .inr (9, [.int 0, .ref w_se, .ref w_cu, .ref w_pr, .int 0, .ref w_ch, .ref w_re, .ref w_lo])), (w_pr, .inr (5, [.int 0, .ref w_p1, .ref w_p2, .ref w_p3, .ref w_p4]))] s.heap.size = A at hD hX ⊢
  have hA : ∀ q : Nat, s.heap.size ≤ q → A q := fun q h => by rw [← hAe]; exact Or.inr h
  have hS : va_S A s.heap s.heap [] := va_S.rf
  have hl := lv_entry ([.ref x, .int k]) (n := 2) (Nat.le_of_ble_eq_true rfl)
  rw [lg_entry_eq]
  generalize (lg_sl ([.ref x, .int k]) ++ List.replicate (2 - (lg_sl ([.ref x, .int k])).length) Slot.unset).toArray = ls at hl ⊢
  have hl : lv_has ls 2 [(0, .ref x), (1, .int k)] := hl
  refine lv_iload_n hx hb dX10_needProgram_0 rfl (lv_at hl 1 rfl) ?_
  refine lv_if_lt (tgt := 18) hx hb dX10_needProgram_1 (by decide) (fun hc_1 => ?_) (fun hc_1 => ?_)
  · have hP9 := hP.sub (ws' := [(x, .inr (10, [.ref w, .ref sp, .ref sv, .ref bu, .int 0, .int 0])), (w, .inr (9, [.int 0, .ref w_se, .ref w_cu, .ref w_pr, .int 0, .ref w_ch, .ref w_re, .ref w_lo])), (w_pr, .inr (5, [.int 0, .ref w_p1, .ref w_p2, .ref w_p3, .ref w_p4]))]) [0, 1, 2] rfl
    have hD9 := hD.sub (ws' := [(x, .inr (10, [.ref w, .ref sp, .ref sv, .ref bu, .int 0, .int 0])), (w, .inr (9, [.int 0, .ref w_se, .ref w_cu, .ref w_pr, .int 0, .ref w_ch, .ref w_re, .ref w_lo])), (w_pr, .inr (5, [.int 0, .ref w_p1, .ref w_p2, .ref w_p3, .ref w_p4]))]) [0, 1, 2] (by decide) rfl
    exact vx_throw0 (names := cm_names) hx hb hfl hown (by decide +kernel) (by decide +kernel) (hts _ kl_RX10_357) (hts _ ki_java_lang_IndexOutOfBoundsException) (cm_at0 kt_RX10_359 hts) ktg_RX10_359 hX.1 hX.2.1 hS (hl.1.trans hml.symm) dX10_needProgram_18 dX10_needProgram_21 dX10_needProgram_22 dX10_needProgram_25 (fun x hx => (hex x hx).elim) (Nat.le_of_ble_eq_true rfl) (Nat.le_of_ble_eq_true rfl) (Nat.le_of_ble_eq_true rfl) (Nat.le_of_ble_eq_true rfl) hlocks (fun t hv hz hk => ⟨(), trivial, ⟨rfl, hP9.kept (fun k q hq => hk q.1 ((hP9 k q hq).lt)), by rw [hAe]; exact hD9⟩, cm_F hS hz hk⟩) hS.2.2 (Nat.le_of_ble_eq_true rfl) (Nat.le_of_ble_eq_true rfl)
  · refine lv_iload_n hx hb dX10_needProgram_4 rfl (lv_at hl 1 rfl) ?_
    refine lv_aload_n hx hb dX10_needProgram_5 rfl (lv_at hl 0 rfl) ?_
    refine va_get (v := .ref w) (D := D) (ci := 10) (C := RX10) (T := TX10) (N := 6) hx hb hts in_X10 hown hK hP 0 rfl rfl 0 (by decide) (hts _ kl_RX10_10) (fun _ h9 => h9) rfl dX10_needProgram_6 ?_
    refine va_getN (v := .ref w_pr) (D := D) (ci := 9) (C := RX9) (T := TX9) (N := 8) hx hb hts in_X9 hown hK hP 1 rfl rfl 3 (by decide) (hts _ kl_RX10_85) (fun _ h9 => h9) rfl dX10_needProgram_9 ?_
    refine va_getN (v := .int 0) (D := D) (ci := 5) (C := RX5) (T := TX5) (N := 5) hx hb hts in_X5 hown hK hP 2 rfl rfl 0 (by decide) (hts _ kl_RX10_89) (fun _ h9 => h9) rfl dX10_needProgram_12 ?_
    refine lv_icmp_lt (tgt := 26) hx hb dX10_needProgram_15 (by decide) (fun hc => absurd hc hc_1) (fun _ => ?_)
    have hP9 := hP.sub (ws' := [(x, .inr (10, [.ref w, .ref sp, .ref sv, .ref bu, .int 0, .int 0])), (w, .inr (9, [.int 0, .ref w_se, .ref w_cu, .ref w_pr, .int 0, .ref w_ch, .ref w_re, .ref w_lo])), (w_pr, .inr (5, [.int 0, .ref w_p1, .ref w_p2, .ref w_p3, .ref w_p4]))]) [0, 1, 2] rfl
    have hD9 := hD.sub (ws' := [(x, .inr (10, [.ref w, .ref sp, .ref sv, .ref bu, .int 0, .int 0])), (w, .inr (9, [.int 0, .ref w_se, .ref w_cu, .ref w_pr, .int 0, .ref w_ch, .ref w_re, .ref w_lo])), (w_pr, .inr (5, [.int 0, .ref w_p1, .ref w_p2, .ref w_p3, .ref w_p4]))]) [0, 1, 2] (by decide) rfl
    exact vx_throw0 (names := cm_names) hx hb hfl hown (by decide +kernel) (by decide +kernel) (hts _ kl_RX10_357) (hts _ ki_java_lang_IndexOutOfBoundsException) (cm_at0 kt_RX10_359 hts) ktg_RX10_359 hX.1 hX.2.1 hS (hl.1.trans hml.symm) dX10_needProgram_18 dX10_needProgram_21 dX10_needProgram_22 dX10_needProgram_25 (fun x hx => (hex x hx).elim) (Nat.le_of_ble_eq_true rfl) (Nat.le_of_ble_eq_true rfl) (Nat.le_of_ble_eq_true rfl) (Nat.le_of_ble_eq_true rfl) hlocks (fun t hv hz hk => ⟨(), trivial, ⟨rfl, hP9.kept (fun k q hq => hk q.1 ((hP9 k q hq).lt)), by rw [hAe]; exact hD9⟩, cm_F hS hz hk⟩) hS.2.2 (Nat.le_of_ble_eq_true rfl) (Nat.le_of_ble_eq_true rfl)
theorem dX10_start_0 : decode cX10_start 0 = .ok (.aload_n 0, 1) := by decide +kernel
theorem dX10_start_1 : decode cX10_start 1 = .ok (.iload_n 1, 1) := by decide +kernel
theorem dX10_start_2 : decode cX10_start 2 = .ok (.invokevirtual 172, 3) := by decide +kernel
set_option maxRecDepth 100000 in
set_option maxHeartbeats 4000000 in
theorem c_start_0 (l : Launch) (hfl : l.stackTraces = false) (D : va_G) (ct : Nat → ClassId) (x : Nat) (w : Nat) (sp : Nat) (sv : Nat) (bu : Nat) (w_se : Nat) (w_cu : Nat) (w_pr : Nat) (w_ch : Nat) (w_re : Nat) (w_lo : Nat) (p1 : Int32) (p2 : Int32) (sz : Nat) : vx_Met l yX10_start (ws_ yX10_start cX10_start 4 (some .int)) ({ frames := 7, cells := 1, slots := 6, locals := 112 } : Room) (va_Pc [.ref x, .int p1, .int p2] (cmP D ct sz [(x, .inr (10, [.ref w, .ref sp, .ref sv, .ref bu, .int 0, .int 0])), (w, .inr (9, [.int 0, .ref w_se, .ref w_cu, .ref w_pr, .int 0, .ref w_ch, .ref w_re, .ref w_lo]))])) (va_Qi (fun (r : Int32) (_ : Unit) => False) (cmB D [(x, .inr (10, [.ref w, .ref sp, .ref sv, .ref bu, .int 0, .int 0])), (w, .inr (9, [.int 0, .ref w_se, .ref w_cu, .ref w_pr, .int 0, .ref w_ch, .ref w_re, .ref w_lo]))] sz (fun _ : Unit => [(x, .inr (10, [.ref w, .ref sp, .ref sv, .ref bu, .int 0, .int 0])), (w, .inr (9, [.int 0, .ref w_se, .ref w_cu, .ref w_pr, .int 0, .ref w_ch, .ref w_re, .ref w_lo]))])) (va_A [(x, .inr (10, [.ref w, .ref sp, .ref sv, .ref bu, .int 0, .int 0])), (w, .inr (9, [.int 0, .ref w_se, .ref w_cu, .ref w_pr, .int 0, .ref w_ch, .ref w_re, .ref w_lo]))] sz)) (vx_X (fun _ : Unit => True) (cmBX D [(x, .inr (10, [.ref w, .ref sp, .ref sv, .ref bu, .int 0, .int 0])), (w, .inr (9, [.int 0, .ref w_se, .ref w_cu, .ref w_pr, .int 0, .ref w_ch, .ref w_re, .ref w_lo]))] sz "java/lang/IndexOutOfBoundsException" (fun _ : Unit => [(x, .inr (10, [.ref w, .ref sp, .ref sv, .ref bu, .int 0, .int 0])), (w, .inr (9, [.int 0, .ref w_se, .ref w_cu, .ref w_pr, .int 0, .ref w_ch, .ref w_re, .ref w_lo]))])) (va_A [(x, .inr (10, [.ref w, .ref sp, .ref sv, .ref bu, .int 0, .int 0])), (w, .inr (9, [.int 0, .ref w_se, .ref w_cu, .ref w_pr, .int 0, .ref w_ch, .ref w_re, .ref w_lo]))] sz)) 1 6 (va_A [(x, .inr (10, [.ref w, .ref sp, .ref sv, .ref bu, .int 0, .int 0])), (w, .inr (9, [.int 0, .ref w_se, .ref w_cu, .ref w_pr, .int 0, .ref w_ch, .ref w_re, .ref w_lo]))] sz) := by
  refine vx_ofW (cc := cX10_start) (maxL := 4) (ret := (some .int)) (by decide) rfl ?_
  intro p e s m args below meth c s₁ B hml hex hv
  obtain ⟨rfl, hsz, hP, hK, hD0, hX⟩ := hv
  have hx := B.exec
  have hb := B.bytes
  have hr := B.returns
  have hts := ws_all (atoms_spec (ws := ws_ yX10_start cX10_start 4 (some .int)) B.pre)
  have hown : s.vm.findClass RX10 = some m.cls := findClass_of_methodNamed B.named
  have hlocks := B.notSynchronized
  subst hsz
  have hD := hD0.self (sz := s.heap.size)
  generalize hAe : va_A [(x, .inr (10, [.ref w, .ref sp, .ref sv, .ref bu, .int 0, .int 0])), (w, .inr (9, [.int 0, .ref w_se, .ref w_cu, .ref w_pr, .int 0, .ref w_ch, .ref w_re, .ref w_lo]))] s.heap.size = A at hD hX ⊢
  have hA : ∀ q : Nat, s.heap.size ≤ q → A q := fun q h => by rw [← hAe]; exact Or.inr h
  have hS : va_S A s.heap s.heap [] := va_S.rf
  have hl := lv_entry ([.ref x, .int p1, .int p2]) (n := 4) (Nat.le_of_ble_eq_true rfl)
  rw [lg_entry_eq]
  generalize (lg_sl ([.ref x, .int p1, .int p2]) ++ List.replicate (4 - (lg_sl ([.ref x, .int p1, .int p2])).length) Slot.unset).toArray = ls at hl ⊢
  have hl : lv_has ls 4 [(0, .ref x), (1, .int p1), (2, .int p2)] := hl
  refine lv_aload_n hx hb dX10_start_0 rfl (lv_at hl 0 rfl) ?_
  refine lv_iload_n hx hb dX10_start_1 rfl (lv_at hl 1 rfl) ?_
  refine cm_xq (wr := []) (vx_runV (As := [.int p1]) (rest := []) ⟨hx, hb, hml, hown, hts⟩ (c_needChannel_0 l hfl D ct x w sp sv bu w_se w_cu w_pr w_ch w_re w_lo p1 _) (cm_V 1 hts kc_X10_needChannel ki_RX10 kl_RX10_172 kv_X10_needChannel kx_X10_needChannel kd_X10_needChannel ⟨Nat.le_of_ble_eq_true rfl, Nat.le_of_ble_eq_true rfl⟩) (cm_preV hP hK hD hS hA hX [0, 1] rfl rfl rfl (q0 := 0) (ci := 10) rfl rfl) rfl rfl hl.1 rfl (lv_room (Nat.le_of_ble_eq_true rfl)) dX10_start_2 ⟨Nat.le_of_ble_eq_true rfl, Nat.le_of_ble_eq_true rfl⟩) hP hD hS hA [0, 1] [] rfl rfl rfl (by decide) (fun E ce q9 u H locs hu hE hP hD hS hce hcv hcl => ?_) (fun r_1 u H locs hw_2 hP hD hS => ?_)
  · subst hE
    have hP : va_P D vwCl [(x, .inr (10, [.ref w, .ref sp, .ref sv, .ref bu, .int 0, .int 0])), (w, .inr (9, [.int 0, .ref w_se, .ref w_cu, .ref w_pr, .int 0, .ref w_ch, .ref w_re, .ref w_lo]))] H := hP
    have hD : va_D A [(x, .inr (10, [.ref w, .ref sp, .ref sv, .ref bu, .int 0, .int 0])), (w, .inr (9, [.int 0, .ref w_se, .ref w_cu, .ref w_pr, .int 0, .ref w_ch, .ref w_re, .ref w_lo]))] := hD
    have hP9 := hP.sub (ws' := [(x, .inr (10, [.ref w, .ref sp, .ref sv, .ref bu, .int 0, .int 0])), (w, .inr (9, [.int 0, .ref w_se, .ref w_cu, .ref w_pr, .int 0, .ref w_ch, .ref w_re, .ref w_lo]))]) [0, 1] rfl
    have hD9 := hD.sub (ws' := [(x, .inr (10, [.ref w, .ref sp, .ref sv, .ref bu, .int 0, .int 0])), (w, .inr (9, [.int 0, .ref w_se, .ref w_cu, .ref w_pr, .int 0, .ref w_ch, .ref w_re, .ref w_lo]))]) [0, 1] (by decide) rfl
    exact vx_out (fun x hx => (hex x hx).elim) hlocks hce hcv hcl (fun t ht hW => ⟨(), trivial, ⟨rfl, by rw [ht]; exact hP9, by rw [hAe]; exact hD9⟩, hS.F ht⟩) hS.2.2 (Nat.le_of_ble_eq_true rfl) (Nat.le_of_ble_eq_true rfl)
  · exact hw_2.elim
theorem dX10_pause_0 : decode cX10_pause 0 = .ok (.aload_n 0, 1) := by decide +kernel
theorem dX10_pause_1 : decode cX10_pause 1 = .ok (.iload_n 1, 1) := by decide +kernel
theorem dX10_pause_2 : decode cX10_pause 2 = .ok (.invokevirtual 172, 3) := by decide +kernel
set_option maxRecDepth 100000 in
set_option maxHeartbeats 4000000 in
theorem c_pause_0 (l : Launch) (hfl : l.stackTraces = false) (D : va_G) (ct : Nat → ClassId) (x : Nat) (w : Nat) (sp : Nat) (sv : Nat) (bu : Nat) (w_se : Nat) (w_cu : Nat) (w_pr : Nat) (w_ch : Nat) (w_re : Nat) (w_lo : Nat) (p1 : Int32) (sz : Nat) : vx_Met l yX10_pause (ws_ yX10_pause cX10_pause 3 (some .int)) ({ frames := 7, cells := 1, slots := 6, locals := 112 } : Room) (va_Pc [.ref x, .int p1] (cmP D ct sz [(x, .inr (10, [.ref w, .ref sp, .ref sv, .ref bu, .int 0, .int 0])), (w, .inr (9, [.int 0, .ref w_se, .ref w_cu, .ref w_pr, .int 0, .ref w_ch, .ref w_re, .ref w_lo]))])) (va_Qi (fun (r : Int32) (_ : Unit) => False) (cmB D [(x, .inr (10, [.ref w, .ref sp, .ref sv, .ref bu, .int 0, .int 0])), (w, .inr (9, [.int 0, .ref w_se, .ref w_cu, .ref w_pr, .int 0, .ref w_ch, .ref w_re, .ref w_lo]))] sz (fun _ : Unit => [(x, .inr (10, [.ref w, .ref sp, .ref sv, .ref bu, .int 0, .int 0])), (w, .inr (9, [.int 0, .ref w_se, .ref w_cu, .ref w_pr, .int 0, .ref w_ch, .ref w_re, .ref w_lo]))])) (va_A [(x, .inr (10, [.ref w, .ref sp, .ref sv, .ref bu, .int 0, .int 0])), (w, .inr (9, [.int 0, .ref w_se, .ref w_cu, .ref w_pr, .int 0, .ref w_ch, .ref w_re, .ref w_lo]))] sz)) (vx_X (fun _ : Unit => True) (cmBX D [(x, .inr (10, [.ref w, .ref sp, .ref sv, .ref bu, .int 0, .int 0])), (w, .inr (9, [.int 0, .ref w_se, .ref w_cu, .ref w_pr, .int 0, .ref w_ch, .ref w_re, .ref w_lo]))] sz "java/lang/IndexOutOfBoundsException" (fun _ : Unit => [(x, .inr (10, [.ref w, .ref sp, .ref sv, .ref bu, .int 0, .int 0])), (w, .inr (9, [.int 0, .ref w_se, .ref w_cu, .ref w_pr, .int 0, .ref w_ch, .ref w_re, .ref w_lo]))])) (va_A [(x, .inr (10, [.ref w, .ref sp, .ref sv, .ref bu, .int 0, .int 0])), (w, .inr (9, [.int 0, .ref w_se, .ref w_cu, .ref w_pr, .int 0, .ref w_ch, .ref w_re, .ref w_lo]))] sz)) 1 6 (va_A [(x, .inr (10, [.ref w, .ref sp, .ref sv, .ref bu, .int 0, .int 0])), (w, .inr (9, [.int 0, .ref w_se, .ref w_cu, .ref w_pr, .int 0, .ref w_ch, .ref w_re, .ref w_lo]))] sz) := by
  refine vx_ofW (cc := cX10_pause) (maxL := 3) (ret := (some .int)) (by decide) rfl ?_
  intro p e s m args below meth c s₁ B hml hex hv
  obtain ⟨rfl, hsz, hP, hK, hD0, hX⟩ := hv
  have hx := B.exec
  have hb := B.bytes
  have hr := B.returns
  have hts := ws_all (atoms_spec (ws := ws_ yX10_pause cX10_pause 3 (some .int)) B.pre)
  have hown : s.vm.findClass RX10 = some m.cls := findClass_of_methodNamed B.named
  have hlocks := B.notSynchronized
  subst hsz
  have hD := hD0.self (sz := s.heap.size)
  generalize hAe : va_A [(x, .inr (10, [.ref w, .ref sp, .ref sv, .ref bu, .int 0, .int 0])), (w, .inr (9, [.int 0, .ref w_se, .ref w_cu, .ref w_pr, .int 0, .ref w_ch, .ref w_re, .ref w_lo]))] s.heap.size = A at hD hX ⊢
  have hA : ∀ q : Nat, s.heap.size ≤ q → A q := fun q h => by rw [← hAe]; exact Or.inr h
  have hS : va_S A s.heap s.heap [] := va_S.rf
  have hl := lv_entry ([.ref x, .int p1]) (n := 3) (Nat.le_of_ble_eq_true rfl)
  rw [lg_entry_eq]
  generalize (lg_sl ([.ref x, .int p1]) ++ List.replicate (3 - (lg_sl ([.ref x, .int p1])).length) Slot.unset).toArray = ls at hl ⊢
  have hl : lv_has ls 3 [(0, .ref x), (1, .int p1)] := hl
  refine lv_aload_n hx hb dX10_pause_0 rfl (lv_at hl 0 rfl) ?_
  refine lv_iload_n hx hb dX10_pause_1 rfl (lv_at hl 1 rfl) ?_
  refine cm_xq (wr := []) (vx_runV (As := [.int p1]) (rest := []) ⟨hx, hb, hml, hown, hts⟩ (c_needChannel_0 l hfl D ct x w sp sv bu w_se w_cu w_pr w_ch w_re w_lo p1 _) (cm_V 1 hts kc_X10_needChannel ki_RX10 kl_RX10_172 kv_X10_needChannel kx_X10_needChannel kd_X10_needChannel ⟨Nat.le_of_ble_eq_true rfl, Nat.le_of_ble_eq_true rfl⟩) (cm_preV hP hK hD hS hA hX [0, 1] rfl rfl rfl (q0 := 0) (ci := 10) rfl rfl) rfl rfl hl.1 rfl (lv_room (Nat.le_of_ble_eq_true rfl)) dX10_pause_2 ⟨Nat.le_of_ble_eq_true rfl, Nat.le_of_ble_eq_true rfl⟩) hP hD hS hA [0, 1] [] rfl rfl rfl (by decide) (fun E ce q9 u H locs hu hE hP hD hS hce hcv hcl => ?_) (fun r_1 u H locs hw_2 hP hD hS => ?_)
  · subst hE
    have hP : va_P D vwCl [(x, .inr (10, [.ref w, .ref sp, .ref sv, .ref bu, .int 0, .int 0])), (w, .inr (9, [.int 0, .ref w_se, .ref w_cu, .ref w_pr, .int 0, .ref w_ch, .ref w_re, .ref w_lo]))] H := hP
    have hD : va_D A [(x, .inr (10, [.ref w, .ref sp, .ref sv, .ref bu, .int 0, .int 0])), (w, .inr (9, [.int 0, .ref w_se, .ref w_cu, .ref w_pr, .int 0, .ref w_ch, .ref w_re, .ref w_lo]))] := hD
    have hP9 := hP.sub (ws' := [(x, .inr (10, [.ref w, .ref sp, .ref sv, .ref bu, .int 0, .int 0])), (w, .inr (9, [.int 0, .ref w_se, .ref w_cu, .ref w_pr, .int 0, .ref w_ch, .ref w_re, .ref w_lo]))]) [0, 1] rfl
    have hD9 := hD.sub (ws' := [(x, .inr (10, [.ref w, .ref sp, .ref sv, .ref bu, .int 0, .int 0])), (w, .inr (9, [.int 0, .ref w_se, .ref w_cu, .ref w_pr, .int 0, .ref w_ch, .ref w_re, .ref w_lo]))]) [0, 1] (by decide) rfl
    exact vx_out (fun x hx => (hex x hx).elim) hlocks hce hcv hcl (fun t ht hW => ⟨(), trivial, ⟨rfl, by rw [ht]; exact hP9, by rw [hAe]; exact hD9⟩, hS.F ht⟩) hS.2.2 (Nat.le_of_ble_eq_true rfl) (Nat.le_of_ble_eq_true rfl)
  · exact hw_2.elim
theorem dX10_resume_0 : decode cX10_resume 0 = .ok (.aload_n 0, 1) := by decide +kernel
theorem dX10_resume_1 : decode cX10_resume 1 = .ok (.iload_n 1, 1) := by decide +kernel
theorem dX10_resume_2 : decode cX10_resume 2 = .ok (.invokevirtual 172, 3) := by decide +kernel
set_option maxRecDepth 100000 in
set_option maxHeartbeats 4000000 in
theorem c_resume_0 (l : Launch) (hfl : l.stackTraces = false) (D : va_G) (ct : Nat → ClassId) (x : Nat) (w : Nat) (sp : Nat) (sv : Nat) (bu : Nat) (w_se : Nat) (w_cu : Nat) (w_pr : Nat) (w_ch : Nat) (w_re : Nat) (w_lo : Nat) (p1 : Int32) (sz : Nat) : vx_Met l yX10_resume (ws_ yX10_resume cX10_resume 3 (some .int)) ({ frames := 7, cells := 1, slots := 6, locals := 112 } : Room) (va_Pc [.ref x, .int p1] (cmP D ct sz [(x, .inr (10, [.ref w, .ref sp, .ref sv, .ref bu, .int 0, .int 0])), (w, .inr (9, [.int 0, .ref w_se, .ref w_cu, .ref w_pr, .int 0, .ref w_ch, .ref w_re, .ref w_lo]))])) (va_Qi (fun (r : Int32) (_ : Unit) => False) (cmB D [(x, .inr (10, [.ref w, .ref sp, .ref sv, .ref bu, .int 0, .int 0])), (w, .inr (9, [.int 0, .ref w_se, .ref w_cu, .ref w_pr, .int 0, .ref w_ch, .ref w_re, .ref w_lo]))] sz (fun _ : Unit => [(x, .inr (10, [.ref w, .ref sp, .ref sv, .ref bu, .int 0, .int 0])), (w, .inr (9, [.int 0, .ref w_se, .ref w_cu, .ref w_pr, .int 0, .ref w_ch, .ref w_re, .ref w_lo]))])) (va_A [(x, .inr (10, [.ref w, .ref sp, .ref sv, .ref bu, .int 0, .int 0])), (w, .inr (9, [.int 0, .ref w_se, .ref w_cu, .ref w_pr, .int 0, .ref w_ch, .ref w_re, .ref w_lo]))] sz)) (vx_X (fun _ : Unit => True) (cmBX D [(x, .inr (10, [.ref w, .ref sp, .ref sv, .ref bu, .int 0, .int 0])), (w, .inr (9, [.int 0, .ref w_se, .ref w_cu, .ref w_pr, .int 0, .ref w_ch, .ref w_re, .ref w_lo]))] sz "java/lang/IndexOutOfBoundsException" (fun _ : Unit => [(x, .inr (10, [.ref w, .ref sp, .ref sv, .ref bu, .int 0, .int 0])), (w, .inr (9, [.int 0, .ref w_se, .ref w_cu, .ref w_pr, .int 0, .ref w_ch, .ref w_re, .ref w_lo]))])) (va_A [(x, .inr (10, [.ref w, .ref sp, .ref sv, .ref bu, .int 0, .int 0])), (w, .inr (9, [.int 0, .ref w_se, .ref w_cu, .ref w_pr, .int 0, .ref w_ch, .ref w_re, .ref w_lo]))] sz)) 1 6 (va_A [(x, .inr (10, [.ref w, .ref sp, .ref sv, .ref bu, .int 0, .int 0])), (w, .inr (9, [.int 0, .ref w_se, .ref w_cu, .ref w_pr, .int 0, .ref w_ch, .ref w_re, .ref w_lo]))] sz) := by
  refine vx_ofW (cc := cX10_resume) (maxL := 3) (ret := (some .int)) (by decide) rfl ?_
  intro p e s m args below meth c s₁ B hml hex hv
  obtain ⟨rfl, hsz, hP, hK, hD0, hX⟩ := hv
  have hx := B.exec
  have hb := B.bytes
  have hr := B.returns
  have hts := ws_all (atoms_spec (ws := ws_ yX10_resume cX10_resume 3 (some .int)) B.pre)
  have hown : s.vm.findClass RX10 = some m.cls := findClass_of_methodNamed B.named
  have hlocks := B.notSynchronized
  subst hsz
  have hD := hD0.self (sz := s.heap.size)
  generalize hAe : va_A [(x, .inr (10, [.ref w, .ref sp, .ref sv, .ref bu, .int 0, .int 0])), (w, .inr (9, [.int 0, .ref w_se, .ref w_cu, .ref w_pr, .int 0, .ref w_ch, .ref w_re, .ref w_lo]))] s.heap.size = A at hD hX ⊢
  have hA : ∀ q : Nat, s.heap.size ≤ q → A q := fun q h => by rw [← hAe]; exact Or.inr h
  have hS : va_S A s.heap s.heap [] := va_S.rf
  have hl := lv_entry ([.ref x, .int p1]) (n := 3) (Nat.le_of_ble_eq_true rfl)
  rw [lg_entry_eq]
  generalize (lg_sl ([.ref x, .int p1]) ++ List.replicate (3 - (lg_sl ([.ref x, .int p1])).length) Slot.unset).toArray = ls at hl ⊢
  have hl : lv_has ls 3 [(0, .ref x), (1, .int p1)] := hl
  refine lv_aload_n hx hb dX10_resume_0 rfl (lv_at hl 0 rfl) ?_
  refine lv_iload_n hx hb dX10_resume_1 rfl (lv_at hl 1 rfl) ?_
  refine cm_xq (wr := []) (vx_runV (As := [.int p1]) (rest := []) ⟨hx, hb, hml, hown, hts⟩ (c_needChannel_0 l hfl D ct x w sp sv bu w_se w_cu w_pr w_ch w_re w_lo p1 _) (cm_V 1 hts kc_X10_needChannel ki_RX10 kl_RX10_172 kv_X10_needChannel kx_X10_needChannel kd_X10_needChannel ⟨Nat.le_of_ble_eq_true rfl, Nat.le_of_ble_eq_true rfl⟩) (cm_preV hP hK hD hS hA hX [0, 1] rfl rfl rfl (q0 := 0) (ci := 10) rfl rfl) rfl rfl hl.1 rfl (lv_room (Nat.le_of_ble_eq_true rfl)) dX10_resume_2 ⟨Nat.le_of_ble_eq_true rfl, Nat.le_of_ble_eq_true rfl⟩) hP hD hS hA [0, 1] [] rfl rfl rfl (by decide) (fun E ce q9 u H locs hu hE hP hD hS hce hcv hcl => ?_) (fun r_1 u H locs hw_2 hP hD hS => ?_)
  · subst hE
    have hP : va_P D vwCl [(x, .inr (10, [.ref w, .ref sp, .ref sv, .ref bu, .int 0, .int 0])), (w, .inr (9, [.int 0, .ref w_se, .ref w_cu, .ref w_pr, .int 0, .ref w_ch, .ref w_re, .ref w_lo]))] H := hP
    have hD : va_D A [(x, .inr (10, [.ref w, .ref sp, .ref sv, .ref bu, .int 0, .int 0])), (w, .inr (9, [.int 0, .ref w_se, .ref w_cu, .ref w_pr, .int 0, .ref w_ch, .ref w_re, .ref w_lo]))] := hD
    have hP9 := hP.sub (ws' := [(x, .inr (10, [.ref w, .ref sp, .ref sv, .ref bu, .int 0, .int 0])), (w, .inr (9, [.int 0, .ref w_se, .ref w_cu, .ref w_pr, .int 0, .ref w_ch, .ref w_re, .ref w_lo]))]) [0, 1] rfl
    have hD9 := hD.sub (ws' := [(x, .inr (10, [.ref w, .ref sp, .ref sv, .ref bu, .int 0, .int 0])), (w, .inr (9, [.int 0, .ref w_se, .ref w_cu, .ref w_pr, .int 0, .ref w_ch, .ref w_re, .ref w_lo]))]) [0, 1] (by decide) rfl
    exact vx_out (fun x hx => (hex x hx).elim) hlocks hce hcv hcl (fun t ht hW => ⟨(), trivial, ⟨rfl, by rw [ht]; exact hP9, by rw [hAe]; exact hD9⟩, hS.F ht⟩) hS.2.2 (Nat.le_of_ble_eq_true rfl) (Nat.le_of_ble_eq_true rfl)
  · exact hw_2.elim
theorem dX10_stop_0 : decode cX10_stop 0 = .ok (.aload_n 0, 1) := by decide +kernel
theorem dX10_stop_1 : decode cX10_stop 1 = .ok (.iload_n 1, 1) := by decide +kernel
theorem dX10_stop_2 : decode cX10_stop 2 = .ok (.invokevirtual 172, 3) := by decide +kernel
set_option maxRecDepth 100000 in
set_option maxHeartbeats 4000000 in
theorem c_stop_0 (l : Launch) (hfl : l.stackTraces = false) (D : va_G) (ct : Nat → ClassId) (x : Nat) (w : Nat) (sp : Nat) (sv : Nat) (bu : Nat) (w_se : Nat) (w_cu : Nat) (w_pr : Nat) (w_ch : Nat) (w_re : Nat) (w_lo : Nat) (p1 : Int32) (sz : Nat) : vx_Met l yX10_stop (ws_ yX10_stop cX10_stop 4 (some .int)) ({ frames := 7, cells := 1, slots := 6, locals := 112 } : Room) (va_Pc [.ref x, .int p1] (cmP D ct sz [(x, .inr (10, [.ref w, .ref sp, .ref sv, .ref bu, .int 0, .int 0])), (w, .inr (9, [.int 0, .ref w_se, .ref w_cu, .ref w_pr, .int 0, .ref w_ch, .ref w_re, .ref w_lo]))])) (va_Qi (fun (r : Int32) (_ : Unit) => False) (cmB D [(x, .inr (10, [.ref w, .ref sp, .ref sv, .ref bu, .int 0, .int 0])), (w, .inr (9, [.int 0, .ref w_se, .ref w_cu, .ref w_pr, .int 0, .ref w_ch, .ref w_re, .ref w_lo]))] sz (fun _ : Unit => [(x, .inr (10, [.ref w, .ref sp, .ref sv, .ref bu, .int 0, .int 0])), (w, .inr (9, [.int 0, .ref w_se, .ref w_cu, .ref w_pr, .int 0, .ref w_ch, .ref w_re, .ref w_lo]))])) (va_A [(x, .inr (10, [.ref w, .ref sp, .ref sv, .ref bu, .int 0, .int 0])), (w, .inr (9, [.int 0, .ref w_se, .ref w_cu, .ref w_pr, .int 0, .ref w_ch, .ref w_re, .ref w_lo]))] sz)) (vx_X (fun _ : Unit => True) (cmBX D [(x, .inr (10, [.ref w, .ref sp, .ref sv, .ref bu, .int 0, .int 0])), (w, .inr (9, [.int 0, .ref w_se, .ref w_cu, .ref w_pr, .int 0, .ref w_ch, .ref w_re, .ref w_lo]))] sz "java/lang/IndexOutOfBoundsException" (fun _ : Unit => [(x, .inr (10, [.ref w, .ref sp, .ref sv, .ref bu, .int 0, .int 0])), (w, .inr (9, [.int 0, .ref w_se, .ref w_cu, .ref w_pr, .int 0, .ref w_ch, .ref w_re, .ref w_lo]))])) (va_A [(x, .inr (10, [.ref w, .ref sp, .ref sv, .ref bu, .int 0, .int 0])), (w, .inr (9, [.int 0, .ref w_se, .ref w_cu, .ref w_pr, .int 0, .ref w_ch, .ref w_re, .ref w_lo]))] sz)) 1 6 (va_A [(x, .inr (10, [.ref w, .ref sp, .ref sv, .ref bu, .int 0, .int 0])), (w, .inr (9, [.int 0, .ref w_se, .ref w_cu, .ref w_pr, .int 0, .ref w_ch, .ref w_re, .ref w_lo]))] sz) := by
  refine vx_ofW (cc := cX10_stop) (maxL := 4) (ret := (some .int)) (by decide) rfl ?_
  intro p e s m args below meth c s₁ B hml hex hv
  obtain ⟨rfl, hsz, hP, hK, hD0, hX⟩ := hv
  have hx := B.exec
  have hb := B.bytes
  have hr := B.returns
  have hts := ws_all (atoms_spec (ws := ws_ yX10_stop cX10_stop 4 (some .int)) B.pre)
  have hown : s.vm.findClass RX10 = some m.cls := findClass_of_methodNamed B.named
  have hlocks := B.notSynchronized
  subst hsz
  have hD := hD0.self (sz := s.heap.size)
  generalize hAe : va_A [(x, .inr (10, [.ref w, .ref sp, .ref sv, .ref bu, .int 0, .int 0])), (w, .inr (9, [.int 0, .ref w_se, .ref w_cu, .ref w_pr, .int 0, .ref w_ch, .ref w_re, .ref w_lo]))] s.heap.size = A at hD hX ⊢
  have hA : ∀ q : Nat, s.heap.size ≤ q → A q := fun q h => by rw [← hAe]; exact Or.inr h
  have hS : va_S A s.heap s.heap [] := va_S.rf
  have hl := lv_entry ([.ref x, .int p1]) (n := 4) (Nat.le_of_ble_eq_true rfl)
  rw [lg_entry_eq]
  generalize (lg_sl ([.ref x, .int p1]) ++ List.replicate (4 - (lg_sl ([.ref x, .int p1])).length) Slot.unset).toArray = ls at hl ⊢
  have hl : lv_has ls 4 [(0, .ref x), (1, .int p1)] := hl
  refine lv_aload_n hx hb dX10_stop_0 rfl (lv_at hl 0 rfl) ?_
  refine lv_iload_n hx hb dX10_stop_1 rfl (lv_at hl 1 rfl) ?_
  refine cm_xq (wr := []) (vx_runV (As := [.int p1]) (rest := []) ⟨hx, hb, hml, hown, hts⟩ (c_needChannel_0 l hfl D ct x w sp sv bu w_se w_cu w_pr w_ch w_re w_lo p1 _) (cm_V 1 hts kc_X10_needChannel ki_RX10 kl_RX10_172 kv_X10_needChannel kx_X10_needChannel kd_X10_needChannel ⟨Nat.le_of_ble_eq_true rfl, Nat.le_of_ble_eq_true rfl⟩) (cm_preV hP hK hD hS hA hX [0, 1] rfl rfl rfl (q0 := 0) (ci := 10) rfl rfl) rfl rfl hl.1 rfl (lv_room (Nat.le_of_ble_eq_true rfl)) dX10_stop_2 ⟨Nat.le_of_ble_eq_true rfl, Nat.le_of_ble_eq_true rfl⟩) hP hD hS hA [0, 1] [] rfl rfl rfl (by decide) (fun E ce q9 u H locs hu hE hP hD hS hce hcv hcl => ?_) (fun r_1 u H locs hw_2 hP hD hS => ?_)
  · subst hE
    have hP : va_P D vwCl [(x, .inr (10, [.ref w, .ref sp, .ref sv, .ref bu, .int 0, .int 0])), (w, .inr (9, [.int 0, .ref w_se, .ref w_cu, .ref w_pr, .int 0, .ref w_ch, .ref w_re, .ref w_lo]))] H := hP
    have hD : va_D A [(x, .inr (10, [.ref w, .ref sp, .ref sv, .ref bu, .int 0, .int 0])), (w, .inr (9, [.int 0, .ref w_se, .ref w_cu, .ref w_pr, .int 0, .ref w_ch, .ref w_re, .ref w_lo]))] := hD
    have hP9 := hP.sub (ws' := [(x, .inr (10, [.ref w, .ref sp, .ref sv, .ref bu, .int 0, .int 0])), (w, .inr (9, [.int 0, .ref w_se, .ref w_cu, .ref w_pr, .int 0, .ref w_ch, .ref w_re, .ref w_lo]))]) [0, 1] rfl
    have hD9 := hD.sub (ws' := [(x, .inr (10, [.ref w, .ref sp, .ref sv, .ref bu, .int 0, .int 0])), (w, .inr (9, [.int 0, .ref w_se, .ref w_cu, .ref w_pr, .int 0, .ref w_ch, .ref w_re, .ref w_lo]))]) [0, 1] (by decide) rfl
    exact vx_out (fun x hx => (hex x hx).elim) hlocks hce hcv hcl (fun t ht hW => ⟨(), trivial, ⟨rfl, by rw [ht]; exact hP9, by rw [hAe]; exact hD9⟩, hS.F ht⟩) hS.2.2 (Nat.le_of_ble_eq_true rfl) (Nat.le_of_ble_eq_true rfl)
  · exact hw_2.elim
theorem dX10_skip_0 : decode cX10_skip 0 = .ok (.aload_n 0, 1) := by decide +kernel
theorem dX10_skip_1 : decode cX10_skip 1 = .ok (.iload_n 1, 1) := by decide +kernel
theorem dX10_skip_2 : decode cX10_skip 2 = .ok (.invokevirtual 172, 3) := by decide +kernel
set_option maxRecDepth 100000 in
set_option maxHeartbeats 4000000 in
theorem c_skip_0 (l : Launch) (hfl : l.stackTraces = false) (D : va_G) (ct : Nat → ClassId) (x : Nat) (w : Nat) (sp : Nat) (sv : Nat) (bu : Nat) (w_se : Nat) (w_cu : Nat) (w_pr : Nat) (w_ch : Nat) (w_re : Nat) (w_lo : Nat) (p1 : Int32) (sz : Nat) : vx_Met l yX10_skip (ws_ yX10_skip cX10_skip 3 (some .int)) ({ frames := 7, cells := 1, slots := 6, locals := 112 } : Room) (va_Pc [.ref x, .int p1] (cmP D ct sz [(x, .inr (10, [.ref w, .ref sp, .ref sv, .ref bu, .int 0, .int 0])), (w, .inr (9, [.int 0, .ref w_se, .ref w_cu, .ref w_pr, .int 0, .ref w_ch, .ref w_re, .ref w_lo]))])) (va_Qi (fun (r : Int32) (_ : Unit) => False) (cmB D [(x, .inr (10, [.ref w, .ref sp, .ref sv, .ref bu, .int 0, .int 0])), (w, .inr (9, [.int 0, .ref w_se, .ref w_cu, .ref w_pr, .int 0, .ref w_ch, .ref w_re, .ref w_lo]))] sz (fun _ : Unit => [(x, .inr (10, [.ref w, .ref sp, .ref sv, .ref bu, .int 0, .int 0])), (w, .inr (9, [.int 0, .ref w_se, .ref w_cu, .ref w_pr, .int 0, .ref w_ch, .ref w_re, .ref w_lo]))])) (va_A [(x, .inr (10, [.ref w, .ref sp, .ref sv, .ref bu, .int 0, .int 0])), (w, .inr (9, [.int 0, .ref w_se, .ref w_cu, .ref w_pr, .int 0, .ref w_ch, .ref w_re, .ref w_lo]))] sz)) (vx_X (fun _ : Unit => True) (cmBX D [(x, .inr (10, [.ref w, .ref sp, .ref sv, .ref bu, .int 0, .int 0])), (w, .inr (9, [.int 0, .ref w_se, .ref w_cu, .ref w_pr, .int 0, .ref w_ch, .ref w_re, .ref w_lo]))] sz "java/lang/IndexOutOfBoundsException" (fun _ : Unit => [(x, .inr (10, [.ref w, .ref sp, .ref sv, .ref bu, .int 0, .int 0])), (w, .inr (9, [.int 0, .ref w_se, .ref w_cu, .ref w_pr, .int 0, .ref w_ch, .ref w_re, .ref w_lo]))])) (va_A [(x, .inr (10, [.ref w, .ref sp, .ref sv, .ref bu, .int 0, .int 0])), (w, .inr (9, [.int 0, .ref w_se, .ref w_cu, .ref w_pr, .int 0, .ref w_ch, .ref w_re, .ref w_lo]))] sz)) 1 6 (va_A [(x, .inr (10, [.ref w, .ref sp, .ref sv, .ref bu, .int 0, .int 0])), (w, .inr (9, [.int 0, .ref w_se, .ref w_cu, .ref w_pr, .int 0, .ref w_ch, .ref w_re, .ref w_lo]))] sz) := by
  refine vx_ofW (cc := cX10_skip) (maxL := 3) (ret := (some .int)) (by decide) rfl ?_
  intro p e s m args below meth c s₁ B hml hex hv
  obtain ⟨rfl, hsz, hP, hK, hD0, hX⟩ := hv
  have hx := B.exec
  have hb := B.bytes
  have hr := B.returns
  have hts := ws_all (atoms_spec (ws := ws_ yX10_skip cX10_skip 3 (some .int)) B.pre)
  have hown : s.vm.findClass RX10 = some m.cls := findClass_of_methodNamed B.named
  have hlocks := B.notSynchronized
  subst hsz
  have hD := hD0.self (sz := s.heap.size)
  generalize hAe : va_A [(x, .inr (10, [.ref w, .ref sp, .ref sv, .ref bu, .int 0, .int 0])), (w, .inr (9, [.int 0, .ref w_se, .ref w_cu, .ref w_pr, .int 0, .ref w_ch, .ref w_re, .ref w_lo]))] s.heap.size = A at hD hX ⊢
  have hA : ∀ q : Nat, s.heap.size ≤ q → A q := fun q h => by rw [← hAe]; exact Or.inr h
  have hS : va_S A s.heap s.heap [] := va_S.rf
  have hl := lv_entry ([.ref x, .int p1]) (n := 3) (Nat.le_of_ble_eq_true rfl)
  rw [lg_entry_eq]
  generalize (lg_sl ([.ref x, .int p1]) ++ List.replicate (3 - (lg_sl ([.ref x, .int p1])).length) Slot.unset).toArray = ls at hl ⊢
  have hl : lv_has ls 3 [(0, .ref x), (1, .int p1)] := hl
  refine lv_aload_n hx hb dX10_skip_0 rfl (lv_at hl 0 rfl) ?_
  refine lv_iload_n hx hb dX10_skip_1 rfl (lv_at hl 1 rfl) ?_
  refine cm_xq (wr := []) (vx_runV (As := [.int p1]) (rest := []) ⟨hx, hb, hml, hown, hts⟩ (c_needChannel_0 l hfl D ct x w sp sv bu w_se w_cu w_pr w_ch w_re w_lo p1 _) (cm_V 1 hts kc_X10_needChannel ki_RX10 kl_RX10_172 kv_X10_needChannel kx_X10_needChannel kd_X10_needChannel ⟨Nat.le_of_ble_eq_true rfl, Nat.le_of_ble_eq_true rfl⟩) (cm_preV hP hK hD hS hA hX [0, 1] rfl rfl rfl (q0 := 0) (ci := 10) rfl rfl) rfl rfl hl.1 rfl (lv_room (Nat.le_of_ble_eq_true rfl)) dX10_skip_2 ⟨Nat.le_of_ble_eq_true rfl, Nat.le_of_ble_eq_true rfl⟩) hP hD hS hA [0, 1] [] rfl rfl rfl (by decide) (fun E ce q9 u H locs hu hE hP hD hS hce hcv hcl => ?_) (fun r_1 u H locs hw_2 hP hD hS => ?_)
  · subst hE
    have hP : va_P D vwCl [(x, .inr (10, [.ref w, .ref sp, .ref sv, .ref bu, .int 0, .int 0])), (w, .inr (9, [.int 0, .ref w_se, .ref w_cu, .ref w_pr, .int 0, .ref w_ch, .ref w_re, .ref w_lo]))] H := hP
    have hD : va_D A [(x, .inr (10, [.ref w, .ref sp, .ref sv, .ref bu, .int 0, .int 0])), (w, .inr (9, [.int 0, .ref w_se, .ref w_cu, .ref w_pr, .int 0, .ref w_ch, .ref w_re, .ref w_lo]))] := hD
    have hP9 := hP.sub (ws' := [(x, .inr (10, [.ref w, .ref sp, .ref sv, .ref bu, .int 0, .int 0])), (w, .inr (9, [.int 0, .ref w_se, .ref w_cu, .ref w_pr, .int 0, .ref w_ch, .ref w_re, .ref w_lo]))]) [0, 1] rfl
    have hD9 := hD.sub (ws' := [(x, .inr (10, [.ref w, .ref sp, .ref sv, .ref bu, .int 0, .int 0])), (w, .inr (9, [.int 0, .ref w_se, .ref w_cu, .ref w_pr, .int 0, .ref w_ch, .ref w_re, .ref w_lo]))]) [0, 1] (by decide) rfl
    exact vx_out (fun x hx => (hex x hx).elim) hlocks hce hcv hcl (fun t ht hW => ⟨(), trivial, ⟨rfl, by rw [ht]; exact hP9, by rw [hAe]; exact hD9⟩, hS.F ht⟩) hS.2.2 (Nat.le_of_ble_eq_true rfl) (Nat.le_of_ble_eq_true rfl)
  · exact hw_2.elim
theorem dX10_replace_0 : decode cX10_replace 0 = .ok (.aload_n 0, 1) := by decide +kernel
theorem dX10_replace_1 : decode cX10_replace 1 = .ok (.iload_n 1, 1) := by decide +kernel
theorem dX10_replace_2 : decode cX10_replace 2 = .ok (.invokevirtual 172, 3) := by decide +kernel
set_option maxRecDepth 100000 in
set_option maxHeartbeats 4000000 in
theorem c_replace_0 (l : Launch) (hfl : l.stackTraces = false) (D : va_G) (ct : Nat → ClassId) (x : Nat) (w : Nat) (sp : Nat) (sv : Nat) (bu : Nat) (w_se : Nat) (w_cu : Nat) (w_pr : Nat) (w_ch : Nat) (w_re : Nat) (w_lo : Nat) (p1 : Int32) (p2 : Int32) (sz : Nat) : vx_Met l yX10_replace (ws_ yX10_replace cX10_replace 5 (some .int)) ({ frames := 7, cells := 1, slots := 6, locals := 112 } : Room) (va_Pc [.ref x, .int p1, .int p2] (cmP D ct sz [(x, .inr (10, [.ref w, .ref sp, .ref sv, .ref bu, .int 0, .int 0])), (w, .inr (9, [.int 0, .ref w_se, .ref w_cu, .ref w_pr, .int 0, .ref w_ch, .ref w_re, .ref w_lo]))])) (va_Qi (fun (r : Int32) (_ : Unit) => False) (cmB D [(x, .inr (10, [.ref w, .ref sp, .ref sv, .ref bu, .int 0, .int 0])), (w, .inr (9, [.int 0, .ref w_se, .ref w_cu, .ref w_pr, .int 0, .ref w_ch, .ref w_re, .ref w_lo]))] sz (fun _ : Unit => [(x, .inr (10, [.ref w, .ref sp, .ref sv, .ref bu, .int 0, .int 0])), (w, .inr (9, [.int 0, .ref w_se, .ref w_cu, .ref w_pr, .int 0, .ref w_ch, .ref w_re, .ref w_lo]))])) (va_A [(x, .inr (10, [.ref w, .ref sp, .ref sv, .ref bu, .int 0, .int 0])), (w, .inr (9, [.int 0, .ref w_se, .ref w_cu, .ref w_pr, .int 0, .ref w_ch, .ref w_re, .ref w_lo]))] sz)) (vx_X (fun _ : Unit => True) (cmBX D [(x, .inr (10, [.ref w, .ref sp, .ref sv, .ref bu, .int 0, .int 0])), (w, .inr (9, [.int 0, .ref w_se, .ref w_cu, .ref w_pr, .int 0, .ref w_ch, .ref w_re, .ref w_lo]))] sz "java/lang/IndexOutOfBoundsException" (fun _ : Unit => [(x, .inr (10, [.ref w, .ref sp, .ref sv, .ref bu, .int 0, .int 0])), (w, .inr (9, [.int 0, .ref w_se, .ref w_cu, .ref w_pr, .int 0, .ref w_ch, .ref w_re, .ref w_lo]))])) (va_A [(x, .inr (10, [.ref w, .ref sp, .ref sv, .ref bu, .int 0, .int 0])), (w, .inr (9, [.int 0, .ref w_se, .ref w_cu, .ref w_pr, .int 0, .ref w_ch, .ref w_re, .ref w_lo]))] sz)) 1 6 (va_A [(x, .inr (10, [.ref w, .ref sp, .ref sv, .ref bu, .int 0, .int 0])), (w, .inr (9, [.int 0, .ref w_se, .ref w_cu, .ref w_pr, .int 0, .ref w_ch, .ref w_re, .ref w_lo]))] sz) := by
  refine vx_ofW (cc := cX10_replace) (maxL := 5) (ret := (some .int)) (by decide) rfl ?_
  intro p e s m args below meth c s₁ B hml hex hv
  obtain ⟨rfl, hsz, hP, hK, hD0, hX⟩ := hv
  have hx := B.exec
  have hb := B.bytes
  have hr := B.returns
  have hts := ws_all (atoms_spec (ws := ws_ yX10_replace cX10_replace 5 (some .int)) B.pre)
  have hown : s.vm.findClass RX10 = some m.cls := findClass_of_methodNamed B.named
  have hlocks := B.notSynchronized
  subst hsz
  have hD := hD0.self (sz := s.heap.size)
  generalize hAe : va_A [(x, .inr (10, [.ref w, .ref sp, .ref sv, .ref bu, .int 0, .int 0])), (w, .inr (9, [.int 0, .ref w_se, .ref w_cu, .ref w_pr, .int 0, .ref w_ch, .ref w_re, .ref w_lo]))] s.heap.size = A at hD hX ⊢
  have hA : ∀ q : Nat, s.heap.size ≤ q → A q := fun q h => by rw [← hAe]; exact Or.inr h
  have hS : va_S A s.heap s.heap [] := va_S.rf
  have hl := lv_entry ([.ref x, .int p1, .int p2]) (n := 5) (Nat.le_of_ble_eq_true rfl)
  rw [lg_entry_eq]
  generalize (lg_sl ([.ref x, .int p1, .int p2]) ++ List.replicate (5 - (lg_sl ([.ref x, .int p1, .int p2])).length) Slot.unset).toArray = ls at hl ⊢
  have hl : lv_has ls 5 [(0, .ref x), (1, .int p1), (2, .int p2)] := hl
  refine lv_aload_n hx hb dX10_replace_0 rfl (lv_at hl 0 rfl) ?_
  refine lv_iload_n hx hb dX10_replace_1 rfl (lv_at hl 1 rfl) ?_
  refine cm_xq (wr := []) (vx_runV (As := [.int p1]) (rest := []) ⟨hx, hb, hml, hown, hts⟩ (c_needChannel_0 l hfl D ct x w sp sv bu w_se w_cu w_pr w_ch w_re w_lo p1 _) (cm_V 1 hts kc_X10_needChannel ki_RX10 kl_RX10_172 kv_X10_needChannel kx_X10_needChannel kd_X10_needChannel ⟨Nat.le_of_ble_eq_true rfl, Nat.le_of_ble_eq_true rfl⟩) (cm_preV hP hK hD hS hA hX [0, 1] rfl rfl rfl (q0 := 0) (ci := 10) rfl rfl) rfl rfl hl.1 rfl (lv_room (Nat.le_of_ble_eq_true rfl)) dX10_replace_2 ⟨Nat.le_of_ble_eq_true rfl, Nat.le_of_ble_eq_true rfl⟩) hP hD hS hA [0, 1] [] rfl rfl rfl (by decide) (fun E ce q9 u H locs hu hE hP hD hS hce hcv hcl => ?_) (fun r_1 u H locs hw_2 hP hD hS => ?_)
  · subst hE
    have hP : va_P D vwCl [(x, .inr (10, [.ref w, .ref sp, .ref sv, .ref bu, .int 0, .int 0])), (w, .inr (9, [.int 0, .ref w_se, .ref w_cu, .ref w_pr, .int 0, .ref w_ch, .ref w_re, .ref w_lo]))] H := hP
    have hD : va_D A [(x, .inr (10, [.ref w, .ref sp, .ref sv, .ref bu, .int 0, .int 0])), (w, .inr (9, [.int 0, .ref w_se, .ref w_cu, .ref w_pr, .int 0, .ref w_ch, .ref w_re, .ref w_lo]))] := hD
    have hP9 := hP.sub (ws' := [(x, .inr (10, [.ref w, .ref sp, .ref sv, .ref bu, .int 0, .int 0])), (w, .inr (9, [.int 0, .ref w_se, .ref w_cu, .ref w_pr, .int 0, .ref w_ch, .ref w_re, .ref w_lo]))]) [0, 1] rfl
    have hD9 := hD.sub (ws' := [(x, .inr (10, [.ref w, .ref sp, .ref sv, .ref bu, .int 0, .int 0])), (w, .inr (9, [.int 0, .ref w_se, .ref w_cu, .ref w_pr, .int 0, .ref w_ch, .ref w_re, .ref w_lo]))]) [0, 1] (by decide) rfl
    exact vx_out (fun x hx => (hex x hx).elim) hlocks hce hcv hcl (fun t ht hW => ⟨(), trivial, ⟨rfl, by rw [ht]; exact hP9, by rw [hAe]; exact hD9⟩, hS.F ht⟩) hS.2.2 (Nat.le_of_ble_eq_true rfl) (Nat.le_of_ble_eq_true rfl)
  · exact hw_2.elim
theorem dX10_enqueue_0 : decode cX10_enqueue 0 = .ok (.aload_n 0, 1) := by decide +kernel
theorem dX10_enqueue_1 : decode cX10_enqueue 1 = .ok (.iload_n 1, 1) := by decide +kernel
theorem dX10_enqueue_2 : decode cX10_enqueue 2 = .ok (.invokevirtual 172, 3) := by decide +kernel
set_option maxRecDepth 100000 in
set_option maxHeartbeats 4000000 in
theorem c_enqueue_0 (l : Launch) (hfl : l.stackTraces = false) (D : va_G) (ct : Nat → ClassId) (x : Nat) (w : Nat) (sp : Nat) (sv : Nat) (bu : Nat) (w_se : Nat) (w_cu : Nat) (w_pr : Nat) (w_ch : Nat) (w_re : Nat) (w_lo : Nat) (p1 : Int32) (p2 : Int32) (sz : Nat) : vx_Met l yX10_enqueue (ws_ yX10_enqueue cX10_enqueue 4 (some .int)) ({ frames := 7, cells := 1, slots := 6, locals := 112 } : Room) (va_Pc [.ref x, .int p1, .int p2] (cmP D ct sz [(x, .inr (10, [.ref w, .ref sp, .ref sv, .ref bu, .int 0, .int 0])), (w, .inr (9, [.int 0, .ref w_se, .ref w_cu, .ref w_pr, .int 0, .ref w_ch, .ref w_re, .ref w_lo]))])) (va_Qi (fun (r : Int32) (_ : Unit) => False) (cmB D [(x, .inr (10, [.ref w, .ref sp, .ref sv, .ref bu, .int 0, .int 0])), (w, .inr (9, [.int 0, .ref w_se, .ref w_cu, .ref w_pr, .int 0, .ref w_ch, .ref w_re, .ref w_lo]))] sz (fun _ : Unit => [(x, .inr (10, [.ref w, .ref sp, .ref sv, .ref bu, .int 0, .int 0])), (w, .inr (9, [.int 0, .ref w_se, .ref w_cu, .ref w_pr, .int 0, .ref w_ch, .ref w_re, .ref w_lo]))])) (va_A [(x, .inr (10, [.ref w, .ref sp, .ref sv, .ref bu, .int 0, .int 0])), (w, .inr (9, [.int 0, .ref w_se, .ref w_cu, .ref w_pr, .int 0, .ref w_ch, .ref w_re, .ref w_lo]))] sz)) (vx_X (fun _ : Unit => True) (cmBX D [(x, .inr (10, [.ref w, .ref sp, .ref sv, .ref bu, .int 0, .int 0])), (w, .inr (9, [.int 0, .ref w_se, .ref w_cu, .ref w_pr, .int 0, .ref w_ch, .ref w_re, .ref w_lo]))] sz "java/lang/IndexOutOfBoundsException" (fun _ : Unit => [(x, .inr (10, [.ref w, .ref sp, .ref sv, .ref bu, .int 0, .int 0])), (w, .inr (9, [.int 0, .ref w_se, .ref w_cu, .ref w_pr, .int 0, .ref w_ch, .ref w_re, .ref w_lo]))])) (va_A [(x, .inr (10, [.ref w, .ref sp, .ref sv, .ref bu, .int 0, .int 0])), (w, .inr (9, [.int 0, .ref w_se, .ref w_cu, .ref w_pr, .int 0, .ref w_ch, .ref w_re, .ref w_lo]))] sz)) 1 6 (va_A [(x, .inr (10, [.ref w, .ref sp, .ref sv, .ref bu, .int 0, .int 0])), (w, .inr (9, [.int 0, .ref w_se, .ref w_cu, .ref w_pr, .int 0, .ref w_ch, .ref w_re, .ref w_lo]))] sz) := by
  refine vx_ofW (cc := cX10_enqueue) (maxL := 4) (ret := (some .int)) (by decide) rfl ?_
  intro p e s m args below meth c s₁ B hml hex hv
  obtain ⟨rfl, hsz, hP, hK, hD0, hX⟩ := hv
  have hx := B.exec
  have hb := B.bytes
  have hr := B.returns
  have hts := ws_all (atoms_spec (ws := ws_ yX10_enqueue cX10_enqueue 4 (some .int)) B.pre)
  have hown : s.vm.findClass RX10 = some m.cls := findClass_of_methodNamed B.named
  have hlocks := B.notSynchronized
  subst hsz
  have hD := hD0.self (sz := s.heap.size)
  generalize hAe : va_A [(x, .inr (10, [.ref w, .ref sp, .ref sv, .ref bu, .int 0, .int 0])), (w, .inr (9, [.int 0, .ref w_se, .ref w_cu, .ref w_pr, .int 0, .ref w_ch, .ref w_re, .ref w_lo]))] s.heap.size = A at hD hX ⊢
  have hA : ∀ q : Nat, s.heap.size ≤ q → A q := fun q h => by rw [← hAe]; exact Or.inr h
  have hS : va_S A s.heap s.heap [] := va_S.rf
  have hl := lv_entry ([.ref x, .int p1, .int p2]) (n := 4) (Nat.le_of_ble_eq_true rfl)
  rw [lg_entry_eq]
  generalize (lg_sl ([.ref x, .int p1, .int p2]) ++ List.replicate (4 - (lg_sl ([.ref x, .int p1, .int p2])).length) Slot.unset).toArray = ls at hl ⊢
  have hl : lv_has ls 4 [(0, .ref x), (1, .int p1), (2, .int p2)] := hl
  refine lv_aload_n hx hb dX10_enqueue_0 rfl (lv_at hl 0 rfl) ?_
  refine lv_iload_n hx hb dX10_enqueue_1 rfl (lv_at hl 1 rfl) ?_
  refine cm_xq (wr := []) (vx_runV (As := [.int p1]) (rest := []) ⟨hx, hb, hml, hown, hts⟩ (c_needChannel_0 l hfl D ct x w sp sv bu w_se w_cu w_pr w_ch w_re w_lo p1 _) (cm_V 1 hts kc_X10_needChannel ki_RX10 kl_RX10_172 kv_X10_needChannel kx_X10_needChannel kd_X10_needChannel ⟨Nat.le_of_ble_eq_true rfl, Nat.le_of_ble_eq_true rfl⟩) (cm_preV hP hK hD hS hA hX [0, 1] rfl rfl rfl (q0 := 0) (ci := 10) rfl rfl) rfl rfl hl.1 rfl (lv_room (Nat.le_of_ble_eq_true rfl)) dX10_enqueue_2 ⟨Nat.le_of_ble_eq_true rfl, Nat.le_of_ble_eq_true rfl⟩) hP hD hS hA [0, 1] [] rfl rfl rfl (by decide) (fun E ce q9 u H locs hu hE hP hD hS hce hcv hcl => ?_) (fun r_1 u H locs hw_2 hP hD hS => ?_)
  · subst hE
    have hP : va_P D vwCl [(x, .inr (10, [.ref w, .ref sp, .ref sv, .ref bu, .int 0, .int 0])), (w, .inr (9, [.int 0, .ref w_se, .ref w_cu, .ref w_pr, .int 0, .ref w_ch, .ref w_re, .ref w_lo]))] H := hP
    have hD : va_D A [(x, .inr (10, [.ref w, .ref sp, .ref sv, .ref bu, .int 0, .int 0])), (w, .inr (9, [.int 0, .ref w_se, .ref w_cu, .ref w_pr, .int 0, .ref w_ch, .ref w_re, .ref w_lo]))] := hD
    have hP9 := hP.sub (ws' := [(x, .inr (10, [.ref w, .ref sp, .ref sv, .ref bu, .int 0, .int 0])), (w, .inr (9, [.int 0, .ref w_se, .ref w_cu, .ref w_pr, .int 0, .ref w_ch, .ref w_re, .ref w_lo]))]) [0, 1] rfl
    have hD9 := hD.sub (ws' := [(x, .inr (10, [.ref w, .ref sp, .ref sv, .ref bu, .int 0, .int 0])), (w, .inr (9, [.int 0, .ref w_se, .ref w_cu, .ref w_pr, .int 0, .ref w_ch, .ref w_re, .ref w_lo]))]) [0, 1] (by decide) rfl
    exact vx_out (fun x hx => (hex x hx).elim) hlocks hce hcv hcl (fun t ht hW => ⟨(), trivial, ⟨rfl, by rw [ht]; exact hP9, by rw [hAe]; exact hD9⟩, hS.F ht⟩) hS.2.2 (Nat.le_of_ble_eq_true rfl) (Nat.le_of_ble_eq_true rfl)
  · exact hw_2.elim
theorem dX10_dequeue_0 : decode cX10_dequeue 0 = .ok (.aload_n 0, 1) := by decide +kernel
theorem dX10_dequeue_1 : decode cX10_dequeue 1 = .ok (.iload_n 1, 1) := by decide +kernel
theorem dX10_dequeue_2 : decode cX10_dequeue 2 = .ok (.invokevirtual 172, 3) := by decide +kernel
set_option maxRecDepth 100000 in
set_option maxHeartbeats 4000000 in
theorem c_dequeue_0 (l : Launch) (hfl : l.stackTraces = false) (D : va_G) (ct : Nat → ClassId) (x : Nat) (w : Nat) (sp : Nat) (sv : Nat) (bu : Nat) (w_se : Nat) (w_cu : Nat) (w_pr : Nat) (w_ch : Nat) (w_re : Nat) (w_lo : Nat) (p1 : Int32) (sz : Nat) : vx_Met l yX10_dequeue (ws_ yX10_dequeue cX10_dequeue 3 (some .int)) ({ frames := 7, cells := 1, slots := 6, locals := 112 } : Room) (va_Pc [.ref x, .int p1] (cmP D ct sz [(x, .inr (10, [.ref w, .ref sp, .ref sv, .ref bu, .int 0, .int 0])), (w, .inr (9, [.int 0, .ref w_se, .ref w_cu, .ref w_pr, .int 0, .ref w_ch, .ref w_re, .ref w_lo]))])) (va_Qi (fun (r : Int32) (_ : Unit) => False) (cmB D [(x, .inr (10, [.ref w, .ref sp, .ref sv, .ref bu, .int 0, .int 0])), (w, .inr (9, [.int 0, .ref w_se, .ref w_cu, .ref w_pr, .int 0, .ref w_ch, .ref w_re, .ref w_lo]))] sz (fun _ : Unit => [(x, .inr (10, [.ref w, .ref sp, .ref sv, .ref bu, .int 0, .int 0])), (w, .inr (9, [.int 0, .ref w_se, .ref w_cu, .ref w_pr, .int 0, .ref w_ch, .ref w_re, .ref w_lo]))])) (va_A [(x, .inr (10, [.ref w, .ref sp, .ref sv, .ref bu, .int 0, .int 0])), (w, .inr (9, [.int 0, .ref w_se, .ref w_cu, .ref w_pr, .int 0, .ref w_ch, .ref w_re, .ref w_lo]))] sz)) (vx_X (fun _ : Unit => True) (cmBX D [(x, .inr (10, [.ref w, .ref sp, .ref sv, .ref bu, .int 0, .int 0])), (w, .inr (9, [.int 0, .ref w_se, .ref w_cu, .ref w_pr, .int 0, .ref w_ch, .ref w_re, .ref w_lo]))] sz "java/lang/IndexOutOfBoundsException" (fun _ : Unit => [(x, .inr (10, [.ref w, .ref sp, .ref sv, .ref bu, .int 0, .int 0])), (w, .inr (9, [.int 0, .ref w_se, .ref w_cu, .ref w_pr, .int 0, .ref w_ch, .ref w_re, .ref w_lo]))])) (va_A [(x, .inr (10, [.ref w, .ref sp, .ref sv, .ref bu, .int 0, .int 0])), (w, .inr (9, [.int 0, .ref w_se, .ref w_cu, .ref w_pr, .int 0, .ref w_ch, .ref w_re, .ref w_lo]))] sz)) 1 6 (va_A [(x, .inr (10, [.ref w, .ref sp, .ref sv, .ref bu, .int 0, .int 0])), (w, .inr (9, [.int 0, .ref w_se, .ref w_cu, .ref w_pr, .int 0, .ref w_ch, .ref w_re, .ref w_lo]))] sz) := by
  refine vx_ofW (cc := cX10_dequeue) (maxL := 3) (ret := (some .int)) (by decide) rfl ?_
  intro p e s m args below meth c s₁ B hml hex hv
  obtain ⟨rfl, hsz, hP, hK, hD0, hX⟩ := hv
  have hx := B.exec
  have hb := B.bytes
  have hr := B.returns
  have hts := ws_all (atoms_spec (ws := ws_ yX10_dequeue cX10_dequeue 3 (some .int)) B.pre)
  have hown : s.vm.findClass RX10 = some m.cls := findClass_of_methodNamed B.named
  have hlocks := B.notSynchronized
  subst hsz
  have hD := hD0.self (sz := s.heap.size)
  generalize hAe : va_A [(x, .inr (10, [.ref w, .ref sp, .ref sv, .ref bu, .int 0, .int 0])), (w, .inr (9, [.int 0, .ref w_se, .ref w_cu, .ref w_pr, .int 0, .ref w_ch, .ref w_re, .ref w_lo]))] s.heap.size = A at hD hX ⊢
  have hA : ∀ q : Nat, s.heap.size ≤ q → A q := fun q h => by rw [← hAe]; exact Or.inr h
  have hS : va_S A s.heap s.heap [] := va_S.rf
  have hl := lv_entry ([.ref x, .int p1]) (n := 3) (Nat.le_of_ble_eq_true rfl)
  rw [lg_entry_eq]
  generalize (lg_sl ([.ref x, .int p1]) ++ List.replicate (3 - (lg_sl ([.ref x, .int p1])).length) Slot.unset).toArray = ls at hl ⊢
  have hl : lv_has ls 3 [(0, .ref x), (1, .int p1)] := hl
  refine lv_aload_n hx hb dX10_dequeue_0 rfl (lv_at hl 0 rfl) ?_
  refine lv_iload_n hx hb dX10_dequeue_1 rfl (lv_at hl 1 rfl) ?_
  refine cm_xq (wr := []) (vx_runV (As := [.int p1]) (rest := []) ⟨hx, hb, hml, hown, hts⟩ (c_needChannel_0 l hfl D ct x w sp sv bu w_se w_cu w_pr w_ch w_re w_lo p1 _) (cm_V 1 hts kc_X10_needChannel ki_RX10 kl_RX10_172 kv_X10_needChannel kx_X10_needChannel kd_X10_needChannel ⟨Nat.le_of_ble_eq_true rfl, Nat.le_of_ble_eq_true rfl⟩) (cm_preV hP hK hD hS hA hX [0, 1] rfl rfl rfl (q0 := 0) (ci := 10) rfl rfl) rfl rfl hl.1 rfl (lv_room (Nat.le_of_ble_eq_true rfl)) dX10_dequeue_2 ⟨Nat.le_of_ble_eq_true rfl, Nat.le_of_ble_eq_true rfl⟩) hP hD hS hA [0, 1] [] rfl rfl rfl (by decide) (fun E ce q9 u H locs hu hE hP hD hS hce hcv hcl => ?_) (fun r_1 u H locs hw_2 hP hD hS => ?_)
  · subst hE
    have hP : va_P D vwCl [(x, .inr (10, [.ref w, .ref sp, .ref sv, .ref bu, .int 0, .int 0])), (w, .inr (9, [.int 0, .ref w_se, .ref w_cu, .ref w_pr, .int 0, .ref w_ch, .ref w_re, .ref w_lo]))] H := hP
    have hD : va_D A [(x, .inr (10, [.ref w, .ref sp, .ref sv, .ref bu, .int 0, .int 0])), (w, .inr (9, [.int 0, .ref w_se, .ref w_cu, .ref w_pr, .int 0, .ref w_ch, .ref w_re, .ref w_lo]))] := hD
    have hP9 := hP.sub (ws' := [(x, .inr (10, [.ref w, .ref sp, .ref sv, .ref bu, .int 0, .int 0])), (w, .inr (9, [.int 0, .ref w_se, .ref w_cu, .ref w_pr, .int 0, .ref w_ch, .ref w_re, .ref w_lo]))]) [0, 1] rfl
    have hD9 := hD.sub (ws' := [(x, .inr (10, [.ref w, .ref sp, .ref sv, .ref bu, .int 0, .int 0])), (w, .inr (9, [.int 0, .ref w_se, .ref w_cu, .ref w_pr, .int 0, .ref w_ch, .ref w_re, .ref w_lo]))]) [0, 1] (by decide) rfl
    exact vx_out (fun x hx => (hex x hx).elim) hlocks hce hcv hcl (fun t ht hW => ⟨(), trivial, ⟨rfl, by rw [ht]; exact hP9, by rw [hAe]; exact hD9⟩, hS.F ht⟩) hS.2.2 (Nat.le_of_ble_eq_true rfl) (Nat.le_of_ble_eq_true rfl)
  · exact hw_2.elim
theorem dX10_startNext_0 : decode cX10_startNext 0 = .ok (.aload_n 0, 1) := by decide +kernel
theorem dX10_startNext_1 : decode cX10_startNext 1 = .ok (.iload_n 1, 1) := by decide +kernel
theorem dX10_startNext_2 : decode cX10_startNext 2 = .ok (.invokevirtual 172, 3) := by decide +kernel
set_option maxRecDepth 100000 in
set_option maxHeartbeats 4000000 in
theorem c_startNext_0 (l : Launch) (hfl : l.stackTraces = false) (D : va_G) (ct : Nat → ClassId) (x : Nat) (w : Nat) (sp : Nat) (sv : Nat) (bu : Nat) (w_se : Nat) (w_cu : Nat) (w_pr : Nat) (w_ch : Nat) (w_re : Nat) (w_lo : Nat) (p1 : Int32) (sz : Nat) : vx_Met l yX10_startNext (ws_ yX10_startNext cX10_startNext 3 (some .int)) ({ frames := 7, cells := 1, slots := 6, locals := 112 } : Room) (va_Pc [.ref x, .int p1] (cmP D ct sz [(x, .inr (10, [.ref w, .ref sp, .ref sv, .ref bu, .int 0, .int 0])), (w, .inr (9, [.int 0, .ref w_se, .ref w_cu, .ref w_pr, .int 0, .ref w_ch, .ref w_re, .ref w_lo]))])) (va_Qi (fun (r : Int32) (_ : Unit) => False) (cmB D [(x, .inr (10, [.ref w, .ref sp, .ref sv, .ref bu, .int 0, .int 0])), (w, .inr (9, [.int 0, .ref w_se, .ref w_cu, .ref w_pr, .int 0, .ref w_ch, .ref w_re, .ref w_lo]))] sz (fun _ : Unit => [(x, .inr (10, [.ref w, .ref sp, .ref sv, .ref bu, .int 0, .int 0])), (w, .inr (9, [.int 0, .ref w_se, .ref w_cu, .ref w_pr, .int 0, .ref w_ch, .ref w_re, .ref w_lo]))])) (va_A [(x, .inr (10, [.ref w, .ref sp, .ref sv, .ref bu, .int 0, .int 0])), (w, .inr (9, [.int 0, .ref w_se, .ref w_cu, .ref w_pr, .int 0, .ref w_ch, .ref w_re, .ref w_lo]))] sz)) (vx_X (fun _ : Unit => True) (cmBX D [(x, .inr (10, [.ref w, .ref sp, .ref sv, .ref bu, .int 0, .int 0])), (w, .inr (9, [.int 0, .ref w_se, .ref w_cu, .ref w_pr, .int 0, .ref w_ch, .ref w_re, .ref w_lo]))] sz "java/lang/IndexOutOfBoundsException" (fun _ : Unit => [(x, .inr (10, [.ref w, .ref sp, .ref sv, .ref bu, .int 0, .int 0])), (w, .inr (9, [.int 0, .ref w_se, .ref w_cu, .ref w_pr, .int 0, .ref w_ch, .ref w_re, .ref w_lo]))])) (va_A [(x, .inr (10, [.ref w, .ref sp, .ref sv, .ref bu, .int 0, .int 0])), (w, .inr (9, [.int 0, .ref w_se, .ref w_cu, .ref w_pr, .int 0, .ref w_ch, .ref w_re, .ref w_lo]))] sz)) 1 6 (va_A [(x, .inr (10, [.ref w, .ref sp, .ref sv, .ref bu, .int 0, .int 0])), (w, .inr (9, [.int 0, .ref w_se, .ref w_cu, .ref w_pr, .int 0, .ref w_ch, .ref w_re, .ref w_lo]))] sz) := by
  refine vx_ofW (cc := cX10_startNext) (maxL := 3) (ret := (some .int)) (by decide) rfl ?_
  intro p e s m args below meth c s₁ B hml hex hv
  obtain ⟨rfl, hsz, hP, hK, hD0, hX⟩ := hv
  have hx := B.exec
  have hb := B.bytes
  have hr := B.returns
  have hts := ws_all (atoms_spec (ws := ws_ yX10_startNext cX10_startNext 3 (some .int)) B.pre)
  have hown : s.vm.findClass RX10 = some m.cls := findClass_of_methodNamed B.named
  have hlocks := B.notSynchronized
  subst hsz
  have hD := hD0.self (sz := s.heap.size)
  generalize hAe : va_A [(x, .inr (10, [.ref w, .ref sp, .ref sv, .ref bu, .int 0, .int 0])), (w, .inr (9, [.int 0, .ref w_se, .ref w_cu, .ref w_pr, .int 0, .ref w_ch, .ref w_re, .ref w_lo]))] s.heap.size = A at hD hX ⊢
  have hA : ∀ q : Nat, s.heap.size ≤ q → A q := fun q h => by rw [← hAe]; exact Or.inr h
  have hS : va_S A s.heap s.heap [] := va_S.rf
  have hl := lv_entry ([.ref x, .int p1]) (n := 3) (Nat.le_of_ble_eq_true rfl)
  rw [lg_entry_eq]
  generalize (lg_sl ([.ref x, .int p1]) ++ List.replicate (3 - (lg_sl ([.ref x, .int p1])).length) Slot.unset).toArray = ls at hl ⊢
  have hl : lv_has ls 3 [(0, .ref x), (1, .int p1)] := hl
  refine lv_aload_n hx hb dX10_startNext_0 rfl (lv_at hl 0 rfl) ?_
  refine lv_iload_n hx hb dX10_startNext_1 rfl (lv_at hl 1 rfl) ?_
  refine cm_xq (wr := []) (vx_runV (As := [.int p1]) (rest := []) ⟨hx, hb, hml, hown, hts⟩ (c_needChannel_0 l hfl D ct x w sp sv bu w_se w_cu w_pr w_ch w_re w_lo p1 _) (cm_V 1 hts kc_X10_needChannel ki_RX10 kl_RX10_172 kv_X10_needChannel kx_X10_needChannel kd_X10_needChannel ⟨Nat.le_of_ble_eq_true rfl, Nat.le_of_ble_eq_true rfl⟩) (cm_preV hP hK hD hS hA hX [0, 1] rfl rfl rfl (q0 := 0) (ci := 10) rfl rfl) rfl rfl hl.1 rfl (lv_room (Nat.le_of_ble_eq_true rfl)) dX10_startNext_2 ⟨Nat.le_of_ble_eq_true rfl, Nat.le_of_ble_eq_true rfl⟩) hP hD hS hA [0, 1] [] rfl rfl rfl (by decide) (fun E ce q9 u H locs hu hE hP hD hS hce hcv hcl => ?_) (fun r_1 u H locs hw_2 hP hD hS => ?_)
  · subst hE
    have hP : va_P D vwCl [(x, .inr (10, [.ref w, .ref sp, .ref sv, .ref bu, .int 0, .int 0])), (w, .inr (9, [.int 0, .ref w_se, .ref w_cu, .ref w_pr, .int 0, .ref w_ch, .ref w_re, .ref w_lo]))] H := hP
    have hD : va_D A [(x, .inr (10, [.ref w, .ref sp, .ref sv, .ref bu, .int 0, .int 0])), (w, .inr (9, [.int 0, .ref w_se, .ref w_cu, .ref w_pr, .int 0, .ref w_ch, .ref w_re, .ref w_lo]))] := hD
    have hP9 := hP.sub (ws' := [(x, .inr (10, [.ref w, .ref sp, .ref sv, .ref bu, .int 0, .int 0])), (w, .inr (9, [.int 0, .ref w_se, .ref w_cu, .ref w_pr, .int 0, .ref w_ch, .ref w_re, .ref w_lo]))]) [0, 1] rfl
    have hD9 := hD.sub (ws' := [(x, .inr (10, [.ref w, .ref sp, .ref sv, .ref bu, .int 0, .int 0])), (w, .inr (9, [.int 0, .ref w_se, .ref w_cu, .ref w_pr, .int 0, .ref w_ch, .ref w_re, .ref w_lo]))]) [0, 1] (by decide) rfl
    exact vx_out (fun x hx => (hex x hx).elim) hlocks hce hcv hcl (fun t ht hW => ⟨(), trivial, ⟨rfl, by rw [ht]; exact hP9, by rw [hAe]; exact hD9⟩, hS.F ht⟩) hS.2.2 (Nat.le_of_ble_eq_true rfl) (Nat.le_of_ble_eq_true rfl)
  · exact hw_2.elim
theorem dX10_queueAt_0 : decode cX10_queueAt 0 = .ok (.aload_n 0, 1) := by decide +kernel
theorem dX10_queueAt_1 : decode cX10_queueAt 1 = .ok (.iload_n 1, 1) := by decide +kernel
theorem dX10_queueAt_2 : decode cX10_queueAt 2 = .ok (.invokevirtual 172, 3) := by decide +kernel
set_option maxRecDepth 100000 in
set_option maxHeartbeats 4000000 in
theorem c_queueAt_0 (l : Launch) (hfl : l.stackTraces = false) (D : va_G) (ct : Nat → ClassId) (x : Nat) (w : Nat) (sp : Nat) (sv : Nat) (bu : Nat) (w_se : Nat) (w_cu : Nat) (w_pr : Nat) (w_ch : Nat) (w_re : Nat) (w_lo : Nat) (p1 : Int32) (p2 : Int32) (sz : Nat) : vx_Met l yX10_queueAt (ws_ yX10_queueAt cX10_queueAt 4 (some .int)) ({ frames := 7, cells := 1, slots := 6, locals := 112 } : Room) (va_Pc [.ref x, .int p1, .int p2] (cmP D ct sz [(x, .inr (10, [.ref w, .ref sp, .ref sv, .ref bu, .int 0, .int 0])), (w, .inr (9, [.int 0, .ref w_se, .ref w_cu, .ref w_pr, .int 0, .ref w_ch, .ref w_re, .ref w_lo]))])) (va_Qi (fun (r : Int32) (_ : Unit) => False) (cmB D [(x, .inr (10, [.ref w, .ref sp, .ref sv, .ref bu, .int 0, .int 0])), (w, .inr (9, [.int 0, .ref w_se, .ref w_cu, .ref w_pr, .int 0, .ref w_ch, .ref w_re, .ref w_lo]))] sz (fun _ : Unit => [(x, .inr (10, [.ref w, .ref sp, .ref sv, .ref bu, .int 0, .int 0])), (w, .inr (9, [.int 0, .ref w_se, .ref w_cu, .ref w_pr, .int 0, .ref w_ch, .ref w_re, .ref w_lo]))])) (va_A [(x, .inr (10, [.ref w, .ref sp, .ref sv, .ref bu, .int 0, .int 0])), (w, .inr (9, [.int 0, .ref w_se, .ref w_cu, .ref w_pr, .int 0, .ref w_ch, .ref w_re, .ref w_lo]))] sz)) (vx_X (fun _ : Unit => True) (cmBX D [(x, .inr (10, [.ref w, .ref sp, .ref sv, .ref bu, .int 0, .int 0])), (w, .inr (9, [.int 0, .ref w_se, .ref w_cu, .ref w_pr, .int 0, .ref w_ch, .ref w_re, .ref w_lo]))] sz "java/lang/IndexOutOfBoundsException" (fun _ : Unit => [(x, .inr (10, [.ref w, .ref sp, .ref sv, .ref bu, .int 0, .int 0])), (w, .inr (9, [.int 0, .ref w_se, .ref w_cu, .ref w_pr, .int 0, .ref w_ch, .ref w_re, .ref w_lo]))])) (va_A [(x, .inr (10, [.ref w, .ref sp, .ref sv, .ref bu, .int 0, .int 0])), (w, .inr (9, [.int 0, .ref w_se, .ref w_cu, .ref w_pr, .int 0, .ref w_ch, .ref w_re, .ref w_lo]))] sz)) 1 6 (va_A [(x, .inr (10, [.ref w, .ref sp, .ref sv, .ref bu, .int 0, .int 0])), (w, .inr (9, [.int 0, .ref w_se, .ref w_cu, .ref w_pr, .int 0, .ref w_ch, .ref w_re, .ref w_lo]))] sz) := by
  refine vx_ofW (cc := cX10_queueAt) (maxL := 4) (ret := (some .int)) (by decide) rfl ?_
  intro p e s m args below meth c s₁ B hml hex hv
  obtain ⟨rfl, hsz, hP, hK, hD0, hX⟩ := hv
  have hx := B.exec
  have hb := B.bytes
  have hr := B.returns
  have hts := ws_all (atoms_spec (ws := ws_ yX10_queueAt cX10_queueAt 4 (some .int)) B.pre)
  have hown : s.vm.findClass RX10 = some m.cls := findClass_of_methodNamed B.named
  have hlocks := B.notSynchronized
  subst hsz
  have hD := hD0.self (sz := s.heap.size)
  generalize hAe : va_A [(x, .inr (10, [.ref w, .ref sp, .ref sv, .ref bu, .int 0, .int 0])), (w, .inr (9, [.int 0, .ref w_se, .ref w_cu, .ref w_pr, .int 0, .ref w_ch, .ref w_re, .ref w_lo]))] s.heap.size = A at hD hX ⊢
  have hA : ∀ q : Nat, s.heap.size ≤ q → A q := fun q h => by rw [← hAe]; exact Or.inr h
  have hS : va_S A s.heap s.heap [] := va_S.rf
  have hl := lv_entry ([.ref x, .int p1, .int p2]) (n := 4) (Nat.le_of_ble_eq_true rfl)
  rw [lg_entry_eq]
  generalize (lg_sl ([.ref x, .int p1, .int p2]) ++ List.replicate (4 - (lg_sl ([.ref x, .int p1, .int p2])).length) Slot.unset).toArray = ls at hl ⊢
  have hl : lv_has ls 4 [(0, .ref x), (1, .int p1), (2, .int p2)] := hl
  refine lv_aload_n hx hb dX10_queueAt_0 rfl (lv_at hl 0 rfl) ?_
  refine lv_iload_n hx hb dX10_queueAt_1 rfl (lv_at hl 1 rfl) ?_
  refine cm_xq (wr := []) (vx_runV (As := [.int p1]) (rest := []) ⟨hx, hb, hml, hown, hts⟩ (c_needChannel_0 l hfl D ct x w sp sv bu w_se w_cu w_pr w_ch w_re w_lo p1 _) (cm_V 1 hts kc_X10_needChannel ki_RX10 kl_RX10_172 kv_X10_needChannel kx_X10_needChannel kd_X10_needChannel ⟨Nat.le_of_ble_eq_true rfl, Nat.le_of_ble_eq_true rfl⟩) (cm_preV hP hK hD hS hA hX [0, 1] rfl rfl rfl (q0 := 0) (ci := 10) rfl rfl) rfl rfl hl.1 rfl (lv_room (Nat.le_of_ble_eq_true rfl)) dX10_queueAt_2 ⟨Nat.le_of_ble_eq_true rfl, Nat.le_of_ble_eq_true rfl⟩) hP hD hS hA [0, 1] [] rfl rfl rfl (by decide) (fun E ce q9 u H locs hu hE hP hD hS hce hcv hcl => ?_) (fun r_1 u H locs hw_2 hP hD hS => ?_)
  · subst hE
    have hP : va_P D vwCl [(x, .inr (10, [.ref w, .ref sp, .ref sv, .ref bu, .int 0, .int 0])), (w, .inr (9, [.int 0, .ref w_se, .ref w_cu, .ref w_pr, .int 0, .ref w_ch, .ref w_re, .ref w_lo]))] H := hP
    have hD : va_D A [(x, .inr (10, [.ref w, .ref sp, .ref sv, .ref bu, .int 0, .int 0])), (w, .inr (9, [.int 0, .ref w_se, .ref w_cu, .ref w_pr, .int 0, .ref w_ch, .ref w_re, .ref w_lo]))] := hD
    have hP9 := hP.sub (ws' := [(x, .inr (10, [.ref w, .ref sp, .ref sv, .ref bu, .int 0, .int 0])), (w, .inr (9, [.int 0, .ref w_se, .ref w_cu, .ref w_pr, .int 0, .ref w_ch, .ref w_re, .ref w_lo]))]) [0, 1] rfl
    have hD9 := hD.sub (ws' := [(x, .inr (10, [.ref w, .ref sp, .ref sv, .ref bu, .int 0, .int 0])), (w, .inr (9, [.int 0, .ref w_se, .ref w_cu, .ref w_pr, .int 0, .ref w_ch, .ref w_re, .ref w_lo]))]) [0, 1] (by decide) rfl
    exact vx_out (fun x hx => (hex x hx).elim) hlocks hce hcv hcl (fun t ht hW => ⟨(), trivial, ⟨rfl, by rw [ht]; exact hP9, by rw [hAe]; exact hD9⟩, hS.F ht⟩) hS.2.2 (Nat.le_of_ble_eq_true rfl) (Nat.le_of_ble_eq_true rfl)
  · exact hw_2.elim
theorem dX10_queueSize_0 : decode cX10_queueSize 0 = .ok (.aload_n 0, 1) := by decide +kernel
theorem dX10_queueSize_1 : decode cX10_queueSize 1 = .ok (.iload_n 1, 1) := by decide +kernel
theorem dX10_queueSize_2 : decode cX10_queueSize 2 = .ok (.invokevirtual 172, 3) := by decide +kernel
set_option maxRecDepth 100000 in
set_option maxHeartbeats 4000000 in
theorem c_queueSize_0 (l : Launch) (hfl : l.stackTraces = false) (D : va_G) (ct : Nat → ClassId) (x : Nat) (w : Nat) (sp : Nat) (sv : Nat) (bu : Nat) (w_se : Nat) (w_cu : Nat) (w_pr : Nat) (w_ch : Nat) (w_re : Nat) (w_lo : Nat) (p1 : Int32) (sz : Nat) : vx_Met l yX10_queueSize (ws_ yX10_queueSize cX10_queueSize 2 (some .int)) ({ frames := 7, cells := 1, slots := 6, locals := 112 } : Room) (va_Pc [.ref x, .int p1] (cmP D ct sz [(x, .inr (10, [.ref w, .ref sp, .ref sv, .ref bu, .int 0, .int 0])), (w, .inr (9, [.int 0, .ref w_se, .ref w_cu, .ref w_pr, .int 0, .ref w_ch, .ref w_re, .ref w_lo]))])) (va_Qi (fun (r : Int32) (_ : Unit) => False) (cmB D [(x, .inr (10, [.ref w, .ref sp, .ref sv, .ref bu, .int 0, .int 0])), (w, .inr (9, [.int 0, .ref w_se, .ref w_cu, .ref w_pr, .int 0, .ref w_ch, .ref w_re, .ref w_lo]))] sz (fun _ : Unit => [(x, .inr (10, [.ref w, .ref sp, .ref sv, .ref bu, .int 0, .int 0])), (w, .inr (9, [.int 0, .ref w_se, .ref w_cu, .ref w_pr, .int 0, .ref w_ch, .ref w_re, .ref w_lo]))])) (va_A [(x, .inr (10, [.ref w, .ref sp, .ref sv, .ref bu, .int 0, .int 0])), (w, .inr (9, [.int 0, .ref w_se, .ref w_cu, .ref w_pr, .int 0, .ref w_ch, .ref w_re, .ref w_lo]))] sz)) (vx_X (fun _ : Unit => True) (cmBX D [(x, .inr (10, [.ref w, .ref sp, .ref sv, .ref bu, .int 0, .int 0])), (w, .inr (9, [.int 0, .ref w_se, .ref w_cu, .ref w_pr, .int 0, .ref w_ch, .ref w_re, .ref w_lo]))] sz "java/lang/IndexOutOfBoundsException" (fun _ : Unit => [(x, .inr (10, [.ref w, .ref sp, .ref sv, .ref bu, .int 0, .int 0])), (w, .inr (9, [.int 0, .ref w_se, .ref w_cu, .ref w_pr, .int 0, .ref w_ch, .ref w_re, .ref w_lo]))])) (va_A [(x, .inr (10, [.ref w, .ref sp, .ref sv, .ref bu, .int 0, .int 0])), (w, .inr (9, [.int 0, .ref w_se, .ref w_cu, .ref w_pr, .int 0, .ref w_ch, .ref w_re, .ref w_lo]))] sz)) 1 6 (va_A [(x, .inr (10, [.ref w, .ref sp, .ref sv, .ref bu, .int 0, .int 0])), (w, .inr (9, [.int 0, .ref w_se, .ref w_cu, .ref w_pr, .int 0, .ref w_ch, .ref w_re, .ref w_lo]))] sz) := by
  refine vx_ofW (cc := cX10_queueSize) (maxL := 2) (ret := (some .int)) (by decide) rfl ?_
  intro p e s m args below meth c s₁ B hml hex hv
  obtain ⟨rfl, hsz, hP, hK, hD0, hX⟩ := hv
  have hx := B.exec
  have hb := B.bytes
  have hr := B.returns
  have hts := ws_all (atoms_spec (ws := ws_ yX10_queueSize cX10_queueSize 2 (some .int)) B.pre)
  have hown : s.vm.findClass RX10 = some m.cls := findClass_of_methodNamed B.named
  have hlocks := B.notSynchronized
  subst hsz
  have hD := hD0.self (sz := s.heap.size)
  generalize hAe : va_A [(x, .inr (10, [.ref w, .ref sp, .ref sv, .ref bu, .int 0, .int 0])), (w, .inr (9, [.int 0, .ref w_se, .ref w_cu, .ref w_pr, .int 0, .ref w_ch, .ref w_re, .ref w_lo]))] s.heap.size = A at hD hX ⊢
  have hA : ∀ q : Nat, s.heap.size ≤ q → A q := fun q h => by rw [← hAe]; exact Or.inr h
  have hS : va_S A s.heap s.heap [] := va_S.rf
  have hl := lv_entry ([.ref x, .int p1]) (n := 2) (Nat.le_of_ble_eq_true rfl)
  rw [lg_entry_eq]
  generalize (lg_sl ([.ref x, .int p1]) ++ List.replicate (2 - (lg_sl ([.ref x, .int p1])).length) Slot.unset).toArray = ls at hl ⊢
  have hl : lv_has ls 2 [(0, .ref x), (1, .int p1)] := hl
  refine lv_aload_n hx hb dX10_queueSize_0 rfl (lv_at hl 0 rfl) ?_
  refine lv_iload_n hx hb dX10_queueSize_1 rfl (lv_at hl 1 rfl) ?_
  refine cm_xq (wr := []) (vx_runV (As := [.int p1]) (rest := []) ⟨hx, hb, hml, hown, hts⟩ (c_needChannel_0 l hfl D ct x w sp sv bu w_se w_cu w_pr w_ch w_re w_lo p1 _) (cm_V 1 hts kc_X10_needChannel ki_RX10 kl_RX10_172 kv_X10_needChannel kx_X10_needChannel kd_X10_needChannel ⟨Nat.le_of_ble_eq_true rfl, Nat.le_of_ble_eq_true rfl⟩) (cm_preV hP hK hD hS hA hX [0, 1] rfl rfl rfl (q0 := 0) (ci := 10) rfl rfl) rfl rfl hl.1 rfl (lv_room (Nat.le_of_ble_eq_true rfl)) dX10_queueSize_2 ⟨Nat.le_of_ble_eq_true rfl, Nat.le_of_ble_eq_true rfl⟩) hP hD hS hA [0, 1] [] rfl rfl rfl (by decide) (fun E ce q9 u H locs hu hE hP hD hS hce hcv hcl => ?_) (fun r_1 u H locs hw_2 hP hD hS => ?_)
  · subst hE
    have hP : va_P D vwCl [(x, .inr (10, [.ref w, .ref sp, .ref sv, .ref bu, .int 0, .int 0])), (w, .inr (9, [.int 0, .ref w_se, .ref w_cu, .ref w_pr, .int 0, .ref w_ch, .ref w_re, .ref w_lo]))] H := hP
    have hD : va_D A [(x, .inr (10, [.ref w, .ref sp, .ref sv, .ref bu, .int 0, .int 0])), (w, .inr (9, [.int 0, .ref w_se, .ref w_cu, .ref w_pr, .int 0, .ref w_ch, .ref w_re, .ref w_lo]))] := hD
    have hP9 := hP.sub (ws' := [(x, .inr (10, [.ref w, .ref sp, .ref sv, .ref bu, .int 0, .int 0])), (w, .inr (9, [.int 0, .ref w_se, .ref w_cu, .ref w_pr, .int 0, .ref w_ch, .ref w_re, .ref w_lo]))]) [0, 1] rfl
    have hD9 := hD.sub (ws' := [(x, .inr (10, [.ref w, .ref sp, .ref sv, .ref bu, .int 0, .int 0])), (w, .inr (9, [.int 0, .ref w_se, .ref w_cu, .ref w_pr, .int 0, .ref w_ch, .ref w_re, .ref w_lo]))]) [0, 1] (by decide) rfl
    exact vx_out (fun x hx => (hex x hx).elim) hlocks hce hcv hcl (fun t ht hW => ⟨(), trivial, ⟨rfl, by rw [ht]; exact hP9, by rw [hAe]; exact hD9⟩, hS.F ht⟩) hS.2.2 (Nat.le_of_ble_eq_true rfl) (Nat.le_of_ble_eq_true rfl)
  · exact hw_2.elim
theorem dX10_value_0 : decode cX10_value 0 = .ok (.aload_n 0, 1) := by decide +kernel
theorem dX10_value_1 : decode cX10_value 1 = .ok (.iload_n 1, 1) := by decide +kernel
theorem dX10_value_2 : decode cX10_value 2 = .ok (.invokevirtual 172, 3) := by decide +kernel
set_option maxRecDepth 100000 in
set_option maxHeartbeats 4000000 in
theorem c_value_0 (l : Launch) (hfl : l.stackTraces = false) (D : va_G) (ct : Nat → ClassId) (x : Nat) (w : Nat) (sp : Nat) (sv : Nat) (bu : Nat) (w_se : Nat) (w_cu : Nat) (w_pr : Nat) (w_ch : Nat) (w_re : Nat) (w_lo : Nat) (p1 : Int32) (p2 : Int32) (sz : Nat) : vx_Met l yX10_value (ws_ yX10_value cX10_value 4 (some .int)) ({ frames := 7, cells := 1, slots := 6, locals := 112 } : Room) (va_Pc [.ref x, .int p1, .int p2] (cmP D ct sz [(x, .inr (10, [.ref w, .ref sp, .ref sv, .ref bu, .int 0, .int 0])), (w, .inr (9, [.int 0, .ref w_se, .ref w_cu, .ref w_pr, .int 0, .ref w_ch, .ref w_re, .ref w_lo]))])) (va_Qi (fun (r : Int32) (_ : Unit) => False) (cmB D [(x, .inr (10, [.ref w, .ref sp, .ref sv, .ref bu, .int 0, .int 0])), (w, .inr (9, [.int 0, .ref w_se, .ref w_cu, .ref w_pr, .int 0, .ref w_ch, .ref w_re, .ref w_lo]))] sz (fun _ : Unit => [(x, .inr (10, [.ref w, .ref sp, .ref sv, .ref bu, .int 0, .int 0])), (w, .inr (9, [.int 0, .ref w_se, .ref w_cu, .ref w_pr, .int 0, .ref w_ch, .ref w_re, .ref w_lo]))])) (va_A [(x, .inr (10, [.ref w, .ref sp, .ref sv, .ref bu, .int 0, .int 0])), (w, .inr (9, [.int 0, .ref w_se, .ref w_cu, .ref w_pr, .int 0, .ref w_ch, .ref w_re, .ref w_lo]))] sz)) (vx_X (fun _ : Unit => True) (cmBX D [(x, .inr (10, [.ref w, .ref sp, .ref sv, .ref bu, .int 0, .int 0])), (w, .inr (9, [.int 0, .ref w_se, .ref w_cu, .ref w_pr, .int 0, .ref w_ch, .ref w_re, .ref w_lo]))] sz "java/lang/IndexOutOfBoundsException" (fun _ : Unit => [(x, .inr (10, [.ref w, .ref sp, .ref sv, .ref bu, .int 0, .int 0])), (w, .inr (9, [.int 0, .ref w_se, .ref w_cu, .ref w_pr, .int 0, .ref w_ch, .ref w_re, .ref w_lo]))])) (va_A [(x, .inr (10, [.ref w, .ref sp, .ref sv, .ref bu, .int 0, .int 0])), (w, .inr (9, [.int 0, .ref w_se, .ref w_cu, .ref w_pr, .int 0, .ref w_ch, .ref w_re, .ref w_lo]))] sz)) 1 6 (va_A [(x, .inr (10, [.ref w, .ref sp, .ref sv, .ref bu, .int 0, .int 0])), (w, .inr (9, [.int 0, .ref w_se, .ref w_cu, .ref w_pr, .int 0, .ref w_ch, .ref w_re, .ref w_lo]))] sz) := by
  refine vx_ofW (cc := cX10_value) (maxL := 4) (ret := (some .int)) (by decide) rfl ?_
  intro p e s m args below meth c s₁ B hml hex hv
  obtain ⟨rfl, hsz, hP, hK, hD0, hX⟩ := hv
  have hx := B.exec
  have hb := B.bytes
  have hr := B.returns
  have hts := ws_all (atoms_spec (ws := ws_ yX10_value cX10_value 4 (some .int)) B.pre)
  have hown : s.vm.findClass RX10 = some m.cls := findClass_of_methodNamed B.named
  have hlocks := B.notSynchronized
  subst hsz
  have hD := hD0.self (sz := s.heap.size)
  generalize hAe : va_A [(x, .inr (10, [.ref w, .ref sp, .ref sv, .ref bu, .int 0, .int 0])), (w, .inr (9, [.int 0, .ref w_se, .ref w_cu, .ref w_pr, .int 0, .ref w_ch, .ref w_re, .ref w_lo]))] s.heap.size = A at hD hX ⊢
  have hA : ∀ q : Nat, s.heap.size ≤ q → A q := fun q h => by rw [← hAe]; exact Or.inr h
  have hS : va_S A s.heap s.heap [] := va_S.rf
  have hl := lv_entry ([.ref x, .int p1, .int p2]) (n := 4) (Nat.le_of_ble_eq_true rfl)
  rw [lg_entry_eq]
  generalize (lg_sl ([.ref x, .int p1, .int p2]) ++ List.replicate (4 - (lg_sl ([.ref x, .int p1, .int p2])).length) Slot.unset).toArray = ls at hl ⊢
  have hl : lv_has ls 4 [(0, .ref x), (1, .int p1), (2, .int p2)] := hl
  refine lv_aload_n hx hb dX10_value_0 rfl (lv_at hl 0 rfl) ?_
  refine lv_iload_n hx hb dX10_value_1 rfl (lv_at hl 1 rfl) ?_
  refine cm_xq (wr := []) (vx_runV (As := [.int p1]) (rest := []) ⟨hx, hb, hml, hown, hts⟩ (c_needChannel_0 l hfl D ct x w sp sv bu w_se w_cu w_pr w_ch w_re w_lo p1 _) (cm_V 1 hts kc_X10_needChannel ki_RX10 kl_RX10_172 kv_X10_needChannel kx_X10_needChannel kd_X10_needChannel ⟨Nat.le_of_ble_eq_true rfl, Nat.le_of_ble_eq_true rfl⟩) (cm_preV hP hK hD hS hA hX [0, 1] rfl rfl rfl (q0 := 0) (ci := 10) rfl rfl) rfl rfl hl.1 rfl (lv_room (Nat.le_of_ble_eq_true rfl)) dX10_value_2 ⟨Nat.le_of_ble_eq_true rfl, Nat.le_of_ble_eq_true rfl⟩) hP hD hS hA [0, 1] [] rfl rfl rfl (by decide) (fun E ce q9 u H locs hu hE hP hD hS hce hcv hcl => ?_) (fun r_1 u H locs hw_2 hP hD hS => ?_)
  · subst hE
    have hP : va_P D vwCl [(x, .inr (10, [.ref w, .ref sp, .ref sv, .ref bu, .int 0, .int 0])), (w, .inr (9, [.int 0, .ref w_se, .ref w_cu, .ref w_pr, .int 0, .ref w_ch, .ref w_re, .ref w_lo]))] H := hP
    have hD : va_D A [(x, .inr (10, [.ref w, .ref sp, .ref sv, .ref bu, .int 0, .int 0])), (w, .inr (9, [.int 0, .ref w_se, .ref w_cu, .ref w_pr, .int 0, .ref w_ch, .ref w_re, .ref w_lo]))] := hD
    have hP9 := hP.sub (ws' := [(x, .inr (10, [.ref w, .ref sp, .ref sv, .ref bu, .int 0, .int 0])), (w, .inr (9, [.int 0, .ref w_se, .ref w_cu, .ref w_pr, .int 0, .ref w_ch, .ref w_re, .ref w_lo]))]) [0, 1] rfl
    have hD9 := hD.sub (ws' := [(x, .inr (10, [.ref w, .ref sp, .ref sv, .ref bu, .int 0, .int 0])), (w, .inr (9, [.int 0, .ref w_se, .ref w_cu, .ref w_pr, .int 0, .ref w_ch, .ref w_re, .ref w_lo]))]) [0, 1] (by decide) rfl
    exact vx_out (fun x hx => (hex x hx).elim) hlocks hce hcv hcl (fun t ht hW => ⟨(), trivial, ⟨rfl, by rw [ht]; exact hP9, by rw [hAe]; exact hD9⟩, hS.F ht⟩) hS.2.2 (Nat.le_of_ble_eq_true rfl) (Nat.le_of_ble_eq_true rfl)
  · exact hw_2.elim
theorem dX10_restVoltage_0 : decode cX10_restVoltage 0 = .ok (.aload_n 0, 1) := by decide +kernel
theorem dX10_restVoltage_1 : decode cX10_restVoltage 1 = .ok (.iload_n 1, 1) := by decide +kernel
theorem dX10_restVoltage_2 : decode cX10_restVoltage 2 = .ok (.invokevirtual 172, 3) := by decide +kernel
set_option maxRecDepth 100000 in
set_option maxHeartbeats 4000000 in
theorem c_restVoltage_0 (l : Launch) (hfl : l.stackTraces = false) (D : va_G) (ct : Nat → ClassId) (x : Nat) (w : Nat) (sp : Nat) (sv : Nat) (bu : Nat) (w_se : Nat) (w_cu : Nat) (w_pr : Nat) (w_ch : Nat) (w_re : Nat) (w_lo : Nat) (p1 : Int32) (p2 : Int32) (sz : Nat) : vx_Met l yX10_restVoltage (ws_ yX10_restVoltage cX10_restVoltage 4 (some .int)) ({ frames := 7, cells := 1, slots := 6, locals := 112 } : Room) (va_Pc [.ref x, .int p1, .int p2] (cmP D ct sz [(x, .inr (10, [.ref w, .ref sp, .ref sv, .ref bu, .int 0, .int 0])), (w, .inr (9, [.int 0, .ref w_se, .ref w_cu, .ref w_pr, .int 0, .ref w_ch, .ref w_re, .ref w_lo]))])) (va_Qi (fun (r : Int32) (_ : Unit) => False) (cmB D [(x, .inr (10, [.ref w, .ref sp, .ref sv, .ref bu, .int 0, .int 0])), (w, .inr (9, [.int 0, .ref w_se, .ref w_cu, .ref w_pr, .int 0, .ref w_ch, .ref w_re, .ref w_lo]))] sz (fun _ : Unit => [(x, .inr (10, [.ref w, .ref sp, .ref sv, .ref bu, .int 0, .int 0])), (w, .inr (9, [.int 0, .ref w_se, .ref w_cu, .ref w_pr, .int 0, .ref w_ch, .ref w_re, .ref w_lo]))])) (va_A [(x, .inr (10, [.ref w, .ref sp, .ref sv, .ref bu, .int 0, .int 0])), (w, .inr (9, [.int 0, .ref w_se, .ref w_cu, .ref w_pr, .int 0, .ref w_ch, .ref w_re, .ref w_lo]))] sz)) (vx_X (fun _ : Unit => True) (cmBX D [(x, .inr (10, [.ref w, .ref sp, .ref sv, .ref bu, .int 0, .int 0])), (w, .inr (9, [.int 0, .ref w_se, .ref w_cu, .ref w_pr, .int 0, .ref w_ch, .ref w_re, .ref w_lo]))] sz "java/lang/IndexOutOfBoundsException" (fun _ : Unit => [(x, .inr (10, [.ref w, .ref sp, .ref sv, .ref bu, .int 0, .int 0])), (w, .inr (9, [.int 0, .ref w_se, .ref w_cu, .ref w_pr, .int 0, .ref w_ch, .ref w_re, .ref w_lo]))])) (va_A [(x, .inr (10, [.ref w, .ref sp, .ref sv, .ref bu, .int 0, .int 0])), (w, .inr (9, [.int 0, .ref w_se, .ref w_cu, .ref w_pr, .int 0, .ref w_ch, .ref w_re, .ref w_lo]))] sz)) 1 6 (va_A [(x, .inr (10, [.ref w, .ref sp, .ref sv, .ref bu, .int 0, .int 0])), (w, .inr (9, [.int 0, .ref w_se, .ref w_cu, .ref w_pr, .int 0, .ref w_ch, .ref w_re, .ref w_lo]))] sz) := by
  refine vx_ofW (cc := cX10_restVoltage) (maxL := 4) (ret := (some .int)) (by decide) rfl ?_
  intro p e s m args below meth c s₁ B hml hex hv
  obtain ⟨rfl, hsz, hP, hK, hD0, hX⟩ := hv
  have hx := B.exec
  have hb := B.bytes
  have hr := B.returns
  have hts := ws_all (atoms_spec (ws := ws_ yX10_restVoltage cX10_restVoltage 4 (some .int)) B.pre)
  have hown : s.vm.findClass RX10 = some m.cls := findClass_of_methodNamed B.named
  have hlocks := B.notSynchronized
  subst hsz
  have hD := hD0.self (sz := s.heap.size)
  generalize hAe : va_A [(x, .inr (10, [.ref w, .ref sp, .ref sv, .ref bu, .int 0, .int 0])), (w, .inr (9, [.int 0, .ref w_se, .ref w_cu, .ref w_pr, .int 0, .ref w_ch, .ref w_re, .ref w_lo]))] s.heap.size = A at hD hX ⊢
  have hA : ∀ q : Nat, s.heap.size ≤ q → A q := fun q h => by rw [← hAe]; exact Or.inr h
  have hS : va_S A s.heap s.heap [] := va_S.rf
  have hl := lv_entry ([.ref x, .int p1, .int p2]) (n := 4) (Nat.le_of_ble_eq_true rfl)
  rw [lg_entry_eq]
  generalize (lg_sl ([.ref x, .int p1, .int p2]) ++ List.replicate (4 - (lg_sl ([.ref x, .int p1, .int p2])).length) Slot.unset).toArray = ls at hl ⊢
  have hl : lv_has ls 4 [(0, .ref x), (1, .int p1), (2, .int p2)] := hl
  refine lv_aload_n hx hb dX10_restVoltage_0 rfl (lv_at hl 0 rfl) ?_
  refine lv_iload_n hx hb dX10_restVoltage_1 rfl (lv_at hl 1 rfl) ?_
  refine cm_xq (wr := []) (vx_runV (As := [.int p1]) (rest := []) ⟨hx, hb, hml, hown, hts⟩ (c_needChannel_0 l hfl D ct x w sp sv bu w_se w_cu w_pr w_ch w_re w_lo p1 _) (cm_V 1 hts kc_X10_needChannel ki_RX10 kl_RX10_172 kv_X10_needChannel kx_X10_needChannel kd_X10_needChannel ⟨Nat.le_of_ble_eq_true rfl, Nat.le_of_ble_eq_true rfl⟩) (cm_preV hP hK hD hS hA hX [0, 1] rfl rfl rfl (q0 := 0) (ci := 10) rfl rfl) rfl rfl hl.1 rfl (lv_room (Nat.le_of_ble_eq_true rfl)) dX10_restVoltage_2 ⟨Nat.le_of_ble_eq_true rfl, Nat.le_of_ble_eq_true rfl⟩) hP hD hS hA [0, 1] [] rfl rfl rfl (by decide) (fun E ce q9 u H locs hu hE hP hD hS hce hcv hcl => ?_) (fun r_1 u H locs hw_2 hP hD hS => ?_)
  · subst hE
    have hP : va_P D vwCl [(x, .inr (10, [.ref w, .ref sp, .ref sv, .ref bu, .int 0, .int 0])), (w, .inr (9, [.int 0, .ref w_se, .ref w_cu, .ref w_pr, .int 0, .ref w_ch, .ref w_re, .ref w_lo]))] H := hP
    have hD : va_D A [(x, .inr (10, [.ref w, .ref sp, .ref sv, .ref bu, .int 0, .int 0])), (w, .inr (9, [.int 0, .ref w_se, .ref w_cu, .ref w_pr, .int 0, .ref w_ch, .ref w_re, .ref w_lo]))] := hD
    have hP9 := hP.sub (ws' := [(x, .inr (10, [.ref w, .ref sp, .ref sv, .ref bu, .int 0, .int 0])), (w, .inr (9, [.int 0, .ref w_se, .ref w_cu, .ref w_pr, .int 0, .ref w_ch, .ref w_re, .ref w_lo]))]) [0, 1] rfl
    have hD9 := hD.sub (ws' := [(x, .inr (10, [.ref w, .ref sp, .ref sv, .ref bu, .int 0, .int 0])), (w, .inr (9, [.int 0, .ref w_se, .ref w_cu, .ref w_pr, .int 0, .ref w_ch, .ref w_re, .ref w_lo]))]) [0, 1] (by decide) rfl
    exact vx_out (fun x hx => (hex x hx).elim) hlocks hce hcv hcl (fun t ht hW => ⟨(), trivial, ⟨rfl, by rw [ht]; exact hP9, by rw [hAe]; exact hD9⟩, hS.F ht⟩) hS.2.2 (Nat.le_of_ble_eq_true rfl) (Nat.le_of_ble_eq_true rfl)
  · exact hw_2.elim
theorem dX10_chargeFor_0 : decode cX10_chargeFor 0 = .ok (.aload_n 0, 1) := by decide +kernel
theorem dX10_chargeFor_1 : decode cX10_chargeFor 1 = .ok (.iload_n 1, 1) := by decide +kernel
theorem dX10_chargeFor_2 : decode cX10_chargeFor 2 = .ok (.invokevirtual 172, 3) := by decide +kernel
set_option maxRecDepth 100000 in
set_option maxHeartbeats 4000000 in
theorem c_chargeFor_0 (l : Launch) (hfl : l.stackTraces = false) (D : va_G) (ct : Nat → ClassId) (x : Nat) (w : Nat) (sp : Nat) (sv : Nat) (bu : Nat) (w_se : Nat) (w_cu : Nat) (w_pr : Nat) (w_ch : Nat) (w_re : Nat) (w_lo : Nat) (p1 : Int32) (p2 : Int32) (sz : Nat) : vx_Met l yX10_chargeFor (ws_ yX10_chargeFor cX10_chargeFor 4 (some .int)) ({ frames := 7, cells := 1, slots := 6, locals := 112 } : Room) (va_Pc [.ref x, .int p1, .int p2] (cmP D ct sz [(x, .inr (10, [.ref w, .ref sp, .ref sv, .ref bu, .int 0, .int 0])), (w, .inr (9, [.int 0, .ref w_se, .ref w_cu, .ref w_pr, .int 0, .ref w_ch, .ref w_re, .ref w_lo]))])) (va_Qi (fun (r : Int32) (_ : Unit) => False) (cmB D [(x, .inr (10, [.ref w, .ref sp, .ref sv, .ref bu, .int 0, .int 0])), (w, .inr (9, [.int 0, .ref w_se, .ref w_cu, .ref w_pr, .int 0, .ref w_ch, .ref w_re, .ref w_lo]))] sz (fun _ : Unit => [(x, .inr (10, [.ref w, .ref sp, .ref sv, .ref bu, .int 0, .int 0])), (w, .inr (9, [.int 0, .ref w_se, .ref w_cu, .ref w_pr, .int 0, .ref w_ch, .ref w_re, .ref w_lo]))])) (va_A [(x, .inr (10, [.ref w, .ref sp, .ref sv, .ref bu, .int 0, .int 0])), (w, .inr (9, [.int 0, .ref w_se, .ref w_cu, .ref w_pr, .int 0, .ref w_ch, .ref w_re, .ref w_lo]))] sz)) (vx_X (fun _ : Unit => True) (cmBX D [(x, .inr (10, [.ref w, .ref sp, .ref sv, .ref bu, .int 0, .int 0])), (w, .inr (9, [.int 0, .ref w_se, .ref w_cu, .ref w_pr, .int 0, .ref w_ch, .ref w_re, .ref w_lo]))] sz "java/lang/IndexOutOfBoundsException" (fun _ : Unit => [(x, .inr (10, [.ref w, .ref sp, .ref sv, .ref bu, .int 0, .int 0])), (w, .inr (9, [.int 0, .ref w_se, .ref w_cu, .ref w_pr, .int 0, .ref w_ch, .ref w_re, .ref w_lo]))])) (va_A [(x, .inr (10, [.ref w, .ref sp, .ref sv, .ref bu, .int 0, .int 0])), (w, .inr (9, [.int 0, .ref w_se, .ref w_cu, .ref w_pr, .int 0, .ref w_ch, .ref w_re, .ref w_lo]))] sz)) 1 6 (va_A [(x, .inr (10, [.ref w, .ref sp, .ref sv, .ref bu, .int 0, .int 0])), (w, .inr (9, [.int 0, .ref w_se, .ref w_cu, .ref w_pr, .int 0, .ref w_ch, .ref w_re, .ref w_lo]))] sz) := by
  refine vx_ofW (cc := cX10_chargeFor) (maxL := 4) (ret := (some .int)) (by decide) rfl ?_
  intro p e s m args below meth c s₁ B hml hex hv
  obtain ⟨rfl, hsz, hP, hK, hD0, hX⟩ := hv
  have hx := B.exec
  have hb := B.bytes
  have hr := B.returns
  have hts := ws_all (atoms_spec (ws := ws_ yX10_chargeFor cX10_chargeFor 4 (some .int)) B.pre)
  have hown : s.vm.findClass RX10 = some m.cls := findClass_of_methodNamed B.named
  have hlocks := B.notSynchronized
  subst hsz
  have hD := hD0.self (sz := s.heap.size)
  generalize hAe : va_A [(x, .inr (10, [.ref w, .ref sp, .ref sv, .ref bu, .int 0, .int 0])), (w, .inr (9, [.int 0, .ref w_se, .ref w_cu, .ref w_pr, .int 0, .ref w_ch, .ref w_re, .ref w_lo]))] s.heap.size = A at hD hX ⊢
  have hA : ∀ q : Nat, s.heap.size ≤ q → A q := fun q h => by rw [← hAe]; exact Or.inr h
  have hS : va_S A s.heap s.heap [] := va_S.rf
  have hl := lv_entry ([.ref x, .int p1, .int p2]) (n := 4) (Nat.le_of_ble_eq_true rfl)
  rw [lg_entry_eq]
  generalize (lg_sl ([.ref x, .int p1, .int p2]) ++ List.replicate (4 - (lg_sl ([.ref x, .int p1, .int p2])).length) Slot.unset).toArray = ls at hl ⊢
  have hl : lv_has ls 4 [(0, .ref x), (1, .int p1), (2, .int p2)] := hl
  refine lv_aload_n hx hb dX10_chargeFor_0 rfl (lv_at hl 0 rfl) ?_
  refine lv_iload_n hx hb dX10_chargeFor_1 rfl (lv_at hl 1 rfl) ?_
  refine cm_xq (wr := []) (vx_runV (As := [.int p1]) (rest := []) ⟨hx, hb, hml, hown, hts⟩ (c_needChannel_0 l hfl D ct x w sp sv bu w_se w_cu w_pr w_ch w_re w_lo p1 _) (cm_V 1 hts kc_X10_needChannel ki_RX10 kl_RX10_172 kv_X10_needChannel kx_X10_needChannel kd_X10_needChannel ⟨Nat.le_of_ble_eq_true rfl, Nat.le_of_ble_eq_true rfl⟩) (cm_preV hP hK hD hS hA hX [0, 1] rfl rfl rfl (q0 := 0) (ci := 10) rfl rfl) rfl rfl hl.1 rfl (lv_room (Nat.le_of_ble_eq_true rfl)) dX10_chargeFor_2 ⟨Nat.le_of_ble_eq_true rfl, Nat.le_of_ble_eq_true rfl⟩) hP hD hS hA [0, 1] [] rfl rfl rfl (by decide) (fun E ce q9 u H locs hu hE hP hD hS hce hcv hcl => ?_) (fun r_1 u H locs hw_2 hP hD hS => ?_)
  · subst hE
    have hP : va_P D vwCl [(x, .inr (10, [.ref w, .ref sp, .ref sv, .ref bu, .int 0, .int 0])), (w, .inr (9, [.int 0, .ref w_se, .ref w_cu, .ref w_pr, .int 0, .ref w_ch, .ref w_re, .ref w_lo]))] H := hP
    have hD : va_D A [(x, .inr (10, [.ref w, .ref sp, .ref sv, .ref bu, .int 0, .int 0])), (w, .inr (9, [.int 0, .ref w_se, .ref w_cu, .ref w_pr, .int 0, .ref w_ch, .ref w_re, .ref w_lo]))] := hD
    have hP9 := hP.sub (ws' := [(x, .inr (10, [.ref w, .ref sp, .ref sv, .ref bu, .int 0, .int 0])), (w, .inr (9, [.int 0, .ref w_se, .ref w_cu, .ref w_pr, .int 0, .ref w_ch, .ref w_re, .ref w_lo]))]) [0, 1] rfl
    have hD9 := hD.sub (ws' := [(x, .inr (10, [.ref w, .ref sp, .ref sv, .ref bu, .int 0, .int 0])), (w, .inr (9, [.int 0, .ref w_se, .ref w_cu, .ref w_pr, .int 0, .ref w_ch, .ref w_re, .ref w_lo]))]) [0, 1] (by decide) rfl
    exact vx_out (fun x hx => (hex x hx).elim) hlocks hce hcv hcl (fun t ht hW => ⟨(), trivial, ⟨rfl, by rw [ht]; exact hP9, by rw [hAe]; exact hD9⟩, hS.F ht⟩) hS.2.2 (Nat.le_of_ble_eq_true rfl) (Nat.le_of_ble_eq_true rfl)
  · exact hw_2.elim
theorem dX10_filling_0 : decode cX10_filling 0 = .ok (.aload_n 0, 1) := by decide +kernel
theorem dX10_filling_1 : decode cX10_filling 1 = .ok (.iload_n 1, 1) := by decide +kernel
theorem dX10_filling_2 : decode cX10_filling 2 = .ok (.invokevirtual 172, 3) := by decide +kernel
set_option maxRecDepth 100000 in
set_option maxHeartbeats 4000000 in
theorem c_filling_0 (l : Launch) (hfl : l.stackTraces = false) (D : va_G) (ct : Nat → ClassId) (x : Nat) (w : Nat) (sp : Nat) (sv : Nat) (bu : Nat) (w_se : Nat) (w_cu : Nat) (w_pr : Nat) (w_ch : Nat) (w_re : Nat) (w_lo : Nat) (p1 : Int32) (sz : Nat) : vx_Met l yX10_filling (ws_ yX10_filling cX10_filling 2 (some .int)) ({ frames := 7, cells := 1, slots := 6, locals := 112 } : Room) (va_Pc [.ref x, .int p1] (cmP D ct sz [(x, .inr (10, [.ref w, .ref sp, .ref sv, .ref bu, .int 0, .int 0])), (w, .inr (9, [.int 0, .ref w_se, .ref w_cu, .ref w_pr, .int 0, .ref w_ch, .ref w_re, .ref w_lo]))])) (va_Qi (fun (r : Int32) (_ : Unit) => False) (cmB D [(x, .inr (10, [.ref w, .ref sp, .ref sv, .ref bu, .int 0, .int 0])), (w, .inr (9, [.int 0, .ref w_se, .ref w_cu, .ref w_pr, .int 0, .ref w_ch, .ref w_re, .ref w_lo]))] sz (fun _ : Unit => [(x, .inr (10, [.ref w, .ref sp, .ref sv, .ref bu, .int 0, .int 0])), (w, .inr (9, [.int 0, .ref w_se, .ref w_cu, .ref w_pr, .int 0, .ref w_ch, .ref w_re, .ref w_lo]))])) (va_A [(x, .inr (10, [.ref w, .ref sp, .ref sv, .ref bu, .int 0, .int 0])), (w, .inr (9, [.int 0, .ref w_se, .ref w_cu, .ref w_pr, .int 0, .ref w_ch, .ref w_re, .ref w_lo]))] sz)) (vx_X (fun _ : Unit => True) (cmBX D [(x, .inr (10, [.ref w, .ref sp, .ref sv, .ref bu, .int 0, .int 0])), (w, .inr (9, [.int 0, .ref w_se, .ref w_cu, .ref w_pr, .int 0, .ref w_ch, .ref w_re, .ref w_lo]))] sz "java/lang/IndexOutOfBoundsException" (fun _ : Unit => [(x, .inr (10, [.ref w, .ref sp, .ref sv, .ref bu, .int 0, .int 0])), (w, .inr (9, [.int 0, .ref w_se, .ref w_cu, .ref w_pr, .int 0, .ref w_ch, .ref w_re, .ref w_lo]))])) (va_A [(x, .inr (10, [.ref w, .ref sp, .ref sv, .ref bu, .int 0, .int 0])), (w, .inr (9, [.int 0, .ref w_se, .ref w_cu, .ref w_pr, .int 0, .ref w_ch, .ref w_re, .ref w_lo]))] sz)) 1 6 (va_A [(x, .inr (10, [.ref w, .ref sp, .ref sv, .ref bu, .int 0, .int 0])), (w, .inr (9, [.int 0, .ref w_se, .ref w_cu, .ref w_pr, .int 0, .ref w_ch, .ref w_re, .ref w_lo]))] sz) := by
  refine vx_ofW (cc := cX10_filling) (maxL := 2) (ret := (some .int)) (by decide) rfl ?_
  intro p e s m args below meth c s₁ B hml hex hv
  obtain ⟨rfl, hsz, hP, hK, hD0, hX⟩ := hv
  have hx := B.exec
  have hb := B.bytes
  have hr := B.returns
  have hts := ws_all (atoms_spec (ws := ws_ yX10_filling cX10_filling 2 (some .int)) B.pre)
  have hown : s.vm.findClass RX10 = some m.cls := findClass_of_methodNamed B.named
  have hlocks := B.notSynchronized
  subst hsz
  have hD := hD0.self (sz := s.heap.size)
  generalize hAe : va_A [(x, .inr (10, [.ref w, .ref sp, .ref sv, .ref bu, .int 0, .int 0])), (w, .inr (9, [.int 0, .ref w_se, .ref w_cu, .ref w_pr, .int 0, .ref w_ch, .ref w_re, .ref w_lo]))] s.heap.size = A at hD hX ⊢
  have hA : ∀ q : Nat, s.heap.size ≤ q → A q := fun q h => by rw [← hAe]; exact Or.inr h
  have hS : va_S A s.heap s.heap [] := va_S.rf
  have hl := lv_entry ([.ref x, .int p1]) (n := 2) (Nat.le_of_ble_eq_true rfl)
  rw [lg_entry_eq]
  generalize (lg_sl ([.ref x, .int p1]) ++ List.replicate (2 - (lg_sl ([.ref x, .int p1])).length) Slot.unset).toArray = ls at hl ⊢
  have hl : lv_has ls 2 [(0, .ref x), (1, .int p1)] := hl
  refine lv_aload_n hx hb dX10_filling_0 rfl (lv_at hl 0 rfl) ?_
  refine lv_iload_n hx hb dX10_filling_1 rfl (lv_at hl 1 rfl) ?_
  refine cm_xq (wr := []) (vx_runV (As := [.int p1]) (rest := []) ⟨hx, hb, hml, hown, hts⟩ (c_needChannel_0 l hfl D ct x w sp sv bu w_se w_cu w_pr w_ch w_re w_lo p1 _) (cm_V 1 hts kc_X10_needChannel ki_RX10 kl_RX10_172 kv_X10_needChannel kx_X10_needChannel kd_X10_needChannel ⟨Nat.le_of_ble_eq_true rfl, Nat.le_of_ble_eq_true rfl⟩) (cm_preV hP hK hD hS hA hX [0, 1] rfl rfl rfl (q0 := 0) (ci := 10) rfl rfl) rfl rfl hl.1 rfl (lv_room (Nat.le_of_ble_eq_true rfl)) dX10_filling_2 ⟨Nat.le_of_ble_eq_true rfl, Nat.le_of_ble_eq_true rfl⟩) hP hD hS hA [0, 1] [] rfl rfl rfl (by decide) (fun E ce q9 u H locs hu hE hP hD hS hce hcv hcl => ?_) (fun r_1 u H locs hw_2 hP hD hS => ?_)
  · subst hE
    have hP : va_P D vwCl [(x, .inr (10, [.ref w, .ref sp, .ref sv, .ref bu, .int 0, .int 0])), (w, .inr (9, [.int 0, .ref w_se, .ref w_cu, .ref w_pr, .int 0, .ref w_ch, .ref w_re, .ref w_lo]))] H := hP
    have hD : va_D A [(x, .inr (10, [.ref w, .ref sp, .ref sv, .ref bu, .int 0, .int 0])), (w, .inr (9, [.int 0, .ref w_se, .ref w_cu, .ref w_pr, .int 0, .ref w_ch, .ref w_re, .ref w_lo]))] := hD
    have hP9 := hP.sub (ws' := [(x, .inr (10, [.ref w, .ref sp, .ref sv, .ref bu, .int 0, .int 0])), (w, .inr (9, [.int 0, .ref w_se, .ref w_cu, .ref w_pr, .int 0, .ref w_ch, .ref w_re, .ref w_lo]))]) [0, 1] rfl
    have hD9 := hD.sub (ws' := [(x, .inr (10, [.ref w, .ref sp, .ref sv, .ref bu, .int 0, .int 0])), (w, .inr (9, [.int 0, .ref w_se, .ref w_cu, .ref w_pr, .int 0, .ref w_ch, .ref w_re, .ref w_lo]))]) [0, 1] (by decide) rfl
    exact vx_out (fun x hx => (hex x hx).elim) hlocks hce hcv hcl (fun t ht hW => ⟨(), trivial, ⟨rfl, by rw [ht]; exact hP9, by rw [hAe]; exact hD9⟩, hS.F ht⟩) hS.2.2 (Nat.le_of_ble_eq_true rfl) (Nat.le_of_ble_eq_true rfl)
  · exact hw_2.elim
theorem dX10_ledger_0 : decode cX10_ledger 0 = .ok (.aload_n 0, 1) := by decide +kernel
theorem dX10_ledger_1 : decode cX10_ledger 1 = .ok (.iload_n 1, 1) := by decide +kernel
theorem dX10_ledger_2 : decode cX10_ledger 2 = .ok (.invokevirtual 172, 3) := by decide +kernel
set_option maxRecDepth 100000 in
set_option maxHeartbeats 4000000 in
theorem c_ledger_0 (l : Launch) (hfl : l.stackTraces = false) (D : va_G) (ct : Nat → ClassId) (x : Nat) (w : Nat) (sp : Nat) (sv : Nat) (bu : Nat) (w_se : Nat) (w_cu : Nat) (w_pr : Nat) (w_ch : Nat) (w_re : Nat) (w_lo : Nat) (p1 : Int32) (p2 : Int32) (sz : Nat) : vx_Met l yX10_ledger (ws_ yX10_ledger cX10_ledger 4 (some .long)) ({ frames := 7, cells := 1, slots := 6, locals := 112 } : Room) (va_Pc [.ref x, .int p1, .int p2] (cmP D ct sz [(x, .inr (10, [.ref w, .ref sp, .ref sv, .ref bu, .int 0, .int 0])), (w, .inr (9, [.int 0, .ref w_se, .ref w_cu, .ref w_pr, .int 0, .ref w_ch, .ref w_re, .ref w_lo]))])) (va_Ql (fun (r : Int64) (_ : Unit) => False) (cmB D [(x, .inr (10, [.ref w, .ref sp, .ref sv, .ref bu, .int 0, .int 0])), (w, .inr (9, [.int 0, .ref w_se, .ref w_cu, .ref w_pr, .int 0, .ref w_ch, .ref w_re, .ref w_lo]))] sz (fun _ : Unit => [(x, .inr (10, [.ref w, .ref sp, .ref sv, .ref bu, .int 0, .int 0])), (w, .inr (9, [.int 0, .ref w_se, .ref w_cu, .ref w_pr, .int 0, .ref w_ch, .ref w_re, .ref w_lo]))])) (va_A [(x, .inr (10, [.ref w, .ref sp, .ref sv, .ref bu, .int 0, .int 0])), (w, .inr (9, [.int 0, .ref w_se, .ref w_cu, .ref w_pr, .int 0, .ref w_ch, .ref w_re, .ref w_lo]))] sz)) (vx_X (fun _ : Unit => True) (cmBX D [(x, .inr (10, [.ref w, .ref sp, .ref sv, .ref bu, .int 0, .int 0])), (w, .inr (9, [.int 0, .ref w_se, .ref w_cu, .ref w_pr, .int 0, .ref w_ch, .ref w_re, .ref w_lo]))] sz "java/lang/IndexOutOfBoundsException" (fun _ : Unit => [(x, .inr (10, [.ref w, .ref sp, .ref sv, .ref bu, .int 0, .int 0])), (w, .inr (9, [.int 0, .ref w_se, .ref w_cu, .ref w_pr, .int 0, .ref w_ch, .ref w_re, .ref w_lo]))])) (va_A [(x, .inr (10, [.ref w, .ref sp, .ref sv, .ref bu, .int 0, .int 0])), (w, .inr (9, [.int 0, .ref w_se, .ref w_cu, .ref w_pr, .int 0, .ref w_ch, .ref w_re, .ref w_lo]))] sz)) 1 6 (va_A [(x, .inr (10, [.ref w, .ref sp, .ref sv, .ref bu, .int 0, .int 0])), (w, .inr (9, [.int 0, .ref w_se, .ref w_cu, .ref w_pr, .int 0, .ref w_ch, .ref w_re, .ref w_lo]))] sz) := by
  refine vx_ofW (cc := cX10_ledger) (maxL := 4) (ret := (some .long)) (by decide) rfl ?_
  intro p e s m args below meth c s₁ B hml hex hv
  obtain ⟨rfl, hsz, hP, hK, hD0, hX⟩ := hv
  have hx := B.exec
  have hb := B.bytes
  have hr := B.returns
  have hts := ws_all (atoms_spec (ws := ws_ yX10_ledger cX10_ledger 4 (some .long)) B.pre)
  have hown : s.vm.findClass RX10 = some m.cls := findClass_of_methodNamed B.named
  have hlocks := B.notSynchronized
  subst hsz
  have hD := hD0.self (sz := s.heap.size)
  generalize hAe : va_A [(x, .inr (10, [.ref w, .ref sp, .ref sv, .ref bu, .int 0, .int 0])), (w, .inr (9, [.int 0, .ref w_se, .ref w_cu, .ref w_pr, .int 0, .ref w_ch, .ref w_re, .ref w_lo]))] s.heap.size = A at hD hX ⊢
  have hA : ∀ q : Nat, s.heap.size ≤ q → A q := fun q h => by rw [← hAe]; exact Or.inr h
  have hS : va_S A s.heap s.heap [] := va_S.rf
  have hl := lv_entry ([.ref x, .int p1, .int p2]) (n := 4) (Nat.le_of_ble_eq_true rfl)
  rw [lg_entry_eq]
  generalize (lg_sl ([.ref x, .int p1, .int p2]) ++ List.replicate (4 - (lg_sl ([.ref x, .int p1, .int p2])).length) Slot.unset).toArray = ls at hl ⊢
  have hl : lv_has ls 4 [(0, .ref x), (1, .int p1), (2, .int p2)] := hl
  refine lv_aload_n hx hb dX10_ledger_0 rfl (lv_at hl 0 rfl) ?_
  refine lv_iload_n hx hb dX10_ledger_1 rfl (lv_at hl 1 rfl) ?_
  refine cm_xq (wr := []) (vx_runV (As := [.int p1]) (rest := []) ⟨hx, hb, hml, hown, hts⟩ (c_needChannel_0 l hfl D ct x w sp sv bu w_se w_cu w_pr w_ch w_re w_lo p1 _) (cm_V 1 hts kc_X10_needChannel ki_RX10 kl_RX10_172 kv_X10_needChannel kx_X10_needChannel kd_X10_needChannel ⟨Nat.le_of_ble_eq_true rfl, Nat.le_of_ble_eq_true rfl⟩) (cm_preV hP hK hD hS hA hX [0, 1] rfl rfl rfl (q0 := 0) (ci := 10) rfl rfl) rfl rfl hl.1 rfl (lv_room (Nat.le_of_ble_eq_true rfl)) dX10_ledger_2 ⟨Nat.le_of_ble_eq_true rfl, Nat.le_of_ble_eq_true rfl⟩) hP hD hS hA [0, 1] [] rfl rfl rfl (by decide) (fun E ce q9 u H locs hu hE hP hD hS hce hcv hcl => ?_) (fun r_1 u H locs hw_2 hP hD hS => ?_)
  · subst hE
    have hP : va_P D vwCl [(x, .inr (10, [.ref w, .ref sp, .ref sv, .ref bu, .int 0, .int 0])), (w, .inr (9, [.int 0, .ref w_se, .ref w_cu, .ref w_pr, .int 0, .ref w_ch, .ref w_re, .ref w_lo]))] H := hP
    have hD : va_D A [(x, .inr (10, [.ref w, .ref sp, .ref sv, .ref bu, .int 0, .int 0])), (w, .inr (9, [.int 0, .ref w_se, .ref w_cu, .ref w_pr, .int 0, .ref w_ch, .ref w_re, .ref w_lo]))] := hD
    have hP9 := hP.sub (ws' := [(x, .inr (10, [.ref w, .ref sp, .ref sv, .ref bu, .int 0, .int 0])), (w, .inr (9, [.int 0, .ref w_se, .ref w_cu, .ref w_pr, .int 0, .ref w_ch, .ref w_re, .ref w_lo]))]) [0, 1] rfl
    have hD9 := hD.sub (ws' := [(x, .inr (10, [.ref w, .ref sp, .ref sv, .ref bu, .int 0, .int 0])), (w, .inr (9, [.int 0, .ref w_se, .ref w_cu, .ref w_pr, .int 0, .ref w_ch, .ref w_re, .ref w_lo]))]) [0, 1] (by decide) rfl
    exact vx_out (fun x hx => (hex x hx).elim) hlocks hce hcv hcl (fun t ht hW => ⟨(), trivial, ⟨rfl, by rw [ht]; exact hP9, by rw [hAe]; exact hD9⟩, hS.F ht⟩) hS.2.2 (Nat.le_of_ble_eq_true rfl) (Nat.le_of_ble_eq_true rfl)
  · exact hw_2.elim
theorem dX10_chargeEfficiency_0 : decode cX10_chargeEfficiency 0 = .ok (.aload_n 0, 1) := by decide +kernel
theorem dX10_chargeEfficiency_1 : decode cX10_chargeEfficiency 1 = .ok (.iload_n 1, 1) := by decide +kernel
theorem dX10_chargeEfficiency_2 : decode cX10_chargeEfficiency 2 = .ok (.invokevirtual 172, 3) := by decide +kernel
set_option maxRecDepth 100000 in
set_option maxHeartbeats 4000000 in
theorem c_chargeEfficiency_0 (l : Launch) (hfl : l.stackTraces = false) (D : va_G) (ct : Nat → ClassId) (x : Nat) (w : Nat) (sp : Nat) (sv : Nat) (bu : Nat) (w_se : Nat) (w_cu : Nat) (w_pr : Nat) (w_ch : Nat) (w_re : Nat) (w_lo : Nat) (p1 : Int32) (sz : Nat) : vx_Met l yX10_chargeEfficiency (ws_ yX10_chargeEfficiency cX10_chargeEfficiency 3 (some .float)) ({ frames := 7, cells := 1, slots := 6, locals := 112 } : Room) (va_Pc [.ref x, .int p1] (cmP D ct sz [(x, .inr (10, [.ref w, .ref sp, .ref sv, .ref bu, .int 0, .int 0])), (w, .inr (9, [.int 0, .ref w_se, .ref w_cu, .ref w_pr, .int 0, .ref w_ch, .ref w_re, .ref w_lo]))])) (va_Qf (fun (r : UInt32) (_ : Unit) => False) (cmB D [(x, .inr (10, [.ref w, .ref sp, .ref sv, .ref bu, .int 0, .int 0])), (w, .inr (9, [.int 0, .ref w_se, .ref w_cu, .ref w_pr, .int 0, .ref w_ch, .ref w_re, .ref w_lo]))] sz (fun _ : Unit => [(x, .inr (10, [.ref w, .ref sp, .ref sv, .ref bu, .int 0, .int 0])), (w, .inr (9, [.int 0, .ref w_se, .ref w_cu, .ref w_pr, .int 0, .ref w_ch, .ref w_re, .ref w_lo]))])) (va_A [(x, .inr (10, [.ref w, .ref sp, .ref sv, .ref bu, .int 0, .int 0])), (w, .inr (9, [.int 0, .ref w_se, .ref w_cu, .ref w_pr, .int 0, .ref w_ch, .ref w_re, .ref w_lo]))] sz)) (vx_X (fun _ : Unit => True) (cmBX D [(x, .inr (10, [.ref w, .ref sp, .ref sv, .ref bu, .int 0, .int 0])), (w, .inr (9, [.int 0, .ref w_se, .ref w_cu, .ref w_pr, .int 0, .ref w_ch, .ref w_re, .ref w_lo]))] sz "java/lang/IndexOutOfBoundsException" (fun _ : Unit => [(x, .inr (10, [.ref w, .ref sp, .ref sv, .ref bu, .int 0, .int 0])), (w, .inr (9, [.int 0, .ref w_se, .ref w_cu, .ref w_pr, .int 0, .ref w_ch, .ref w_re, .ref w_lo]))])) (va_A [(x, .inr (10, [.ref w, .ref sp, .ref sv, .ref bu, .int 0, .int 0])), (w, .inr (9, [.int 0, .ref w_se, .ref w_cu, .ref w_pr, .int 0, .ref w_ch, .ref w_re, .ref w_lo]))] sz)) 1 6 (va_A [(x, .inr (10, [.ref w, .ref sp, .ref sv, .ref bu, .int 0, .int 0])), (w, .inr (9, [.int 0, .ref w_se, .ref w_cu, .ref w_pr, .int 0, .ref w_ch, .ref w_re, .ref w_lo]))] sz) := by
  refine vx_ofW (cc := cX10_chargeEfficiency) (maxL := 3) (ret := (some .float)) (by decide) rfl ?_
  intro p e s m args below meth c s₁ B hml hex hv
  obtain ⟨rfl, hsz, hP, hK, hD0, hX⟩ := hv
  have hx := B.exec
  have hb := B.bytes
  have hr := B.returns
  have hts := ws_all (atoms_spec (ws := ws_ yX10_chargeEfficiency cX10_chargeEfficiency 3 (some .float)) B.pre)
  have hown : s.vm.findClass RX10 = some m.cls := findClass_of_methodNamed B.named
  have hlocks := B.notSynchronized
  subst hsz
  have hD := hD0.self (sz := s.heap.size)
  generalize hAe : va_A [(x, .inr (10, [.ref w, .ref sp, .ref sv, .ref bu, .int 0, .int 0])), (w, .inr (9, [.int 0, .ref w_se, .ref w_cu, .ref w_pr, .int 0, .ref w_ch, .ref w_re, .ref w_lo]))] s.heap.size = A at hD hX ⊢
  have hA : ∀ q : Nat, s.heap.size ≤ q → A q := fun q h => by rw [← hAe]; exact Or.inr h
  have hS : va_S A s.heap s.heap [] := va_S.rf
  have hl := lv_entry ([.ref x, .int p1]) (n := 3) (Nat.le_of_ble_eq_true rfl)
  rw [lg_entry_eq]
  generalize (lg_sl ([.ref x, .int p1]) ++ List.replicate (3 - (lg_sl ([.ref x, .int p1])).length) Slot.unset).toArray = ls at hl ⊢
  have hl : lv_has ls 3 [(0, .ref x), (1, .int p1)] := hl
  refine lv_aload_n hx hb dX10_chargeEfficiency_0 rfl (lv_at hl 0 rfl) ?_
  refine lv_iload_n hx hb dX10_chargeEfficiency_1 rfl (lv_at hl 1 rfl) ?_
  refine cm_xq (wr := []) (vx_runV (As := [.int p1]) (rest := []) ⟨hx, hb, hml, hown, hts⟩ (c_needChannel_0 l hfl D ct x w sp sv bu w_se w_cu w_pr w_ch w_re w_lo p1 _) (cm_V 1 hts kc_X10_needChannel ki_RX10 kl_RX10_172 kv_X10_needChannel kx_X10_needChannel kd_X10_needChannel ⟨Nat.le_of_ble_eq_true rfl, Nat.le_of_ble_eq_true rfl⟩) (cm_preV hP hK hD hS hA hX [0, 1] rfl rfl rfl (q0 := 0) (ci := 10) rfl rfl) rfl rfl hl.1 rfl (lv_room (Nat.le_of_ble_eq_true rfl)) dX10_chargeEfficiency_2 ⟨Nat.le_of_ble_eq_true rfl, Nat.le_of_ble_eq_true rfl⟩) hP hD hS hA [0, 1] [] rfl rfl rfl (by decide) (fun E ce q9 u H locs hu hE hP hD hS hce hcv hcl => ?_) (fun r_1 u H locs hw_2 hP hD hS => ?_)
  · subst hE
    have hP : va_P D vwCl [(x, .inr (10, [.ref w, .ref sp, .ref sv, .ref bu, .int 0, .int 0])), (w, .inr (9, [.int 0, .ref w_se, .ref w_cu, .ref w_pr, .int 0, .ref w_ch, .ref w_re, .ref w_lo]))] H := hP
    have hD : va_D A [(x, .inr (10, [.ref w, .ref sp, .ref sv, .ref bu, .int 0, .int 0])), (w, .inr (9, [.int 0, .ref w_se, .ref w_cu, .ref w_pr, .int 0, .ref w_ch, .ref w_re, .ref w_lo]))] := hD
    have hP9 := hP.sub (ws' := [(x, .inr (10, [.ref w, .ref sp, .ref sv, .ref bu, .int 0, .int 0])), (w, .inr (9, [.int 0, .ref w_se, .ref w_cu, .ref w_pr, .int 0, .ref w_ch, .ref w_re, .ref w_lo]))]) [0, 1] rfl
    have hD9 := hD.sub (ws' := [(x, .inr (10, [.ref w, .ref sp, .ref sv, .ref bu, .int 0, .int 0])), (w, .inr (9, [.int 0, .ref w_se, .ref w_cu, .ref w_pr, .int 0, .ref w_ch, .ref w_re, .ref w_lo]))]) [0, 1] (by decide) rfl
    exact vx_out (fun x hx => (hex x hx).elim) hlocks hce hcv hcl (fun t ht hW => ⟨(), trivial, ⟨rfl, by rw [ht]; exact hP9, by rw [hAe]; exact hD9⟩, hS.F ht⟩) hS.2.2 (Nat.le_of_ble_eq_true rfl) (Nat.le_of_ble_eq_true rfl)
  · exact hw_2.elim
theorem dX10_energyEfficiency_0 : decode cX10_energyEfficiency 0 = .ok (.aload_n 0, 1) := by decide +kernel
theorem dX10_energyEfficiency_1 : decode cX10_energyEfficiency 1 = .ok (.iload_n 1, 1) := by decide +kernel
theorem dX10_energyEfficiency_2 : decode cX10_energyEfficiency 2 = .ok (.invokevirtual 172, 3) := by decide +kernel
set_option maxRecDepth 100000 in
set_option maxHeartbeats 4000000 in
theorem c_energyEfficiency_0 (l : Launch) (hfl : l.stackTraces = false) (D : va_G) (ct : Nat → ClassId) (x : Nat) (w : Nat) (sp : Nat) (sv : Nat) (bu : Nat) (w_se : Nat) (w_cu : Nat) (w_pr : Nat) (w_ch : Nat) (w_re : Nat) (w_lo : Nat) (p1 : Int32) (sz : Nat) : vx_Met l yX10_energyEfficiency (ws_ yX10_energyEfficiency cX10_energyEfficiency 3 (some .double)) ({ frames := 7, cells := 1, slots := 6, locals := 112 } : Room) (va_Pc [.ref x, .int p1] (cmP D ct sz [(x, .inr (10, [.ref w, .ref sp, .ref sv, .ref bu, .int 0, .int 0])), (w, .inr (9, [.int 0, .ref w_se, .ref w_cu, .ref w_pr, .int 0, .ref w_ch, .ref w_re, .ref w_lo]))])) (va_Qd (fun (r : UInt64) (_ : Unit) => False) (cmB D [(x, .inr (10, [.ref w, .ref sp, .ref sv, .ref bu, .int 0, .int 0])), (w, .inr (9, [.int 0, .ref w_se, .ref w_cu, .ref w_pr, .int 0, .ref w_ch, .ref w_re, .ref w_lo]))] sz (fun _ : Unit => [(x, .inr (10, [.ref w, .ref sp, .ref sv, .ref bu, .int 0, .int 0])), (w, .inr (9, [.int 0, .ref w_se, .ref w_cu, .ref w_pr, .int 0, .ref w_ch, .ref w_re, .ref w_lo]))])) (va_A [(x, .inr (10, [.ref w, .ref sp, .ref sv, .ref bu, .int 0, .int 0])), (w, .inr (9, [.int 0, .ref w_se, .ref w_cu, .ref w_pr, .int 0, .ref w_ch, .ref w_re, .ref w_lo]))] sz)) (vx_X (fun _ : Unit => True) (cmBX D [(x, .inr (10, [.ref w, .ref sp, .ref sv, .ref bu, .int 0, .int 0])), (w, .inr (9, [.int 0, .ref w_se, .ref w_cu, .ref w_pr, .int 0, .ref w_ch, .ref w_re, .ref w_lo]))] sz "java/lang/IndexOutOfBoundsException" (fun _ : Unit => [(x, .inr (10, [.ref w, .ref sp, .ref sv, .ref bu, .int 0, .int 0])), (w, .inr (9, [.int 0, .ref w_se, .ref w_cu, .ref w_pr, .int 0, .ref w_ch, .ref w_re, .ref w_lo]))])) (va_A [(x, .inr (10, [.ref w, .ref sp, .ref sv, .ref bu, .int 0, .int 0])), (w, .inr (9, [.int 0, .ref w_se, .ref w_cu, .ref w_pr, .int 0, .ref w_ch, .ref w_re, .ref w_lo]))] sz)) 1 6 (va_A [(x, .inr (10, [.ref w, .ref sp, .ref sv, .ref bu, .int 0, .int 0])), (w, .inr (9, [.int 0, .ref w_se, .ref w_cu, .ref w_pr, .int 0, .ref w_ch, .ref w_re, .ref w_lo]))] sz) := by
  refine vx_ofW (cc := cX10_energyEfficiency) (maxL := 3) (ret := (some .double)) (by decide) rfl ?_
  intro p e s m args below meth c s₁ B hml hex hv
  obtain ⟨rfl, hsz, hP, hK, hD0, hX⟩ := hv
  have hx := B.exec
  have hb := B.bytes
  have hr := B.returns
  have hts := ws_all (atoms_spec (ws := ws_ yX10_energyEfficiency cX10_energyEfficiency 3 (some .double)) B.pre)
  have hown : s.vm.findClass RX10 = some m.cls := findClass_of_methodNamed B.named
  have hlocks := B.notSynchronized
  subst hsz
  have hD := hD0.self (sz := s.heap.size)
  generalize hAe : va_A [(x, .inr (10, [.ref w, .ref sp, .ref sv, .ref bu, .int 0, .int 0])), (w, .inr (9, [.int 0, .ref w_se, .ref w_cu, .ref w_pr, .int 0, .ref w_ch, .ref w_re, .ref w_lo]))] s.heap.size = A at hD hX ⊢
  have hA : ∀ q : Nat, s.heap.size ≤ q → A q := fun q h => by rw [← hAe]; exact Or.inr h
  have hS : va_S A s.heap s.heap [] := va_S.rf
  have hl := lv_entry ([.ref x, .int p1]) (n := 3) (Nat.le_of_ble_eq_true rfl)
  rw [lg_entry_eq]
  generalize (lg_sl ([.ref x, .int p1]) ++ List.replicate (3 - (lg_sl ([.ref x, .int p1])).length) Slot.unset).toArray = ls at hl ⊢
  have hl : lv_has ls 3 [(0, .ref x), (1, .int p1)] := hl
  refine lv_aload_n hx hb dX10_energyEfficiency_0 rfl (lv_at hl 0 rfl) ?_
  refine lv_iload_n hx hb dX10_energyEfficiency_1 rfl (lv_at hl 1 rfl) ?_
  refine cm_xq (wr := []) (vx_runV (As := [.int p1]) (rest := []) ⟨hx, hb, hml, hown, hts⟩ (c_needChannel_0 l hfl D ct x w sp sv bu w_se w_cu w_pr w_ch w_re w_lo p1 _) (cm_V 1 hts kc_X10_needChannel ki_RX10 kl_RX10_172 kv_X10_needChannel kx_X10_needChannel kd_X10_needChannel ⟨Nat.le_of_ble_eq_true rfl, Nat.le_of_ble_eq_true rfl⟩) (cm_preV hP hK hD hS hA hX [0, 1] rfl rfl rfl (q0 := 0) (ci := 10) rfl rfl) rfl rfl hl.1 rfl (lv_room (Nat.le_of_ble_eq_true rfl)) dX10_energyEfficiency_2 ⟨Nat.le_of_ble_eq_true rfl, Nat.le_of_ble_eq_true rfl⟩) hP hD hS hA [0, 1] [] rfl rfl rfl (by decide) (fun E ce q9 u H locs hu hE hP hD hS hce hcv hcl => ?_) (fun r_1 u H locs hw_2 hP hD hS => ?_)
  · subst hE
    have hP : va_P D vwCl [(x, .inr (10, [.ref w, .ref sp, .ref sv, .ref bu, .int 0, .int 0])), (w, .inr (9, [.int 0, .ref w_se, .ref w_cu, .ref w_pr, .int 0, .ref w_ch, .ref w_re, .ref w_lo]))] H := hP
    have hD : va_D A [(x, .inr (10, [.ref w, .ref sp, .ref sv, .ref bu, .int 0, .int 0])), (w, .inr (9, [.int 0, .ref w_se, .ref w_cu, .ref w_pr, .int 0, .ref w_ch, .ref w_re, .ref w_lo]))] := hD
    have hP9 := hP.sub (ws' := [(x, .inr (10, [.ref w, .ref sp, .ref sv, .ref bu, .int 0, .int 0])), (w, .inr (9, [.int 0, .ref w_se, .ref w_cu, .ref w_pr, .int 0, .ref w_ch, .ref w_re, .ref w_lo]))]) [0, 1] rfl
    have hD9 := hD.sub (ws' := [(x, .inr (10, [.ref w, .ref sp, .ref sv, .ref bu, .int 0, .int 0])), (w, .inr (9, [.int 0, .ref w_se, .ref w_cu, .ref w_pr, .int 0, .ref w_ch, .ref w_re, .ref w_lo]))]) [0, 1] (by decide) rfl
    exact vx_out (fun x hx => (hex x hx).elim) hlocks hce hcv hcl (fun t ht hW => ⟨(), trivial, ⟨rfl, by rw [ht]; exact hP9, by rw [hAe]; exact hD9⟩, hS.F ht⟩) hS.2.2 (Nat.le_of_ble_eq_true rfl) (Nat.le_of_ble_eq_true rfl)
  · exact hw_2.elim
theorem dX10_power_0 : decode cX10_power 0 = .ok (.aload_n 0, 1) := by decide +kernel
theorem dX10_power_1 : decode cX10_power 1 = .ok (.iload_n 1, 1) := by decide +kernel
theorem dX10_power_2 : decode cX10_power 2 = .ok (.invokevirtual 172, 3) := by decide +kernel
set_option maxRecDepth 100000 in
set_option maxHeartbeats 4000000 in
theorem c_power_0 (l : Launch) (hfl : l.stackTraces = false) (D : va_G) (ct : Nat → ClassId) (x : Nat) (w : Nat) (sp : Nat) (sv : Nat) (bu : Nat) (w_se : Nat) (w_cu : Nat) (w_pr : Nat) (w_ch : Nat) (w_re : Nat) (w_lo : Nat) (p1 : Int32) (sz : Nat) : vx_Met l yX10_power (ws_ yX10_power cX10_power 3 (some .int)) ({ frames := 7, cells := 1, slots := 6, locals := 112 } : Room) (va_Pc [.ref x, .int p1] (cmP D ct sz [(x, .inr (10, [.ref w, .ref sp, .ref sv, .ref bu, .int 0, .int 0])), (w, .inr (9, [.int 0, .ref w_se, .ref w_cu, .ref w_pr, .int 0, .ref w_ch, .ref w_re, .ref w_lo]))])) (va_Qi (fun (r : Int32) (_ : Unit) => False) (cmB D [(x, .inr (10, [.ref w, .ref sp, .ref sv, .ref bu, .int 0, .int 0])), (w, .inr (9, [.int 0, .ref w_se, .ref w_cu, .ref w_pr, .int 0, .ref w_ch, .ref w_re, .ref w_lo]))] sz (fun _ : Unit => [(x, .inr (10, [.ref w, .ref sp, .ref sv, .ref bu, .int 0, .int 0])), (w, .inr (9, [.int 0, .ref w_se, .ref w_cu, .ref w_pr, .int 0, .ref w_ch, .ref w_re, .ref w_lo]))])) (va_A [(x, .inr (10, [.ref w, .ref sp, .ref sv, .ref bu, .int 0, .int 0])), (w, .inr (9, [.int 0, .ref w_se, .ref w_cu, .ref w_pr, .int 0, .ref w_ch, .ref w_re, .ref w_lo]))] sz)) (vx_X (fun _ : Unit => True) (cmBX D [(x, .inr (10, [.ref w, .ref sp, .ref sv, .ref bu, .int 0, .int 0])), (w, .inr (9, [.int 0, .ref w_se, .ref w_cu, .ref w_pr, .int 0, .ref w_ch, .ref w_re, .ref w_lo]))] sz "java/lang/IndexOutOfBoundsException" (fun _ : Unit => [(x, .inr (10, [.ref w, .ref sp, .ref sv, .ref bu, .int 0, .int 0])), (w, .inr (9, [.int 0, .ref w_se, .ref w_cu, .ref w_pr, .int 0, .ref w_ch, .ref w_re, .ref w_lo]))])) (va_A [(x, .inr (10, [.ref w, .ref sp, .ref sv, .ref bu, .int 0, .int 0])), (w, .inr (9, [.int 0, .ref w_se, .ref w_cu, .ref w_pr, .int 0, .ref w_ch, .ref w_re, .ref w_lo]))] sz)) 1 6 (va_A [(x, .inr (10, [.ref w, .ref sp, .ref sv, .ref bu, .int 0, .int 0])), (w, .inr (9, [.int 0, .ref w_se, .ref w_cu, .ref w_pr, .int 0, .ref w_ch, .ref w_re, .ref w_lo]))] sz) := by
  refine vx_ofW (cc := cX10_power) (maxL := 3) (ret := (some .int)) (by decide) rfl ?_
  intro p e s m args below meth c s₁ B hml hex hv
  obtain ⟨rfl, hsz, hP, hK, hD0, hX⟩ := hv
  have hx := B.exec
  have hb := B.bytes
  have hr := B.returns
  have hts := ws_all (atoms_spec (ws := ws_ yX10_power cX10_power 3 (some .int)) B.pre)
  have hown : s.vm.findClass RX10 = some m.cls := findClass_of_methodNamed B.named
  have hlocks := B.notSynchronized
  subst hsz
  have hD := hD0.self (sz := s.heap.size)
  generalize hAe : va_A [(x, .inr (10, [.ref w, .ref sp, .ref sv, .ref bu, .int 0, .int 0])), (w, .inr (9, [.int 0, .ref w_se, .ref w_cu, .ref w_pr, .int 0, .ref w_ch, .ref w_re, .ref w_lo]))] s.heap.size = A at hD hX ⊢
  have hA : ∀ q : Nat, s.heap.size ≤ q → A q := fun q h => by rw [← hAe]; exact Or.inr h
  have hS : va_S A s.heap s.heap [] := va_S.rf
  have hl := lv_entry ([.ref x, .int p1]) (n := 3) (Nat.le_of_ble_eq_true rfl)
  rw [lg_entry_eq]
  generalize (lg_sl ([.ref x, .int p1]) ++ List.replicate (3 - (lg_sl ([.ref x, .int p1])).length) Slot.unset).toArray = ls at hl ⊢
  have hl : lv_has ls 3 [(0, .ref x), (1, .int p1)] := hl
  refine lv_aload_n hx hb dX10_power_0 rfl (lv_at hl 0 rfl) ?_
  refine lv_iload_n hx hb dX10_power_1 rfl (lv_at hl 1 rfl) ?_
  refine cm_xq (wr := []) (vx_runV (As := [.int p1]) (rest := []) ⟨hx, hb, hml, hown, hts⟩ (c_needChannel_0 l hfl D ct x w sp sv bu w_se w_cu w_pr w_ch w_re w_lo p1 _) (cm_V 1 hts kc_X10_needChannel ki_RX10 kl_RX10_172 kv_X10_needChannel kx_X10_needChannel kd_X10_needChannel ⟨Nat.le_of_ble_eq_true rfl, Nat.le_of_ble_eq_true rfl⟩) (cm_preV hP hK hD hS hA hX [0, 1] rfl rfl rfl (q0 := 0) (ci := 10) rfl rfl) rfl rfl hl.1 rfl (lv_room (Nat.le_of_ble_eq_true rfl)) dX10_power_2 ⟨Nat.le_of_ble_eq_true rfl, Nat.le_of_ble_eq_true rfl⟩) hP hD hS hA [0, 1] [] rfl rfl rfl (by decide) (fun E ce q9 u H locs hu hE hP hD hS hce hcv hcl => ?_) (fun r_1 u H locs hw_2 hP hD hS => ?_)
  · subst hE
    have hP : va_P D vwCl [(x, .inr (10, [.ref w, .ref sp, .ref sv, .ref bu, .int 0, .int 0])), (w, .inr (9, [.int 0, .ref w_se, .ref w_cu, .ref w_pr, .int 0, .ref w_ch, .ref w_re, .ref w_lo]))] H := hP
    have hD : va_D A [(x, .inr (10, [.ref w, .ref sp, .ref sv, .ref bu, .int 0, .int 0])), (w, .inr (9, [.int 0, .ref w_se, .ref w_cu, .ref w_pr, .int 0, .ref w_ch, .ref w_re, .ref w_lo]))] := hD
    have hP9 := hP.sub (ws' := [(x, .inr (10, [.ref w, .ref sp, .ref sv, .ref bu, .int 0, .int 0])), (w, .inr (9, [.int 0, .ref w_se, .ref w_cu, .ref w_pr, .int 0, .ref w_ch, .ref w_re, .ref w_lo]))]) [0, 1] rfl
    have hD9 := hD.sub (ws' := [(x, .inr (10, [.ref w, .ref sp, .ref sv, .ref bu, .int 0, .int 0])), (w, .inr (9, [.int 0, .ref w_se, .ref w_cu, .ref w_pr, .int 0, .ref w_ch, .ref w_re, .ref w_lo]))]) [0, 1] (by decide) rfl
    exact vx_out (fun x hx => (hex x hx).elim) hlocks hce hcv hcl (fun t ht hW => ⟨(), trivial, ⟨rfl, by rw [ht]; exact hP9, by rw [hAe]; exact hD9⟩, hS.F ht⟩) hS.2.2 (Nat.le_of_ble_eq_true rfl) (Nat.le_of_ble_eq_true rfl)
  · exact hw_2.elim
theorem dX10_measuredRest_0 : decode cX10_measuredRest 0 = .ok (.aload_n 0, 1) := by decide +kernel
theorem dX10_measuredRest_1 : decode cX10_measuredRest 1 = .ok (.iload_n 1, 1) := by decide +kernel
theorem dX10_measuredRest_2 : decode cX10_measuredRest 2 = .ok (.invokevirtual 172, 3) := by decide +kernel
set_option maxRecDepth 100000 in
set_option maxHeartbeats 4000000 in
theorem c_measuredRest_0 (l : Launch) (hfl : l.stackTraces = false) (D : va_G) (ct : Nat → ClassId) (x : Nat) (w : Nat) (sp : Nat) (sv : Nat) (bu : Nat) (w_se : Nat) (w_cu : Nat) (w_pr : Nat) (w_ch : Nat) (w_re : Nat) (w_lo : Nat) (p1 : Int32) (sz : Nat) : vx_Met l yX10_measuredRest (ws_ yX10_measuredRest cX10_measuredRest 2 (some .int)) ({ frames := 7, cells := 1, slots := 6, locals := 112 } : Room) (va_Pc [.ref x, .int p1] (cmP D ct sz [(x, .inr (10, [.ref w, .ref sp, .ref sv, .ref bu, .int 0, .int 0])), (w, .inr (9, [.int 0, .ref w_se, .ref w_cu, .ref w_pr, .int 0, .ref w_ch, .ref w_re, .ref w_lo]))])) (va_Qi (fun (r : Int32) (_ : Unit) => False) (cmB D [(x, .inr (10, [.ref w, .ref sp, .ref sv, .ref bu, .int 0, .int 0])), (w, .inr (9, [.int 0, .ref w_se, .ref w_cu, .ref w_pr, .int 0, .ref w_ch, .ref w_re, .ref w_lo]))] sz (fun _ : Unit => [(x, .inr (10, [.ref w, .ref sp, .ref sv, .ref bu, .int 0, .int 0])), (w, .inr (9, [.int 0, .ref w_se, .ref w_cu, .ref w_pr, .int 0, .ref w_ch, .ref w_re, .ref w_lo]))])) (va_A [(x, .inr (10, [.ref w, .ref sp, .ref sv, .ref bu, .int 0, .int 0])), (w, .inr (9, [.int 0, .ref w_se, .ref w_cu, .ref w_pr, .int 0, .ref w_ch, .ref w_re, .ref w_lo]))] sz)) (vx_X (fun _ : Unit => True) (cmBX D [(x, .inr (10, [.ref w, .ref sp, .ref sv, .ref bu, .int 0, .int 0])), (w, .inr (9, [.int 0, .ref w_se, .ref w_cu, .ref w_pr, .int 0, .ref w_ch, .ref w_re, .ref w_lo]))] sz "java/lang/IndexOutOfBoundsException" (fun _ : Unit => [(x, .inr (10, [.ref w, .ref sp, .ref sv, .ref bu, .int 0, .int 0])), (w, .inr (9, [.int 0, .ref w_se, .ref w_cu, .ref w_pr, .int 0, .ref w_ch, .ref w_re, .ref w_lo]))])) (va_A [(x, .inr (10, [.ref w, .ref sp, .ref sv, .ref bu, .int 0, .int 0])), (w, .inr (9, [.int 0, .ref w_se, .ref w_cu, .ref w_pr, .int 0, .ref w_ch, .ref w_re, .ref w_lo]))] sz)) 1 6 (va_A [(x, .inr (10, [.ref w, .ref sp, .ref sv, .ref bu, .int 0, .int 0])), (w, .inr (9, [.int 0, .ref w_se, .ref w_cu, .ref w_pr, .int 0, .ref w_ch, .ref w_re, .ref w_lo]))] sz) := by
  refine vx_ofW (cc := cX10_measuredRest) (maxL := 2) (ret := (some .int)) (by decide) rfl ?_
  intro p e s m args below meth c s₁ B hml hex hv
  obtain ⟨rfl, hsz, hP, hK, hD0, hX⟩ := hv
  have hx := B.exec
  have hb := B.bytes
  have hr := B.returns
  have hts := ws_all (atoms_spec (ws := ws_ yX10_measuredRest cX10_measuredRest 2 (some .int)) B.pre)
  have hown : s.vm.findClass RX10 = some m.cls := findClass_of_methodNamed B.named
  have hlocks := B.notSynchronized
  subst hsz
  have hD := hD0.self (sz := s.heap.size)
  generalize hAe : va_A [(x, .inr (10, [.ref w, .ref sp, .ref sv, .ref bu, .int 0, .int 0])), (w, .inr (9, [.int 0, .ref w_se, .ref w_cu, .ref w_pr, .int 0, .ref w_ch, .ref w_re, .ref w_lo]))] s.heap.size = A at hD hX ⊢
  have hA : ∀ q : Nat, s.heap.size ≤ q → A q := fun q h => by rw [← hAe]; exact Or.inr h
  have hS : va_S A s.heap s.heap [] := va_S.rf
  have hl := lv_entry ([.ref x, .int p1]) (n := 2) (Nat.le_of_ble_eq_true rfl)
  rw [lg_entry_eq]
  generalize (lg_sl ([.ref x, .int p1]) ++ List.replicate (2 - (lg_sl ([.ref x, .int p1])).length) Slot.unset).toArray = ls at hl ⊢
  have hl : lv_has ls 2 [(0, .ref x), (1, .int p1)] := hl
  refine lv_aload_n hx hb dX10_measuredRest_0 rfl (lv_at hl 0 rfl) ?_
  refine lv_iload_n hx hb dX10_measuredRest_1 rfl (lv_at hl 1 rfl) ?_
  refine cm_xq (wr := []) (vx_runV (As := [.int p1]) (rest := []) ⟨hx, hb, hml, hown, hts⟩ (c_needChannel_0 l hfl D ct x w sp sv bu w_se w_cu w_pr w_ch w_re w_lo p1 _) (cm_V 1 hts kc_X10_needChannel ki_RX10 kl_RX10_172 kv_X10_needChannel kx_X10_needChannel kd_X10_needChannel ⟨Nat.le_of_ble_eq_true rfl, Nat.le_of_ble_eq_true rfl⟩) (cm_preV hP hK hD hS hA hX [0, 1] rfl rfl rfl (q0 := 0) (ci := 10) rfl rfl) rfl rfl hl.1 rfl (lv_room (Nat.le_of_ble_eq_true rfl)) dX10_measuredRest_2 ⟨Nat.le_of_ble_eq_true rfl, Nat.le_of_ble_eq_true rfl⟩) hP hD hS hA [0, 1] [] rfl rfl rfl (by decide) (fun E ce q9 u H locs hu hE hP hD hS hce hcv hcl => ?_) (fun r_1 u H locs hw_2 hP hD hS => ?_)
  · subst hE
    have hP : va_P D vwCl [(x, .inr (10, [.ref w, .ref sp, .ref sv, .ref bu, .int 0, .int 0])), (w, .inr (9, [.int 0, .ref w_se, .ref w_cu, .ref w_pr, .int 0, .ref w_ch, .ref w_re, .ref w_lo]))] H := hP
    have hD : va_D A [(x, .inr (10, [.ref w, .ref sp, .ref sv, .ref bu, .int 0, .int 0])), (w, .inr (9, [.int 0, .ref w_se, .ref w_cu, .ref w_pr, .int 0, .ref w_ch, .ref w_re, .ref w_lo]))] := hD
    have hP9 := hP.sub (ws' := [(x, .inr (10, [.ref w, .ref sp, .ref sv, .ref bu, .int 0, .int 0])), (w, .inr (9, [.int 0, .ref w_se, .ref w_cu, .ref w_pr, .int 0, .ref w_ch, .ref w_re, .ref w_lo]))]) [0, 1] rfl
    have hD9 := hD.sub (ws' := [(x, .inr (10, [.ref w, .ref sp, .ref sv, .ref bu, .int 0, .int 0])), (w, .inr (9, [.int 0, .ref w_se, .ref w_cu, .ref w_pr, .int 0, .ref w_ch, .ref w_re, .ref w_lo]))]) [0, 1] (by decide) rfl
    exact vx_out (fun x hx => (hex x hx).elim) hlocks hce hcv hcl (fun t ht hW => ⟨(), trivial, ⟨rfl, by rw [ht]; exact hP9, by rw [hAe]; exact hD9⟩, hS.F ht⟩) hS.2.2 (Nat.le_of_ble_eq_true rfl) (Nat.le_of_ble_eq_true rfl)
  · exact hw_2.elim
theorem dX10_capacityByRule_0 : decode cX10_capacityByRule 0 = .ok (.aload_n 0, 1) := by decide +kernel
theorem dX10_capacityByRule_1 : decode cX10_capacityByRule 1 = .ok (.iload_n 1, 1) := by decide +kernel
theorem dX10_capacityByRule_2 : decode cX10_capacityByRule 2 = .ok (.invokevirtual 172, 3) := by decide +kernel
set_option maxRecDepth 100000 in
set_option maxHeartbeats 4000000 in
theorem c_capacityByRule_0 (l : Launch) (hfl : l.stackTraces = false) (D : va_G) (ct : Nat → ClassId) (x : Nat) (w : Nat) (sp : Nat) (sv : Nat) (bu : Nat) (w_se : Nat) (w_cu : Nat) (w_pr : Nat) (w_ch : Nat) (w_re : Nat) (w_lo : Nat) (p1 : Int32) (sz : Nat) : vx_Met l yX10_capacityByRule (ws_ yX10_capacityByRule cX10_capacityByRule 2 (some .int)) ({ frames := 7, cells := 1, slots := 6, locals := 112 } : Room) (va_Pc [.ref x, .int p1] (cmP D ct sz [(x, .inr (10, [.ref w, .ref sp, .ref sv, .ref bu, .int 0, .int 0])), (w, .inr (9, [.int 0, .ref w_se, .ref w_cu, .ref w_pr, .int 0, .ref w_ch, .ref w_re, .ref w_lo]))])) (va_Qi (fun (r : Int32) (_ : Unit) => False) (cmB D [(x, .inr (10, [.ref w, .ref sp, .ref sv, .ref bu, .int 0, .int 0])), (w, .inr (9, [.int 0, .ref w_se, .ref w_cu, .ref w_pr, .int 0, .ref w_ch, .ref w_re, .ref w_lo]))] sz (fun _ : Unit => [(x, .inr (10, [.ref w, .ref sp, .ref sv, .ref bu, .int 0, .int 0])), (w, .inr (9, [.int 0, .ref w_se, .ref w_cu, .ref w_pr, .int 0, .ref w_ch, .ref w_re, .ref w_lo]))])) (va_A [(x, .inr (10, [.ref w, .ref sp, .ref sv, .ref bu, .int 0, .int 0])), (w, .inr (9, [.int 0, .ref w_se, .ref w_cu, .ref w_pr, .int 0, .ref w_ch, .ref w_re, .ref w_lo]))] sz)) (vx_X (fun _ : Unit => True) (cmBX D [(x, .inr (10, [.ref w, .ref sp, .ref sv, .ref bu, .int 0, .int 0])), (w, .inr (9, [.int 0, .ref w_se, .ref w_cu, .ref w_pr, .int 0, .ref w_ch, .ref w_re, .ref w_lo]))] sz "java/lang/IndexOutOfBoundsException" (fun _ : Unit => [(x, .inr (10, [.ref w, .ref sp, .ref sv, .ref bu, .int 0, .int 0])), (w, .inr (9, [.int 0, .ref w_se, .ref w_cu, .ref w_pr, .int 0, .ref w_ch, .ref w_re, .ref w_lo]))])) (va_A [(x, .inr (10, [.ref w, .ref sp, .ref sv, .ref bu, .int 0, .int 0])), (w, .inr (9, [.int 0, .ref w_se, .ref w_cu, .ref w_pr, .int 0, .ref w_ch, .ref w_re, .ref w_lo]))] sz)) 1 6 (va_A [(x, .inr (10, [.ref w, .ref sp, .ref sv, .ref bu, .int 0, .int 0])), (w, .inr (9, [.int 0, .ref w_se, .ref w_cu, .ref w_pr, .int 0, .ref w_ch, .ref w_re, .ref w_lo]))] sz) := by
  refine vx_ofW (cc := cX10_capacityByRule) (maxL := 2) (ret := (some .int)) (by decide) rfl ?_
  intro p e s m args below meth c s₁ B hml hex hv
  obtain ⟨rfl, hsz, hP, hK, hD0, hX⟩ := hv
  have hx := B.exec
  have hb := B.bytes
  have hr := B.returns
  have hts := ws_all (atoms_spec (ws := ws_ yX10_capacityByRule cX10_capacityByRule 2 (some .int)) B.pre)
  have hown : s.vm.findClass RX10 = some m.cls := findClass_of_methodNamed B.named
  have hlocks := B.notSynchronized
  subst hsz
  have hD := hD0.self (sz := s.heap.size)
  generalize hAe : va_A [(x, .inr (10, [.ref w, .ref sp, .ref sv, .ref bu, .int 0, .int 0])), (w, .inr (9, [.int 0, .ref w_se, .ref w_cu, .ref w_pr, .int 0, .ref w_ch, .ref w_re, .ref w_lo]))] s.heap.size = A at hD hX ⊢
  have hA : ∀ q : Nat, s.heap.size ≤ q → A q := fun q h => by rw [← hAe]; exact Or.inr h
  have hS : va_S A s.heap s.heap [] := va_S.rf
  have hl := lv_entry ([.ref x, .int p1]) (n := 2) (Nat.le_of_ble_eq_true rfl)
  rw [lg_entry_eq]
  generalize (lg_sl ([.ref x, .int p1]) ++ List.replicate (2 - (lg_sl ([.ref x, .int p1])).length) Slot.unset).toArray = ls at hl ⊢
  have hl : lv_has ls 2 [(0, .ref x), (1, .int p1)] := hl
  refine lv_aload_n hx hb dX10_capacityByRule_0 rfl (lv_at hl 0 rfl) ?_
  refine lv_iload_n hx hb dX10_capacityByRule_1 rfl (lv_at hl 1 rfl) ?_
  refine cm_xq (wr := []) (vx_runV (As := [.int p1]) (rest := []) ⟨hx, hb, hml, hown, hts⟩ (c_needChannel_0 l hfl D ct x w sp sv bu w_se w_cu w_pr w_ch w_re w_lo p1 _) (cm_V 1 hts kc_X10_needChannel ki_RX10 kl_RX10_172 kv_X10_needChannel kx_X10_needChannel kd_X10_needChannel ⟨Nat.le_of_ble_eq_true rfl, Nat.le_of_ble_eq_true rfl⟩) (cm_preV hP hK hD hS hA hX [0, 1] rfl rfl rfl (q0 := 0) (ci := 10) rfl rfl) rfl rfl hl.1 rfl (lv_room (Nat.le_of_ble_eq_true rfl)) dX10_capacityByRule_2 ⟨Nat.le_of_ble_eq_true rfl, Nat.le_of_ble_eq_true rfl⟩) hP hD hS hA [0, 1] [] rfl rfl rfl (by decide) (fun E ce q9 u H locs hu hE hP hD hS hce hcv hcl => ?_) (fun r_1 u H locs hw_2 hP hD hS => ?_)
  · subst hE
    have hP : va_P D vwCl [(x, .inr (10, [.ref w, .ref sp, .ref sv, .ref bu, .int 0, .int 0])), (w, .inr (9, [.int 0, .ref w_se, .ref w_cu, .ref w_pr, .int 0, .ref w_ch, .ref w_re, .ref w_lo]))] H := hP
    have hD : va_D A [(x, .inr (10, [.ref w, .ref sp, .ref sv, .ref bu, .int 0, .int 0])), (w, .inr (9, [.int 0, .ref w_se, .ref w_cu, .ref w_pr, .int 0, .ref w_ch, .ref w_re, .ref w_lo]))] := hD
    have hP9 := hP.sub (ws' := [(x, .inr (10, [.ref w, .ref sp, .ref sv, .ref bu, .int 0, .int 0])), (w, .inr (9, [.int 0, .ref w_se, .ref w_cu, .ref w_pr, .int 0, .ref w_ch, .ref w_re, .ref w_lo]))]) [0, 1] rfl
    have hD9 := hD.sub (ws' := [(x, .inr (10, [.ref w, .ref sp, .ref sv, .ref bu, .int 0, .int 0])), (w, .inr (9, [.int 0, .ref w_se, .ref w_cu, .ref w_pr, .int 0, .ref w_ch, .ref w_re, .ref w_lo]))]) [0, 1] (by decide) rfl
    exact vx_out (fun x hx => (hex x hx).elim) hlocks hce hcv hcl (fun t ht hW => ⟨(), trivial, ⟨rfl, by rw [ht]; exact hP9, by rw [hAe]; exact hD9⟩, hS.F ht⟩) hS.2.2 (Nat.le_of_ble_eq_true rfl) (Nat.le_of_ble_eq_true rfl)
  · exact hw_2.elim
theorem dX10_internalResistance_0 : decode cX10_internalResistance 0 = .ok (.aload_n 0, 1) := by decide +kernel
theorem dX10_internalResistance_1 : decode cX10_internalResistance 1 = .ok (.iload_n 1, 1) := by decide +kernel
theorem dX10_internalResistance_2 : decode cX10_internalResistance 2 = .ok (.invokevirtual 172, 3) := by decide +kernel
set_option maxRecDepth 100000 in
set_option maxHeartbeats 4000000 in
theorem c_internalResistance_0 (l : Launch) (hfl : l.stackTraces = false) (D : va_G) (ct : Nat → ClassId) (x : Nat) (w : Nat) (sp : Nat) (sv : Nat) (bu : Nat) (w_se : Nat) (w_cu : Nat) (w_pr : Nat) (w_ch : Nat) (w_re : Nat) (w_lo : Nat) (p1 : Int32) (sz : Nat) : vx_Met l yX10_internalResistance (ws_ yX10_internalResistance cX10_internalResistance 2 (some .int)) ({ frames := 7, cells := 1, slots := 6, locals := 112 } : Room) (va_Pc [.ref x, .int p1] (cmP D ct sz [(x, .inr (10, [.ref w, .ref sp, .ref sv, .ref bu, .int 0, .int 0])), (w, .inr (9, [.int 0, .ref w_se, .ref w_cu, .ref w_pr, .int 0, .ref w_ch, .ref w_re, .ref w_lo]))])) (va_Qi (fun (r : Int32) (_ : Unit) => False) (cmB D [(x, .inr (10, [.ref w, .ref sp, .ref sv, .ref bu, .int 0, .int 0])), (w, .inr (9, [.int 0, .ref w_se, .ref w_cu, .ref w_pr, .int 0, .ref w_ch, .ref w_re, .ref w_lo]))] sz (fun _ : Unit => [(x, .inr (10, [.ref w, .ref sp, .ref sv, .ref bu, .int 0, .int 0])), (w, .inr (9, [.int 0, .ref w_se, .ref w_cu, .ref w_pr, .int 0, .ref w_ch, .ref w_re, .ref w_lo]))])) (va_A [(x, .inr (10, [.ref w, .ref sp, .ref sv, .ref bu, .int 0, .int 0])), (w, .inr (9, [.int 0, .ref w_se, .ref w_cu, .ref w_pr, .int 0, .ref w_ch, .ref w_re, .ref w_lo]))] sz)) (vx_X (fun _ : Unit => True) (cmBX D [(x, .inr (10, [.ref w, .ref sp, .ref sv, .ref bu, .int 0, .int 0])), (w, .inr (9, [.int 0, .ref w_se, .ref w_cu, .ref w_pr, .int 0, .ref w_ch, .ref w_re, .ref w_lo]))] sz "java/lang/IndexOutOfBoundsException" (fun _ : Unit => [(x, .inr (10, [.ref w, .ref sp, .ref sv, .ref bu, .int 0, .int 0])), (w, .inr (9, [.int 0, .ref w_se, .ref w_cu, .ref w_pr, .int 0, .ref w_ch, .ref w_re, .ref w_lo]))])) (va_A [(x, .inr (10, [.ref w, .ref sp, .ref sv, .ref bu, .int 0, .int 0])), (w, .inr (9, [.int 0, .ref w_se, .ref w_cu, .ref w_pr, .int 0, .ref w_ch, .ref w_re, .ref w_lo]))] sz)) 1 6 (va_A [(x, .inr (10, [.ref w, .ref sp, .ref sv, .ref bu, .int 0, .int 0])), (w, .inr (9, [.int 0, .ref w_se, .ref w_cu, .ref w_pr, .int 0, .ref w_ch, .ref w_re, .ref w_lo]))] sz) := by
  refine vx_ofW (cc := cX10_internalResistance) (maxL := 2) (ret := (some .int)) (by decide) rfl ?_
  intro p e s m args below meth c s₁ B hml hex hv
  obtain ⟨rfl, hsz, hP, hK, hD0, hX⟩ := hv
  have hx := B.exec
  have hb := B.bytes
  have hr := B.returns
  have hts := ws_all (atoms_spec (ws := ws_ yX10_internalResistance cX10_internalResistance 2 (some .int)) B.pre)
  have hown : s.vm.findClass RX10 = some m.cls := findClass_of_methodNamed B.named
  have hlocks := B.notSynchronized
  subst hsz
  have hD := hD0.self (sz := s.heap.size)
  generalize hAe : va_A [(x, .inr (10, [.ref w, .ref sp, .ref sv, .ref bu, .int 0, .int 0])), (w, .inr (9, [.int 0, .ref w_se, .ref w_cu, .ref w_pr, .int 0, .ref w_ch, .ref w_re, .ref w_lo]))] s.heap.size = A at hD hX ⊢
  have hA : ∀ q : Nat, s.heap.size ≤ q → A q := fun q h => by rw [← hAe]; exact Or.inr h
  have hS : va_S A s.heap s.heap [] := va_S.rf
  have hl := lv_entry ([.ref x, .int p1]) (n := 2) (Nat.le_of_ble_eq_true rfl)
  rw [lg_entry_eq]
  generalize (lg_sl ([.ref x, .int p1]) ++ List.replicate (2 - (lg_sl ([.ref x, .int p1])).length) Slot.unset).toArray = ls at hl ⊢
  have hl : lv_has ls 2 [(0, .ref x), (1, .int p1)] := hl
  refine lv_aload_n hx hb dX10_internalResistance_0 rfl (lv_at hl 0 rfl) ?_
  refine lv_iload_n hx hb dX10_internalResistance_1 rfl (lv_at hl 1 rfl) ?_
  refine cm_xq (wr := []) (vx_runV (As := [.int p1]) (rest := []) ⟨hx, hb, hml, hown, hts⟩ (c_needChannel_0 l hfl D ct x w sp sv bu w_se w_cu w_pr w_ch w_re w_lo p1 _) (cm_V 1 hts kc_X10_needChannel ki_RX10 kl_RX10_172 kv_X10_needChannel kx_X10_needChannel kd_X10_needChannel ⟨Nat.le_of_ble_eq_true rfl, Nat.le_of_ble_eq_true rfl⟩) (cm_preV hP hK hD hS hA hX [0, 1] rfl rfl rfl (q0 := 0) (ci := 10) rfl rfl) rfl rfl hl.1 rfl (lv_room (Nat.le_of_ble_eq_true rfl)) dX10_internalResistance_2 ⟨Nat.le_of_ble_eq_true rfl, Nat.le_of_ble_eq_true rfl⟩) hP hD hS hA [0, 1] [] rfl rfl rfl (by decide) (fun E ce q9 u H locs hu hE hP hD hS hce hcv hcl => ?_) (fun r_1 u H locs hw_2 hP hD hS => ?_)
  · subst hE
    have hP : va_P D vwCl [(x, .inr (10, [.ref w, .ref sp, .ref sv, .ref bu, .int 0, .int 0])), (w, .inr (9, [.int 0, .ref w_se, .ref w_cu, .ref w_pr, .int 0, .ref w_ch, .ref w_re, .ref w_lo]))] H := hP
    have hD : va_D A [(x, .inr (10, [.ref w, .ref sp, .ref sv, .ref bu, .int 0, .int 0])), (w, .inr (9, [.int 0, .ref w_se, .ref w_cu, .ref w_pr, .int 0, .ref w_ch, .ref w_re, .ref w_lo]))] := hD
    have hP9 := hP.sub (ws' := [(x, .inr (10, [.ref w, .ref sp, .ref sv, .ref bu, .int 0, .int 0])), (w, .inr (9, [.int 0, .ref w_se, .ref w_cu, .ref w_pr, .int 0, .ref w_ch, .ref w_re, .ref w_lo]))]) [0, 1] rfl
    have hD9 := hD.sub (ws' := [(x, .inr (10, [.ref w, .ref sp, .ref sv, .ref bu, .int 0, .int 0])), (w, .inr (9, [.int 0, .ref w_se, .ref w_cu, .ref w_pr, .int 0, .ref w_ch, .ref w_re, .ref w_lo]))]) [0, 1] (by decide) rfl
    exact vx_out (fun x hx => (hex x hx).elim) hlocks hce hcv hcl (fun t ht hW => ⟨(), trivial, ⟨rfl, by rw [ht]; exact hP9, by rw [hAe]; exact hD9⟩, hS.F ht⟩) hS.2.2 (Nat.le_of_ble_eq_true rfl) (Nat.le_of_ble_eq_true rfl)
  · exact hw_2.elim
theorem dX10_ticksIn_0 : decode cX10_ticksIn 0 = .ok (.aload_n 0, 1) := by decide +kernel
theorem dX10_ticksIn_1 : decode cX10_ticksIn 1 = .ok (.iload_n 1, 1) := by decide +kernel
theorem dX10_ticksIn_2 : decode cX10_ticksIn 2 = .ok (.invokevirtual 172, 3) := by decide +kernel
set_option maxRecDepth 100000 in
set_option maxHeartbeats 4000000 in
theorem c_ticksIn_0 (l : Launch) (hfl : l.stackTraces = false) (D : va_G) (ct : Nat → ClassId) (x : Nat) (w : Nat) (sp : Nat) (sv : Nat) (bu : Nat) (w_se : Nat) (w_cu : Nat) (w_pr : Nat) (w_ch : Nat) (w_re : Nat) (w_lo : Nat) (p1 : Int32) (p2 : Int32) (sz : Nat) : vx_Met l yX10_ticksIn (ws_ yX10_ticksIn cX10_ticksIn 4 (some .int)) ({ frames := 7, cells := 1, slots := 6, locals := 112 } : Room) (va_Pc [.ref x, .int p1, .int p2] (cmP D ct sz [(x, .inr (10, [.ref w, .ref sp, .ref sv, .ref bu, .int 0, .int 0])), (w, .inr (9, [.int 0, .ref w_se, .ref w_cu, .ref w_pr, .int 0, .ref w_ch, .ref w_re, .ref w_lo]))])) (va_Qi (fun (r : Int32) (_ : Unit) => False) (cmB D [(x, .inr (10, [.ref w, .ref sp, .ref sv, .ref bu, .int 0, .int 0])), (w, .inr (9, [.int 0, .ref w_se, .ref w_cu, .ref w_pr, .int 0, .ref w_ch, .ref w_re, .ref w_lo]))] sz (fun _ : Unit => [(x, .inr (10, [.ref w, .ref sp, .ref sv, .ref bu, .int 0, .int 0])), (w, .inr (9, [.int 0, .ref w_se, .ref w_cu, .ref w_pr, .int 0, .ref w_ch, .ref w_re, .ref w_lo]))])) (va_A [(x, .inr (10, [.ref w, .ref sp, .ref sv, .ref bu, .int 0, .int 0])), (w, .inr (9, [.int 0, .ref w_se, .ref w_cu, .ref w_pr, .int 0, .ref w_ch, .ref w_re, .ref w_lo]))] sz)) (vx_X (fun _ : Unit => True) (cmBX D [(x, .inr (10, [.ref w, .ref sp, .ref sv, .ref bu, .int 0, .int 0])), (w, .inr (9, [.int 0, .ref w_se, .ref w_cu, .ref w_pr, .int 0, .ref w_ch, .ref w_re, .ref w_lo]))] sz "java/lang/IndexOutOfBoundsException" (fun _ : Unit => [(x, .inr (10, [.ref w, .ref sp, .ref sv, .ref bu, .int 0, .int 0])), (w, .inr (9, [.int 0, .ref w_se, .ref w_cu, .ref w_pr, .int 0, .ref w_ch, .ref w_re, .ref w_lo]))])) (va_A [(x, .inr (10, [.ref w, .ref sp, .ref sv, .ref bu, .int 0, .int 0])), (w, .inr (9, [.int 0, .ref w_se, .ref w_cu, .ref w_pr, .int 0, .ref w_ch, .ref w_re, .ref w_lo]))] sz)) 1 6 (va_A [(x, .inr (10, [.ref w, .ref sp, .ref sv, .ref bu, .int 0, .int 0])), (w, .inr (9, [.int 0, .ref w_se, .ref w_cu, .ref w_pr, .int 0, .ref w_ch, .ref w_re, .ref w_lo]))] sz) := by
  refine vx_ofW (cc := cX10_ticksIn) (maxL := 4) (ret := (some .int)) (by decide) rfl ?_
  intro p e s m args below meth c s₁ B hml hex hv
  obtain ⟨rfl, hsz, hP, hK, hD0, hX⟩ := hv
  have hx := B.exec
  have hb := B.bytes
  have hr := B.returns
  have hts := ws_all (atoms_spec (ws := ws_ yX10_ticksIn cX10_ticksIn 4 (some .int)) B.pre)
  have hown : s.vm.findClass RX10 = some m.cls := findClass_of_methodNamed B.named
  have hlocks := B.notSynchronized
  subst hsz
  have hD := hD0.self (sz := s.heap.size)
  generalize hAe : va_A [(x, .inr (10, [.ref w, .ref sp, .ref sv, .ref bu, .int 0, .int 0])), (w, .inr (9, [.int 0, .ref w_se, .ref w_cu, .ref w_pr, .int 0, .ref w_ch, .ref w_re, .ref w_lo]))] s.heap.size = A at hD hX ⊢
  have hA : ∀ q : Nat, s.heap.size ≤ q → A q := fun q h => by rw [← hAe]; exact Or.inr h
  have hS : va_S A s.heap s.heap [] := va_S.rf
  have hl := lv_entry ([.ref x, .int p1, .int p2]) (n := 4) (Nat.le_of_ble_eq_true rfl)
  rw [lg_entry_eq]
  generalize (lg_sl ([.ref x, .int p1, .int p2]) ++ List.replicate (4 - (lg_sl ([.ref x, .int p1, .int p2])).length) Slot.unset).toArray = ls at hl ⊢
  have hl : lv_has ls 4 [(0, .ref x), (1, .int p1), (2, .int p2)] := hl
  refine lv_aload_n hx hb dX10_ticksIn_0 rfl (lv_at hl 0 rfl) ?_
  refine lv_iload_n hx hb dX10_ticksIn_1 rfl (lv_at hl 1 rfl) ?_
  refine cm_xq (wr := []) (vx_runV (As := [.int p1]) (rest := []) ⟨hx, hb, hml, hown, hts⟩ (c_needChannel_0 l hfl D ct x w sp sv bu w_se w_cu w_pr w_ch w_re w_lo p1 _) (cm_V 1 hts kc_X10_needChannel ki_RX10 kl_RX10_172 kv_X10_needChannel kx_X10_needChannel kd_X10_needChannel ⟨Nat.le_of_ble_eq_true rfl, Nat.le_of_ble_eq_true rfl⟩) (cm_preV hP hK hD hS hA hX [0, 1] rfl rfl rfl (q0 := 0) (ci := 10) rfl rfl) rfl rfl hl.1 rfl (lv_room (Nat.le_of_ble_eq_true rfl)) dX10_ticksIn_2 ⟨Nat.le_of_ble_eq_true rfl, Nat.le_of_ble_eq_true rfl⟩) hP hD hS hA [0, 1] [] rfl rfl rfl (by decide) (fun E ce q9 u H locs hu hE hP hD hS hce hcv hcl => ?_) (fun r_1 u H locs hw_2 hP hD hS => ?_)
  · subst hE
    have hP : va_P D vwCl [(x, .inr (10, [.ref w, .ref sp, .ref sv, .ref bu, .int 0, .int 0])), (w, .inr (9, [.int 0, .ref w_se, .ref w_cu, .ref w_pr, .int 0, .ref w_ch, .ref w_re, .ref w_lo]))] H := hP
    have hD : va_D A [(x, .inr (10, [.ref w, .ref sp, .ref sv, .ref bu, .int 0, .int 0])), (w, .inr (9, [.int 0, .ref w_se, .ref w_cu, .ref w_pr, .int 0, .ref w_ch, .ref w_re, .ref w_lo]))] := hD
    have hP9 := hP.sub (ws' := [(x, .inr (10, [.ref w, .ref sp, .ref sv, .ref bu, .int 0, .int 0])), (w, .inr (9, [.int 0, .ref w_se, .ref w_cu, .ref w_pr, .int 0, .ref w_ch, .ref w_re, .ref w_lo]))]) [0, 1] rfl
    have hD9 := hD.sub (ws' := [(x, .inr (10, [.ref w, .ref sp, .ref sv, .ref bu, .int 0, .int 0])), (w, .inr (9, [.int 0, .ref w_se, .ref w_cu, .ref w_pr, .int 0, .ref w_ch, .ref w_re, .ref w_lo]))]) [0, 1] (by decide) rfl
    exact vx_out (fun x hx => (hex x hx).elim) hlocks hce hcv hcl (fun t ht hW => ⟨(), trivial, ⟨rfl, by rw [ht]; exact hP9, by rw [hAe]; exact hD9⟩, hS.F ht⟩) hS.2.2 (Nat.le_of_ble_eq_true rfl) (Nat.le_of_ble_eq_true rfl)
  · exact hw_2.elim
theorem dX10_warnings_0 : decode cX10_warnings 0 = .ok (.aload_n 0, 1) := by decide +kernel
theorem dX10_warnings_1 : decode cX10_warnings 1 = .ok (.iload_n 1, 1) := by decide +kernel
theorem dX10_warnings_2 : decode cX10_warnings 2 = .ok (.invokevirtual 172, 3) := by decide +kernel
set_option maxRecDepth 100000 in
set_option maxHeartbeats 4000000 in
theorem c_warnings_0 (l : Launch) (hfl : l.stackTraces = false) (D : va_G) (ct : Nat → ClassId) (x : Nat) (w : Nat) (sp : Nat) (sv : Nat) (bu : Nat) (w_se : Nat) (w_cu : Nat) (w_pr : Nat) (w_ch : Nat) (w_re : Nat) (w_lo : Nat) (p1 : Int32) (sz : Nat) : vx_Met l yX10_warnings (ws_ yX10_warnings cX10_warnings 2 (some .int)) ({ frames := 7, cells := 1, slots := 6, locals := 112 } : Room) (va_Pc [.ref x, .int p1] (cmP D ct sz [(x, .inr (10, [.ref w, .ref sp, .ref sv, .ref bu, .int 0, .int 0])), (w, .inr (9, [.int 0, .ref w_se, .ref w_cu, .ref w_pr, .int 0, .ref w_ch, .ref w_re, .ref w_lo]))])) (va_Qi (fun (r : Int32) (_ : Unit) => False) (cmB D [(x, .inr (10, [.ref w, .ref sp, .ref sv, .ref bu, .int 0, .int 0])), (w, .inr (9, [.int 0, .ref w_se, .ref w_cu, .ref w_pr, .int 0, .ref w_ch, .ref w_re, .ref w_lo]))] sz (fun _ : Unit => [(x, .inr (10, [.ref w, .ref sp, .ref sv, .ref bu, .int 0, .int 0])), (w, .inr (9, [.int 0, .ref w_se, .ref w_cu, .ref w_pr, .int 0, .ref w_ch, .ref w_re, .ref w_lo]))])) (va_A [(x, .inr (10, [.ref w, .ref sp, .ref sv, .ref bu, .int 0, .int 0])), (w, .inr (9, [.int 0, .ref w_se, .ref w_cu, .ref w_pr, .int 0, .ref w_ch, .ref w_re, .ref w_lo]))] sz)) (vx_X (fun _ : Unit => True) (cmBX D [(x, .inr (10, [.ref w, .ref sp, .ref sv, .ref bu, .int 0, .int 0])), (w, .inr (9, [.int 0, .ref w_se, .ref w_cu, .ref w_pr, .int 0, .ref w_ch, .ref w_re, .ref w_lo]))] sz "java/lang/IndexOutOfBoundsException" (fun _ : Unit => [(x, .inr (10, [.ref w, .ref sp, .ref sv, .ref bu, .int 0, .int 0])), (w, .inr (9, [.int 0, .ref w_se, .ref w_cu, .ref w_pr, .int 0, .ref w_ch, .ref w_re, .ref w_lo]))])) (va_A [(x, .inr (10, [.ref w, .ref sp, .ref sv, .ref bu, .int 0, .int 0])), (w, .inr (9, [.int 0, .ref w_se, .ref w_cu, .ref w_pr, .int 0, .ref w_ch, .ref w_re, .ref w_lo]))] sz)) 1 6 (va_A [(x, .inr (10, [.ref w, .ref sp, .ref sv, .ref bu, .int 0, .int 0])), (w, .inr (9, [.int 0, .ref w_se, .ref w_cu, .ref w_pr, .int 0, .ref w_ch, .ref w_re, .ref w_lo]))] sz) := by
  refine vx_ofW (cc := cX10_warnings) (maxL := 2) (ret := (some .int)) (by decide) rfl ?_
  intro p e s m args below meth c s₁ B hml hex hv
  obtain ⟨rfl, hsz, hP, hK, hD0, hX⟩ := hv
  have hx := B.exec
  have hb := B.bytes
  have hr := B.returns
  have hts := ws_all (atoms_spec (ws := ws_ yX10_warnings cX10_warnings 2 (some .int)) B.pre)
  have hown : s.vm.findClass RX10 = some m.cls := findClass_of_methodNamed B.named
  have hlocks := B.notSynchronized
  subst hsz
  have hD := hD0.self (sz := s.heap.size)
  generalize hAe : va_A [(x, .inr (10, [.ref w, .ref sp, .ref sv, .ref bu, .int 0, .int 0])), (w, .inr (9, [.int 0, .ref w_se, .ref w_cu, .ref w_pr, .int 0, .ref w_ch, .ref w_re, .ref w_lo]))] s.heap.size = A at hD hX ⊢
  have hA : ∀ q : Nat, s.heap.size ≤ q → A q := fun q h => by rw [← hAe]; exact Or.inr h
  have hS : va_S A s.heap s.heap [] := va_S.rf
  have hl := lv_entry ([.ref x, .int p1]) (n := 2) (Nat.le_of_ble_eq_true rfl)
  rw [lg_entry_eq]
  generalize (lg_sl ([.ref x, .int p1]) ++ List.replicate (2 - (lg_sl ([.ref x, .int p1])).length) Slot.unset).toArray = ls at hl ⊢
  have hl : lv_has ls 2 [(0, .ref x), (1, .int p1)] := hl
  refine lv_aload_n hx hb dX10_warnings_0 rfl (lv_at hl 0 rfl) ?_
  refine lv_iload_n hx hb dX10_warnings_1 rfl (lv_at hl 1 rfl) ?_
  refine cm_xq (wr := []) (vx_runV (As := [.int p1]) (rest := []) ⟨hx, hb, hml, hown, hts⟩ (c_needChannel_0 l hfl D ct x w sp sv bu w_se w_cu w_pr w_ch w_re w_lo p1 _) (cm_V 1 hts kc_X10_needChannel ki_RX10 kl_RX10_172 kv_X10_needChannel kx_X10_needChannel kd_X10_needChannel ⟨Nat.le_of_ble_eq_true rfl, Nat.le_of_ble_eq_true rfl⟩) (cm_preV hP hK hD hS hA hX [0, 1] rfl rfl rfl (q0 := 0) (ci := 10) rfl rfl) rfl rfl hl.1 rfl (lv_room (Nat.le_of_ble_eq_true rfl)) dX10_warnings_2 ⟨Nat.le_of_ble_eq_true rfl, Nat.le_of_ble_eq_true rfl⟩) hP hD hS hA [0, 1] [] rfl rfl rfl (by decide) (fun E ce q9 u H locs hu hE hP hD hS hce hcv hcl => ?_) (fun r_1 u H locs hw_2 hP hD hS => ?_)
  · subst hE
    have hP : va_P D vwCl [(x, .inr (10, [.ref w, .ref sp, .ref sv, .ref bu, .int 0, .int 0])), (w, .inr (9, [.int 0, .ref w_se, .ref w_cu, .ref w_pr, .int 0, .ref w_ch, .ref w_re, .ref w_lo]))] H := hP
    have hD : va_D A [(x, .inr (10, [.ref w, .ref sp, .ref sv, .ref bu, .int 0, .int 0])), (w, .inr (9, [.int 0, .ref w_se, .ref w_cu, .ref w_pr, .int 0, .ref w_ch, .ref w_re, .ref w_lo]))] := hD
    have hP9 := hP.sub (ws' := [(x, .inr (10, [.ref w, .ref sp, .ref sv, .ref bu, .int 0, .int 0])), (w, .inr (9, [.int 0, .ref w_se, .ref w_cu, .ref w_pr, .int 0, .ref w_ch, .ref w_re, .ref w_lo]))]) [0, 1] rfl
    have hD9 := hD.sub (ws' := [(x, .inr (10, [.ref w, .ref sp, .ref sv, .ref bu, .int 0, .int 0])), (w, .inr (9, [.int 0, .ref w_se, .ref w_cu, .ref w_pr, .int 0, .ref w_ch, .ref w_re, .ref w_lo]))]) [0, 1] (by decide) rfl
    exact vx_out (fun x hx => (hex x hx).elim) hlocks hce hcv hcl (fun t ht hW => ⟨(), trivial, ⟨rfl, by rw [ht]; exact hP9, by rw [hAe]; exact hD9⟩, hS.F ht⟩) hS.2.2 (Nat.le_of_ble_eq_true rfl) (Nat.le_of_ble_eq_true rfl)
  · exact hw_2.elim
theorem dX10_warned_0 : decode cX10_warned 0 = .ok (.aload_n 0, 1) := by decide +kernel
theorem dX10_warned_1 : decode cX10_warned 1 = .ok (.iload_n 1, 1) := by decide +kernel
theorem dX10_warned_2 : decode cX10_warned 2 = .ok (.invokevirtual 172, 3) := by decide +kernel
set_option maxRecDepth 100000 in
set_option maxHeartbeats 4000000 in
theorem c_warned_0 (l : Launch) (hfl : l.stackTraces = false) (D : va_G) (ct : Nat → ClassId) (x : Nat) (w : Nat) (sp : Nat) (sv : Nat) (bu : Nat) (w_se : Nat) (w_cu : Nat) (w_pr : Nat) (w_ch : Nat) (w_re : Nat) (w_lo : Nat) (p1 : Int32) (sz : Nat) : vx_Met l yX10_warned (ws_ yX10_warned cX10_warned 2 (some .int)) ({ frames := 7, cells := 1, slots := 6, locals := 112 } : Room) (va_Pc [.ref x, .int p1] (cmP D ct sz [(x, .inr (10, [.ref w, .ref sp, .ref sv, .ref bu, .int 0, .int 0])), (w, .inr (9, [.int 0, .ref w_se, .ref w_cu, .ref w_pr, .int 0, .ref w_ch, .ref w_re, .ref w_lo]))])) (va_Qi (fun (r : Int32) (_ : Unit) => False) (cmB D [(x, .inr (10, [.ref w, .ref sp, .ref sv, .ref bu, .int 0, .int 0])), (w, .inr (9, [.int 0, .ref w_se, .ref w_cu, .ref w_pr, .int 0, .ref w_ch, .ref w_re, .ref w_lo]))] sz (fun _ : Unit => [(x, .inr (10, [.ref w, .ref sp, .ref sv, .ref bu, .int 0, .int 0])), (w, .inr (9, [.int 0, .ref w_se, .ref w_cu, .ref w_pr, .int 0, .ref w_ch, .ref w_re, .ref w_lo]))])) (va_A [(x, .inr (10, [.ref w, .ref sp, .ref sv, .ref bu, .int 0, .int 0])), (w, .inr (9, [.int 0, .ref w_se, .ref w_cu, .ref w_pr, .int 0, .ref w_ch, .ref w_re, .ref w_lo]))] sz)) (vx_X (fun _ : Unit => True) (cmBX D [(x, .inr (10, [.ref w, .ref sp, .ref sv, .ref bu, .int 0, .int 0])), (w, .inr (9, [.int 0, .ref w_se, .ref w_cu, .ref w_pr, .int 0, .ref w_ch, .ref w_re, .ref w_lo]))] sz "java/lang/IndexOutOfBoundsException" (fun _ : Unit => [(x, .inr (10, [.ref w, .ref sp, .ref sv, .ref bu, .int 0, .int 0])), (w, .inr (9, [.int 0, .ref w_se, .ref w_cu, .ref w_pr, .int 0, .ref w_ch, .ref w_re, .ref w_lo]))])) (va_A [(x, .inr (10, [.ref w, .ref sp, .ref sv, .ref bu, .int 0, .int 0])), (w, .inr (9, [.int 0, .ref w_se, .ref w_cu, .ref w_pr, .int 0, .ref w_ch, .ref w_re, .ref w_lo]))] sz)) 1 6 (va_A [(x, .inr (10, [.ref w, .ref sp, .ref sv, .ref bu, .int 0, .int 0])), (w, .inr (9, [.int 0, .ref w_se, .ref w_cu, .ref w_pr, .int 0, .ref w_ch, .ref w_re, .ref w_lo]))] sz) := by
  refine vx_ofW (cc := cX10_warned) (maxL := 2) (ret := (some .int)) (by decide) rfl ?_
  intro p e s m args below meth c s₁ B hml hex hv
  obtain ⟨rfl, hsz, hP, hK, hD0, hX⟩ := hv
  have hx := B.exec
  have hb := B.bytes
  have hr := B.returns
  have hts := ws_all (atoms_spec (ws := ws_ yX10_warned cX10_warned 2 (some .int)) B.pre)
  have hown : s.vm.findClass RX10 = some m.cls := findClass_of_methodNamed B.named
  have hlocks := B.notSynchronized
  subst hsz
  have hD := hD0.self (sz := s.heap.size)
  generalize hAe : va_A [(x, .inr (10, [.ref w, .ref sp, .ref sv, .ref bu, .int 0, .int 0])), (w, .inr (9, [.int 0, .ref w_se, .ref w_cu, .ref w_pr, .int 0, .ref w_ch, .ref w_re, .ref w_lo]))] s.heap.size = A at hD hX ⊢
  have hA : ∀ q : Nat, s.heap.size ≤ q → A q := fun q h => by rw [← hAe]; exact Or.inr h
  have hS : va_S A s.heap s.heap [] := va_S.rf
  have hl := lv_entry ([.ref x, .int p1]) (n := 2) (Nat.le_of_ble_eq_true rfl)
  rw [lg_entry_eq]
  generalize (lg_sl ([.ref x, .int p1]) ++ List.replicate (2 - (lg_sl ([.ref x, .int p1])).length) Slot.unset).toArray = ls at hl ⊢
  have hl : lv_has ls 2 [(0, .ref x), (1, .int p1)] := hl
  refine lv_aload_n hx hb dX10_warned_0 rfl (lv_at hl 0 rfl) ?_
  refine lv_iload_n hx hb dX10_warned_1 rfl (lv_at hl 1 rfl) ?_
  refine cm_xq (wr := []) (vx_runV (As := [.int p1]) (rest := []) ⟨hx, hb, hml, hown, hts⟩ (c_needChannel_0 l hfl D ct x w sp sv bu w_se w_cu w_pr w_ch w_re w_lo p1 _) (cm_V 1 hts kc_X10_needChannel ki_RX10 kl_RX10_172 kv_X10_needChannel kx_X10_needChannel kd_X10_needChannel ⟨Nat.le_of_ble_eq_true rfl, Nat.le_of_ble_eq_true rfl⟩) (cm_preV hP hK hD hS hA hX [0, 1] rfl rfl rfl (q0 := 0) (ci := 10) rfl rfl) rfl rfl hl.1 rfl (lv_room (Nat.le_of_ble_eq_true rfl)) dX10_warned_2 ⟨Nat.le_of_ble_eq_true rfl, Nat.le_of_ble_eq_true rfl⟩) hP hD hS hA [0, 1] [] rfl rfl rfl (by decide) (fun E ce q9 u H locs hu hE hP hD hS hce hcv hcl => ?_) (fun r_1 u H locs hw_2 hP hD hS => ?_)
  · subst hE
    have hP : va_P D vwCl [(x, .inr (10, [.ref w, .ref sp, .ref sv, .ref bu, .int 0, .int 0])), (w, .inr (9, [.int 0, .ref w_se, .ref w_cu, .ref w_pr, .int 0, .ref w_ch, .ref w_re, .ref w_lo]))] H := hP
    have hD : va_D A [(x, .inr (10, [.ref w, .ref sp, .ref sv, .ref bu, .int 0, .int 0])), (w, .inr (9, [.int 0, .ref w_se, .ref w_cu, .ref w_pr, .int 0, .ref w_ch, .ref w_re, .ref w_lo]))] := hD
    have hP9 := hP.sub (ws' := [(x, .inr (10, [.ref w, .ref sp, .ref sv, .ref bu, .int 0, .int 0])), (w, .inr (9, [.int 0, .ref w_se, .ref w_cu, .ref w_pr, .int 0, .ref w_ch, .ref w_re, .ref w_lo]))]) [0, 1] rfl
    have hD9 := hD.sub (ws' := [(x, .inr (10, [.ref w, .ref sp, .ref sv, .ref bu, .int 0, .int 0])), (w, .inr (9, [.int 0, .ref w_se, .ref w_cu, .ref w_pr, .int 0, .ref w_ch, .ref w_re, .ref w_lo]))]) [0, 1] (by decide) rfl
    exact vx_out (fun x hx => (hex x hx).elim) hlocks hce hcv hcl (fun t ht hW => ⟨(), trivial, ⟨rfl, by rw [ht]; exact hP9, by rw [hAe]; exact hD9⟩, hS.F ht⟩) hS.2.2 (Nat.le_of_ble_eq_true rfl) (Nat.le_of_ble_eq_true rfl)
  · exact hw_2.elim
theorem dX10_repeats_0 : decode cX10_repeats 0 = .ok (.aload_n 0, 1) := by decide +kernel
theorem dX10_repeats_1 : decode cX10_repeats 1 = .ok (.iload_n 1, 1) := by decide +kernel
theorem dX10_repeats_2 : decode cX10_repeats 2 = .ok (.invokevirtual 172, 3) := by decide +kernel
set_option maxRecDepth 100000 in
set_option maxHeartbeats 4000000 in
theorem c_repeats_0 (l : Launch) (hfl : l.stackTraces = false) (D : va_G) (ct : Nat → ClassId) (x : Nat) (w : Nat) (sp : Nat) (sv : Nat) (bu : Nat) (w_se : Nat) (w_cu : Nat) (w_pr : Nat) (w_ch : Nat) (w_re : Nat) (w_lo : Nat) (p1 : Int32) (p2 : Int32) (sz : Nat) : vx_Met l yX10_repeats (ws_ yX10_repeats cX10_repeats 3 (some .int)) ({ frames := 7, cells := 1, slots := 6, locals := 112 } : Room) (va_Pc [.ref x, .int p1, .int p2] (cmP D ct sz [(x, .inr (10, [.ref w, .ref sp, .ref sv, .ref bu, .int 0, .int 0])), (w, .inr (9, [.int 0, .ref w_se, .ref w_cu, .ref w_pr, .int 0, .ref w_ch, .ref w_re, .ref w_lo]))])) (va_Qi (fun (r : Int32) (_ : Unit) => False) (cmB D [(x, .inr (10, [.ref w, .ref sp, .ref sv, .ref bu, .int 0, .int 0])), (w, .inr (9, [.int 0, .ref w_se, .ref w_cu, .ref w_pr, .int 0, .ref w_ch, .ref w_re, .ref w_lo]))] sz (fun _ : Unit => [(x, .inr (10, [.ref w, .ref sp, .ref sv, .ref bu, .int 0, .int 0])), (w, .inr (9, [.int 0, .ref w_se, .ref w_cu, .ref w_pr, .int 0, .ref w_ch, .ref w_re, .ref w_lo]))])) (va_A [(x, .inr (10, [.ref w, .ref sp, .ref sv, .ref bu, .int 0, .int 0])), (w, .inr (9, [.int 0, .ref w_se, .ref w_cu, .ref w_pr, .int 0, .ref w_ch, .ref w_re, .ref w_lo]))] sz)) (vx_X (fun _ : Unit => True) (cmBX D [(x, .inr (10, [.ref w, .ref sp, .ref sv, .ref bu, .int 0, .int 0])), (w, .inr (9, [.int 0, .ref w_se, .ref w_cu, .ref w_pr, .int 0, .ref w_ch, .ref w_re, .ref w_lo]))] sz "java/lang/IndexOutOfBoundsException" (fun _ : Unit => [(x, .inr (10, [.ref w, .ref sp, .ref sv, .ref bu, .int 0, .int 0])), (w, .inr (9, [.int 0, .ref w_se, .ref w_cu, .ref w_pr, .int 0, .ref w_ch, .ref w_re, .ref w_lo]))])) (va_A [(x, .inr (10, [.ref w, .ref sp, .ref sv, .ref bu, .int 0, .int 0])), (w, .inr (9, [.int 0, .ref w_se, .ref w_cu, .ref w_pr, .int 0, .ref w_ch, .ref w_re, .ref w_lo]))] sz)) 1 6 (va_A [(x, .inr (10, [.ref w, .ref sp, .ref sv, .ref bu, .int 0, .int 0])), (w, .inr (9, [.int 0, .ref w_se, .ref w_cu, .ref w_pr, .int 0, .ref w_ch, .ref w_re, .ref w_lo]))] sz) := by
  refine vx_ofW (cc := cX10_repeats) (maxL := 3) (ret := (some .int)) (by decide) rfl ?_
  intro p e s m args below meth c s₁ B hml hex hv
  obtain ⟨rfl, hsz, hP, hK, hD0, hX⟩ := hv
  have hx := B.exec
  have hb := B.bytes
  have hr := B.returns
  have hts := ws_all (atoms_spec (ws := ws_ yX10_repeats cX10_repeats 3 (some .int)) B.pre)
  have hown : s.vm.findClass RX10 = some m.cls := findClass_of_methodNamed B.named
  have hlocks := B.notSynchronized
  subst hsz
  have hD := hD0.self (sz := s.heap.size)
  generalize hAe : va_A [(x, .inr (10, [.ref w, .ref sp, .ref sv, .ref bu, .int 0, .int 0])), (w, .inr (9, [.int 0, .ref w_se, .ref w_cu, .ref w_pr, .int 0, .ref w_ch, .ref w_re, .ref w_lo]))] s.heap.size = A at hD hX ⊢
  have hA : ∀ q : Nat, s.heap.size ≤ q → A q := fun q h => by rw [← hAe]; exact Or.inr h
  have hS : va_S A s.heap s.heap [] := va_S.rf
  have hl := lv_entry ([.ref x, .int p1, .int p2]) (n := 3) (Nat.le_of_ble_eq_true rfl)
  rw [lg_entry_eq]
  generalize (lg_sl ([.ref x, .int p1, .int p2]) ++ List.replicate (3 - (lg_sl ([.ref x, .int p1, .int p2])).length) Slot.unset).toArray = ls at hl ⊢
  have hl : lv_has ls 3 [(0, .ref x), (1, .int p1), (2, .int p2)] := hl
  refine lv_aload_n hx hb dX10_repeats_0 rfl (lv_at hl 0 rfl) ?_
  refine lv_iload_n hx hb dX10_repeats_1 rfl (lv_at hl 1 rfl) ?_
  refine cm_xq (wr := []) (vx_runV (As := [.int p1]) (rest := []) ⟨hx, hb, hml, hown, hts⟩ (c_needChannel_0 l hfl D ct x w sp sv bu w_se w_cu w_pr w_ch w_re w_lo p1 _) (cm_V 1 hts kc_X10_needChannel ki_RX10 kl_RX10_172 kv_X10_needChannel kx_X10_needChannel kd_X10_needChannel ⟨Nat.le_of_ble_eq_true rfl, Nat.le_of_ble_eq_true rfl⟩) (cm_preV hP hK hD hS hA hX [0, 1] rfl rfl rfl (q0 := 0) (ci := 10) rfl rfl) rfl rfl hl.1 rfl (lv_room (Nat.le_of_ble_eq_true rfl)) dX10_repeats_2 ⟨Nat.le_of_ble_eq_true rfl, Nat.le_of_ble_eq_true rfl⟩) hP hD hS hA [0, 1] [] rfl rfl rfl (by decide) (fun E ce q9 u H locs hu hE hP hD hS hce hcv hcl => ?_) (fun r_1 u H locs hw_2 hP hD hS => ?_)
  · subst hE
    have hP : va_P D vwCl [(x, .inr (10, [.ref w, .ref sp, .ref sv, .ref bu, .int 0, .int 0])), (w, .inr (9, [.int 0, .ref w_se, .ref w_cu, .ref w_pr, .int 0, .ref w_ch, .ref w_re, .ref w_lo]))] H := hP
    have hD : va_D A [(x, .inr (10, [.ref w, .ref sp, .ref sv, .ref bu, .int 0, .int 0])), (w, .inr (9, [.int 0, .ref w_se, .ref w_cu, .ref w_pr, .int 0, .ref w_ch, .ref w_re, .ref w_lo]))] := hD
    have hP9 := hP.sub (ws' := [(x, .inr (10, [.ref w, .ref sp, .ref sv, .ref bu, .int 0, .int 0])), (w, .inr (9, [.int 0, .ref w_se, .ref w_cu, .ref w_pr, .int 0, .ref w_ch, .ref w_re, .ref w_lo]))]) [0, 1] rfl
    have hD9 := hD.sub (ws' := [(x, .inr (10, [.ref w, .ref sp, .ref sv, .ref bu, .int 0, .int 0])), (w, .inr (9, [.int 0, .ref w_se, .ref w_cu, .ref w_pr, .int 0, .ref w_ch, .ref w_re, .ref w_lo]))]) [0, 1] (by decide) rfl
    exact vx_out (fun x hx => (hex x hx).elim) hlocks hce hcv hcl (fun t ht hW => ⟨(), trivial, ⟨rfl, by rw [ht]; exact hP9, by rw [hAe]; exact hD9⟩, hS.F ht⟩) hS.2.2 (Nat.le_of_ble_eq_true rfl) (Nat.le_of_ble_eq_true rfl)
  · exact hw_2.elim
theorem dX10_counting_0 : decode cX10_counting 0 = .ok (.aload_n 0, 1) := by decide +kernel
theorem dX10_counting_1 : decode cX10_counting 1 = .ok (.iload_n 1, 1) := by decide +kernel
theorem dX10_counting_2 : decode cX10_counting 2 = .ok (.invokevirtual 172, 3) := by decide +kernel
set_option maxRecDepth 100000 in
set_option maxHeartbeats 4000000 in
theorem c_counting_0 (l : Launch) (hfl : l.stackTraces = false) (D : va_G) (ct : Nat → ClassId) (x : Nat) (w : Nat) (sp : Nat) (sv : Nat) (bu : Nat) (w_se : Nat) (w_cu : Nat) (w_pr : Nat) (w_ch : Nat) (w_re : Nat) (w_lo : Nat) (p1 : Int32) (sz : Nat) : vx_Met l yX10_counting (ws_ yX10_counting cX10_counting 4 (some .int)) ({ frames := 7, cells := 1, slots := 6, locals := 112 } : Room) (va_Pc [.ref x, .int p1] (cmP D ct sz [(x, .inr (10, [.ref w, .ref sp, .ref sv, .ref bu, .int 0, .int 0])), (w, .inr (9, [.int 0, .ref w_se, .ref w_cu, .ref w_pr, .int 0, .ref w_ch, .ref w_re, .ref w_lo]))])) (va_Qi (fun (r : Int32) (_ : Unit) => False) (cmB D [(x, .inr (10, [.ref w, .ref sp, .ref sv, .ref bu, .int 0, .int 0])), (w, .inr (9, [.int 0, .ref w_se, .ref w_cu, .ref w_pr, .int 0, .ref w_ch, .ref w_re, .ref w_lo]))] sz (fun _ : Unit => [(x, .inr (10, [.ref w, .ref sp, .ref sv, .ref bu, .int 0, .int 0])), (w, .inr (9, [.int 0, .ref w_se, .ref w_cu, .ref w_pr, .int 0, .ref w_ch, .ref w_re, .ref w_lo]))])) (va_A [(x, .inr (10, [.ref w, .ref sp, .ref sv, .ref bu, .int 0, .int 0])), (w, .inr (9, [.int 0, .ref w_se, .ref w_cu, .ref w_pr, .int 0, .ref w_ch, .ref w_re, .ref w_lo]))] sz)) (vx_X (fun _ : Unit => True) (cmBX D [(x, .inr (10, [.ref w, .ref sp, .ref sv, .ref bu, .int 0, .int 0])), (w, .inr (9, [.int 0, .ref w_se, .ref w_cu, .ref w_pr, .int 0, .ref w_ch, .ref w_re, .ref w_lo]))] sz "java/lang/IndexOutOfBoundsException" (fun _ : Unit => [(x, .inr (10, [.ref w, .ref sp, .ref sv, .ref bu, .int 0, .int 0])), (w, .inr (9, [.int 0, .ref w_se, .ref w_cu, .ref w_pr, .int 0, .ref w_ch, .ref w_re, .ref w_lo]))])) (va_A [(x, .inr (10, [.ref w, .ref sp, .ref sv, .ref bu, .int 0, .int 0])), (w, .inr (9, [.int 0, .ref w_se, .ref w_cu, .ref w_pr, .int 0, .ref w_ch, .ref w_re, .ref w_lo]))] sz)) 1 6 (va_A [(x, .inr (10, [.ref w, .ref sp, .ref sv, .ref bu, .int 0, .int 0])), (w, .inr (9, [.int 0, .ref w_se, .ref w_cu, .ref w_pr, .int 0, .ref w_ch, .ref w_re, .ref w_lo]))] sz) := by
  refine vx_ofW (cc := cX10_counting) (maxL := 4) (ret := (some .int)) (by decide) rfl ?_
  intro p e s m args below meth c s₁ B hml hex hv
  obtain ⟨rfl, hsz, hP, hK, hD0, hX⟩ := hv
  have hx := B.exec
  have hb := B.bytes
  have hr := B.returns
  have hts := ws_all (atoms_spec (ws := ws_ yX10_counting cX10_counting 4 (some .int)) B.pre)
  have hown : s.vm.findClass RX10 = some m.cls := findClass_of_methodNamed B.named
  have hlocks := B.notSynchronized
  subst hsz
  have hD := hD0.self (sz := s.heap.size)
  generalize hAe : va_A [(x, .inr (10, [.ref w, .ref sp, .ref sv, .ref bu, .int 0, .int 0])), (w, .inr (9, [.int 0, .ref w_se, .ref w_cu, .ref w_pr, .int 0, .ref w_ch, .ref w_re, .ref w_lo]))] s.heap.size = A at hD hX ⊢
  have hA : ∀ q : Nat, s.heap.size ≤ q → A q := fun q h => by rw [← hAe]; exact Or.inr h
  have hS : va_S A s.heap s.heap [] := va_S.rf
  have hl := lv_entry ([.ref x, .int p1]) (n := 4) (Nat.le_of_ble_eq_true rfl)
  rw [lg_entry_eq]
  generalize (lg_sl ([.ref x, .int p1]) ++ List.replicate (4 - (lg_sl ([.ref x, .int p1])).length) Slot.unset).toArray = ls at hl ⊢
  have hl : lv_has ls 4 [(0, .ref x), (1, .int p1)] := hl
  refine lv_aload_n hx hb dX10_counting_0 rfl (lv_at hl 0 rfl) ?_
  refine lv_iload_n hx hb dX10_counting_1 rfl (lv_at hl 1 rfl) ?_
  refine cm_xq (wr := []) (vx_runV (As := [.int p1]) (rest := []) ⟨hx, hb, hml, hown, hts⟩ (c_needChannel_0 l hfl D ct x w sp sv bu w_se w_cu w_pr w_ch w_re w_lo p1 _) (cm_V 1 hts kc_X10_needChannel ki_RX10 kl_RX10_172 kv_X10_needChannel kx_X10_needChannel kd_X10_needChannel ⟨Nat.le_of_ble_eq_true rfl, Nat.le_of_ble_eq_true rfl⟩) (cm_preV hP hK hD hS hA hX [0, 1] rfl rfl rfl (q0 := 0) (ci := 10) rfl rfl) rfl rfl hl.1 rfl (lv_room (Nat.le_of_ble_eq_true rfl)) dX10_counting_2 ⟨Nat.le_of_ble_eq_true rfl, Nat.le_of_ble_eq_true rfl⟩) hP hD hS hA [0, 1] [] rfl rfl rfl (by decide) (fun E ce q9 u H locs hu hE hP hD hS hce hcv hcl => ?_) (fun r_1 u H locs hw_2 hP hD hS => ?_)
  · subst hE
    have hP : va_P D vwCl [(x, .inr (10, [.ref w, .ref sp, .ref sv, .ref bu, .int 0, .int 0])), (w, .inr (9, [.int 0, .ref w_se, .ref w_cu, .ref w_pr, .int 0, .ref w_ch, .ref w_re, .ref w_lo]))] H := hP
    have hD : va_D A [(x, .inr (10, [.ref w, .ref sp, .ref sv, .ref bu, .int 0, .int 0])), (w, .inr (9, [.int 0, .ref w_se, .ref w_cu, .ref w_pr, .int 0, .ref w_ch, .ref w_re, .ref w_lo]))] := hD
    have hP9 := hP.sub (ws' := [(x, .inr (10, [.ref w, .ref sp, .ref sv, .ref bu, .int 0, .int 0])), (w, .inr (9, [.int 0, .ref w_se, .ref w_cu, .ref w_pr, .int 0, .ref w_ch, .ref w_re, .ref w_lo]))]) [0, 1] rfl
    have hD9 := hD.sub (ws' := [(x, .inr (10, [.ref w, .ref sp, .ref sv, .ref bu, .int 0, .int 0])), (w, .inr (9, [.int 0, .ref w_se, .ref w_cu, .ref w_pr, .int 0, .ref w_ch, .ref w_re, .ref w_lo]))]) [0, 1] (by decide) rfl
    exact vx_out (fun x hx => (hex x hx).elim) hlocks hce hcv hcl (fun t ht hW => ⟨(), trivial, ⟨rfl, by rw [ht]; exact hP9, by rw [hAe]; exact hD9⟩, hS.F ht⟩) hS.2.2 (Nat.le_of_ble_eq_true rfl) (Nat.le_of_ble_eq_true rfl)
  · exact hw_2.elim
theorem dX10_loss_0 : decode cX10_loss 0 = .ok (.aload_n 0, 1) := by decide +kernel
theorem dX10_loss_1 : decode cX10_loss 1 = .ok (.iload_n 1, 1) := by decide +kernel
theorem dX10_loss_2 : decode cX10_loss 2 = .ok (.invokevirtual 172, 3) := by decide +kernel
set_option maxRecDepth 100000 in
set_option maxHeartbeats 4000000 in
theorem c_loss_0 (l : Launch) (hfl : l.stackTraces = false) (D : va_G) (ct : Nat → ClassId) (x : Nat) (w : Nat) (sp : Nat) (sv : Nat) (bu : Nat) (w_se : Nat) (w_cu : Nat) (w_pr : Nat) (w_ch : Nat) (w_re : Nat) (w_lo : Nat) (p1 : Int32) (sz : Nat) : vx_Met l yX10_loss (ws_ yX10_loss cX10_loss 5 (some .int)) ({ frames := 7, cells := 1, slots := 6, locals := 112 } : Room) (va_Pc [.ref x, .int p1] (cmP D ct sz [(x, .inr (10, [.ref w, .ref sp, .ref sv, .ref bu, .int 0, .int 0])), (w, .inr (9, [.int 0, .ref w_se, .ref w_cu, .ref w_pr, .int 0, .ref w_ch, .ref w_re, .ref w_lo]))])) (va_Qi (fun (r : Int32) (_ : Unit) => False) (cmB D [(x, .inr (10, [.ref w, .ref sp, .ref sv, .ref bu, .int 0, .int 0])), (w, .inr (9, [.int 0, .ref w_se, .ref w_cu, .ref w_pr, .int 0, .ref w_ch, .ref w_re, .ref w_lo]))] sz (fun _ : Unit => [(x, .inr (10, [.ref w, .ref sp, .ref sv, .ref bu, .int 0, .int 0])), (w, .inr (9, [.int 0, .ref w_se, .ref w_cu, .ref w_pr, .int 0, .ref w_ch, .ref w_re, .ref w_lo]))])) (va_A [(x, .inr (10, [.ref w, .ref sp, .ref sv, .ref bu, .int 0, .int 0])), (w, .inr (9, [.int 0, .ref w_se, .ref w_cu, .ref w_pr, .int 0, .ref w_ch, .ref w_re, .ref w_lo]))] sz)) (vx_X (fun _ : Unit => True) (cmBX D [(x, .inr (10, [.ref w, .ref sp, .ref sv, .ref bu, .int 0, .int 0])), (w, .inr (9, [.int 0, .ref w_se, .ref w_cu, .ref w_pr, .int 0, .ref w_ch, .ref w_re, .ref w_lo]))] sz "java/lang/IndexOutOfBoundsException" (fun _ : Unit => [(x, .inr (10, [.ref w, .ref sp, .ref sv, .ref bu, .int 0, .int 0])), (w, .inr (9, [.int 0, .ref w_se, .ref w_cu, .ref w_pr, .int 0, .ref w_ch, .ref w_re, .ref w_lo]))])) (va_A [(x, .inr (10, [.ref w, .ref sp, .ref sv, .ref bu, .int 0, .int 0])), (w, .inr (9, [.int 0, .ref w_se, .ref w_cu, .ref w_pr, .int 0, .ref w_ch, .ref w_re, .ref w_lo]))] sz)) 1 6 (va_A [(x, .inr (10, [.ref w, .ref sp, .ref sv, .ref bu, .int 0, .int 0])), (w, .inr (9, [.int 0, .ref w_se, .ref w_cu, .ref w_pr, .int 0, .ref w_ch, .ref w_re, .ref w_lo]))] sz) := by
  refine vx_ofW (cc := cX10_loss) (maxL := 5) (ret := (some .int)) (by decide) rfl ?_
  intro p e s m args below meth c s₁ B hml hex hv
  obtain ⟨rfl, hsz, hP, hK, hD0, hX⟩ := hv
  have hx := B.exec
  have hb := B.bytes
  have hr := B.returns
  have hts := ws_all (atoms_spec (ws := ws_ yX10_loss cX10_loss 5 (some .int)) B.pre)
  have hown : s.vm.findClass RX10 = some m.cls := findClass_of_methodNamed B.named
  have hlocks := B.notSynchronized
  subst hsz
  have hD := hD0.self (sz := s.heap.size)
  generalize hAe : va_A [(x, .inr (10, [.ref w, .ref sp, .ref sv, .ref bu, .int 0, .int 0])), (w, .inr (9, [.int 0, .ref w_se, .ref w_cu, .ref w_pr, .int 0, .ref w_ch, .ref w_re, .ref w_lo]))] s.heap.size = A at hD hX ⊢
  have hA : ∀ q : Nat, s.heap.size ≤ q → A q := fun q h => by rw [← hAe]; exact Or.inr h
  have hS : va_S A s.heap s.heap [] := va_S.rf
  have hl := lv_entry ([.ref x, .int p1]) (n := 5) (Nat.le_of_ble_eq_true rfl)
  rw [lg_entry_eq]
  generalize (lg_sl ([.ref x, .int p1]) ++ List.replicate (5 - (lg_sl ([.ref x, .int p1])).length) Slot.unset).toArray = ls at hl ⊢
  have hl : lv_has ls 5 [(0, .ref x), (1, .int p1)] := hl
  refine lv_aload_n hx hb dX10_loss_0 rfl (lv_at hl 0 rfl) ?_
  refine lv_iload_n hx hb dX10_loss_1 rfl (lv_at hl 1 rfl) ?_
  refine cm_xq (wr := []) (vx_runV (As := [.int p1]) (rest := []) ⟨hx, hb, hml, hown, hts⟩ (c_needChannel_0 l hfl D ct x w sp sv bu w_se w_cu w_pr w_ch w_re w_lo p1 _) (cm_V 1 hts kc_X10_needChannel ki_RX10 kl_RX10_172 kv_X10_needChannel kx_X10_needChannel kd_X10_needChannel ⟨Nat.le_of_ble_eq_true rfl, Nat.le_of_ble_eq_true rfl⟩) (cm_preV hP hK hD hS hA hX [0, 1] rfl rfl rfl (q0 := 0) (ci := 10) rfl rfl) rfl rfl hl.1 rfl (lv_room (Nat.le_of_ble_eq_true rfl)) dX10_loss_2 ⟨Nat.le_of_ble_eq_true rfl, Nat.le_of_ble_eq_true rfl⟩) hP hD hS hA [0, 1] [] rfl rfl rfl (by decide) (fun E ce q9 u H locs hu hE hP hD hS hce hcv hcl => ?_) (fun r_1 u H locs hw_2 hP hD hS => ?_)
  · subst hE
    have hP : va_P D vwCl [(x, .inr (10, [.ref w, .ref sp, .ref sv, .ref bu, .int 0, .int 0])), (w, .inr (9, [.int 0, .ref w_se, .ref w_cu, .ref w_pr, .int 0, .ref w_ch, .ref w_re, .ref w_lo]))] H := hP
    have hD : va_D A [(x, .inr (10, [.ref w, .ref sp, .ref sv, .ref bu, .int 0, .int 0])), (w, .inr (9, [.int 0, .ref w_se, .ref w_cu, .ref w_pr, .int 0, .ref w_ch, .ref w_re, .ref w_lo]))] := hD
    have hP9 := hP.sub (ws' := [(x, .inr (10, [.ref w, .ref sp, .ref sv, .ref bu, .int 0, .int 0])), (w, .inr (9, [.int 0, .ref w_se, .ref w_cu, .ref w_pr, .int 0, .ref w_ch, .ref w_re, .ref w_lo]))]) [0, 1] rfl
    have hD9 := hD.sub (ws' := [(x, .inr (10, [.ref w, .ref sp, .ref sv, .ref bu, .int 0, .int 0])), (w, .inr (9, [.int 0, .ref w_se, .ref w_cu, .ref w_pr, .int 0, .ref w_ch, .ref w_re, .ref w_lo]))]) [0, 1] (by decide) rfl
    exact vx_out (fun x hx => (hex x hx).elim) hlocks hce hcv hcl (fun t ht hW => ⟨(), trivial, ⟨rfl, by rw [ht]; exact hP9, by rw [hAe]; exact hD9⟩, hS.F ht⟩) hS.2.2 (Nat.le_of_ble_eq_true rfl) (Nat.le_of_ble_eq_true rfl)
  · exact hw_2.elim
theorem dX10_eventsOf_0 : decode cX10_eventsOf 0 = .ok (.aload_n 0, 1) := by decide +kernel
theorem dX10_eventsOf_1 : decode cX10_eventsOf 1 = .ok (.iload_n 1, 1) := by decide +kernel
theorem dX10_eventsOf_2 : decode cX10_eventsOf 2 = .ok (.invokevirtual 172, 3) := by decide +kernel
set_option maxRecDepth 100000 in
set_option maxHeartbeats 4000000 in
theorem c_eventsOf_0 (l : Launch) (hfl : l.stackTraces = false) (D : va_G) (ct : Nat → ClassId) (x : Nat) (w : Nat) (sp : Nat) (sv : Nat) (bu : Nat) (w_se : Nat) (w_cu : Nat) (w_pr : Nat) (w_ch : Nat) (w_re : Nat) (w_lo : Nat) (p1 : Int32) (p2 : Int32) (sz : Nat) : vx_Met l yX10_eventsOf (ws_ yX10_eventsOf cX10_eventsOf 5 (some .int)) ({ frames := 7, cells := 1, slots := 6, locals := 112 } : Room) (va_Pc [.ref x, .int p1, .int p2] (cmP D ct sz [(x, .inr (10, [.ref w, .ref sp, .ref sv, .ref bu, .int 0, .int 0])), (w, .inr (9, [.int 0, .ref w_se, .ref w_cu, .ref w_pr, .int 0, .ref w_ch, .ref w_re, .ref w_lo]))])) (va_Qi (fun (r : Int32) (_ : Unit) => False) (cmB D [(x, .inr (10, [.ref w, .ref sp, .ref sv, .ref bu, .int 0, .int 0])), (w, .inr (9, [.int 0, .ref w_se, .ref w_cu, .ref w_pr, .int 0, .ref w_ch, .ref w_re, .ref w_lo]))] sz (fun _ : Unit => [(x, .inr (10, [.ref w, .ref sp, .ref sv, .ref bu, .int 0, .int 0])), (w, .inr (9, [.int 0, .ref w_se, .ref w_cu, .ref w_pr, .int 0, .ref w_ch, .ref w_re, .ref w_lo]))])) (va_A [(x, .inr (10, [.ref w, .ref sp, .ref sv, .ref bu, .int 0, .int 0])), (w, .inr (9, [.int 0, .ref w_se, .ref w_cu, .ref w_pr, .int 0, .ref w_ch, .ref w_re, .ref w_lo]))] sz)) (vx_X (fun _ : Unit => True) (cmBX D [(x, .inr (10, [.ref w, .ref sp, .ref sv, .ref bu, .int 0, .int 0])), (w, .inr (9, [.int 0, .ref w_se, .ref w_cu, .ref w_pr, .int 0, .ref w_ch, .ref w_re, .ref w_lo]))] sz "java/lang/IndexOutOfBoundsException" (fun _ : Unit => [(x, .inr (10, [.ref w, .ref sp, .ref sv, .ref bu, .int 0, .int 0])), (w, .inr (9, [.int 0, .ref w_se, .ref w_cu, .ref w_pr, .int 0, .ref w_ch, .ref w_re, .ref w_lo]))])) (va_A [(x, .inr (10, [.ref w, .ref sp, .ref sv, .ref bu, .int 0, .int 0])), (w, .inr (9, [.int 0, .ref w_se, .ref w_cu, .ref w_pr, .int 0, .ref w_ch, .ref w_re, .ref w_lo]))] sz)) 1 6 (va_A [(x, .inr (10, [.ref w, .ref sp, .ref sv, .ref bu, .int 0, .int 0])), (w, .inr (9, [.int 0, .ref w_se, .ref w_cu, .ref w_pr, .int 0, .ref w_ch, .ref w_re, .ref w_lo]))] sz) := by
  refine vx_ofW (cc := cX10_eventsOf) (maxL := 5) (ret := (some .int)) (by decide) rfl ?_
  intro p e s m args below meth c s₁ B hml hex hv
  obtain ⟨rfl, hsz, hP, hK, hD0, hX⟩ := hv
  have hx := B.exec
  have hb := B.bytes
  have hr := B.returns
  have hts := ws_all (atoms_spec (ws := ws_ yX10_eventsOf cX10_eventsOf 5 (some .int)) B.pre)
  have hown : s.vm.findClass RX10 = some m.cls := findClass_of_methodNamed B.named
  have hlocks := B.notSynchronized
  subst hsz
  have hD := hD0.self (sz := s.heap.size)
  generalize hAe : va_A [(x, .inr (10, [.ref w, .ref sp, .ref sv, .ref bu, .int 0, .int 0])), (w, .inr (9, [.int 0, .ref w_se, .ref w_cu, .ref w_pr, .int 0, .ref w_ch, .ref w_re, .ref w_lo]))] s.heap.size = A at hD hX ⊢
  have hA : ∀ q : Nat, s.heap.size ≤ q → A q := fun q h => by rw [← hAe]; exact Or.inr h
  have hS : va_S A s.heap s.heap [] := va_S.rf
  have hl := lv_entry ([.ref x, .int p1, .int p2]) (n := 5) (Nat.le_of_ble_eq_true rfl)
  rw [lg_entry_eq]
  generalize (lg_sl ([.ref x, .int p1, .int p2]) ++ List.replicate (5 - (lg_sl ([.ref x, .int p1, .int p2])).length) Slot.unset).toArray = ls at hl ⊢
  have hl : lv_has ls 5 [(0, .ref x), (1, .int p1), (2, .int p2)] := hl
  refine lv_aload_n hx hb dX10_eventsOf_0 rfl (lv_at hl 0 rfl) ?_
  refine lv_iload_n hx hb dX10_eventsOf_1 rfl (lv_at hl 1 rfl) ?_
  refine cm_xq (wr := []) (vx_runV (As := [.int p1]) (rest := []) ⟨hx, hb, hml, hown, hts⟩ (c_needChannel_0 l hfl D ct x w sp sv bu w_se w_cu w_pr w_ch w_re w_lo p1 _) (cm_V 1 hts kc_X10_needChannel ki_RX10 kl_RX10_172 kv_X10_needChannel kx_X10_needChannel kd_X10_needChannel ⟨Nat.le_of_ble_eq_true rfl, Nat.le_of_ble_eq_true rfl⟩) (cm_preV hP hK hD hS hA hX [0, 1] rfl rfl rfl (q0 := 0) (ci := 10) rfl rfl) rfl rfl hl.1 rfl (lv_room (Nat.le_of_ble_eq_true rfl)) dX10_eventsOf_2 ⟨Nat.le_of_ble_eq_true rfl, Nat.le_of_ble_eq_true rfl⟩) hP hD hS hA [0, 1] [] rfl rfl rfl (by decide) (fun E ce q9 u H locs hu hE hP hD hS hce hcv hcl => ?_) (fun r_1 u H locs hw_2 hP hD hS => ?_)
  · subst hE
    have hP : va_P D vwCl [(x, .inr (10, [.ref w, .ref sp, .ref sv, .ref bu, .int 0, .int 0])), (w, .inr (9, [.int 0, .ref w_se, .ref w_cu, .ref w_pr, .int 0, .ref w_ch, .ref w_re, .ref w_lo]))] H := hP
    have hD : va_D A [(x, .inr (10, [.ref w, .ref sp, .ref sv, .ref bu, .int 0, .int 0])), (w, .inr (9, [.int 0, .ref w_se, .ref w_cu, .ref w_pr, .int 0, .ref w_ch, .ref w_re, .ref w_lo]))] := hD
    have hP9 := hP.sub (ws' := [(x, .inr (10, [.ref w, .ref sp, .ref sv, .ref bu, .int 0, .int 0])), (w, .inr (9, [.int 0, .ref w_se, .ref w_cu, .ref w_pr, .int 0, .ref w_ch, .ref w_re, .ref w_lo]))]) [0, 1] rfl
    have hD9 := hD.sub (ws' := [(x, .inr (10, [.ref w, .ref sp, .ref sv, .ref bu, .int 0, .int 0])), (w, .inr (9, [.int 0, .ref w_se, .ref w_cu, .ref w_pr, .int 0, .ref w_ch, .ref w_re, .ref w_lo]))]) [0, 1] (by decide) rfl
    exact vx_out (fun x hx => (hex x hx).elim) hlocks hce hcv hcl (fun t ht hW => ⟨(), trivial, ⟨rfl, by rw [ht]; exact hP9, by rw [hAe]; exact hD9⟩, hS.F ht⟩) hS.2.2 (Nat.le_of_ble_eq_true rfl) (Nat.le_of_ble_eq_true rfl)
  · exact hw_2.elim
theorem dX10_duration_0 : decode cX10_duration 0 = .ok (.aload_n 0, 1) := by decide +kernel
theorem dX10_duration_1 : decode cX10_duration 1 = .ok (.iload_n 1, 1) := by decide +kernel
theorem dX10_duration_2 : decode cX10_duration 2 = .ok (.invokevirtual 172, 3) := by decide +kernel
set_option maxRecDepth 100000 in
set_option maxHeartbeats 4000000 in
theorem c_duration_0 (l : Launch) (hfl : l.stackTraces = false) (D : va_G) (ct : Nat → ClassId) (x : Nat) (w : Nat) (sp : Nat) (sv : Nat) (bu : Nat) (w_se : Nat) (w_cu : Nat) (w_pr : Nat) (w_ch : Nat) (w_re : Nat) (w_lo : Nat) (p1 : Int32) (p2 : Int32) (sz : Nat) : vx_Met l yX10_duration (ws_ yX10_duration cX10_duration 3 (some .int)) ({ frames := 7, cells := 1, slots := 6, locals := 112 } : Room) (va_Pc [.ref x, .int p1, .int p2] (cmP D ct sz [(x, .inr (10, [.ref w, .ref sp, .ref sv, .ref bu, .int 0, .int 0])), (w, .inr (9, [.int 0, .ref w_se, .ref w_cu, .ref w_pr, .int 0, .ref w_ch, .ref w_re, .ref w_lo]))])) (va_Qi (fun (r : Int32) (_ : Unit) => False) (cmB D [(x, .inr (10, [.ref w, .ref sp, .ref sv, .ref bu, .int 0, .int 0])), (w, .inr (9, [.int 0, .ref w_se, .ref w_cu, .ref w_pr, .int 0, .ref w_ch, .ref w_re, .ref w_lo]))] sz (fun _ : Unit => [(x, .inr (10, [.ref w, .ref sp, .ref sv, .ref bu, .int 0, .int 0])), (w, .inr (9, [.int 0, .ref w_se, .ref w_cu, .ref w_pr, .int 0, .ref w_ch, .ref w_re, .ref w_lo]))])) (va_A [(x, .inr (10, [.ref w, .ref sp, .ref sv, .ref bu, .int 0, .int 0])), (w, .inr (9, [.int 0, .ref w_se, .ref w_cu, .ref w_pr, .int 0, .ref w_ch, .ref w_re, .ref w_lo]))] sz)) (vx_X (fun _ : Unit => True) (cmBX D [(x, .inr (10, [.ref w, .ref sp, .ref sv, .ref bu, .int 0, .int 0])), (w, .inr (9, [.int 0, .ref w_se, .ref w_cu, .ref w_pr, .int 0, .ref w_ch, .ref w_re, .ref w_lo]))] sz "java/lang/IndexOutOfBoundsException" (fun _ : Unit => [(x, .inr (10, [.ref w, .ref sp, .ref sv, .ref bu, .int 0, .int 0])), (w, .inr (9, [.int 0, .ref w_se, .ref w_cu, .ref w_pr, .int 0, .ref w_ch, .ref w_re, .ref w_lo]))])) (va_A [(x, .inr (10, [.ref w, .ref sp, .ref sv, .ref bu, .int 0, .int 0])), (w, .inr (9, [.int 0, .ref w_se, .ref w_cu, .ref w_pr, .int 0, .ref w_ch, .ref w_re, .ref w_lo]))] sz)) 1 6 (va_A [(x, .inr (10, [.ref w, .ref sp, .ref sv, .ref bu, .int 0, .int 0])), (w, .inr (9, [.int 0, .ref w_se, .ref w_cu, .ref w_pr, .int 0, .ref w_ch, .ref w_re, .ref w_lo]))] sz) := by
  refine vx_ofW (cc := cX10_duration) (maxL := 3) (ret := (some .int)) (by decide) rfl ?_
  intro p e s m args below meth c s₁ B hml hex hv
  obtain ⟨rfl, hsz, hP, hK, hD0, hX⟩ := hv
  have hx := B.exec
  have hb := B.bytes
  have hr := B.returns
  have hts := ws_all (atoms_spec (ws := ws_ yX10_duration cX10_duration 3 (some .int)) B.pre)
  have hown : s.vm.findClass RX10 = some m.cls := findClass_of_methodNamed B.named
  have hlocks := B.notSynchronized
  subst hsz
  have hD := hD0.self (sz := s.heap.size)
  generalize hAe : va_A [(x, .inr (10, [.ref w, .ref sp, .ref sv, .ref bu, .int 0, .int 0])), (w, .inr (9, [.int 0, .ref w_se, .ref w_cu, .ref w_pr, .int 0, .ref w_ch, .ref w_re, .ref w_lo]))] s.heap.size = A at hD hX ⊢
  have hA : ∀ q : Nat, s.heap.size ≤ q → A q := fun q h => by rw [← hAe]; exact Or.inr h
  have hS : va_S A s.heap s.heap [] := va_S.rf
  have hl := lv_entry ([.ref x, .int p1, .int p2]) (n := 3) (Nat.le_of_ble_eq_true rfl)
  rw [lg_entry_eq]
  generalize (lg_sl ([.ref x, .int p1, .int p2]) ++ List.replicate (3 - (lg_sl ([.ref x, .int p1, .int p2])).length) Slot.unset).toArray = ls at hl ⊢
  have hl : lv_has ls 3 [(0, .ref x), (1, .int p1), (2, .int p2)] := hl
  refine lv_aload_n hx hb dX10_duration_0 rfl (lv_at hl 0 rfl) ?_
  refine lv_iload_n hx hb dX10_duration_1 rfl (lv_at hl 1 rfl) ?_
  refine cm_xq (wr := []) (vx_runV (As := [.int p1]) (rest := []) ⟨hx, hb, hml, hown, hts⟩ (c_needChannel_0 l hfl D ct x w sp sv bu w_se w_cu w_pr w_ch w_re w_lo p1 _) (cm_V 1 hts kc_X10_needChannel ki_RX10 kl_RX10_172 kv_X10_needChannel kx_X10_needChannel kd_X10_needChannel ⟨Nat.le_of_ble_eq_true rfl, Nat.le_of_ble_eq_true rfl⟩) (cm_preV hP hK hD hS hA hX [0, 1] rfl rfl rfl (q0 := 0) (ci := 10) rfl rfl) rfl rfl hl.1 rfl (lv_room (Nat.le_of_ble_eq_true rfl)) dX10_duration_2 ⟨Nat.le_of_ble_eq_true rfl, Nat.le_of_ble_eq_true rfl⟩) hP hD hS hA [0, 1] [] rfl rfl rfl (by decide) (fun E ce q9 u H locs hu hE hP hD hS hce hcv hcl => ?_) (fun r_1 u H locs hw_2 hP hD hS => ?_)
  · subst hE
    have hP : va_P D vwCl [(x, .inr (10, [.ref w, .ref sp, .ref sv, .ref bu, .int 0, .int 0])), (w, .inr (9, [.int 0, .ref w_se, .ref w_cu, .ref w_pr, .int 0, .ref w_ch, .ref w_re, .ref w_lo]))] H := hP
    have hD : va_D A [(x, .inr (10, [.ref w, .ref sp, .ref sv, .ref bu, .int 0, .int 0])), (w, .inr (9, [.int 0, .ref w_se, .ref w_cu, .ref w_pr, .int 0, .ref w_ch, .ref w_re, .ref w_lo]))] := hD
    have hP9 := hP.sub (ws' := [(x, .inr (10, [.ref w, .ref sp, .ref sv, .ref bu, .int 0, .int 0])), (w, .inr (9, [.int 0, .ref w_se, .ref w_cu, .ref w_pr, .int 0, .ref w_ch, .ref w_re, .ref w_lo]))]) [0, 1] rfl
    have hD9 := hD.sub (ws' := [(x, .inr (10, [.ref w, .ref sp, .ref sv, .ref bu, .int 0, .int 0])), (w, .inr (9, [.int 0, .ref w_se, .ref w_cu, .ref w_pr, .int 0, .ref w_ch, .ref w_re, .ref w_lo]))]) [0, 1] (by decide) rfl
    exact vx_out (fun x hx => (hex x hx).elim) hlocks hce hcv hcl (fun t ht hW => ⟨(), trivial, ⟨rfl, by rw [ht]; exact hP9, by rw [hAe]; exact hD9⟩, hS.F ht⟩) hS.2.2 (Nat.le_of_ble_eq_true rfl) (Nat.le_of_ble_eq_true rfl)
  · exact hw_2.elim
theorem dX10_shortest_0 : decode cX10_shortest 0 = .ok (.aload_n 0, 1) := by decide +kernel
theorem dX10_shortest_1 : decode cX10_shortest 1 = .ok (.iload_n 1, 1) := by decide +kernel
theorem dX10_shortest_2 : decode cX10_shortest 2 = .ok (.invokevirtual 172, 3) := by decide +kernel
set_option maxRecDepth 100000 in
set_option maxHeartbeats 4000000 in
theorem c_shortest_0 (l : Launch) (hfl : l.stackTraces = false) (D : va_G) (ct : Nat → ClassId) (x : Nat) (w : Nat) (sp : Nat) (sv : Nat) (bu : Nat) (w_se : Nat) (w_cu : Nat) (w_pr : Nat) (w_ch : Nat) (w_re : Nat) (w_lo : Nat) (p1 : Int32) (sz : Nat) : vx_Met l yX10_shortest (ws_ yX10_shortest cX10_shortest 6 (some .int)) ({ frames := 7, cells := 1, slots := 6, locals := 112 } : Room) (va_Pc [.ref x, .int p1] (cmP D ct sz [(x, .inr (10, [.ref w, .ref sp, .ref sv, .ref bu, .int 0, .int 0])), (w, .inr (9, [.int 0, .ref w_se, .ref w_cu, .ref w_pr, .int 0, .ref w_ch, .ref w_re, .ref w_lo]))])) (va_Qi (fun (r : Int32) (_ : Unit) => False) (cmB D [(x, .inr (10, [.ref w, .ref sp, .ref sv, .ref bu, .int 0, .int 0])), (w, .inr (9, [.int 0, .ref w_se, .ref w_cu, .ref w_pr, .int 0, .ref w_ch, .ref w_re, .ref w_lo]))] sz (fun _ : Unit => [(x, .inr (10, [.ref w, .ref sp, .ref sv, .ref bu, .int 0, .int 0])), (w, .inr (9, [.int 0, .ref w_se, .ref w_cu, .ref w_pr, .int 0, .ref w_ch, .ref w_re, .ref w_lo]))])) (va_A [(x, .inr (10, [.ref w, .ref sp, .ref sv, .ref bu, .int 0, .int 0])), (w, .inr (9, [.int 0, .ref w_se, .ref w_cu, .ref w_pr, .int 0, .ref w_ch, .ref w_re, .ref w_lo]))] sz)) (vx_X (fun _ : Unit => True) (cmBX D [(x, .inr (10, [.ref w, .ref sp, .ref sv, .ref bu, .int 0, .int 0])), (w, .inr (9, [.int 0, .ref w_se, .ref w_cu, .ref w_pr, .int 0, .ref w_ch, .ref w_re, .ref w_lo]))] sz "java/lang/IndexOutOfBoundsException" (fun _ : Unit => [(x, .inr (10, [.ref w, .ref sp, .ref sv, .ref bu, .int 0, .int 0])), (w, .inr (9, [.int 0, .ref w_se, .ref w_cu, .ref w_pr, .int 0, .ref w_ch, .ref w_re, .ref w_lo]))])) (va_A [(x, .inr (10, [.ref w, .ref sp, .ref sv, .ref bu, .int 0, .int 0])), (w, .inr (9, [.int 0, .ref w_se, .ref w_cu, .ref w_pr, .int 0, .ref w_ch, .ref w_re, .ref w_lo]))] sz)) 1 6 (va_A [(x, .inr (10, [.ref w, .ref sp, .ref sv, .ref bu, .int 0, .int 0])), (w, .inr (9, [.int 0, .ref w_se, .ref w_cu, .ref w_pr, .int 0, .ref w_ch, .ref w_re, .ref w_lo]))] sz) := by
  refine vx_ofW (cc := cX10_shortest) (maxL := 6) (ret := (some .int)) (by decide) rfl ?_
  intro p e s m args below meth c s₁ B hml hex hv
  obtain ⟨rfl, hsz, hP, hK, hD0, hX⟩ := hv
  have hx := B.exec
  have hb := B.bytes
  have hr := B.returns
  have hts := ws_all (atoms_spec (ws := ws_ yX10_shortest cX10_shortest 6 (some .int)) B.pre)
  have hown : s.vm.findClass RX10 = some m.cls := findClass_of_methodNamed B.named
  have hlocks := B.notSynchronized
  subst hsz
  have hD := hD0.self (sz := s.heap.size)
  generalize hAe : va_A [(x, .inr (10, [.ref w, .ref sp, .ref sv, .ref bu, .int 0, .int 0])), (w, .inr (9, [.int 0, .ref w_se, .ref w_cu, .ref w_pr, .int 0, .ref w_ch, .ref w_re, .ref w_lo]))] s.heap.size = A at hD hX ⊢
  have hA : ∀ q : Nat, s.heap.size ≤ q → A q := fun q h => by rw [← hAe]; exact Or.inr h
  have hS : va_S A s.heap s.heap [] := va_S.rf
  have hl := lv_entry ([.ref x, .int p1]) (n := 6) (Nat.le_of_ble_eq_true rfl)
  rw [lg_entry_eq]
  generalize (lg_sl ([.ref x, .int p1]) ++ List.replicate (6 - (lg_sl ([.ref x, .int p1])).length) Slot.unset).toArray = ls at hl ⊢
  have hl : lv_has ls 6 [(0, .ref x), (1, .int p1)] := hl
  refine lv_aload_n hx hb dX10_shortest_0 rfl (lv_at hl 0 rfl) ?_
  refine lv_iload_n hx hb dX10_shortest_1 rfl (lv_at hl 1 rfl) ?_
  refine cm_xq (wr := []) (vx_runV (As := [.int p1]) (rest := []) ⟨hx, hb, hml, hown, hts⟩ (c_needChannel_0 l hfl D ct x w sp sv bu w_se w_cu w_pr w_ch w_re w_lo p1 _) (cm_V 1 hts kc_X10_needChannel ki_RX10 kl_RX10_172 kv_X10_needChannel kx_X10_needChannel kd_X10_needChannel ⟨Nat.le_of_ble_eq_true rfl, Nat.le_of_ble_eq_true rfl⟩) (cm_preV hP hK hD hS hA hX [0, 1] rfl rfl rfl (q0 := 0) (ci := 10) rfl rfl) rfl rfl hl.1 rfl (lv_room (Nat.le_of_ble_eq_true rfl)) dX10_shortest_2 ⟨Nat.le_of_ble_eq_true rfl, Nat.le_of_ble_eq_true rfl⟩) hP hD hS hA [0, 1] [] rfl rfl rfl (by decide) (fun E ce q9 u H locs hu hE hP hD hS hce hcv hcl => ?_) (fun r_1 u H locs hw_2 hP hD hS => ?_)
  · subst hE
    have hP : va_P D vwCl [(x, .inr (10, [.ref w, .ref sp, .ref sv, .ref bu, .int 0, .int 0])), (w, .inr (9, [.int 0, .ref w_se, .ref w_cu, .ref w_pr, .int 0, .ref w_ch, .ref w_re, .ref w_lo]))] H := hP
    have hD : va_D A [(x, .inr (10, [.ref w, .ref sp, .ref sv, .ref bu, .int 0, .int 0])), (w, .inr (9, [.int 0, .ref w_se, .ref w_cu, .ref w_pr, .int 0, .ref w_ch, .ref w_re, .ref w_lo]))] := hD
    have hP9 := hP.sub (ws' := [(x, .inr (10, [.ref w, .ref sp, .ref sv, .ref bu, .int 0, .int 0])), (w, .inr (9, [.int 0, .ref w_se, .ref w_cu, .ref w_pr, .int 0, .ref w_ch, .ref w_re, .ref w_lo]))]) [0, 1] rfl
    have hD9 := hD.sub (ws' := [(x, .inr (10, [.ref w, .ref sp, .ref sv, .ref bu, .int 0, .int 0])), (w, .inr (9, [.int 0, .ref w_se, .ref w_cu, .ref w_pr, .int 0, .ref w_ch, .ref w_re, .ref w_lo]))]) [0, 1] (by decide) rfl
    exact vx_out (fun x hx => (hex x hx).elim) hlocks hce hcv hcl (fun t ht hW => ⟨(), trivial, ⟨rfl, by rw [ht]; exact hP9, by rw [hAe]; exact hD9⟩, hS.F ht⟩) hS.2.2 (Nat.le_of_ble_eq_true rfl) (Nat.le_of_ble_eq_true rfl)
  · exact hw_2.elim
theorem dX10_capacityIf_0 : decode cX10_capacityIf 0 = .ok (.aload_n 0, 1) := by decide +kernel
theorem dX10_capacityIf_1 : decode cX10_capacityIf 1 = .ok (.iload_n 1, 1) := by decide +kernel
theorem dX10_capacityIf_2 : decode cX10_capacityIf 2 = .ok (.invokevirtual 172, 3) := by decide +kernel
set_option maxRecDepth 100000 in
set_option maxHeartbeats 4000000 in
theorem c_capacityIf_0 (l : Launch) (hfl : l.stackTraces = false) (D : va_G) (ct : Nat → ClassId) (x : Nat) (w : Nat) (sp : Nat) (sv : Nat) (bu : Nat) (w_se : Nat) (w_cu : Nat) (w_pr : Nat) (w_ch : Nat) (w_re : Nat) (w_lo : Nat) (p1 : Int32) (p2 : Int32) (sz : Nat) : vx_Met l yX10_capacityIf (ws_ yX10_capacityIf cX10_capacityIf 4 (some .int)) ({ frames := 7, cells := 1, slots := 6, locals := 112 } : Room) (va_Pc [.ref x, .int p1, .int p2] (cmP D ct sz [(x, .inr (10, [.ref w, .ref sp, .ref sv, .ref bu, .int 0, .int 0])), (w, .inr (9, [.int 0, .ref w_se, .ref w_cu, .ref w_pr, .int 0, .ref w_ch, .ref w_re, .ref w_lo]))])) (va_Qi (fun (r : Int32) (_ : Unit) => False) (cmB D [(x, .inr (10, [.ref w, .ref sp, .ref sv, .ref bu, .int 0, .int 0])), (w, .inr (9, [.int 0, .ref w_se, .ref w_cu, .ref w_pr, .int 0, .ref w_ch, .ref w_re, .ref w_lo]))] sz (fun _ : Unit => [(x, .inr (10, [.ref w, .ref sp, .ref sv, .ref bu, .int 0, .int 0])), (w, .inr (9, [.int 0, .ref w_se, .ref w_cu, .ref w_pr, .int 0, .ref w_ch, .ref w_re, .ref w_lo]))])) (va_A [(x, .inr (10, [.ref w, .ref sp, .ref sv, .ref bu, .int 0, .int 0])), (w, .inr (9, [.int 0, .ref w_se, .ref w_cu, .ref w_pr, .int 0, .ref w_ch, .ref w_re, .ref w_lo]))] sz)) (vx_X (fun _ : Unit => True) (cmBX D [(x, .inr (10, [.ref w, .ref sp, .ref sv, .ref bu, .int 0, .int 0])), (w, .inr (9, [.int 0, .ref w_se, .ref w_cu, .ref w_pr, .int 0, .ref w_ch, .ref w_re, .ref w_lo]))] sz "java/lang/IndexOutOfBoundsException" (fun _ : Unit => [(x, .inr (10, [.ref w, .ref sp, .ref sv, .ref bu, .int 0, .int 0])), (w, .inr (9, [.int 0, .ref w_se, .ref w_cu, .ref w_pr, .int 0, .ref w_ch, .ref w_re, .ref w_lo]))])) (va_A [(x, .inr (10, [.ref w, .ref sp, .ref sv, .ref bu, .int 0, .int 0])), (w, .inr (9, [.int 0, .ref w_se, .ref w_cu, .ref w_pr, .int 0, .ref w_ch, .ref w_re, .ref w_lo]))] sz)) 1 6 (va_A [(x, .inr (10, [.ref w, .ref sp, .ref sv, .ref bu, .int 0, .int 0])), (w, .inr (9, [.int 0, .ref w_se, .ref w_cu, .ref w_pr, .int 0, .ref w_ch, .ref w_re, .ref w_lo]))] sz) := by
  refine vx_ofW (cc := cX10_capacityIf) (maxL := 4) (ret := (some .int)) (by decide) rfl ?_
  intro p e s m args below meth c s₁ B hml hex hv
  obtain ⟨rfl, hsz, hP, hK, hD0, hX⟩ := hv
  have hx := B.exec
  have hb := B.bytes
  have hr := B.returns
  have hts := ws_all (atoms_spec (ws := ws_ yX10_capacityIf cX10_capacityIf 4 (some .int)) B.pre)
  have hown : s.vm.findClass RX10 = some m.cls := findClass_of_methodNamed B.named
  have hlocks := B.notSynchronized
  subst hsz
  have hD := hD0.self (sz := s.heap.size)
  generalize hAe : va_A [(x, .inr (10, [.ref w, .ref sp, .ref sv, .ref bu, .int 0, .int 0])), (w, .inr (9, [.int 0, .ref w_se, .ref w_cu, .ref w_pr, .int 0, .ref w_ch, .ref w_re, .ref w_lo]))] s.heap.size = A at hD hX ⊢
  have hA : ∀ q : Nat, s.heap.size ≤ q → A q := fun q h => by rw [← hAe]; exact Or.inr h
  have hS : va_S A s.heap s.heap [] := va_S.rf
  have hl := lv_entry ([.ref x, .int p1, .int p2]) (n := 4) (Nat.le_of_ble_eq_true rfl)
  rw [lg_entry_eq]
  generalize (lg_sl ([.ref x, .int p1, .int p2]) ++ List.replicate (4 - (lg_sl ([.ref x, .int p1, .int p2])).length) Slot.unset).toArray = ls at hl ⊢
  have hl : lv_has ls 4 [(0, .ref x), (1, .int p1), (2, .int p2)] := hl
  refine lv_aload_n hx hb dX10_capacityIf_0 rfl (lv_at hl 0 rfl) ?_
  refine lv_iload_n hx hb dX10_capacityIf_1 rfl (lv_at hl 1 rfl) ?_
  refine cm_xq (wr := []) (vx_runV (As := [.int p1]) (rest := []) ⟨hx, hb, hml, hown, hts⟩ (c_needChannel_0 l hfl D ct x w sp sv bu w_se w_cu w_pr w_ch w_re w_lo p1 _) (cm_V 1 hts kc_X10_needChannel ki_RX10 kl_RX10_172 kv_X10_needChannel kx_X10_needChannel kd_X10_needChannel ⟨Nat.le_of_ble_eq_true rfl, Nat.le_of_ble_eq_true rfl⟩) (cm_preV hP hK hD hS hA hX [0, 1] rfl rfl rfl (q0 := 0) (ci := 10) rfl rfl) rfl rfl hl.1 rfl (lv_room (Nat.le_of_ble_eq_true rfl)) dX10_capacityIf_2 ⟨Nat.le_of_ble_eq_true rfl, Nat.le_of_ble_eq_true rfl⟩) hP hD hS hA [0, 1] [] rfl rfl rfl (by decide) (fun E ce q9 u H locs hu hE hP hD hS hce hcv hcl => ?_) (fun r_1 u H locs hw_2 hP hD hS => ?_)
  · subst hE
    have hP : va_P D vwCl [(x, .inr (10, [.ref w, .ref sp, .ref sv, .ref bu, .int 0, .int 0])), (w, .inr (9, [.int 0, .ref w_se, .ref w_cu, .ref w_pr, .int 0, .ref w_ch, .ref w_re, .ref w_lo]))] H := hP
    have hD : va_D A [(x, .inr (10, [.ref w, .ref sp, .ref sv, .ref bu, .int 0, .int 0])), (w, .inr (9, [.int 0, .ref w_se, .ref w_cu, .ref w_pr, .int 0, .ref w_ch, .ref w_re, .ref w_lo]))] := hD
    have hP9 := hP.sub (ws' := [(x, .inr (10, [.ref w, .ref sp, .ref sv, .ref bu, .int 0, .int 0])), (w, .inr (9, [.int 0, .ref w_se, .ref w_cu, .ref w_pr, .int 0, .ref w_ch, .ref w_re, .ref w_lo]))]) [0, 1] rfl
    have hD9 := hD.sub (ws' := [(x, .inr (10, [.ref w, .ref sp, .ref sv, .ref bu, .int 0, .int 0])), (w, .inr (9, [.int 0, .ref w_se, .ref w_cu, .ref w_pr, .int 0, .ref w_ch, .ref w_re, .ref w_lo]))]) [0, 1] (by decide) rfl
    exact vx_out (fun x hx => (hex x hx).elim) hlocks hce hcv hcl (fun t ht hW => ⟨(), trivial, ⟨rfl, by rw [ht]; exact hP9, by rw [hAe]; exact hD9⟩, hS.F ht⟩) hS.2.2 (Nat.le_of_ble_eq_true rfl) (Nat.le_of_ble_eq_true rfl)
  · exact hw_2.elim
theorem dX10_safeCurrent_0 : decode cX10_safeCurrent 0 = .ok (.aload_n 0, 1) := by decide +kernel
theorem dX10_safeCurrent_1 : decode cX10_safeCurrent 1 = .ok (.iload_n 1, 1) := by decide +kernel
theorem dX10_safeCurrent_2 : decode cX10_safeCurrent 2 = .ok (.invokevirtual 172, 3) := by decide +kernel
set_option maxRecDepth 100000 in
set_option maxHeartbeats 4000000 in
theorem c_safeCurrent_0 (l : Launch) (hfl : l.stackTraces = false) (D : va_G) (ct : Nat → ClassId) (x : Nat) (w : Nat) (sp : Nat) (sv : Nat) (bu : Nat) (w_se : Nat) (w_cu : Nat) (w_pr : Nat) (w_ch : Nat) (w_re : Nat) (w_lo : Nat) (p1 : Int32) (p2 : Int32) (sz : Nat) : vx_Met l yX10_safeCurrent (ws_ yX10_safeCurrent cX10_safeCurrent 6 (some .int)) ({ frames := 7, cells := 1, slots := 6, locals := 112 } : Room) (va_Pc [.ref x, .int p1, .int p2] (cmP D ct sz [(x, .inr (10, [.ref w, .ref sp, .ref sv, .ref bu, .int 0, .int 0])), (w, .inr (9, [.int 0, .ref w_se, .ref w_cu, .ref w_pr, .int 0, .ref w_ch, .ref w_re, .ref w_lo]))])) (va_Qi (fun (r : Int32) (_ : Unit) => False) (cmB D [(x, .inr (10, [.ref w, .ref sp, .ref sv, .ref bu, .int 0, .int 0])), (w, .inr (9, [.int 0, .ref w_se, .ref w_cu, .ref w_pr, .int 0, .ref w_ch, .ref w_re, .ref w_lo]))] sz (fun _ : Unit => [(x, .inr (10, [.ref w, .ref sp, .ref sv, .ref bu, .int 0, .int 0])), (w, .inr (9, [.int 0, .ref w_se, .ref w_cu, .ref w_pr, .int 0, .ref w_ch, .ref w_re, .ref w_lo]))])) (va_A [(x, .inr (10, [.ref w, .ref sp, .ref sv, .ref bu, .int 0, .int 0])), (w, .inr (9, [.int 0, .ref w_se, .ref w_cu, .ref w_pr, .int 0, .ref w_ch, .ref w_re, .ref w_lo]))] sz)) (vx_X (fun _ : Unit => True) (cmBX D [(x, .inr (10, [.ref w, .ref sp, .ref sv, .ref bu, .int 0, .int 0])), (w, .inr (9, [.int 0, .ref w_se, .ref w_cu, .ref w_pr, .int 0, .ref w_ch, .ref w_re, .ref w_lo]))] sz "java/lang/IndexOutOfBoundsException" (fun _ : Unit => [(x, .inr (10, [.ref w, .ref sp, .ref sv, .ref bu, .int 0, .int 0])), (w, .inr (9, [.int 0, .ref w_se, .ref w_cu, .ref w_pr, .int 0, .ref w_ch, .ref w_re, .ref w_lo]))])) (va_A [(x, .inr (10, [.ref w, .ref sp, .ref sv, .ref bu, .int 0, .int 0])), (w, .inr (9, [.int 0, .ref w_se, .ref w_cu, .ref w_pr, .int 0, .ref w_ch, .ref w_re, .ref w_lo]))] sz)) 1 6 (va_A [(x, .inr (10, [.ref w, .ref sp, .ref sv, .ref bu, .int 0, .int 0])), (w, .inr (9, [.int 0, .ref w_se, .ref w_cu, .ref w_pr, .int 0, .ref w_ch, .ref w_re, .ref w_lo]))] sz) := by
  refine vx_ofW (cc := cX10_safeCurrent) (maxL := 6) (ret := (some .int)) (by decide) rfl ?_
  intro p e s m args below meth c s₁ B hml hex hv
  obtain ⟨rfl, hsz, hP, hK, hD0, hX⟩ := hv
  have hx := B.exec
  have hb := B.bytes
  have hr := B.returns
  have hts := ws_all (atoms_spec (ws := ws_ yX10_safeCurrent cX10_safeCurrent 6 (some .int)) B.pre)
  have hown : s.vm.findClass RX10 = some m.cls := findClass_of_methodNamed B.named
  have hlocks := B.notSynchronized
  subst hsz
  have hD := hD0.self (sz := s.heap.size)
  generalize hAe : va_A [(x, .inr (10, [.ref w, .ref sp, .ref sv, .ref bu, .int 0, .int 0])), (w, .inr (9, [.int 0, .ref w_se, .ref w_cu, .ref w_pr, .int 0, .ref w_ch, .ref w_re, .ref w_lo]))] s.heap.size = A at hD hX ⊢
  have hA : ∀ q : Nat, s.heap.size ≤ q → A q := fun q h => by rw [← hAe]; exact Or.inr h
  have hS : va_S A s.heap s.heap [] := va_S.rf
  have hl := lv_entry ([.ref x, .int p1, .int p2]) (n := 6) (Nat.le_of_ble_eq_true rfl)
  rw [lg_entry_eq]
  generalize (lg_sl ([.ref x, .int p1, .int p2]) ++ List.replicate (6 - (lg_sl ([.ref x, .int p1, .int p2])).length) Slot.unset).toArray = ls at hl ⊢
  have hl : lv_has ls 6 [(0, .ref x), (1, .int p1), (2, .int p2)] := hl
  refine lv_aload_n hx hb dX10_safeCurrent_0 rfl (lv_at hl 0 rfl) ?_
  refine lv_iload_n hx hb dX10_safeCurrent_1 rfl (lv_at hl 1 rfl) ?_
  refine cm_xq (wr := []) (vx_runV (As := [.int p1]) (rest := []) ⟨hx, hb, hml, hown, hts⟩ (c_needChannel_0 l hfl D ct x w sp sv bu w_se w_cu w_pr w_ch w_re w_lo p1 _) (cm_V 1 hts kc_X10_needChannel ki_RX10 kl_RX10_172 kv_X10_needChannel kx_X10_needChannel kd_X10_needChannel ⟨Nat.le_of_ble_eq_true rfl, Nat.le_of_ble_eq_true rfl⟩) (cm_preV hP hK hD hS hA hX [0, 1] rfl rfl rfl (q0 := 0) (ci := 10) rfl rfl) rfl rfl hl.1 rfl (lv_room (Nat.le_of_ble_eq_true rfl)) dX10_safeCurrent_2 ⟨Nat.le_of_ble_eq_true rfl, Nat.le_of_ble_eq_true rfl⟩) hP hD hS hA [0, 1] [] rfl rfl rfl (by decide) (fun E ce q9 u H locs hu hE hP hD hS hce hcv hcl => ?_) (fun r_1 u H locs hw_2 hP hD hS => ?_)
  · subst hE
    have hP : va_P D vwCl [(x, .inr (10, [.ref w, .ref sp, .ref sv, .ref bu, .int 0, .int 0])), (w, .inr (9, [.int 0, .ref w_se, .ref w_cu, .ref w_pr, .int 0, .ref w_ch, .ref w_re, .ref w_lo]))] H := hP
    have hD : va_D A [(x, .inr (10, [.ref w, .ref sp, .ref sv, .ref bu, .int 0, .int 0])), (w, .inr (9, [.int 0, .ref w_se, .ref w_cu, .ref w_pr, .int 0, .ref w_ch, .ref w_re, .ref w_lo]))] := hD
    have hP9 := hP.sub (ws' := [(x, .inr (10, [.ref w, .ref sp, .ref sv, .ref bu, .int 0, .int 0])), (w, .inr (9, [.int 0, .ref w_se, .ref w_cu, .ref w_pr, .int 0, .ref w_ch, .ref w_re, .ref w_lo]))]) [0, 1] rfl
    have hD9 := hD.sub (ws' := [(x, .inr (10, [.ref w, .ref sp, .ref sv, .ref bu, .int 0, .int 0])), (w, .inr (9, [.int 0, .ref w_se, .ref w_cu, .ref w_pr, .int 0, .ref w_ch, .ref w_re, .ref w_lo]))]) [0, 1] (by decide) rfl
    exact vx_out (fun x hx => (hex x hx).elim) hlocks hce hcv hcl (fun t ht hW => ⟨(), trivial, ⟨rfl, by rw [ht]; exact hP9, by rw [hAe]; exact hD9⟩, hS.F ht⟩) hS.2.2 (Nat.le_of_ble_eq_true rfl) (Nat.le_of_ble_eq_true rfl)
  · exact hw_2.elim
theorem dX10_stepValue_0 : decode cX10_stepValue 0 = .ok (.aload_n 0, 1) := by decide +kernel
theorem dX10_stepValue_1 : decode cX10_stepValue 1 = .ok (.iload_n 1, 1) := by decide +kernel
theorem dX10_stepValue_2 : decode cX10_stepValue 2 = .ok (.invokevirtual 146, 3) := by decide +kernel
set_option maxRecDepth 100000 in
set_option maxHeartbeats 4000000 in
theorem c_stepValue_0 (l : Launch) (hfl : l.stackTraces = false) (D : va_G) (ct : Nat → ClassId) (x : Nat) (w : Nat) (sp : Nat) (sv : Nat) (bu : Nat) (w_se : Nat) (w_cu : Nat) (w_pr : Nat) (w_ch : Nat) (w_re : Nat) (w_lo : Nat) (w_p1 : Nat) (w_p2 : Nat) (w_p3 : Nat) (w_p4 : Nat) (p1 : Int32) (p2 : Int32) (p3 : Int32) (sz : Nat) : vx_Met l yX10_stepValue (ws_ yX10_stepValue cX10_stepValue 4 (some .int)) ({ frames := 7, cells := 1, slots := 6, locals := 111 } : Room) (va_Pc [.ref x, .int p1, .int p2, .int p3] (cmP D ct sz [(x, .inr (10, [.ref w, .ref sp, .ref sv, .ref bu, .int 0, .int 0])), (w, .inr (9, [.int 0, .ref w_se, .ref w_cu, .ref w_pr, .int 0, .ref w_ch, .ref w_re, .ref w_lo])), (w_pr, .inr (5, [.int 0, .ref w_p1, .ref w_p2, .ref w_p3, .ref w_p4]))])) (va_Qi (fun (r : Int32) (_ : Unit) => False) (cmB D [(x, .inr (10, [.ref w, .ref sp, .ref sv, .ref bu, .int 0, .int 0])), (w, .inr (9, [.int 0, .ref w_se, .ref w_cu, .ref w_pr, .int 0, .ref w_ch, .ref w_re, .ref w_lo])), (w_pr, .inr (5, [.int 0, .ref w_p1, .ref w_p2, .ref w_p3, .ref w_p4]))] sz (fun _ : Unit => [(x, .inr (10, [.ref w, .ref sp, .ref sv, .ref bu, .int 0, .int 0])), (w, .inr (9, [.int 0, .ref w_se, .ref w_cu, .ref w_pr, .int 0, .ref w_ch, .ref w_re, .ref w_lo])), (w_pr, .inr (5, [.int 0, .ref w_p1, .ref w_p2, .ref w_p3, .ref w_p4]))])) (va_A [(x, .inr (10, [.ref w, .ref sp, .ref sv, .ref bu, .int 0, .int 0])), (w, .inr (9, [.int 0, .ref w_se, .ref w_cu, .ref w_pr, .int 0, .ref w_ch, .ref w_re, .ref w_lo])), (w_pr, .inr (5, [.int 0, .ref w_p1, .ref w_p2, .ref w_p3, .ref w_p4]))] sz)) (vx_X (fun _ : Unit => True) (cmBX D [(x, .inr (10, [.ref w, .ref sp, .ref sv, .ref bu, .int 0, .int 0])), (w, .inr (9, [.int 0, .ref w_se, .ref w_cu, .ref w_pr, .int 0, .ref w_ch, .ref w_re, .ref w_lo])), (w_pr, .inr (5, [.int 0, .ref w_p1, .ref w_p2, .ref w_p3, .ref w_p4]))] sz "java/lang/IndexOutOfBoundsException" (fun _ : Unit => [(x, .inr (10, [.ref w, .ref sp, .ref sv, .ref bu, .int 0, .int 0])), (w, .inr (9, [.int 0, .ref w_se, .ref w_cu, .ref w_pr, .int 0, .ref w_ch, .ref w_re, .ref w_lo])), (w_pr, .inr (5, [.int 0, .ref w_p1, .ref w_p2, .ref w_p3, .ref w_p4]))])) (va_A [(x, .inr (10, [.ref w, .ref sp, .ref sv, .ref bu, .int 0, .int 0])), (w, .inr (9, [.int 0, .ref w_se, .ref w_cu, .ref w_pr, .int 0, .ref w_ch, .ref w_re, .ref w_lo])), (w_pr, .inr (5, [.int 0, .ref w_p1, .ref w_p2, .ref w_p3, .ref w_p4]))] sz)) 1 6 (va_A [(x, .inr (10, [.ref w, .ref sp, .ref sv, .ref bu, .int 0, .int 0])), (w, .inr (9, [.int 0, .ref w_se, .ref w_cu, .ref w_pr, .int 0, .ref w_ch, .ref w_re, .ref w_lo])), (w_pr, .inr (5, [.int 0, .ref w_p1, .ref w_p2, .ref w_p3, .ref w_p4]))] sz) := by
  refine vx_ofW (cc := cX10_stepValue) (maxL := 4) (ret := (some .int)) (by decide) rfl ?_
  intro p e s m args below meth c s₁ B hml hex hv
  obtain ⟨rfl, hsz, hP, hK, hD0, hX⟩ := hv
  have hx := B.exec
  have hb := B.bytes
  have hr := B.returns
  have hts := ws_all (atoms_spec (ws := ws_ yX10_stepValue cX10_stepValue 4 (some .int)) B.pre)
  have hown : s.vm.findClass RX10 = some m.cls := findClass_of_methodNamed B.named
  have hlocks := B.notSynchronized
  subst hsz
  have hD := hD0.self (sz := s.heap.size)
  generalize hAe : va_A [(x, .inr (10, [.ref w, .ref sp, .ref sv, .ref bu, .int 0, .int 0])), (w, .inr (9, [.int 0, .ref w_se, .ref w_cu, .ref w_pr, .int 0, .ref w_ch, .ref w_re, .ref w_lo])), (w_pr, .inr (5, [.int 0, .ref w_p1, .ref w_p2, .ref w_p3, .ref w_p4]))] s.heap.size = A at hD hX ⊢
  have hA : ∀ q : Nat, s.heap.size ≤ q → A q := fun q h => by rw [← hAe]; exact Or.inr h
  have hS : va_S A s.heap s.heap [] := va_S.rf
  have hl := lv_entry ([.ref x, .int p1, .int p2, .int p3]) (n := 4) (Nat.le_of_ble_eq_true rfl)
  rw [lg_entry_eq]
  generalize (lg_sl ([.ref x, .int p1, .int p2, .int p3]) ++ List.replicate (4 - (lg_sl ([.ref x, .int p1, .int p2, .int p3])).length) Slot.unset).toArray = ls at hl ⊢
  have hl : lv_has ls 4 [(0, .ref x), (1, .int p1), (2, .int p2), (3, .int p3)] := hl
  refine lv_aload_n hx hb dX10_stepValue_0 rfl (lv_at hl 0 rfl) ?_
  refine lv_iload_n hx hb dX10_stepValue_1 rfl (lv_at hl 1 rfl) ?_
  refine cm_xv (wr := []) (vx_runV (As := [.int p1]) (rest := []) ⟨hx, hb, hml, hown, hts⟩ (c_needProgram_0 l hfl D ct x w sp sv bu w_se w_cu w_pr w_ch w_re w_lo w_p1 w_p2 w_p3 w_p4 p1 _) (cm_V 1 hts kc_X10_needProgram ki_RX10 kl_RX10_146 kv_X10_needProgram kx_X10_needProgram kd_X10_needProgram ⟨Nat.le_of_ble_eq_true rfl, Nat.le_of_ble_eq_true rfl⟩) (cm_preV hP hK hD hS hA hX [0, 1, 2] rfl rfl rfl (q0 := 0) (ci := 10) rfl rfl) rfl rfl hl.1 rfl (lv_room (Nat.le_of_ble_eq_true rfl)) dX10_stepValue_2 ⟨Nat.le_of_ble_eq_true rfl, Nat.le_of_ble_eq_true rfl⟩) hP hD hS hA [0, 1, 2] [] rfl rfl rfl (by decide) (fun E ce q9 u H locs hu hE hP hD hS hce hcv hcl => ?_) (fun u H locs hw_2 hP hD hS => ?_)
  · subst hE
    have hP : va_P D vwCl [(x, .inr (10, [.ref w, .ref sp, .ref sv, .ref bu, .int 0, .int 0])), (w, .inr (9, [.int 0, .ref w_se, .ref w_cu, .ref w_pr, .int 0, .ref w_ch, .ref w_re, .ref w_lo])), (w_pr, .inr (5, [.int 0, .ref w_p1, .ref w_p2, .ref w_p3, .ref w_p4]))] H := hP
    have hD : va_D A [(x, .inr (10, [.ref w, .ref sp, .ref sv, .ref bu, .int 0, .int 0])), (w, .inr (9, [.int 0, .ref w_se, .ref w_cu, .ref w_pr, .int 0, .ref w_ch, .ref w_re, .ref w_lo])), (w_pr, .inr (5, [.int 0, .ref w_p1, .ref w_p2, .ref w_p3, .ref w_p4]))] := hD
    have hP9 := hP.sub (ws' := [(x, .inr (10, [.ref w, .ref sp, .ref sv, .ref bu, .int 0, .int 0])), (w, .inr (9, [.int 0, .ref w_se, .ref w_cu, .ref w_pr, .int 0, .ref w_ch, .ref w_re, .ref w_lo])), (w_pr, .inr (5, [.int 0, .ref w_p1, .ref w_p2, .ref w_p3, .ref w_p4]))]) [0, 1, 2] rfl
    have hD9 := hD.sub (ws' := [(x, .inr (10, [.ref w, .ref sp, .ref sv, .ref bu, .int 0, .int 0])), (w, .inr (9, [.int 0, .ref w_se, .ref w_cu, .ref w_pr, .int 0, .ref w_ch, .ref w_re, .ref w_lo])), (w_pr, .inr (5, [.int 0, .ref w_p1, .ref w_p2, .ref w_p3, .ref w_p4]))]) [0, 1, 2] (by decide) rfl
    exact vx_out (fun x hx => (hex x hx).elim) hlocks hce hcv hcl (fun t ht hW => ⟨(), trivial, ⟨rfl, by rw [ht]; exact hP9, by rw [hAe]; exact hD9⟩, hS.F ht⟩) hS.2.2 (Nat.le_of_ble_eq_true rfl) (Nat.le_of_ble_eq_true rfl)
  · exact hw_2.elim
