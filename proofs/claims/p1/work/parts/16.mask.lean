/-! the reference on a new object -/
def cm_rng (v lo hi : Int64) : Int32 := if v < lo then 0 else if hi < v then 0 else 1
theorem cm_lc (x y : Int64) : (lg_cmp x y < 0 ↔ x < y) ∧ (0 < lg_cmp x y ↔ y < x) := by
  unfold lg_cmp
  simp only [gt_iff_lt, Int64.lt_iff_toInt_lt, ← Int64.toInt_inj]
  repeat' split
  all_goals (refine ⟨⟨fun h => ?_, fun h => ?_⟩, ⟨fun h => ?_, fun h => ?_⟩⟩ <;> first | omega | (exact absurd h (by decide)) | decide)
theorem cm_inF {p lo hi : Int32} {L M : Int64} (hL : lo.toInt64 = L) (hM : hi.toInt64 = M) (h : cm_rng p.toInt64 L M = 0) : p < lo ∨ hi < p := by
  subst hL
  subst hM
  unfold cm_rng at h
  rw [Int32.lt_iff_toInt_lt, Int32.lt_iff_toInt_lt]
  simp only [Int64.lt_iff_toInt_lt, Int32.toInt_toInt64] at h
  split at h
  · exact Or.inl (by assumption)
  · split at h
    · exact Or.inr (by assumption)
    · exact absurd h (by decide)
theorem cm_inT2 {p lo hi : Int32} {L M : Int64} (hL : lo.toInt64 = L) (hM : hi.toInt64 = M) (h : ¬ cm_rng p.toInt64 L M = 0) : lo ≤ p ∧ p ≤ hi := by
  subst hL
  subst hM
  unfold cm_rng at h
  rw [Int32.le_iff_toInt_le, Int32.le_iff_toInt_le]
  simp only [Int64.lt_iff_toInt_lt, Int32.toInt_toInt64] at h
  split at h
  · exact absurd rfl h
  · split at h
    · exact absurd rfl h
    · constructor <;> omega
theorem cm_in_m (x : Int64) : cm_rng x 0 (-1) = 0 := by
  unfold cm_rng
  split
  · rfl
  · split
    · rfl
    · rename_i h1 h2
      rw [Int64.lt_iff_toInt_lt] at h1 h2
      have e1 : (0 : Int64).toInt = 0 := by decide
      have e2 : (-1 : Int64).toInt = -1 := by decide
      omega
theorem cm_upd0 (k : Nat) : (fun _ => 0 : Nat → Int32) = upd (fun _ => 0) k 0 := by
  funext j
  unfold upd
  split <;> rfl
def m_w0 : Nat → Int32 := (upd (upd (upd (upd (upd (upd (upd (upd (upd (fun _ => 0) (0 : Int32).toNatClampNeg 990) (1 : Int32).toNatClampNeg 100000) (2 : Int32).toNatClampNeg 100) (3 : Int32).toNatClampNeg 5) (5 : Int32).toNatClampNeg 5000) (6 : Int32).toNatClampNeg 600) (7 : Int32).toNatClampNeg 250) (14 : Int32).toNatClampNeg 5000) (15 : Int32).toNatClampNeg 1000)
theorem cm_w8 : upd m_w0 8 (nI 0) = m_w0 := by
  funext j
  unfold upd
  split
  · rename_i h
    subst h
    decide +kernel
  · rfl
theorem cm_w8s (i : Nat) : upd m_w0 8 (nI (i + 1)) = upd (upd m_w0 8 (nI i)) (8 : Int32).toNatClampNeg (nI (i + 1)) := by
  funext j
  have e : (8 : Int32).toNatClampNeg = 8 := by decide
  rw [e]
  unfold upd
  split <;> rfl
theorem dX11_in_0 : decode cX11_in 0 = .ok (.lload_n 0, 1) := by decide +kernel
theorem dX11_in_1 : decode cX11_in 1 = .ok (.lload_n 2, 1) := by decide +kernel
theorem dX11_in_2 : decode cX11_in 2 = .ok (.lcmp, 1) := by decide +kernel
theorem dX11_in_3 : decode cX11_in 3 = .ok (.ifCond .lt 14, 3) := by decide +kernel
theorem dX11_in_6 : decode cX11_in 6 = .ok (.lload_n 0, 1) := by decide +kernel
theorem dX11_in_7 : decode cX11_in 7 = .ok (.lload 4, 2) := by decide +kernel
theorem dX11_in_9 : decode cX11_in 9 = .ok (.lcmp, 1) := by decide +kernel
theorem dX11_in_10 : decode cX11_in 10 = .ok (.ifCond .gt 7, 3) := by decide +kernel
theorem dX11_in_13 : decode cX11_in 13 = .ok (.iconst 1, 1) := by decide +kernel
theorem dX11_in_14 : decode cX11_in 14 = .ok (.goto 4, 3) := by decide +kernel
theorem dX11_in_17 : decode cX11_in 17 = .ok (.iconst 0, 1) := by decide +kernel
theorem dX11_in_18 : decode cX11_in 18 = .ok (.ireturn, 1) := by decide +kernel
set_option maxRecDepth 100000 in
set_option maxHeartbeats 4000000 in
theorem m_in (l : Launch) (D : va_G) (ct : Nat → ClassId) (v : Int64) (lo : Int64) (hi : Int64) (sz : Nat) : Met l yX11_in (ws_ yX11_in cX11_in 6 (some .boolean)) ({ frames := 0, cells := 0, slots := 0, locals := 0 } : Room) (va_Pc [.long v, .long lo, .long hi] (cmP D ct sz [])) (va_Qi (fun (r : Int32) (_ : Unit) => r = (cm_rng v lo hi)) (cmB D [] sz (fun _ : Unit => [])) (va_A [] sz)) 0 0 (va_A [] sz) := by
  refine Met.ofW (cc := cX11_in) (maxL := 6) (ret := (some .boolean)) (by decide) rfl ?_
  intro p e s m args below meth c s₁ B hml hv
  obtain ⟨rfl, hsz, hP, hK, hD0, hX⟩ := hv
  have hx := B.exec
  have hb := B.bytes
  have hr := B.returns
  have hts := ws_all (atoms_spec (ws := ws_ yX11_in cX11_in 6 (some .boolean)) B.pre)
  have hown : s.vm.findClass RX11 = some m.cls := findClass_of_methodNamed B.named
  have hlocks := B.notSynchronized
  subst hsz
  have hD := hD0.self (sz := s.heap.size)
  generalize hAe : va_A [] s.heap.size = A at hD hX ⊢
  have hA : ∀ q : Nat, s.heap.size ≤ q → A q := fun q h => by rw [← hAe]; exact Or.inr h
  have hS : va_S A s.heap s.heap [] := va_S.rf
  have hl := lv_entry ([.long v, .long lo, .long hi]) (n := 6) (Nat.le_of_ble_eq_true rfl)
  rw [lg_entry_eq]
  generalize (lg_sl ([.long v, .long lo, .long hi]) ++ List.replicate (6 - (lg_sl ([.long v, .long lo, .long hi])).length) Slot.unset).toArray = ls at hl ⊢
  have hl : lv_has ls 6 [(0, .long v), (2, .long lo), (4, .long hi)] := hl
  refine lv_lload_n hx hb dX11_in_0 rfl (lv_at hl 0 rfl) ?_
  refine lv_lload_n hx hb dX11_in_1 rfl (lv_at hl 1 rfl) ?_
  refine W.lcmp hx hb dX11_in_2 ?_
  refine lv_if_lt (tgt := 17) hx hb dX11_in_3 (by decide) (fun hc_1 => ?_) (fun hc_1 => ?_)
  · refine lv_iconst (v := 0) hx hb dX11_in_17 (by decide) ?_
    have hP9 := hP.sub (ws' := []) [] rfl
    have hD9 := hD.sub (ws' := []) [] (by decide) rfl
    exact W.zret (v := 0) hx hb hr (by decide) (fun t ht hW => ⟨⟨0, (), rfl, (show (0 : Int32) = (if v < lo then 0 else if hi < v then 0 else 1) from by rw [if_pos ((cm_lc v lo).1.mp hc_1)]), by rw [ht]; exact hP9, by rw [hAe]; exact hD9⟩, hS.F ht⟩) hS.2.2 dX11_in_18
  · refine lv_lload_n hx hb dX11_in_6 rfl (lv_at hl 0 rfl) ?_
    refine lv_lload hx hb dX11_in_7 (lv_at hl 2 rfl) ?_
    refine W.lcmp hx hb dX11_in_9 ?_
    refine lv_if_gt (tgt := 17) hx hb dX11_in_10 (by decide) (fun hc_2 => ?_) (fun hc_2 => ?_)
    · refine lv_iconst (v := 0) hx hb dX11_in_17 (by decide) ?_
      have hP9 := hP.sub (ws' := []) [] rfl
      have hD9 := hD.sub (ws' := []) [] (by decide) rfl
      exact W.zret (v := 0) hx hb hr (by decide) (fun t ht hW => ⟨⟨0, (), rfl, (show (0 : Int32) = (if v < lo then 0 else if hi < v then 0 else 1) from by rw [if_neg (fun q => hc_1 ((cm_lc v lo).1.mpr q)), if_pos ((cm_lc v hi).2.mp hc_2)]), by rw [ht]; exact hP9, by rw [hAe]; exact hD9⟩, hS.F ht⟩) hS.2.2 dX11_in_18
    · refine lv_iconst (v := 1) hx hb dX11_in_13 (by decide) ?_
      refine lv_goto (tgt := 18) hx hb dX11_in_14 (by decide) ?_
      have hP9 := hP.sub (ws' := []) [] rfl
      have hD9 := hD.sub (ws' := []) [] (by decide) rfl
      exact W.zret (v := 1) hx hb hr (by decide) (fun t ht hW => ⟨⟨1, (), rfl, (show (1 : Int32) = (if v < lo then 0 else if hi < v then 0 else 1) from by rw [if_neg (fun q => hc_1 ((cm_lc v lo).1.mpr q)), if_neg (fun q => hc_2 ((cm_lc v hi).2.mpr q))]), by rw [ht]; exact hP9, by rw [hAe]; exact hD9⟩, hS.F ht⟩) hS.2.2 dX11_in_18
theorem dX11_throwsIf_0 : decode cX11_throwsIf 0 = .ok (.aload_n 0, 1) := by decide +kernel
theorem dX11_throwsIf_1 : decode cX11_throwsIf 1 = .ok (.getfield 49, 3) := by decide +kernel
theorem dX11_throwsIf_4 : decode cX11_throwsIf 4 = .ok (.ifCond .ne 12, 3) := by decide +kernel
theorem dX11_throwsIf_7 : decode cX11_throwsIf 7 = .ok (.iload_n 1, 1) := by decide +kernel
theorem dX11_throwsIf_8 : decode cX11_throwsIf 8 = .ok (.ifCond .eq 8, 3) := by decide +kernel
theorem dX11_throwsIf_16 : decode cX11_throwsIf 16 = .ok (.aload_n 0, 1) := by decide +kernel
theorem dX11_throwsIf_17 : decode cX11_throwsIf 17 = .ok (.getfield 49, 3) := by decide +kernel
theorem dX11_throwsIf_20 : decode cX11_throwsIf 20 = .ok (.ifCond .eq 7, 3) := by decide +kernel
theorem dX11_throwsIf_27 : decode cX11_throwsIf 27 = .ok (.iconst 0, 1) := by decide +kernel
theorem dX11_throwsIf_28 : decode cX11_throwsIf 28 = .ok (.ireturn, 1) := by decide +kernel
set_option maxRecDepth 100000 in
set_option maxHeartbeats 4000000 in
theorem m_throwsIf_01 (l : Launch) (D : va_G) (ct : Nat → ClassId) (mo : Nat) (mw : Nat) (ma : Nat) (mf : Nat) (m0 : Nat) (m1 : Nat) (mu : Nat) (mv : Nat) (u0 : Nat) (u1 : Nat) (iz : Nat) (mb : Nat) (sz : Nat) : Met l yX11_throwsIf (ws_ yX11_throwsIf cX11_throwsIf 3 (some .boolean)) ({ frames := 0, cells := 0, slots := 0, locals := 0 } : Room) (va_Pc [.ref mo, .int 0, .int 1] (cmP D ct sz [(mo, .inr (11, [.ref mw, .ref ma, .ref mf, .ref m0, .ref m1, .ref mu, .ref mv, .ref u0, .ref u1, .ref iz, .int 0, .ref mb, .int 0, .int 0, .int 0, .int 0, .int 0, .int 0, .int 0]))])) (va_Qi (fun (r : Int32) (_ : Unit) => r = 0) (cmB D [(mo, .inr (11, [.ref mw, .ref ma, .ref mf, .ref m0, .ref m1, .ref mu, .ref mv, .ref u0, .ref u1, .ref iz, .int 0, .ref mb, .int 0, .int 0, .int 0, .int 0, .int 0, .int 0, .int 0]))] sz (fun _ : Unit => [(mo, .inr (11, [.ref mw, .ref ma, .ref mf, .ref m0, .ref m1, .ref mu, .ref mv, .ref u0, .ref u1, .ref iz, .int 0, .ref mb, .int 0, .int 0, .int 0, .int 0, .int 0, .int 0, .int 0]))])) (va_A [(mo, .inr (11, [.ref mw, .ref ma, .ref mf, .ref m0, .ref m1, .ref mu, .ref mv, .ref u0, .ref u1, .ref iz, .int 0, .ref mb, .int 0, .int 0, .int 0, .int 0, .int 0, .int 0, .int 0]))] sz)) 0 0 (va_A [(mo, .inr (11, [.ref mw, .ref ma, .ref mf, .ref m0, .ref m1, .ref mu, .ref mv, .ref u0, .ref u1, .ref iz, .int 0, .ref mb, .int 0, .int 0, .int 0, .int 0, .int 0, .int 0, .int 0]))] sz) := by
  refine Met.ofW (cc := cX11_throwsIf) (maxL := 3) (ret := (some .boolean)) (by decide) rfl ?_
  intro p e s m args below meth c s₁ B hml hv
  obtain ⟨rfl, hsz, hP, hK, hD0, hX⟩ := hv
  have hx := B.exec
  have hb := B.bytes
  have hr := B.returns
  have hts := ws_all (atoms_spec (ws := ws_ yX11_throwsIf cX11_throwsIf 3 (some .boolean)) B.pre)
  have hown : s.vm.findClass RX11 = some m.cls := findClass_of_methodNamed B.named
  have hlocks := B.notSynchronized
  subst hsz
  have hD := hD0.self (sz := s.heap.size)
  generalize hAe : va_A [(mo, .inr (11, [.ref mw, .ref ma, .ref mf, .ref m0, .ref m1, .ref mu, .ref mv, .ref u0, .ref u1, .ref iz, .int 0, .ref mb, .int 0, .int 0, .int 0, .int 0, .int 0, .int 0, .int 0]))] s.heap.size = A at hD hX ⊢
  have hA : ∀ q : Nat, s.heap.size ≤ q → A q := fun q h => by rw [← hAe]; exact Or.inr h
  have hS : va_S A s.heap s.heap [] := va_S.rf
  have hl := lv_entry ([.ref mo, .int 0, .int 1]) (n := 3) (Nat.le_of_ble_eq_true rfl)
  rw [lg_entry_eq]
  generalize (lg_sl ([.ref mo, .int 0, .int 1]) ++ List.replicate (3 - (lg_sl ([.ref mo, .int 0, .int 1])).length) Slot.unset).toArray = ls at hl ⊢
  have hl : lv_has ls 3 [(0, .ref mo), (1, .int 0), (2, .int 1)] := hl
  refine lv_aload_n hx hb dX11_throwsIf_0 rfl (lv_at hl 0 rfl) ?_
  refine va_get (v := .int 0) (D := D) (ci := 11) (C := RX11) (T := TX11) (N := 19) hx hb hts in_X11 hown hK hP 0 rfl rfl 10 (by decide) (hts _ kl_RX11_49) (fun _ h9 => h9) rfl dX11_throwsIf_1 ?_
  refine lv_if_ne (tgt := 16) hx hb dX11_throwsIf_4 (by decide) (fun hc => absurd (by decide) hc) (fun _ => ?_)
  refine lv_iload_n hx hb dX11_throwsIf_7 rfl (lv_at hl 1 rfl) ?_
  refine lv_if_eq (tgt := 16) hx hb dX11_throwsIf_8 (by decide) (fun _ => ?_) (fun hc => absurd (by decide) hc)
  refine lv_aload_n hx hb dX11_throwsIf_16 rfl (lv_at hl 0 rfl) ?_
  refine va_get (v := .int 0) (D := D) (ci := 11) (C := RX11) (T := TX11) (N := 19) hx hb hts in_X11 hown hK hP 0 rfl rfl 10 (by decide) (hts _ kl_RX11_49) (fun _ h9 => h9) rfl dX11_throwsIf_17 ?_
  refine lv_if_eq (tgt := 27) hx hb dX11_throwsIf_20 (by decide) (fun _ => ?_) (fun hc => absurd (by decide) hc)
  refine lv_iconst (v := 0) hx hb dX11_throwsIf_27 (by decide) ?_
  have hP9 := hP.sub (ws' := [(mo, .inr (11, [.ref mw, .ref ma, .ref mf, .ref m0, .ref m1, .ref mu, .ref mv, .ref u0, .ref u1, .ref iz, .int 0, .ref mb, .int 0, .int 0, .int 0, .int 0, .int 0, .int 0, .int 0]))]) [0] rfl
  have hD9 := hD.sub (ws' := [(mo, .inr (11, [.ref mw, .ref ma, .ref mf, .ref m0, .ref m1, .ref mu, .ref mv, .ref u0, .ref u1, .ref iz, .int 0, .ref mb, .int 0, .int 0, .int 0, .int 0, .int 0, .int 0, .int 0]))]) [0] (by decide) rfl
  exact W.zret (v := 0) hx hb hr (by decide) (fun t ht hW => ⟨⟨0, (), rfl, rfl, by rw [ht]; exact hP9, by rw [hAe]; exact hD9⟩, hS.F ht⟩) hS.2.2 dX11_throwsIf_28
set_option maxRecDepth 100000 in
set_option maxHeartbeats 4000000 in
theorem m_throwsIf_02 (l : Launch) (D : va_G) (ct : Nat → ClassId) (mo : Nat) (mw : Nat) (ma : Nat) (mf : Nat) (m0 : Nat) (m1 : Nat) (mu : Nat) (mv : Nat) (u0 : Nat) (u1 : Nat) (iz : Nat) (mb : Nat) (sz : Nat) : Met l yX11_throwsIf (ws_ yX11_throwsIf cX11_throwsIf 3 (some .boolean)) ({ frames := 0, cells := 0, slots := 0, locals := 0 } : Room) (va_Pc [.ref mo, .int 0, .int 2] (cmP D ct sz [(mo, .inr (11, [.ref mw, .ref ma, .ref mf, .ref m0, .ref m1, .ref mu, .ref mv, .ref u0, .ref u1, .ref iz, .int 0, .ref mb, .int 0, .int 0, .int 0, .int 0, .int 0, .int 0, .int 0]))])) (va_Qi (fun (r : Int32) (_ : Unit) => r = 0) (cmB D [(mo, .inr (11, [.ref mw, .ref ma, .ref mf, .ref m0, .ref m1, .ref mu, .ref mv, .ref u0, .ref u1, .ref iz, .int 0, .ref mb, .int 0, .int 0, .int 0, .int 0, .int 0, .int 0, .int 0]))] sz (fun _ : Unit => [(mo, .inr (11, [.ref mw, .ref ma, .ref mf, .ref m0, .ref m1, .ref mu, .ref mv, .ref u0, .ref u1, .ref iz, .int 0, .ref mb, .int 0, .int 0, .int 0, .int 0, .int 0, .int 0, .int 0]))])) (va_A [(mo, .inr (11, [.ref mw, .ref ma, .ref mf, .ref m0, .ref m1, .ref mu, .ref mv, .ref u0, .ref u1, .ref iz, .int 0, .ref mb, .int 0, .int 0, .int 0, .int 0, .int 0, .int 0, .int 0]))] sz)) 0 0 (va_A [(mo, .inr (11, [.ref mw, .ref ma, .ref mf, .ref m0, .ref m1, .ref mu, .ref mv, .ref u0, .ref u1, .ref iz, .int 0, .ref mb, .int 0, .int 0, .int 0, .int 0, .int 0, .int 0, .int 0]))] sz) := by
  refine Met.ofW (cc := cX11_throwsIf) (maxL := 3) (ret := (some .boolean)) (by decide) rfl ?_
  intro p e s m args below meth c s₁ B hml hv
  obtain ⟨rfl, hsz, hP, hK, hD0, hX⟩ := hv
  have hx := B.exec
  have hb := B.bytes
  have hr := B.returns
  have hts := ws_all (atoms_spec (ws := ws_ yX11_throwsIf cX11_throwsIf 3 (some .boolean)) B.pre)
  have hown : s.vm.findClass RX11 = some m.cls := findClass_of_methodNamed B.named
  have hlocks := B.notSynchronized
  subst hsz
  have hD := hD0.self (sz := s.heap.size)
  generalize hAe : va_A [(mo, .inr (11, [.ref mw, .ref ma, .ref mf, .ref m0, .ref m1, .ref mu, .ref mv, .ref u0, .ref u1, .ref iz, .int 0, .ref mb, .int 0, .int 0, .int 0, .int 0, .int 0, .int 0, .int 0]))] s.heap.size = A at hD hX ⊢
  have hA : ∀ q : Nat, s.heap.size ≤ q → A q := fun q h => by rw [← hAe]; exact Or.inr h
  have hS : va_S A s.heap s.heap [] := va_S.rf
  have hl := lv_entry ([.ref mo, .int 0, .int 2]) (n := 3) (Nat.le_of_ble_eq_true rfl)
  rw [lg_entry_eq]
  generalize (lg_sl ([.ref mo, .int 0, .int 2]) ++ List.replicate (3 - (lg_sl ([.ref mo, .int 0, .int 2])).length) Slot.unset).toArray = ls at hl ⊢
  have hl : lv_has ls 3 [(0, .ref mo), (1, .int 0), (2, .int 2)] := hl
  refine lv_aload_n hx hb dX11_throwsIf_0 rfl (lv_at hl 0 rfl) ?_
  refine va_get (v := .int 0) (D := D) (ci := 11) (C := RX11) (T := TX11) (N := 19) hx hb hts in_X11 hown hK hP 0 rfl rfl 10 (by decide) (hts _ kl_RX11_49) (fun _ h9 => h9) rfl dX11_throwsIf_1 ?_
  refine lv_if_ne (tgt := 16) hx hb dX11_throwsIf_4 (by decide) (fun hc => absurd (by decide) hc) (fun _ => ?_)
  refine lv_iload_n hx hb dX11_throwsIf_7 rfl (lv_at hl 1 rfl) ?_
  refine lv_if_eq (tgt := 16) hx hb dX11_throwsIf_8 (by decide) (fun _ => ?_) (fun hc => absurd (by decide) hc)
  refine lv_aload_n hx hb dX11_throwsIf_16 rfl (lv_at hl 0 rfl) ?_
  refine va_get (v := .int 0) (D := D) (ci := 11) (C := RX11) (T := TX11) (N := 19) hx hb hts in_X11 hown hK hP 0 rfl rfl 10 (by decide) (hts _ kl_RX11_49) (fun _ h9 => h9) rfl dX11_throwsIf_17 ?_
  refine lv_if_eq (tgt := 27) hx hb dX11_throwsIf_20 (by decide) (fun _ => ?_) (fun hc => absurd (by decide) hc)
  refine lv_iconst (v := 0) hx hb dX11_throwsIf_27 (by decide) ?_
  have hP9 := hP.sub (ws' := [(mo, .inr (11, [.ref mw, .ref ma, .ref mf, .ref m0, .ref m1, .ref mu, .ref mv, .ref u0, .ref u1, .ref iz, .int 0, .ref mb, .int 0, .int 0, .int 0, .int 0, .int 0, .int 0, .int 0]))]) [0] rfl
  have hD9 := hD.sub (ws' := [(mo, .inr (11, [.ref mw, .ref ma, .ref mf, .ref m0, .ref m1, .ref mu, .ref mv, .ref u0, .ref u1, .ref iz, .int 0, .ref mb, .int 0, .int 0, .int 0, .int 0, .int 0, .int 0, .int 0]))]) [0] (by decide) rfl
  exact W.zret (v := 0) hx hb hr (by decide) (fun t ht hW => ⟨⟨0, (), rfl, rfl, by rw [ht]; exact hP9, by rw [hAe]; exact hD9⟩, hS.F ht⟩) hS.2.2 dX11_throwsIf_28
theorem dX11_throwsIf_11 : decode cX11_throwsIf 11 = .ok (.aload_n 0, 1) := by decide +kernel
theorem dX11_throwsIf_12 : decode cX11_throwsIf 12 = .ok (.iload_n 2, 1) := by decide +kernel
theorem dX11_throwsIf_13 : decode cX11_throwsIf 13 = .ok (.putfield 49, 3) := by decide +kernel
theorem dX11_throwsIf_23 : decode cX11_throwsIf 23 = .ok (.iconst 1, 1) := by decide +kernel
theorem dX11_throwsIf_24 : decode cX11_throwsIf 24 = .ok (.goto 4, 3) := by decide +kernel
set_option maxRecDepth 100000 in
set_option maxHeartbeats 4000000 in
theorem m_throwsIf_11 (l : Launch) (D : va_G) (ct : Nat → ClassId) (mo : Nat) (mw : Nat) (ma : Nat) (mf : Nat) (m0 : Nat) (m1 : Nat) (mu : Nat) (mv : Nat) (u0 : Nat) (u1 : Nat) (iz : Nat) (mb : Nat) (sz : Nat) : Met l yX11_throwsIf (ws_ yX11_throwsIf cX11_throwsIf 3 (some .boolean)) ({ frames := 0, cells := 0, slots := 0, locals := 0 } : Room) (va_Pc [.ref mo, .int 1, .int 1] (cmP D ct sz [(mo, .inr (11, [.ref mw, .ref ma, .ref mf, .ref m0, .ref m1, .ref mu, .ref mv, .ref u0, .ref u1, .ref iz, .int 0, .ref mb, .int 0, .int 0, .int 0, .int 0, .int 0, .int 0, .int 0]))])) (va_Qi (fun (r : Int32) (_ : Unit) => r = 1) (cmB D [(mo, .inr (11, [.ref mw, .ref ma, .ref mf, .ref m0, .ref m1, .ref mu, .ref mv, .ref u0, .ref u1, .ref iz, .int 0, .ref mb, .int 0, .int 0, .int 0, .int 0, .int 0, .int 0, .int 0]))] sz (fun _ : Unit => [(mo, .inr (11, [.ref mw, .ref ma, .ref mf, .ref m0, .ref m1, .ref mu, .ref mv, .ref u0, .ref u1, .ref iz, .int 1, .ref mb, .int 0, .int 0, .int 0, .int 0, .int 0, .int 0, .int 0]))])) (va_A [(mo, .inr (11, [.ref mw, .ref ma, .ref mf, .ref m0, .ref m1, .ref mu, .ref mv, .ref u0, .ref u1, .ref iz, .int 0, .ref mb, .int 0, .int 0, .int 0, .int 0, .int 0, .int 0, .int 0]))] sz)) 0 0 (va_A [(mo, .inr (11, [.ref mw, .ref ma, .ref mf, .ref m0, .ref m1, .ref mu, .ref mv, .ref u0, .ref u1, .ref iz, .int 0, .ref mb, .int 0, .int 0, .int 0, .int 0, .int 0, .int 0, .int 0]))] sz) := by
  refine Met.ofW (cc := cX11_throwsIf) (maxL := 3) (ret := (some .boolean)) (by decide) rfl ?_
  intro p e s m args below meth c s₁ B hml hv
  obtain ⟨rfl, hsz, hP, hK, hD0, hX⟩ := hv
  have hx := B.exec
  have hb := B.bytes
  have hr := B.returns
  have hts := ws_all (atoms_spec (ws := ws_ yX11_throwsIf cX11_throwsIf 3 (some .boolean)) B.pre)
  have hown : s.vm.findClass RX11 = some m.cls := findClass_of_methodNamed B.named
  have hlocks := B.notSynchronized
  subst hsz
  have hD := hD0.self (sz := s.heap.size)
  generalize hAe : va_A [(mo, .inr (11, [.ref mw, .ref ma, .ref mf, .ref m0, .ref m1, .ref mu, .ref mv, .ref u0, .ref u1, .ref iz, .int 0, .ref mb, .int 0, .int 0, .int 0, .int 0, .int 0, .int 0, .int 0]))] s.heap.size = A at hD hX ⊢
  have hA : ∀ q : Nat, s.heap.size ≤ q → A q := fun q h => by rw [← hAe]; exact Or.inr h
  have hS : va_S A s.heap s.heap [] := va_S.rf
  have hl := lv_entry ([.ref mo, .int 1, .int 1]) (n := 3) (Nat.le_of_ble_eq_true rfl)
  rw [lg_entry_eq]
  generalize (lg_sl ([.ref mo, .int 1, .int 1]) ++ List.replicate (3 - (lg_sl ([.ref mo, .int 1, .int 1])).length) Slot.unset).toArray = ls at hl ⊢
  have hl : lv_has ls 3 [(0, .ref mo), (1, .int 1), (2, .int 1)] := hl
  refine lv_aload_n hx hb dX11_throwsIf_0 rfl (lv_at hl 0 rfl) ?_
  refine va_get (v := .int 0) (D := D) (ci := 11) (C := RX11) (T := TX11) (N := 19) hx hb hts in_X11 hown hK hP 0 rfl rfl 10 (by decide) (hts _ kl_RX11_49) (fun _ h9 => h9) rfl dX11_throwsIf_1 ?_
  refine lv_if_ne (tgt := 16) hx hb dX11_throwsIf_4 (by decide) (fun hc => absurd (by decide) hc) (fun _ => ?_)
  refine lv_iload_n hx hb dX11_throwsIf_7 rfl (lv_at hl 1 rfl) ?_
  refine lv_if_eq (tgt := 16) hx hb dX11_throwsIf_8 (by decide) (fun hc => absurd hc (by decide)) (fun _ => ?_)
  refine lv_aload_n hx hb dX11_throwsIf_11 rfl (lv_at hl 0 rfl) ?_
  refine lv_iload_n hx hb dX11_throwsIf_12 rfl (lv_at hl 2 rfl) ?_
  refine va_put (v := .int 1) (ty := .int) (D := D) (ci := 11) (C := RX11) (T := TX11) (N := 19) hx hb hts in_X11 tyX11 tyX11_ok nmX11 hown hK hP hD hS 0 rfl rfl 10 (by decide) (hts _ kl_RX11_49) (fun _ h9 => h9) rfl (by decide +kernel) rfl rfl (Nat.le_of_ble_eq_true rfl) dX11_throwsIf_13 (fun H locs hP hD hS => ?_)
  have hP : va_P D vwCl [(mo, .inr (11, [.ref mw, .ref ma, .ref mf, .ref m0, .ref m1, .ref mu, .ref mv, .ref u0, .ref u1, .ref iz, .int 1, .ref mb, .int 0, .int 0, .int 0, .int 0, .int 0, .int 0, .int 0]))] H := hP
  have hD : va_D A [(mo, .inr (11, [.ref mw, .ref ma, .ref mf, .ref m0, .ref m1, .ref mu, .ref mv, .ref u0, .ref u1, .ref iz, .int 1, .ref mb, .int 0, .int 0, .int 0, .int 0, .int 0, .int 0, .int 0]))] := hD
  refine lv_aload_n hx hb dX11_throwsIf_16 rfl (lv_at hl 0 rfl) ?_
  refine va_get (v := .int 1) (D := D) (ci := 11) (C := RX11) (T := TX11) (N := 19) hx hb hts in_X11 hown hK hP 0 rfl rfl 10 (by decide) (hts _ kl_RX11_49) (fun _ h9 => h9) rfl dX11_throwsIf_17 ?_
  refine lv_if_eq (tgt := 27) hx hb dX11_throwsIf_20 (by decide) (fun hc => absurd hc (by decide)) (fun _ => ?_)
  refine lv_iconst (v := 1) hx hb dX11_throwsIf_23 (by decide) ?_
  refine lv_goto (tgt := 28) hx hb dX11_throwsIf_24 (by decide) ?_
  have hP9 := hP.sub (ws' := [(mo, .inr (11, [.ref mw, .ref ma, .ref mf, .ref m0, .ref m1, .ref mu, .ref mv, .ref u0, .ref u1, .ref iz, .int 1, .ref mb, .int 0, .int 0, .int 0, .int 0, .int 0, .int 0, .int 0]))]) [0] rfl
  have hD9 := hD.sub (ws' := [(mo, .inr (11, [.ref mw, .ref ma, .ref mf, .ref m0, .ref m1, .ref mu, .ref mv, .ref u0, .ref u1, .ref iz, .int 1, .ref mb, .int 0, .int 0, .int 0, .int 0, .int 0, .int 0, .int 0]))]) [0] (by decide) rfl
  exact W.zret (v := 1) hx hb hr (by decide) (fun t ht hW => ⟨⟨1, (), rfl, rfl, by rw [ht]; exact hP9, by rw [hAe]; exact hD9⟩, hS.F ht⟩) hS.2.2 dX11_throwsIf_28
set_option maxRecDepth 100000 in
set_option maxHeartbeats 4000000 in
theorem m_throwsIf_12 (l : Launch) (D : va_G) (ct : Nat → ClassId) (mo : Nat) (mw : Nat) (ma : Nat) (mf : Nat) (m0 : Nat) (m1 : Nat) (mu : Nat) (mv : Nat) (u0 : Nat) (u1 : Nat) (iz : Nat) (mb : Nat) (sz : Nat) : Met l yX11_throwsIf (ws_ yX11_throwsIf cX11_throwsIf 3 (some .boolean)) ({ frames := 0, cells := 0, slots := 0, locals := 0 } : Room) (va_Pc [.ref mo, .int 1, .int 2] (cmP D ct sz [(mo, .inr (11, [.ref mw, .ref ma, .ref mf, .ref m0, .ref m1, .ref mu, .ref mv, .ref u0, .ref u1, .ref iz, .int 0, .ref mb, .int 0, .int 0, .int 0, .int 0, .int 0, .int 0, .int 0]))])) (va_Qi (fun (r : Int32) (_ : Unit) => r = 1) (cmB D [(mo, .inr (11, [.ref mw, .ref ma, .ref mf, .ref m0, .ref m1, .ref mu, .ref mv, .ref u0, .ref u1, .ref iz, .int 0, .ref mb, .int 0, .int 0, .int 0, .int 0, .int 0, .int 0, .int 0]))] sz (fun _ : Unit => [(mo, .inr (11, [.ref mw, .ref ma, .ref mf, .ref m0, .ref m1, .ref mu, .ref mv, .ref u0, .ref u1, .ref iz, .int 2, .ref mb, .int 0, .int 0, .int 0, .int 0, .int 0, .int 0, .int 0]))])) (va_A [(mo, .inr (11, [.ref mw, .ref ma, .ref mf, .ref m0, .ref m1, .ref mu, .ref mv, .ref u0, .ref u1, .ref iz, .int 0, .ref mb, .int 0, .int 0, .int 0, .int 0, .int 0, .int 0, .int 0]))] sz)) 0 0 (va_A [(mo, .inr (11, [.ref mw, .ref ma, .ref mf, .ref m0, .ref m1, .ref mu, .ref mv, .ref u0, .ref u1, .ref iz, .int 0, .ref mb, .int 0, .int 0, .int 0, .int 0, .int 0, .int 0, .int 0]))] sz) := by
  refine Met.ofW (cc := cX11_throwsIf) (maxL := 3) (ret := (some .boolean)) (by decide) rfl ?_
  intro p e s m args below meth c s₁ B hml hv
  obtain ⟨rfl, hsz, hP, hK, hD0, hX⟩ := hv
  have hx := B.exec
  have hb := B.bytes
  have hr := B.returns
  have hts := ws_all (atoms_spec (ws := ws_ yX11_throwsIf cX11_throwsIf 3 (some .boolean)) B.pre)
  have hown : s.vm.findClass RX11 = some m.cls := findClass_of_methodNamed B.named
  have hlocks := B.notSynchronized
  subst hsz
  have hD := hD0.self (sz := s.heap.size)
  generalize hAe : va_A [(mo, .inr (11, [.ref mw, .ref ma, .ref mf, .ref m0, .ref m1, .ref mu, .ref mv, .ref u0, .ref u1, .ref iz, .int 0, .ref mb, .int 0, .int 0, .int 0, .int 0, .int 0, .int 0, .int 0]))] s.heap.size = A at hD hX ⊢
  have hA : ∀ q : Nat, s.heap.size ≤ q → A q := fun q h => by rw [← hAe]; exact Or.inr h
  have hS : va_S A s.heap s.heap [] := va_S.rf
  have hl := lv_entry ([.ref mo, .int 1, .int 2]) (n := 3) (Nat.le_of_ble_eq_true rfl)
  rw [lg_entry_eq]
  generalize (lg_sl ([.ref mo, .int 1, .int 2]) ++ List.replicate (3 - (lg_sl ([.ref mo, .int 1, .int 2])).length) Slot.unset).toArray = ls at hl ⊢
  have hl : lv_has ls 3 [(0, .ref mo), (1, .int 1), (2, .int 2)] := hl
  refine lv_aload_n hx hb dX11_throwsIf_0 rfl (lv_at hl 0 rfl) ?_
  refine va_get (v := .int 0) (D := D) (ci := 11) (C := RX11) (T := TX11) (N := 19) hx hb hts in_X11 hown hK hP 0 rfl rfl 10 (by decide) (hts _ kl_RX11_49) (fun _ h9 => h9) rfl dX11_throwsIf_1 ?_
  refine lv_if_ne (tgt := 16) hx hb dX11_throwsIf_4 (by decide) (fun hc => absurd (by decide) hc) (fun _ => ?_)
  refine lv_iload_n hx hb dX11_throwsIf_7 rfl (lv_at hl 1 rfl) ?_
  refine lv_if_eq (tgt := 16) hx hb dX11_throwsIf_8 (by decide) (fun hc => absurd hc (by decide)) (fun _ => ?_)
  refine lv_aload_n hx hb dX11_throwsIf_11 rfl (lv_at hl 0 rfl) ?_
  refine lv_iload_n hx hb dX11_throwsIf_12 rfl (lv_at hl 2 rfl) ?_
  refine va_put (v := .int 2) (ty := .int) (D := D) (ci := 11) (C := RX11) (T := TX11) (N := 19) hx hb hts in_X11 tyX11 tyX11_ok nmX11 hown hK hP hD hS 0 rfl rfl 10 (by decide) (hts _ kl_RX11_49) (fun _ h9 => h9) rfl (by decide +kernel) rfl rfl (Nat.le_of_ble_eq_true rfl) dX11_throwsIf_13 (fun H locs hP hD hS => ?_)
  have hP : va_P D vwCl [(mo, .inr (11, [.ref mw, .ref ma, .ref mf, .ref m0, .ref m1, .ref mu, .ref mv, .ref u0, .ref u1, .ref iz, .int 2, .ref mb, .int 0, .int 0, .int 0, .int 0, .int 0, .int 0, .int 0]))] H := hP
  have hD : va_D A [(mo, .inr (11, [.ref mw, .ref ma, .ref mf, .ref m0, .ref m1, .ref mu, .ref mv, .ref u0, .ref u1, .ref iz, .int 2, .ref mb, .int 0, .int 0, .int 0, .int 0, .int 0, .int 0, .int 0]))] := hD
  refine lv_aload_n hx hb dX11_throwsIf_16 rfl (lv_at hl 0 rfl) ?_
  refine va_get (v := .int 2) (D := D) (ci := 11) (C := RX11) (T := TX11) (N := 19) hx hb hts in_X11 hown hK hP 0 rfl rfl 10 (by decide) (hts _ kl_RX11_49) (fun _ h9 => h9) rfl dX11_throwsIf_17 ?_
  refine lv_if_eq (tgt := 27) hx hb dX11_throwsIf_20 (by decide) (fun hc => absurd hc (by decide)) (fun _ => ?_)
  refine lv_iconst (v := 1) hx hb dX11_throwsIf_23 (by decide) ?_
  refine lv_goto (tgt := 28) hx hb dX11_throwsIf_24 (by decide) ?_
  have hP9 := hP.sub (ws' := [(mo, .inr (11, [.ref mw, .ref ma, .ref mf, .ref m0, .ref m1, .ref mu, .ref mv, .ref u0, .ref u1, .ref iz, .int 2, .ref mb, .int 0, .int 0, .int 0, .int 0, .int 0, .int 0, .int 0]))]) [0] rfl
  have hD9 := hD.sub (ws' := [(mo, .inr (11, [.ref mw, .ref ma, .ref mf, .ref m0, .ref m1, .ref mu, .ref mv, .ref u0, .ref u1, .ref iz, .int 2, .ref mb, .int 0, .int 0, .int 0, .int 0, .int 0, .int 0, .int 0]))]) [0] (by decide) rfl
  exact W.zret (v := 1) hx hb hr (by decide) (fun t ht hW => ⟨⟨1, (), rfl, rfl, by rw [ht]; exact hP9, by rw [hAe]; exact hD9⟩, hS.F ht⟩) hS.2.2 dX11_throwsIf_28
theorem dX11_noChannel_0 : decode cX11_noChannel 0 = .ok (.aload_n 0, 1) := by decide +kernel
theorem dX11_noChannel_1 : decode cX11_noChannel 1 = .ok (.iconst 0, 1) := by decide +kernel
theorem dX11_noChannel_2 : decode cX11_noChannel 2 = .ok (.putfield 49, 3) := by decide +kernel
theorem dX11_noChannel_5 : decode cX11_noChannel 5 = .ok (.aload_n 0, 1) := by decide +kernel
theorem dX11_noChannel_6 : decode cX11_noChannel 6 = .ok (.iload_n 1, 1) := by decide +kernel
theorem dX11_noChannel_7 : decode cX11_noChannel 7 = .ok (.i2l, 1) := by decide +kernel
theorem dX11_noChannel_8 : decode cX11_noChannel 8 = .ok (.lconst 0, 1) := by decide +kernel
theorem dX11_noChannel_9 : decode cX11_noChannel 9 = .ok (.aload_n 0, 1) := by decide +kernel
theorem dX11_noChannel_10 : decode cX11_noChannel 10 = .ok (.getfield 9, 3) := by decide +kernel
theorem dX11_noChannel_13 : decode cX11_noChannel 13 = .ok (.bipush 9, 2) := by decide +kernel
theorem dX11_noChannel_15 : decode cX11_noChannel 15 = .ok (.iaload, 1) := by decide +kernel
theorem dX11_noChannel_16 : decode cX11_noChannel 16 = .ok (.iconst 1, 1) := by decide +kernel
theorem dX11_noChannel_17 : decode cX11_noChannel 17 = .ok (.isub, 1) := by decide +kernel
theorem dX11_noChannel_18 : decode cX11_noChannel 18 = .ok (.i2l, 1) := by decide +kernel
theorem dX11_noChannel_19 : decode cX11_noChannel 19 = .ok (.invokestatic 70, 3) := by decide +kernel
theorem dX11_noChannel_22 : decode cX11_noChannel 22 = .ok (.ifCond .ne 7, 3) := by decide +kernel
theorem dX11_noChannel_25 : decode cX11_noChannel 25 = .ok (.iconst 1, 1) := by decide +kernel
theorem dX11_noChannel_26 : decode cX11_noChannel 26 = .ok (.goto 4, 3) := by decide +kernel
theorem dX11_noChannel_30 : decode cX11_noChannel 30 = .ok (.iconst 1, 1) := by decide +kernel
theorem dX11_noChannel_31 : decode cX11_noChannel 31 = .ok (.invokevirtual 328, 3) := by decide +kernel
theorem dX11_noChannel_34 : decode cX11_noChannel 34 = .ok (.ireturn, 1) := by decide +kernel
set_option maxRecDepth 100000 in
set_option maxHeartbeats 4000000 in
theorem m_noChannel (l : Launch) (D : va_G) (ct : Nat → ClassId) (mo : Nat) (mw : Nat) (ma : Nat) (mf : Nat) (m0 : Nat) (m1 : Nat) (mu : Nat) (mv : Nat) (u0 : Nat) (u1 : Nat) (iz : Nat) (mb : Nat) (c1 : Int32) (sz : Nat) : Met l yX11_noChannel (ws_ yX11_noChannel cX11_noChannel 2 (some .boolean)) ({ frames := 1, cells := 0, slots := 0, locals := 25 } : Room) (va_Pc [.ref mo, .int c1] (cmP D ct sz [(mo, .inr (11, [.ref mw, .ref ma, .ref mf, .ref m0, .ref m1, .ref mu, .ref mv, .ref u0, .ref u1, .ref iz, .int 0, .ref mb, .int 0, .int 0, .int 0, .int 0, .int 0, .int 0, .int 0])), (mw, .inl (ct 0, 958, .inl m_w0))])) (va_Qi (fun (r : Int32) (_ : Unit) => r = 1) (cmB D [(mo, .inr (11, [.ref mw, .ref ma, .ref mf, .ref m0, .ref m1, .ref mu, .ref mv, .ref u0, .ref u1, .ref iz, .int 0, .ref mb, .int 0, .int 0, .int 0, .int 0, .int 0, .int 0, .int 0])), (mw, .inl (ct 0, 958, .inl m_w0))] sz (fun _ : Unit => [(mo, .inr (11, [.ref mw, .ref ma, .ref mf, .ref m0, .ref m1, .ref mu, .ref mv, .ref u0, .ref u1, .ref iz, .int 1, .ref mb, .int 0, .int 0, .int 0, .int 0, .int 0, .int 0, .int 0])), (mw, .inl (ct 0, 958, .inl m_w0))])) (va_A [(mo, .inr (11, [.ref mw, .ref ma, .ref mf, .ref m0, .ref m1, .ref mu, .ref mv, .ref u0, .ref u1, .ref iz, .int 0, .ref mb, .int 0, .int 0, .int 0, .int 0, .int 0, .int 0, .int 0])), (mw, .inl (ct 0, 958, .inl m_w0))] sz)) 0 0 (va_A [(mo, .inr (11, [.ref mw, .ref ma, .ref mf, .ref m0, .ref m1, .ref mu, .ref mv, .ref u0, .ref u1, .ref iz, .int 0, .ref mb, .int 0, .int 0, .int 0, .int 0, .int 0, .int 0, .int 0])), (mw, .inl (ct 0, 958, .inl m_w0))] sz) := by
  refine Met.ofW (cc := cX11_noChannel) (maxL := 2) (ret := (some .boolean)) (by decide) rfl ?_
  intro p e s m args below meth c s₁ B hml hv
  obtain ⟨rfl, hsz, hP, hK, hD0, hX⟩ := hv
  have hx := B.exec
  have hb := B.bytes
  have hr := B.returns
  have hts := ws_all (atoms_spec (ws := ws_ yX11_noChannel cX11_noChannel 2 (some .boolean)) B.pre)
  have hown : s.vm.findClass RX11 = some m.cls := findClass_of_methodNamed B.named
  have hlocks := B.notSynchronized
  subst hsz
  have hD := hD0.self (sz := s.heap.size)
  generalize hAe : va_A [(mo, .inr (11, [.ref mw, .ref ma, .ref mf, .ref m0, .ref m1, .ref mu, .ref mv, .ref u0, .ref u1, .ref iz, .int 0, .ref mb, .int 0, .int 0, .int 0, .int 0, .int 0, .int 0, .int 0])), (mw, .inl (ct 0, 958, .inl m_w0))] s.heap.size = A at hD hX ⊢
  have hA : ∀ q : Nat, s.heap.size ≤ q → A q := fun q h => by rw [← hAe]; exact Or.inr h
  have hS : va_S A s.heap s.heap [] := va_S.rf
  have hl := lv_entry ([.ref mo, .int c1]) (n := 2) (Nat.le_of_ble_eq_true rfl)
  rw [lg_entry_eq]
  generalize (lg_sl ([.ref mo, .int c1]) ++ List.replicate (2 - (lg_sl ([.ref mo, .int c1])).length) Slot.unset).toArray = ls at hl ⊢
  have hl : lv_has ls 2 [(0, .ref mo), (1, .int c1)] := hl
  refine lv_aload_n hx hb dX11_noChannel_0 rfl (lv_at hl 0 rfl) ?_
  refine lv_iconst (v := 0) hx hb dX11_noChannel_1 (by decide) ?_
  refine va_put (v := .int 0) (ty := .int) (D := D) (ci := 11) (C := RX11) (T := TX11) (N := 19) hx hb hts in_X11 tyX11 tyX11_ok nmX11 hown hK hP hD hS 0 rfl rfl 10 (by decide) (hts _ kl_RX11_49) (fun _ h9 => h9) rfl (by decide +kernel) rfl rfl (Nat.le_of_ble_eq_true rfl) dX11_noChannel_2 (fun H locs hP hD hS => ?_)
  have hP : va_P D vwCl [(mo, .inr (11, [.ref mw, .ref ma, .ref mf, .ref m0, .ref m1, .ref mu, .ref mv, .ref u0, .ref u1, .ref iz, .int 0, .ref mb, .int 0, .int 0, .int 0, .int 0, .int 0, .int 0, .int 0])), (mw, .inl (ct 0, 958, .inl m_w0))] H := hP
  have hD : va_D A [(mo, .inr (11, [.ref mw, .ref ma, .ref mf, .ref m0, .ref m1, .ref mu, .ref mv, .ref u0, .ref u1, .ref iz, .int 0, .ref mb, .int 0, .int 0, .int 0, .int 0, .int 0, .int 0, .int 0])), (mw, .inl (ct 0, 958, .inl m_w0))] := hD
  refine lv_aload_n hx hb dX11_noChannel_5 rfl (lv_at hl 0 rfl) ?_
  refine lv_iload_n hx hb dX11_noChannel_6 rfl (lv_at hl 1 rfl) ?_
  refine lv_i2l hx hb dX11_noChannel_7 rfl ?_
  refine lv_lconst (v := 0) hx hb dX11_noChannel_8 (by decide) ?_
  refine lv_aload_n hx hb dX11_noChannel_9 rfl (lv_at hl 0 rfl) ?_
  refine va_get (v := .ref mw) (D := D) (ci := 11) (C := RX11) (T := TX11) (N := 19) hx hb hts in_X11 hown hK hP 0 rfl rfl 0 (by decide) (hts _ kl_RX11_9) (fun _ h9 => h9) rfl dX11_noChannel_10 ?_
  refine lv_bipush (v := 9) hx hb dX11_noChannel_13 (by decide) ?_
  refine va_iald hx hb hK hP 1 0 rfl rfl (cm_vin (by decide)) dX11_noChannel_15 ?_
  refine cm_cst (y := 0) (by first | rfl | decide +kernel) ?_
  refine lv_iconst (v := 1) hx hb dX11_noChannel_16 (by decide) ?_
  refine lv_isub hx hb dX11_noChannel_17 ?_
  refine cm_cst (y := (-1)) (by decide) ?_
  refine lv_i2l (v := (-1)) hx hb dX11_noChannel_18 (by decide) ?_
  refine cm_ki (wr := [(mo, .inr (11, [.ref mw, .ref ma, .ref mf, .ref m0, .ref m1, .ref mu, .ref mv, .ref u0, .ref u1, .ref iz, .int 0, .ref mb, .int 0, .int 0, .int 0, .int 0, .int 0, .int 0, .int 0])), (mw, .inl (ct 0, 958, .inl m_w0))]) (va_runS (As := [.long c1.toInt64, .long 0, .long (-1)]) (rest := [.ref mo]) ⟨hx, hb, hml, hown, hts⟩ (m_in l D ct c1.toInt64 0 (-1) _) (cm_S 3 hts kc_X11_in ki_RX11 kl_RX11_70 ks_X11_in kd_X11_in ⟨Nat.le_of_ble_eq_true rfl, Nat.le_of_ble_eq_true rfl⟩) (cm_preS hP hK hD hS hA hX [] rfl rfl rfl) rfl rfl hl.1 rfl (lv_room (Nat.le_of_ble_eq_true rfl)) dX11_noChannel_19 ⟨Nat.le_of_ble_eq_true rfl, Nat.le_of_ble_eq_true rfl⟩) hP hD hS hA [] [0, 1] rfl rfl rfl (by decide) (fun r_1 u H locs hw_2 hP hD hS => ?_)
  have hw_2 : r_1 = (cm_rng c1.toInt64 0 (-1)) := hw_2
  obtain rfl := hw_2
  have hP : va_P D vwCl [(mo, .inr (11, [.ref mw, .ref ma, .ref mf, .ref m0, .ref m1, .ref mu, .ref mv, .ref u0, .ref u1, .ref iz, .int 0, .ref mb, .int 0, .int 0, .int 0, .int 0, .int 0, .int 0, .int 0])), (mw, .inl (ct 0, 958, .inl m_w0))] H := hP
  have hD : va_D A [(mo, .inr (11, [.ref mw, .ref ma, .ref mf, .ref m0, .ref m1, .ref mu, .ref mv, .ref u0, .ref u1, .ref iz, .int 0, .ref mb, .int 0, .int 0, .int 0, .int 0, .int 0, .int 0, .int 0])), (mw, .inl (ct 0, 958, .inl m_w0))] := hD
  refine lv_if_ne (tgt := 29) hx hb dX11_noChannel_22 (by decide) (fun hc => absurd (cm_in_m _) hc) (fun _ => ?_)
  refine lv_iconst (v := 1) hx hb dX11_noChannel_25 (by decide) ?_
  refine lv_goto (tgt := 30) hx hb dX11_noChannel_26 (by decide) ?_
  refine lv_iconst (v := 1) hx hb dX11_noChannel_30 (by decide) ?_
  refine cm_ki (wr := [(mw, .inl (ct 0, 958, .inl m_w0))]) (va_runV (As := [.int 1, .int 1]) (rest := []) ⟨hx, hb, hml, hown, hts⟩ (m_throwsIf_11 l D ct mo mw ma mf m0 m1 mu mv u0 u1 iz mb _) (cm_V 2 hts kc_X11_throwsIf ki_RX11 kl_RX11_328 kv_X11_throwsIf kx_X11_throwsIf kd_X11_throwsIf ⟨Nat.le_of_ble_eq_true rfl, Nat.le_of_ble_eq_true rfl⟩) (cm_preV hP hK hD hS hA hX [0] rfl rfl rfl (q0 := 0) (ci := 11) rfl rfl) rfl rfl hl.1 rfl (lv_room (Nat.le_of_ble_eq_true rfl)) dX11_noChannel_31 ⟨Nat.le_of_ble_eq_true rfl, Nat.le_of_ble_eq_true rfl⟩) hP hD hS hA [0] [1] rfl rfl rfl (by decide) (fun r_3 u H locs hw_4 hP hD hS => ?_)
  have hw_4 : r_3 = 1 := hw_4
  obtain rfl := hw_4
  have hP : va_P D vwCl [(mw, .inl (ct 0, 958, .inl m_w0)), (mo, .inr (11, [.ref mw, .ref ma, .ref mf, .ref m0, .ref m1, .ref mu, .ref mv, .ref u0, .ref u1, .ref iz, .int 1, .ref mb, .int 0, .int 0, .int 0, .int 0, .int 0, .int 0, .int 0]))] H := hP
  have hD : va_D A [(mw, .inl (ct 0, 958, .inl m_w0)), (mo, .inr (11, [.ref mw, .ref ma, .ref mf, .ref m0, .ref m1, .ref mu, .ref mv, .ref u0, .ref u1, .ref iz, .int 1, .ref mb, .int 0, .int 0, .int 0, .int 0, .int 0, .int 0, .int 0]))] := hD
  have hP9 := hP.sub (ws' := [(mo, .inr (11, [.ref mw, .ref ma, .ref mf, .ref m0, .ref m1, .ref mu, .ref mv, .ref u0, .ref u1, .ref iz, .int 1, .ref mb, .int 0, .int 0, .int 0, .int 0, .int 0, .int 0, .int 0])), (mw, .inl (ct 0, 958, .inl m_w0))]) [1, 0] rfl
  have hD9 := hD.sub (ws' := [(mo, .inr (11, [.ref mw, .ref ma, .ref mf, .ref m0, .ref m1, .ref mu, .ref mv, .ref u0, .ref u1, .ref iz, .int 1, .ref mb, .int 0, .int 0, .int 0, .int 0, .int 0, .int 0, .int 0])), (mw, .inl (ct 0, 958, .inl m_w0))]) [1, 0] (by decide) rfl
  exact W.zret (v := 1) hx hb hr (by decide) (fun t ht hW => ⟨⟨1, (), rfl, rfl, by rw [ht]; exact hP9, by rw [hAe]; exact hD9⟩, hS.F ht⟩) hS.2.2 dX11_noChannel_34
theorem dX11_noProgram_0 : decode cX11_noProgram 0 = .ok (.aload_n 0, 1) := by decide +kernel
theorem dX11_noProgram_1 : decode cX11_noProgram 1 = .ok (.iload_n 1, 1) := by decide +kernel
theorem dX11_noProgram_2 : decode cX11_noProgram 2 = .ok (.invokevirtual 344, 3) := by decide +kernel
theorem dX11_noProgram_5 : decode cX11_noProgram 5 = .ok (.ifCond .ne 35, 3) := by decide +kernel
theorem dX11_noProgram_40 : decode cX11_noProgram 40 = .ok (.iconst 1, 1) := by decide +kernel
theorem dX11_noProgram_41 : decode cX11_noProgram 41 = .ok (.goto 4, 3) := by decide +kernel
theorem dX11_noProgram_45 : decode cX11_noProgram 45 = .ok (.ireturn, 1) := by decide +kernel
set_option maxRecDepth 100000 in
set_option maxHeartbeats 4000000 in
theorem m_noProgram (l : Launch) (D : va_G) (ct : Nat → ClassId) (mo : Nat) (mw : Nat) (ma : Nat) (mf : Nat) (m0 : Nat) (m1 : Nat) (mu : Nat) (mv : Nat) (u0 : Nat) (u1 : Nat) (iz : Nat) (mb : Nat) (c1 : Int32) (c2 : Int32) (sz : Nat) : Met l yX11_noProgram (ws_ yX11_noProgram cX11_noProgram 3 (some .boolean)) ({ frames := 2, cells := 0, slots := 0, locals := 46 } : Room) (va_Pc [.ref mo, .int c1, .int c2] (cmP D ct sz [(mo, .inr (11, [.ref mw, .ref ma, .ref mf, .ref m0, .ref m1, .ref mu, .ref mv, .ref u0, .ref u1, .ref iz, .int 0, .ref mb, .int 0, .int 0, .int 0, .int 0, .int 0, .int 0, .int 0])), (mw, .inl (ct 0, 958, .inl m_w0))])) (va_Qi (fun (r : Int32) (_ : Unit) => r = 1) (cmB D [(mo, .inr (11, [.ref mw, .ref ma, .ref mf, .ref m0, .ref m1, .ref mu, .ref mv, .ref u0, .ref u1, .ref iz, .int 0, .ref mb, .int 0, .int 0, .int 0, .int 0, .int 0, .int 0, .int 0])), (mw, .inl (ct 0, 958, .inl m_w0))] sz (fun _ : Unit => [(mo, .inr (11, [.ref mw, .ref ma, .ref mf, .ref m0, .ref m1, .ref mu, .ref mv, .ref u0, .ref u1, .ref iz, .int 1, .ref mb, .int 0, .int 0, .int 0, .int 0, .int 0, .int 0, .int 0])), (mw, .inl (ct 0, 958, .inl m_w0))])) (va_A [(mo, .inr (11, [.ref mw, .ref ma, .ref mf, .ref m0, .ref m1, .ref mu, .ref mv, .ref u0, .ref u1, .ref iz, .int 0, .ref mb, .int 0, .int 0, .int 0, .int 0, .int 0, .int 0, .int 0])), (mw, .inl (ct 0, 958, .inl m_w0))] sz)) 0 0 (va_A [(mo, .inr (11, [.ref mw, .ref ma, .ref mf, .ref m0, .ref m1, .ref mu, .ref mv, .ref u0, .ref u1, .ref iz, .int 0, .ref mb, .int 0, .int 0, .int 0, .int 0, .int 0, .int 0, .int 0])), (mw, .inl (ct 0, 958, .inl m_w0))] sz) := by
  refine Met.ofW (cc := cX11_noProgram) (maxL := 3) (ret := (some .boolean)) (by decide) rfl ?_
  intro p e s m args below meth c s₁ B hml hv
  obtain ⟨rfl, hsz, hP, hK, hD0, hX⟩ := hv
  have hx := B.exec
  have hb := B.bytes
  have hr := B.returns
  have hts := ws_all (atoms_spec (ws := ws_ yX11_noProgram cX11_noProgram 3 (some .boolean)) B.pre)
  have hown : s.vm.findClass RX11 = some m.cls := findClass_of_methodNamed B.named
  have hlocks := B.notSynchronized
  subst hsz
  have hD := hD0.self (sz := s.heap.size)
  generalize hAe : va_A [(mo, .inr (11, [.ref mw, .ref ma, .ref mf, .ref m0, .ref m1, .ref mu, .ref mv, .ref u0, .ref u1, .ref iz, .int 0, .ref mb, .int 0, .int 0, .int 0, .int 0, .int 0, .int 0, .int 0])), (mw, .inl (ct 0, 958, .inl m_w0))] s.heap.size = A at hD hX ⊢
  have hA : ∀ q : Nat, s.heap.size ≤ q → A q := fun q h => by rw [← hAe]; exact Or.inr h
  have hS : va_S A s.heap s.heap [] := va_S.rf
  have hl := lv_entry ([.ref mo, .int c1, .int c2]) (n := 3) (Nat.le_of_ble_eq_true rfl)
  rw [lg_entry_eq]
  generalize (lg_sl ([.ref mo, .int c1, .int c2]) ++ List.replicate (3 - (lg_sl ([.ref mo, .int c1, .int c2])).length) Slot.unset).toArray = ls at hl ⊢
  have hl : lv_has ls 3 [(0, .ref mo), (1, .int c1), (2, .int c2)] := hl
  refine lv_aload_n hx hb dX11_noProgram_0 rfl (lv_at hl 0 rfl) ?_
  refine lv_iload_n hx hb dX11_noProgram_1 rfl (lv_at hl 1 rfl) ?_
  refine cm_ki (wr := []) (va_runV (As := [.int c1]) (rest := []) ⟨hx, hb, hml, hown, hts⟩ (m_noChannel l D ct mo mw ma mf m0 m1 mu mv u0 u1 iz mb c1 _) (cm_V 1 hts kc_X11_noChannel ki_RX11 kl_RX11_344 kv_X11_noChannel kx_X11_noChannel kd_X11_noChannel ⟨Nat.le_of_ble_eq_true rfl, Nat.le_of_ble_eq_true rfl⟩) (cm_preV hP hK hD hS hA hX [0, 1] rfl rfl rfl (q0 := 0) (ci := 11) rfl rfl) rfl rfl hl.1 rfl (lv_room (Nat.le_of_ble_eq_true rfl)) dX11_noProgram_2 ⟨Nat.le_of_ble_eq_true rfl, Nat.le_of_ble_eq_true rfl⟩) hP hD hS hA [0, 1] [] rfl rfl rfl (by decide) (fun r_1 u H locs hw_2 hP hD hS => ?_)
  have hw_2 : r_1 = 1 := hw_2
  obtain rfl := hw_2
  have hP : va_P D vwCl [(mo, .inr (11, [.ref mw, .ref ma, .ref mf, .ref m0, .ref m1, .ref mu, .ref mv, .ref u0, .ref u1, .ref iz, .int 1, .ref mb, .int 0, .int 0, .int 0, .int 0, .int 0, .int 0, .int 0])), (mw, .inl (ct 0, 958, .inl m_w0))] H := hP
  have hD : va_D A [(mo, .inr (11, [.ref mw, .ref ma, .ref mf, .ref m0, .ref m1, .ref mu, .ref mv, .ref u0, .ref u1, .ref iz, .int 1, .ref mb, .int 0, .int 0, .int 0, .int 0, .int 0, .int 0, .int 0])), (mw, .inl (ct 0, 958, .inl m_w0))] := hD
  refine lv_if_ne (tgt := 40) hx hb dX11_noProgram_5 (by decide) (fun _ => ?_) (fun hc => absurd hc (by decide))
  refine lv_iconst (v := 1) hx hb dX11_noProgram_40 (by decide) ?_
  refine lv_goto (tgt := 45) hx hb dX11_noProgram_41 (by decide) ?_
  have hP9 := hP.sub (ws' := [(mo, .inr (11, [.ref mw, .ref ma, .ref mf, .ref m0, .ref m1, .ref mu, .ref mv, .ref u0, .ref u1, .ref iz, .int 1, .ref mb, .int 0, .int 0, .int 0, .int 0, .int 0, .int 0, .int 0])), (mw, .inl (ct 0, 958, .inl m_w0))]) [0, 1] rfl
  have hD9 := hD.sub (ws' := [(mo, .inr (11, [.ref mw, .ref ma, .ref mf, .ref m0, .ref m1, .ref mu, .ref mv, .ref u0, .ref u1, .ref iz, .int 1, .ref mb, .int 0, .int 0, .int 0, .int 0, .int 0, .int 0, .int 0])), (mw, .inl (ct 0, 958, .inl m_w0))]) [0, 1] (by decide) rfl
  exact W.zret (v := 1) hx hb hr (by decide) (fun t ht hW => ⟨⟨1, (), rfl, rfl, by rw [ht]; exact hP9, by rw [hAe]; exact hD9⟩, hS.F ht⟩) hS.2.2 dX11_noProgram_45
theorem dX11_turns_0 : decode cX11_turns 0 = .ok (.aload_n 0, 1) := by decide +kernel
theorem dX11_turns_1 : decode cX11_turns 1 = .ok (.iload_n 1, 1) := by decide +kernel
theorem dX11_turns_2 : decode cX11_turns 2 = .ok (.invokevirtual 344, 3) := by decide +kernel
theorem dX11_turns_5 : decode cX11_turns 5 = .ok (.ifCond .eq 5, 3) := by decide +kernel
theorem dX11_turns_8 : decode cX11_turns 8 = .ok (.iconst 0, 1) := by decide +kernel
theorem dX11_turns_9 : decode cX11_turns 9 = .ok (.ireturn, 1) := by decide +kernel
set_option maxRecDepth 100000 in
set_option maxHeartbeats 4000000 in
theorem m_turns (l : Launch) (D : va_G) (ct : Nat → ClassId) (mo : Nat) (mw : Nat) (ma : Nat) (mf : Nat) (m0 : Nat) (m1 : Nat) (mu : Nat) (mv : Nat) (u0 : Nat) (u1 : Nat) (iz : Nat) (mb : Nat) (c1 : Int32) (c2 : Int32) (c3 : Int32) (sz : Nat) : Met l yX11_turns (ws_ yX11_turns cX11_turns 4 (some .int)) ({ frames := 2, cells := 0, slots := 0, locals := 46 } : Room) (va_Pc [.ref mo, .int c1, .int c2, .int c3] (cmP D ct sz [(mo, .inr (11, [.ref mw, .ref ma, .ref mf, .ref m0, .ref m1, .ref mu, .ref mv, .ref u0, .ref u1, .ref iz, .int 0, .ref mb, .int 0, .int 0, .int 0, .int 0, .int 0, .int 0, .int 0])), (mw, .inl (ct 0, 958, .inl m_w0))])) (va_Qi (fun (r : Int32) (_ : Unit) => True) (cmB D [(mo, .inr (11, [.ref mw, .ref ma, .ref mf, .ref m0, .ref m1, .ref mu, .ref mv, .ref u0, .ref u1, .ref iz, .int 0, .ref mb, .int 0, .int 0, .int 0, .int 0, .int 0, .int 0, .int 0])), (mw, .inl (ct 0, 958, .inl m_w0))] sz (fun _ : Unit => [(mo, .inr (11, [.ref mw, .ref ma, .ref mf, .ref m0, .ref m1, .ref mu, .ref mv, .ref u0, .ref u1, .ref iz, .int 1, .ref mb, .int 0, .int 0, .int 0, .int 0, .int 0, .int 0, .int 0])), (mw, .inl (ct 0, 958, .inl m_w0))])) (va_A [(mo, .inr (11, [.ref mw, .ref ma, .ref mf, .ref m0, .ref m1, .ref mu, .ref mv, .ref u0, .ref u1, .ref iz, .int 0, .ref mb, .int 0, .int 0, .int 0, .int 0, .int 0, .int 0, .int 0])), (mw, .inl (ct 0, 958, .inl m_w0))] sz)) 0 0 (va_A [(mo, .inr (11, [.ref mw, .ref ma, .ref mf, .ref m0, .ref m1, .ref mu, .ref mv, .ref u0, .ref u1, .ref iz, .int 0, .ref mb, .int 0, .int 0, .int 0, .int 0, .int 0, .int 0, .int 0])), (mw, .inl (ct 0, 958, .inl m_w0))] sz) := by
  refine Met.ofW (cc := cX11_turns) (maxL := 4) (ret := (some .int)) (by decide) rfl ?_
  intro p e s m args below meth c s₁ B hml hv
  obtain ⟨rfl, hsz, hP, hK, hD0, hX⟩ := hv
  have hx := B.exec
  have hb := B.bytes
  have hr := B.returns
  have hts := ws_all (atoms_spec (ws := ws_ yX11_turns cX11_turns 4 (some .int)) B.pre)
  have hown : s.vm.findClass RX11 = some m.cls := findClass_of_methodNamed B.named
  have hlocks := B.notSynchronized
  subst hsz
  have hD := hD0.self (sz := s.heap.size)
  generalize hAe : va_A [(mo, .inr (11, [.ref mw, .ref ma, .ref mf, .ref m0, .ref m1, .ref mu, .ref mv, .ref u0, .ref u1, .ref iz, .int 0, .ref mb, .int 0, .int 0, .int 0, .int 0, .int 0, .int 0, .int 0])), (mw, .inl (ct 0, 958, .inl m_w0))] s.heap.size = A at hD hX ⊢
  have hA : ∀ q : Nat, s.heap.size ≤ q → A q := fun q h => by rw [← hAe]; exact Or.inr h
  have hS : va_S A s.heap s.heap [] := va_S.rf
  have hl := lv_entry ([.ref mo, .int c1, .int c2, .int c3]) (n := 4) (Nat.le_of_ble_eq_true rfl)
  rw [lg_entry_eq]
  generalize (lg_sl ([.ref mo, .int c1, .int c2, .int c3]) ++ List.replicate (4 - (lg_sl ([.ref mo, .int c1, .int c2, .int c3])).length) Slot.unset).toArray = ls at hl ⊢
  have hl : lv_has ls 4 [(0, .ref mo), (1, .int c1), (2, .int c2), (3, .int c3)] := hl
  refine lv_aload_n hx hb dX11_turns_0 rfl (lv_at hl 0 rfl) ?_
  refine lv_iload_n hx hb dX11_turns_1 rfl (lv_at hl 1 rfl) ?_
  refine cm_ki (wr := []) (va_runV (As := [.int c1]) (rest := []) ⟨hx, hb, hml, hown, hts⟩ (m_noChannel l D ct mo mw ma mf m0 m1 mu mv u0 u1 iz mb c1 _) (cm_V 1 hts kc_X11_noChannel ki_RX11 kl_RX11_344 kv_X11_noChannel kx_X11_noChannel kd_X11_noChannel ⟨Nat.le_of_ble_eq_true rfl, Nat.le_of_ble_eq_true rfl⟩) (cm_preV hP hK hD hS hA hX [0, 1] rfl rfl rfl (q0 := 0) (ci := 11) rfl rfl) rfl rfl hl.1 rfl (lv_room (Nat.le_of_ble_eq_true rfl)) dX11_turns_2 ⟨Nat.le_of_ble_eq_true rfl, Nat.le_of_ble_eq_true rfl⟩) hP hD hS hA [0, 1] [] rfl rfl rfl (by decide) (fun r_1 u H locs hw_2 hP hD hS => ?_)
  have hw_2 : r_1 = 1 := hw_2
  obtain rfl := hw_2
  have hP : va_P D vwCl [(mo, .inr (11, [.ref mw, .ref ma, .ref mf, .ref m0, .ref m1, .ref mu, .ref mv, .ref u0, .ref u1, .ref iz, .int 1, .ref mb, .int 0, .int 0, .int 0, .int 0, .int 0, .int 0, .int 0])), (mw, .inl (ct 0, 958, .inl m_w0))] H := hP
  have hD : va_D A [(mo, .inr (11, [.ref mw, .ref ma, .ref mf, .ref m0, .ref m1, .ref mu, .ref mv, .ref u0, .ref u1, .ref iz, .int 1, .ref mb, .int 0, .int 0, .int 0, .int 0, .int 0, .int 0, .int 0])), (mw, .inl (ct 0, 958, .inl m_w0))] := hD
  refine lv_if_eq (tgt := 10) hx hb dX11_turns_5 (by decide) (fun hc => absurd hc (by decide)) (fun _ => ?_)
  refine lv_iconst (v := 0) hx hb dX11_turns_8 (by decide) ?_
  have hP9 := hP.sub (ws' := [(mo, .inr (11, [.ref mw, .ref ma, .ref mf, .ref m0, .ref m1, .ref mu, .ref mv, .ref u0, .ref u1, .ref iz, .int 1, .ref mb, .int 0, .int 0, .int 0, .int 0, .int 0, .int 0, .int 0])), (mw, .inl (ct 0, 958, .inl m_w0))]) [0, 1] rfl
  have hD9 := hD.sub (ws' := [(mo, .inr (11, [.ref mw, .ref ma, .ref mf, .ref m0, .ref m1, .ref mu, .ref mv, .ref u0, .ref u1, .ref iz, .int 1, .ref mb, .int 0, .int 0, .int 0, .int 0, .int 0, .int 0, .int 0])), (mw, .inl (ct 0, 958, .inl m_w0))]) [0, 1] (by decide) rfl
  exact W.iret (v := 0) hx hb hr (fun t ht hW => ⟨⟨0, (), rfl, trivial, by rw [ht]; exact hP9, by rw [hAe]; exact hD9⟩, hS.F ht⟩) hS.2.2 dX11_turns_9
theorem dX11_thrown_0 : decode cX11_thrown 0 = .ok (.aload_n 0, 1) := by decide +kernel
theorem dX11_thrown_1 : decode cX11_thrown 1 = .ok (.getfield 49, 3) := by decide +kernel
theorem dX11_thrown_4 : decode cX11_thrown 4 = .ok (.ireturn, 1) := by decide +kernel
set_option maxRecDepth 100000 in
set_option maxHeartbeats 4000000 in
theorem m_thrown (l : Launch) (D : va_G) (ct : Nat → ClassId) (mo : Nat) (mw : Nat) (ma : Nat) (mf : Nat) (m0 : Nat) (m1 : Nat) (mu : Nat) (mv : Nat) (u0 : Nat) (u1 : Nat) (iz : Nat) (mb : Nat) (th : Int32) (sz : Nat) : Met l yX11_thrown (ws_ yX11_thrown cX11_thrown 1 (some .int)) ({ frames := 0, cells := 0, slots := 0, locals := 0 } : Room) (va_Pc [.ref mo] (cmP D ct sz [(mo, .inr (11, [.ref mw, .ref ma, .ref mf, .ref m0, .ref m1, .ref mu, .ref mv, .ref u0, .ref u1, .ref iz, .int th, .ref mb, .int 0, .int 0, .int 0, .int 0, .int 0, .int 0, .int 0]))])) (va_Qi (fun (r : Int32) (_ : Unit) => r = th) (cmB D [(mo, .inr (11, [.ref mw, .ref ma, .ref mf, .ref m0, .ref m1, .ref mu, .ref mv, .ref u0, .ref u1, .ref iz, .int th, .ref mb, .int 0, .int 0, .int 0, .int 0, .int 0, .int 0, .int 0]))] sz (fun _ : Unit => [(mo, .inr (11, [.ref mw, .ref ma, .ref mf, .ref m0, .ref m1, .ref mu, .ref mv, .ref u0, .ref u1, .ref iz, .int th, .ref mb, .int 0, .int 0, .int 0, .int 0, .int 0, .int 0, .int 0]))])) (va_A [(mo, .inr (11, [.ref mw, .ref ma, .ref mf, .ref m0, .ref m1, .ref mu, .ref mv, .ref u0, .ref u1, .ref iz, .int th, .ref mb, .int 0, .int 0, .int 0, .int 0, .int 0, .int 0, .int 0]))] sz)) 0 0 (va_A [(mo, .inr (11, [.ref mw, .ref ma, .ref mf, .ref m0, .ref m1, .ref mu, .ref mv, .ref u0, .ref u1, .ref iz, .int th, .ref mb, .int 0, .int 0, .int 0, .int 0, .int 0, .int 0, .int 0]))] sz) := by
  refine Met.ofW (cc := cX11_thrown) (maxL := 1) (ret := (some .int)) (by decide) rfl ?_
  intro p e s m args below meth c s₁ B hml hv
  obtain ⟨rfl, hsz, hP, hK, hD0, hX⟩ := hv
  have hx := B.exec
  have hb := B.bytes
  have hr := B.returns
  have hts := ws_all (atoms_spec (ws := ws_ yX11_thrown cX11_thrown 1 (some .int)) B.pre)
  have hown : s.vm.findClass RX11 = some m.cls := findClass_of_methodNamed B.named
  have hlocks := B.notSynchronized
  subst hsz
  have hD := hD0.self (sz := s.heap.size)
  generalize hAe : va_A [(mo, .inr (11, [.ref mw, .ref ma, .ref mf, .ref m0, .ref m1, .ref mu, .ref mv, .ref u0, .ref u1, .ref iz, .int th, .ref mb, .int 0, .int 0, .int 0, .int 0, .int 0, .int 0, .int 0]))] s.heap.size = A at hD hX ⊢
  have hA : ∀ q : Nat, s.heap.size ≤ q → A q := fun q h => by rw [← hAe]; exact Or.inr h
  have hS : va_S A s.heap s.heap [] := va_S.rf
  have hl := lv_entry ([.ref mo]) (n := 1) (Nat.le_of_ble_eq_true rfl)
  rw [lg_entry_eq]
  generalize (lg_sl ([.ref mo]) ++ List.replicate (1 - (lg_sl ([.ref mo])).length) Slot.unset).toArray = ls at hl ⊢
  have hl : lv_has ls 1 [(0, .ref mo)] := hl
  refine lv_aload_n hx hb dX11_thrown_0 rfl (lv_at hl 0 rfl) ?_
  refine va_get (v := .int th) (D := D) (ci := 11) (C := RX11) (T := TX11) (N := 19) hx hb hts in_X11 hown hK hP 0 rfl rfl 10 (by decide) (hts _ kl_RX11_49) (fun _ h9 => h9) rfl dX11_thrown_1 ?_
  have hP9 := hP.sub (ws' := [(mo, .inr (11, [.ref mw, .ref ma, .ref mf, .ref m0, .ref m1, .ref mu, .ref mv, .ref u0, .ref u1, .ref iz, .int th, .ref mb, .int 0, .int 0, .int 0, .int 0, .int 0, .int 0, .int 0]))]) [0] rfl
  have hD9 := hD.sub (ws' := [(mo, .inr (11, [.ref mw, .ref ma, .ref mf, .ref m0, .ref m1, .ref mu, .ref mv, .ref u0, .ref u1, .ref iz, .int th, .ref mb, .int 0, .int 0, .int 0, .int 0, .int 0, .int 0, .int 0]))]) [0] (by decide) rfl
  exact W.iret (v := th) hx hb hr (fun t ht hW => ⟨⟨th, (), rfl, rfl, by rw [ht]; exact hP9, by rw [hAe]; exact hD9⟩, hS.F ht⟩) hS.2.2 dX11_thrown_4
theorem dX11_start_0 : decode cX11_start 0 = .ok (.aload_n 0, 1) := by decide +kernel
theorem dX11_start_1 : decode cX11_start 1 = .ok (.iload_n 1, 1) := by decide +kernel
theorem dX11_start_2 : decode cX11_start 2 = .ok (.iload_n 2, 1) := by decide +kernel
theorem dX11_start_3 : decode cX11_start 3 = .ok (.invokevirtual 347, 3) := by decide +kernel
theorem dX11_start_6 : decode cX11_start 6 = .ok (.ifCond .eq 5, 3) := by decide +kernel
theorem dX11_start_9 : decode cX11_start 9 = .ok (.iconst 0, 1) := by decide +kernel
theorem dX11_start_10 : decode cX11_start 10 = .ok (.ireturn, 1) := by decide +kernel
set_option maxRecDepth 100000 in
set_option maxHeartbeats 4000000 in
theorem m_start_0 (l : Launch) (D : va_G) (ct : Nat → ClassId) (mo : Nat) (mw : Nat) (ma : Nat) (mf : Nat) (m0 : Nat) (m1 : Nat) (mu : Nat) (mv : Nat) (u0 : Nat) (u1 : Nat) (iz : Nat) (mb : Nat) (p1 : Int32) (p2 : Int32) (sz : Nat) : Met l yX11_start (ws_ yX11_start cX11_start 5 (some .int)) ({ frames := 3, cells := 0, slots := 0, locals := 68 } : Room) (va_Pc [.ref mo, .int p1, .int p2] (cmP D ct sz [(mo, .inr (11, [.ref mw, .ref ma, .ref mf, .ref m0, .ref m1, .ref mu, .ref mv, .ref u0, .ref u1, .ref iz, .int 0, .ref mb, .int 0, .int 0, .int 0, .int 0, .int 0, .int 0, .int 0])), (mw, .inl (ct 0, 958, .inl m_w0))])) (va_Qi (fun (r : Int32) (_ : Unit) => True) (cmB D [(mo, .inr (11, [.ref mw, .ref ma, .ref mf, .ref m0, .ref m1, .ref mu, .ref mv, .ref u0, .ref u1, .ref iz, .int 0, .ref mb, .int 0, .int 0, .int 0, .int 0, .int 0, .int 0, .int 0])), (mw, .inl (ct 0, 958, .inl m_w0))] sz (fun _ : Unit => [(mo, .inr (11, [.ref mw, .ref ma, .ref mf, .ref m0, .ref m1, .ref mu, .ref mv, .ref u0, .ref u1, .ref iz, .int 1, .ref mb, .int 0, .int 0, .int 0, .int 0, .int 0, .int 0, .int 0])), (mw, .inl (ct 0, 958, .inl m_w0))])) (va_A [(mo, .inr (11, [.ref mw, .ref ma, .ref mf, .ref m0, .ref m1, .ref mu, .ref mv, .ref u0, .ref u1, .ref iz, .int 0, .ref mb, .int 0, .int 0, .int 0, .int 0, .int 0, .int 0, .int 0])), (mw, .inl (ct 0, 958, .inl m_w0))] sz)) 0 0 (va_A [(mo, .inr (11, [.ref mw, .ref ma, .ref mf, .ref m0, .ref m1, .ref mu, .ref mv, .ref u0, .ref u1, .ref iz, .int 0, .ref mb, .int 0, .int 0, .int 0, .int 0, .int 0, .int 0, .int 0])), (mw, .inl (ct 0, 958, .inl m_w0))] sz) := by
  refine Met.ofW (cc := cX11_start) (maxL := 5) (ret := (some .int)) (by decide) rfl ?_
  intro p e s m args below meth c s₁ B hml hv
  obtain ⟨rfl, hsz, hP, hK, hD0, hX⟩ := hv
  have hx := B.exec
  have hb := B.bytes
  have hr := B.returns
  have hts := ws_all (atoms_spec (ws := ws_ yX11_start cX11_start 5 (some .int)) B.pre)
  have hown : s.vm.findClass RX11 = some m.cls := findClass_of_methodNamed B.named
  have hlocks := B.notSynchronized
  subst hsz
  have hD := hD0.self (sz := s.heap.size)
  generalize hAe : va_A [(mo, .inr (11, [.ref mw, .ref ma, .ref mf, .ref m0, .ref m1, .ref mu, .ref mv, .ref u0, .ref u1, .ref iz, .int 0, .ref mb, .int 0, .int 0, .int 0, .int 0, .int 0, .int 0, .int 0])), (mw, .inl (ct 0, 958, .inl m_w0))] s.heap.size = A at hD hX ⊢
  have hA : ∀ q : Nat, s.heap.size ≤ q → A q := fun q h => by rw [← hAe]; exact Or.inr h
  have hS : va_S A s.heap s.heap [] := va_S.rf
  have hl := lv_entry ([.ref mo, .int p1, .int p2]) (n := 5) (Nat.le_of_ble_eq_true rfl)
  rw [lg_entry_eq]
  generalize (lg_sl ([.ref mo, .int p1, .int p2]) ++ List.replicate (5 - (lg_sl ([.ref mo, .int p1, .int p2])).length) Slot.unset).toArray = ls at hl ⊢
  have hl : lv_has ls 5 [(0, .ref mo), (1, .int p1), (2, .int p2)] := hl
  refine lv_aload_n hx hb dX11_start_0 rfl (lv_at hl 0 rfl) ?_
  refine lv_iload_n hx hb dX11_start_1 rfl (lv_at hl 1 rfl) ?_
  refine lv_iload_n hx hb dX11_start_2 rfl (lv_at hl 2 rfl) ?_
  refine cm_ki (wr := []) (va_runV (As := [.int p1, .int p2]) (rest := []) ⟨hx, hb, hml, hown, hts⟩ (m_noProgram l D ct mo mw ma mf m0 m1 mu mv u0 u1 iz mb p1 p2 _) (cm_V 2 hts kc_X11_noProgram ki_RX11 kl_RX11_347 kv_X11_noProgram kx_X11_noProgram kd_X11_noProgram ⟨Nat.le_of_ble_eq_true rfl, Nat.le_of_ble_eq_true rfl⟩) (cm_preV hP hK hD hS hA hX [0, 1] rfl rfl rfl (q0 := 0) (ci := 11) rfl rfl) rfl rfl hl.1 rfl (lv_room (Nat.le_of_ble_eq_true rfl)) dX11_start_3 ⟨Nat.le_of_ble_eq_true rfl, Nat.le_of_ble_eq_true rfl⟩) hP hD hS hA [0, 1] [] rfl rfl rfl (by decide) (fun r_1 u H locs hw_2 hP hD hS => ?_)
  have hw_2 : r_1 = 1 := hw_2
  obtain rfl := hw_2
  have hP : va_P D vwCl [(mo, .inr (11, [.ref mw, .ref ma, .ref mf, .ref m0, .ref m1, .ref mu, .ref mv, .ref u0, .ref u1, .ref iz, .int 1, .ref mb, .int 0, .int 0, .int 0, .int 0, .int 0, .int 0, .int 0])), (mw, .inl (ct 0, 958, .inl m_w0))] H := hP
  have hD : va_D A [(mo, .inr (11, [.ref mw, .ref ma, .ref mf, .ref m0, .ref m1, .ref mu, .ref mv, .ref u0, .ref u1, .ref iz, .int 1, .ref mb, .int 0, .int 0, .int 0, .int 0, .int 0, .int 0, .int 0])), (mw, .inl (ct 0, 958, .inl m_w0))] := hD
  refine lv_if_eq (tgt := 11) hx hb dX11_start_6 (by decide) (fun hc => absurd hc (by decide)) (fun _ => ?_)
  refine lv_iconst (v := 0) hx hb dX11_start_9 (by decide) ?_
  have hP9 := hP.sub (ws' := [(mo, .inr (11, [.ref mw, .ref ma, .ref mf, .ref m0, .ref m1, .ref mu, .ref mv, .ref u0, .ref u1, .ref iz, .int 1, .ref mb, .int 0, .int 0, .int 0, .int 0, .int 0, .int 0, .int 0])), (mw, .inl (ct 0, 958, .inl m_w0))]) [0, 1] rfl
  have hD9 := hD.sub (ws' := [(mo, .inr (11, [.ref mw, .ref ma, .ref mf, .ref m0, .ref m1, .ref mu, .ref mv, .ref u0, .ref u1, .ref iz, .int 1, .ref mb, .int 0, .int 0, .int 0, .int 0, .int 0, .int 0, .int 0])), (mw, .inl (ct 0, 958, .inl m_w0))]) [0, 1] (by decide) rfl
  exact W.iret (v := 0) hx hb hr (fun t ht hW => ⟨⟨0, (), rfl, trivial, by rw [ht]; exact hP9, by rw [hAe]; exact hD9⟩, hS.F ht⟩) hS.2.2 dX11_start_10
theorem dX11_pause_0 : decode cX11_pause 0 = .ok (.aload_n 0, 1) := by decide +kernel
theorem dX11_pause_1 : decode cX11_pause 1 = .ok (.iload_n 1, 1) := by decide +kernel
theorem dX11_pause_2 : decode cX11_pause 2 = .ok (.iconst 1, 1) := by decide +kernel
theorem dX11_pause_3 : decode cX11_pause 3 = .ok (.iconst 2, 1) := by decide +kernel
theorem dX11_pause_4 : decode cX11_pause 4 = .ok (.invokevirtual 353, 3) := by decide +kernel
theorem dX11_pause_7 : decode cX11_pause 7 = .ok (.ireturn, 1) := by decide +kernel
set_option maxRecDepth 100000 in
set_option maxHeartbeats 4000000 in
theorem m_pause_0 (l : Launch) (D : va_G) (ct : Nat → ClassId) (mo : Nat) (mw : Nat) (ma : Nat) (mf : Nat) (m0 : Nat) (m1 : Nat) (mu : Nat) (mv : Nat) (u0 : Nat) (u1 : Nat) (iz : Nat) (mb : Nat) (p1 : Int32) (sz : Nat) : Met l yX11_pause (ws_ yX11_pause cX11_pause 2 (some .int)) ({ frames := 3, cells := 0, slots := 0, locals := 69 } : Room) (va_Pc [.ref mo, .int p1] (cmP D ct sz [(mo, .inr (11, [.ref mw, .ref ma, .ref mf, .ref m0, .ref m1, .ref mu, .ref mv, .ref u0, .ref u1, .ref iz, .int 0, .ref mb, .int 0, .int 0, .int 0, .int 0, .int 0, .int 0, .int 0])), (mw, .inl (ct 0, 958, .inl m_w0))])) (va_Qi (fun (r : Int32) (_ : Unit) => True) (cmB D [(mo, .inr (11, [.ref mw, .ref ma, .ref mf, .ref m0, .ref m1, .ref mu, .ref mv, .ref u0, .ref u1, .ref iz, .int 0, .ref mb, .int 0, .int 0, .int 0, .int 0, .int 0, .int 0, .int 0])), (mw, .inl (ct 0, 958, .inl m_w0))] sz (fun _ : Unit => [(mo, .inr (11, [.ref mw, .ref ma, .ref mf, .ref m0, .ref m1, .ref mu, .ref mv, .ref u0, .ref u1, .ref iz, .int 1, .ref mb, .int 0, .int 0, .int 0, .int 0, .int 0, .int 0, .int 0])), (mw, .inl (ct 0, 958, .inl m_w0))])) (va_A [(mo, .inr (11, [.ref mw, .ref ma, .ref mf, .ref m0, .ref m1, .ref mu, .ref mv, .ref u0, .ref u1, .ref iz, .int 0, .ref mb, .int 0, .int 0, .int 0, .int 0, .int 0, .int 0, .int 0])), (mw, .inl (ct 0, 958, .inl m_w0))] sz)) 0 0 (va_A [(mo, .inr (11, [.ref mw, .ref ma, .ref mf, .ref m0, .ref m1, .ref mu, .ref mv, .ref u0, .ref u1, .ref iz, .int 0, .ref mb, .int 0, .int 0, .int 0, .int 0, .int 0, .int 0, .int 0])), (mw, .inl (ct 0, 958, .inl m_w0))] sz) := by
  refine Met.ofW (cc := cX11_pause) (maxL := 2) (ret := (some .int)) (by decide) rfl ?_
  intro p e s m args below meth c s₁ B hml hv
  obtain ⟨rfl, hsz, hP, hK, hD0, hX⟩ := hv
  have hx := B.exec
  have hb := B.bytes
  have hr := B.returns
  have hts := ws_all (atoms_spec (ws := ws_ yX11_pause cX11_pause 2 (some .int)) B.pre)
  have hown : s.vm.findClass RX11 = some m.cls := findClass_of_methodNamed B.named
  have hlocks := B.notSynchronized
  subst hsz
  have hD := hD0.self (sz := s.heap.size)
  generalize hAe : va_A [(mo, .inr (11, [.ref mw, .ref ma, .ref mf, .ref m0, .ref m1, .ref mu, .ref mv, .ref u0, .ref u1, .ref iz, .int 0, .ref mb, .int 0, .int 0, .int 0, .int 0, .int 0, .int 0, .int 0])), (mw, .inl (ct 0, 958, .inl m_w0))] s.heap.size = A at hD hX ⊢
  have hA : ∀ q : Nat, s.heap.size ≤ q → A q := fun q h => by rw [← hAe]; exact Or.inr h
  have hS : va_S A s.heap s.heap [] := va_S.rf
  have hl := lv_entry ([.ref mo, .int p1]) (n := 2) (Nat.le_of_ble_eq_true rfl)
  rw [lg_entry_eq]
  generalize (lg_sl ([.ref mo, .int p1]) ++ List.replicate (2 - (lg_sl ([.ref mo, .int p1])).length) Slot.unset).toArray = ls at hl ⊢
  have hl : lv_has ls 2 [(0, .ref mo), (1, .int p1)] := hl
  refine lv_aload_n hx hb dX11_pause_0 rfl (lv_at hl 0 rfl) ?_
  refine lv_iload_n hx hb dX11_pause_1 rfl (lv_at hl 1 rfl) ?_
  refine lv_iconst (v := 1) hx hb dX11_pause_2 (by decide) ?_
  refine lv_iconst (v := 2) hx hb dX11_pause_3 (by decide) ?_
  refine cm_ki (wr := []) (va_runV (As := [.int p1, .int 1, .int 2]) (rest := []) ⟨hx, hb, hml, hown, hts⟩ (m_turns l D ct mo mw ma mf m0 m1 mu mv u0 u1 iz mb p1 1 2 _) (cm_V 3 hts kc_X11_turns ki_RX11 kl_RX11_353 kv_X11_turns kx_X11_turns kd_X11_turns ⟨Nat.le_of_ble_eq_true rfl, Nat.le_of_ble_eq_true rfl⟩) (cm_preV hP hK hD hS hA hX [0, 1] rfl rfl rfl (q0 := 0) (ci := 11) rfl rfl) rfl rfl hl.1 rfl (lv_room (Nat.le_of_ble_eq_true rfl)) dX11_pause_4 ⟨Nat.le_of_ble_eq_true rfl, Nat.le_of_ble_eq_true rfl⟩) hP hD hS hA [0, 1] [] rfl rfl rfl (by decide) (fun r_1 u H locs hw_2 hP hD hS => ?_)
  have hP : va_P D vwCl [(mo, .inr (11, [.ref mw, .ref ma, .ref mf, .ref m0, .ref m1, .ref mu, .ref mv, .ref u0, .ref u1, .ref iz, .int 1, .ref mb, .int 0, .int 0, .int 0, .int 0, .int 0, .int 0, .int 0])), (mw, .inl (ct 0, 958, .inl m_w0))] H := hP
  have hD : va_D A [(mo, .inr (11, [.ref mw, .ref ma, .ref mf, .ref m0, .ref m1, .ref mu, .ref mv, .ref u0, .ref u1, .ref iz, .int 1, .ref mb, .int 0, .int 0, .int 0, .int 0, .int 0, .int 0, .int 0])), (mw, .inl (ct 0, 958, .inl m_w0))] := hD
  have hP9 := hP.sub (ws' := [(mo, .inr (11, [.ref mw, .ref ma, .ref mf, .ref m0, .ref m1, .ref mu, .ref mv, .ref u0, .ref u1, .ref iz, .int 1, .ref mb, .int 0, .int 0, .int 0, .int 0, .int 0, .int 0, .int 0])), (mw, .inl (ct 0, 958, .inl m_w0))]) [0, 1] rfl
  have hD9 := hD.sub (ws' := [(mo, .inr (11, [.ref mw, .ref ma, .ref mf, .ref m0, .ref m1, .ref mu, .ref mv, .ref u0, .ref u1, .ref iz, .int 1, .ref mb, .int 0, .int 0, .int 0, .int 0, .int 0, .int 0, .int 0])), (mw, .inl (ct 0, 958, .inl m_w0))]) [0, 1] (by decide) rfl
  exact W.iret (v := r_1) hx hb hr (fun t ht hW => ⟨⟨r_1, (), rfl, trivial, by rw [ht]; exact hP9, by rw [hAe]; exact hD9⟩, hS.F ht⟩) hS.2.2 dX11_pause_7
theorem dX11_resume_0 : decode cX11_resume 0 = .ok (.aload_n 0, 1) := by decide +kernel
theorem dX11_resume_1 : decode cX11_resume 1 = .ok (.iload_n 1, 1) := by decide +kernel
theorem dX11_resume_2 : decode cX11_resume 2 = .ok (.iconst 2, 1) := by decide +kernel
theorem dX11_resume_3 : decode cX11_resume 3 = .ok (.iconst 1, 1) := by decide +kernel
theorem dX11_resume_4 : decode cX11_resume 4 = .ok (.invokevirtual 353, 3) := by decide +kernel
theorem dX11_resume_7 : decode cX11_resume 7 = .ok (.ireturn, 1) := by decide +kernel
set_option maxRecDepth 100000 in
set_option maxHeartbeats 4000000 in
theorem m_resume_0 (l : Launch) (D : va_G) (ct : Nat → ClassId) (mo : Nat) (mw : Nat) (ma : Nat) (mf : Nat) (m0 : Nat) (m1 : Nat) (mu : Nat) (mv : Nat) (u0 : Nat) (u1 : Nat) (iz : Nat) (mb : Nat) (p1 : Int32) (sz : Nat) : Met l yX11_resume (ws_ yX11_resume cX11_resume 2 (some .int)) ({ frames := 3, cells := 0, slots := 0, locals := 69 } : Room) (va_Pc [.ref mo, .int p1] (cmP D ct sz [(mo, .inr (11, [.ref mw, .ref ma, .ref mf, .ref m0, .ref m1, .ref mu, .ref mv, .ref u0, .ref u1, .ref iz, .int 0, .ref mb, .int 0, .int 0, .int 0, .int 0, .int 0, .int 0, .int 0])), (mw, .inl (ct 0, 958, .inl m_w0))])) (va_Qi (fun (r : Int32) (_ : Unit) => True) (cmB D [(mo, .inr (11, [.ref mw, .ref ma, .ref mf, .ref m0, .ref m1, .ref mu, .ref mv, .ref u0, .ref u1, .ref iz, .int 0, .ref mb, .int 0, .int 0, .int 0, .int 0, .int 0, .int 0, .int 0])), (mw, .inl (ct 0, 958, .inl m_w0))] sz (fun _ : Unit => [(mo, .inr (11, [.ref mw, .ref ma, .ref mf, .ref m0, .ref m1, .ref mu, .ref mv, .ref u0, .ref u1, .ref iz, .int 1, .ref mb, .int 0, .int 0, .int 0, .int 0, .int 0, .int 0, .int 0])), (mw, .inl (ct 0, 958, .inl m_w0))])) (va_A [(mo, .inr (11, [.ref mw, .ref ma, .ref mf, .ref m0, .ref m1, .ref mu, .ref mv, .ref u0, .ref u1, .ref iz, .int 0, .ref mb, .int 0, .int 0, .int 0, .int 0, .int 0, .int 0, .int 0])), (mw, .inl (ct 0, 958, .inl m_w0))] sz)) 0 0 (va_A [(mo, .inr (11, [.ref mw, .ref ma, .ref mf, .ref m0, .ref m1, .ref mu, .ref mv, .ref u0, .ref u1, .ref iz, .int 0, .ref mb, .int 0, .int 0, .int 0, .int 0, .int 0, .int 0, .int 0])), (mw, .inl (ct 0, 958, .inl m_w0))] sz) := by
  refine Met.ofW (cc := cX11_resume) (maxL := 2) (ret := (some .int)) (by decide) rfl ?_
  intro p e s m args below meth c s₁ B hml hv
  obtain ⟨rfl, hsz, hP, hK, hD0, hX⟩ := hv
  have hx := B.exec
  have hb := B.bytes
  have hr := B.returns
  have hts := ws_all (atoms_spec (ws := ws_ yX11_resume cX11_resume 2 (some .int)) B.pre)
  have hown : s.vm.findClass RX11 = some m.cls := findClass_of_methodNamed B.named
  have hlocks := B.notSynchronized
  subst hsz
  have hD := hD0.self (sz := s.heap.size)
  generalize hAe : va_A [(mo, .inr (11, [.ref mw, .ref ma, .ref mf, .ref m0, .ref m1, .ref mu, .ref mv, .ref u0, .ref u1, .ref iz, .int 0, .ref mb, .int 0, .int 0, .int 0, .int 0, .int 0, .int 0, .int 0])), (mw, .inl (ct 0, 958, .inl m_w0))] s.heap.size = A at hD hX ⊢
  have hA : ∀ q : Nat, s.heap.size ≤ q → A q := fun q h => by rw [← hAe]; exact Or.inr h
  have hS : va_S A s.heap s.heap [] := va_S.rf
  have hl := lv_entry ([.ref mo, .int p1]) (n := 2) (Nat.le_of_ble_eq_true rfl)
  rw [lg_entry_eq]
  generalize (lg_sl ([.ref mo, .int p1]) ++ List.replicate (2 - (lg_sl ([.ref mo, .int p1])).length) Slot.unset).toArray = ls at hl ⊢
  have hl : lv_has ls 2 [(0, .ref mo), (1, .int p1)] := hl
  refine lv_aload_n hx hb dX11_resume_0 rfl (lv_at hl 0 rfl) ?_
  refine lv_iload_n hx hb dX11_resume_1 rfl (lv_at hl 1 rfl) ?_
  refine lv_iconst (v := 2) hx hb dX11_resume_2 (by decide) ?_
  refine lv_iconst (v := 1) hx hb dX11_resume_3 (by decide) ?_
  refine cm_ki (wr := []) (va_runV (As := [.int p1, .int 2, .int 1]) (rest := []) ⟨hx, hb, hml, hown, hts⟩ (m_turns l D ct mo mw ma mf m0 m1 mu mv u0 u1 iz mb p1 2 1 _) (cm_V 3 hts kc_X11_turns ki_RX11 kl_RX11_353 kv_X11_turns kx_X11_turns kd_X11_turns ⟨Nat.le_of_ble_eq_true rfl, Nat.le_of_ble_eq_true rfl⟩) (cm_preV hP hK hD hS hA hX [0, 1] rfl rfl rfl (q0 := 0) (ci := 11) rfl rfl) rfl rfl hl.1 rfl (lv_room (Nat.le_of_ble_eq_true rfl)) dX11_resume_4 ⟨Nat.le_of_ble_eq_true rfl, Nat.le_of_ble_eq_true rfl⟩) hP hD hS hA [0, 1] [] rfl rfl rfl (by decide) (fun r_1 u H locs hw_2 hP hD hS => ?_)
  have hP : va_P D vwCl [(mo, .inr (11, [.ref mw, .ref ma, .ref mf, .ref m0, .ref m1, .ref mu, .ref mv, .ref u0, .ref u1, .ref iz, .int 1, .ref mb, .int 0, .int 0, .int 0, .int 0, .int 0, .int 0, .int 0])), (mw, .inl (ct 0, 958, .inl m_w0))] H := hP
  have hD : va_D A [(mo, .inr (11, [.ref mw, .ref ma, .ref mf, .ref m0, .ref m1, .ref mu, .ref mv, .ref u0, .ref u1, .ref iz, .int 1, .ref mb, .int 0, .int 0, .int 0, .int 0, .int 0, .int 0, .int 0])), (mw, .inl (ct 0, 958, .inl m_w0))] := hD
  have hP9 := hP.sub (ws' := [(mo, .inr (11, [.ref mw, .ref ma, .ref mf, .ref m0, .ref m1, .ref mu, .ref mv, .ref u0, .ref u1, .ref iz, .int 1, .ref mb, .int 0, .int 0, .int 0, .int 0, .int 0, .int 0, .int 0])), (mw, .inl (ct 0, 958, .inl m_w0))]) [0, 1] rfl
  have hD9 := hD.sub (ws' := [(mo, .inr (11, [.ref mw, .ref ma, .ref mf, .ref m0, .ref m1, .ref mu, .ref mv, .ref u0, .ref u1, .ref iz, .int 1, .ref mb, .int 0, .int 0, .int 0, .int 0, .int 0, .int 0, .int 0])), (mw, .inl (ct 0, 958, .inl m_w0))]) [0, 1] (by decide) rfl
  exact W.iret (v := r_1) hx hb hr (fun t ht hW => ⟨⟨r_1, (), rfl, trivial, by rw [ht]; exact hP9, by rw [hAe]; exact hD9⟩, hS.F ht⟩) hS.2.2 dX11_resume_7
theorem dX11_stop_0 : decode cX11_stop 0 = .ok (.aload_n 0, 1) := by decide +kernel
theorem dX11_stop_1 : decode cX11_stop 1 = .ok (.iload_n 1, 1) := by decide +kernel
theorem dX11_stop_2 : decode cX11_stop 2 = .ok (.invokevirtual 344, 3) := by decide +kernel
theorem dX11_stop_5 : decode cX11_stop 5 = .ok (.ifCond .eq 5, 3) := by decide +kernel
theorem dX11_stop_8 : decode cX11_stop 8 = .ok (.iconst 0, 1) := by decide +kernel
theorem dX11_stop_9 : decode cX11_stop 9 = .ok (.ireturn, 1) := by decide +kernel
set_option maxRecDepth 100000 in
set_option maxHeartbeats 4000000 in
theorem m_stop_0 (l : Launch) (D : va_G) (ct : Nat → ClassId) (mo : Nat) (mw : Nat) (ma : Nat) (mf : Nat) (m0 : Nat) (m1 : Nat) (mu : Nat) (mv : Nat) (u0 : Nat) (u1 : Nat) (iz : Nat) (mb : Nat) (p1 : Int32) (sz : Nat) : Met l yX11_stop (ws_ yX11_stop cX11_stop 3 (some .int)) ({ frames := 2, cells := 0, slots := 0, locals := 46 } : Room) (va_Pc [.ref mo, .int p1] (cmP D ct sz [(mo, .inr (11, [.ref mw, .ref ma, .ref mf, .ref m0, .ref m1, .ref mu, .ref mv, .ref u0, .ref u1, .ref iz, .int 0, .ref mb, .int 0, .int 0, .int 0, .int 0, .int 0, .int 0, .int 0])), (mw, .inl (ct 0, 958, .inl m_w0))])) (va_Qi (fun (r : Int32) (_ : Unit) => True) (cmB D [(mo, .inr (11, [.ref mw, .ref ma, .ref mf, .ref m0, .ref m1, .ref mu, .ref mv, .ref u0, .ref u1, .ref iz, .int 0, .ref mb, .int 0, .int 0, .int 0, .int 0, .int 0, .int 0, .int 0])), (mw, .inl (ct 0, 958, .inl m_w0))] sz (fun _ : Unit => [(mo, .inr (11, [.ref mw, .ref ma, .ref mf, .ref m0, .ref m1, .ref mu, .ref mv, .ref u0, .ref u1, .ref iz, .int 1, .ref mb, .int 0, .int 0, .int 0, .int 0, .int 0, .int 0, .int 0])), (mw, .inl (ct 0, 958, .inl m_w0))])) (va_A [(mo, .inr (11, [.ref mw, .ref ma, .ref mf, .ref m0, .ref m1, .ref mu, .ref mv, .ref u0, .ref u1, .ref iz, .int 0, .ref mb, .int 0, .int 0, .int 0, .int 0, .int 0, .int 0, .int 0])), (mw, .inl (ct 0, 958, .inl m_w0))] sz)) 0 0 (va_A [(mo, .inr (11, [.ref mw, .ref ma, .ref mf, .ref m0, .ref m1, .ref mu, .ref mv, .ref u0, .ref u1, .ref iz, .int 0, .ref mb, .int 0, .int 0, .int 0, .int 0, .int 0, .int 0, .int 0])), (mw, .inl (ct 0, 958, .inl m_w0))] sz) := by
  refine Met.ofW (cc := cX11_stop) (maxL := 3) (ret := (some .int)) (by decide) rfl ?_
  intro p e s m args below meth c s₁ B hml hv
  obtain ⟨rfl, hsz, hP, hK, hD0, hX⟩ := hv
  have hx := B.exec
  have hb := B.bytes
  have hr := B.returns
  have hts := ws_all (atoms_spec (ws := ws_ yX11_stop cX11_stop 3 (some .int)) B.pre)
  have hown : s.vm.findClass RX11 = some m.cls := findClass_of_methodNamed B.named
  have hlocks := B.notSynchronized
  subst hsz
  have hD := hD0.self (sz := s.heap.size)
  generalize hAe : va_A [(mo, .inr (11, [.ref mw, .ref ma, .ref mf, .ref m0, .ref m1, .ref mu, .ref mv, .ref u0, .ref u1, .ref iz, .int 0, .ref mb, .int 0, .int 0, .int 0, .int 0, .int 0, .int 0, .int 0])), (mw, .inl (ct 0, 958, .inl m_w0))] s.heap.size = A at hD hX ⊢
  have hA : ∀ q : Nat, s.heap.size ≤ q → A q := fun q h => by rw [← hAe]; exact Or.inr h
  have hS : va_S A s.heap s.heap [] := va_S.rf
  have hl := lv_entry ([.ref mo, .int p1]) (n := 3) (Nat.le_of_ble_eq_true rfl)
  rw [lg_entry_eq]
  generalize (lg_sl ([.ref mo, .int p1]) ++ List.replicate (3 - (lg_sl ([.ref mo, .int p1])).length) Slot.unset).toArray = ls at hl ⊢
  have hl : lv_has ls 3 [(0, .ref mo), (1, .int p1)] := hl
  refine lv_aload_n hx hb dX11_stop_0 rfl (lv_at hl 0 rfl) ?_
  refine lv_iload_n hx hb dX11_stop_1 rfl (lv_at hl 1 rfl) ?_
  refine cm_ki (wr := []) (va_runV (As := [.int p1]) (rest := []) ⟨hx, hb, hml, hown, hts⟩ (m_noChannel l D ct mo mw ma mf m0 m1 mu mv u0 u1 iz mb p1 _) (cm_V 1 hts kc_X11_noChannel ki_RX11 kl_RX11_344 kv_X11_noChannel kx_X11_noChannel kd_X11_noChannel ⟨Nat.le_of_ble_eq_true rfl, Nat.le_of_ble_eq_true rfl⟩) (cm_preV hP hK hD hS hA hX [0, 1] rfl rfl rfl (q0 := 0) (ci := 11) rfl rfl) rfl rfl hl.1 rfl (lv_room (Nat.le_of_ble_eq_true rfl)) dX11_stop_2 ⟨Nat.le_of_ble_eq_true rfl, Nat.le_of_ble_eq_true rfl⟩) hP hD hS hA [0, 1] [] rfl rfl rfl (by decide) (fun r_1 u H locs hw_2 hP hD hS => ?_)
  have hw_2 : r_1 = 1 := hw_2
  obtain rfl := hw_2
  have hP : va_P D vwCl [(mo, .inr (11, [.ref mw, .ref ma, .ref mf, .ref m0, .ref m1, .ref mu, .ref mv, .ref u0, .ref u1, .ref iz, .int 1, .ref mb, .int 0, .int 0, .int 0, .int 0, .int 0, .int 0, .int 0])), (mw, .inl (ct 0, 958, .inl m_w0))] H := hP
  have hD : va_D A [(mo, .inr (11, [.ref mw, .ref ma, .ref mf, .ref m0, .ref m1, .ref mu, .ref mv, .ref u0, .ref u1, .ref iz, .int 1, .ref mb, .int 0, .int 0, .int 0, .int 0, .int 0, .int 0, .int 0])), (mw, .inl (ct 0, 958, .inl m_w0))] := hD
  refine lv_if_eq (tgt := 10) hx hb dX11_stop_5 (by decide) (fun hc => absurd hc (by decide)) (fun _ => ?_)
  refine lv_iconst (v := 0) hx hb dX11_stop_8 (by decide) ?_
  have hP9 := hP.sub (ws' := [(mo, .inr (11, [.ref mw, .ref ma, .ref mf, .ref m0, .ref m1, .ref mu, .ref mv, .ref u0, .ref u1, .ref iz, .int 1, .ref mb, .int 0, .int 0, .int 0, .int 0, .int 0, .int 0, .int 0])), (mw, .inl (ct 0, 958, .inl m_w0))]) [0, 1] rfl
  have hD9 := hD.sub (ws' := [(mo, .inr (11, [.ref mw, .ref ma, .ref mf, .ref m0, .ref m1, .ref mu, .ref mv, .ref u0, .ref u1, .ref iz, .int 1, .ref mb, .int 0, .int 0, .int 0, .int 0, .int 0, .int 0, .int 0])), (mw, .inl (ct 0, 958, .inl m_w0))]) [0, 1] (by decide) rfl
  exact W.iret (v := 0) hx hb hr (fun t ht hW => ⟨⟨0, (), rfl, trivial, by rw [ht]; exact hP9, by rw [hAe]; exact hD9⟩, hS.F ht⟩) hS.2.2 dX11_stop_9
theorem dX11_skip_0 : decode cX11_skip 0 = .ok (.aload_n 0, 1) := by decide +kernel
theorem dX11_skip_1 : decode cX11_skip 1 = .ok (.iload_n 1, 1) := by decide +kernel
theorem dX11_skip_2 : decode cX11_skip 2 = .ok (.invokevirtual 344, 3) := by decide +kernel
theorem dX11_skip_5 : decode cX11_skip 5 = .ok (.ifCond .eq 5, 3) := by decide +kernel
theorem dX11_skip_8 : decode cX11_skip 8 = .ok (.iconst 0, 1) := by decide +kernel
theorem dX11_skip_9 : decode cX11_skip 9 = .ok (.ireturn, 1) := by decide +kernel
set_option maxRecDepth 100000 in
set_option maxHeartbeats 4000000 in
theorem m_skip_0 (l : Launch) (D : va_G) (ct : Nat → ClassId) (mo : Nat) (mw : Nat) (ma : Nat) (mf : Nat) (m0 : Nat) (m1 : Nat) (mu : Nat) (mv : Nat) (u0 : Nat) (u1 : Nat) (iz : Nat) (mb : Nat) (p1 : Int32) (sz : Nat) : Met l yX11_skip (ws_ yX11_skip cX11_skip 2 (some .int)) ({ frames := 2, cells := 0, slots := 0, locals := 46 } : Room) (va_Pc [.ref mo, .int p1] (cmP D ct sz [(mo, .inr (11, [.ref mw, .ref ma, .ref mf, .ref m0, .ref m1, .ref mu, .ref mv, .ref u0, .ref u1, .ref iz, .int 0, .ref mb, .int 0, .int 0, .int 0, .int 0, .int 0, .int 0, .int 0])), (mw, .inl (ct 0, 958, .inl m_w0))])) (va_Qi (fun (r : Int32) (_ : Unit) => True) (cmB D [(mo, .inr (11, [.ref mw, .ref ma, .ref mf, .ref m0, .ref m1, .ref mu, .ref mv, .ref u0, .ref u1, .ref iz, .int 0, .ref mb, .int 0, .int 0, .int 0, .int 0, .int 0, .int 0, .int 0])), (mw, .inl (ct 0, 958, .inl m_w0))] sz (fun _ : Unit => [(mo, .inr (11, [.ref mw, .ref ma, .ref mf, .ref m0, .ref m1, .ref mu, .ref mv, .ref u0, .ref u1, .ref iz, .int 1, .ref mb, .int 0, .int 0, .int 0, .int 0, .int 0, .int 0, .int 0])), (mw, .inl (ct 0, 958, .inl m_w0))])) (va_A [(mo, .inr (11, [.ref mw, .ref ma, .ref mf, .ref m0, .ref m1, .ref mu, .ref mv, .ref u0, .ref u1, .ref iz, .int 0, .ref mb, .int 0, .int 0, .int 0, .int 0, .int 0, .int 0, .int 0])), (mw, .inl (ct 0, 958, .inl m_w0))] sz)) 0 0 (va_A [(mo, .inr (11, [.ref mw, .ref ma, .ref mf, .ref m0, .ref m1, .ref mu, .ref mv, .ref u0, .ref u1, .ref iz, .int 0, .ref mb, .int 0, .int 0, .int 0, .int 0, .int 0, .int 0, .int 0])), (mw, .inl (ct 0, 958, .inl m_w0))] sz) := by
  refine Met.ofW (cc := cX11_skip) (maxL := 2) (ret := (some .int)) (by decide) rfl ?_
  intro p e s m args below meth c s₁ B hml hv
  obtain ⟨rfl, hsz, hP, hK, hD0, hX⟩ := hv
  have hx := B.exec
  have hb := B.bytes
  have hr := B.returns
  have hts := ws_all (atoms_spec (ws := ws_ yX11_skip cX11_skip 2 (some .int)) B.pre)
  have hown : s.vm.findClass RX11 = some m.cls := findClass_of_methodNamed B.named
  have hlocks := B.notSynchronized
  subst hsz
  have hD := hD0.self (sz := s.heap.size)
  generalize hAe : va_A [(mo, .inr (11, [.ref mw, .ref ma, .ref mf, .ref m0, .ref m1, .ref mu, .ref mv, .ref u0, .ref u1, .ref iz, .int 0, .ref mb, .int 0, .int 0, .int 0, .int 0, .int 0, .int 0, .int 0])), (mw, .inl (ct 0, 958, .inl m_w0))] s.heap.size = A at hD hX ⊢
  have hA : ∀ q : Nat, s.heap.size ≤ q → A q := fun q h => by rw [← hAe]; exact Or.inr h
  have hS : va_S A s.heap s.heap [] := va_S.rf
  have hl := lv_entry ([.ref mo, .int p1]) (n := 2) (Nat.le_of_ble_eq_true rfl)
  rw [lg_entry_eq]
  generalize (lg_sl ([.ref mo, .int p1]) ++ List.replicate (2 - (lg_sl ([.ref mo, .int p1])).length) Slot.unset).toArray = ls at hl ⊢
  have hl : lv_has ls 2 [(0, .ref mo), (1, .int p1)] := hl
  refine lv_aload_n hx hb dX11_skip_0 rfl (lv_at hl 0 rfl) ?_
  refine lv_iload_n hx hb dX11_skip_1 rfl (lv_at hl 1 rfl) ?_
  refine cm_ki (wr := []) (va_runV (As := [.int p1]) (rest := []) ⟨hx, hb, hml, hown, hts⟩ (m_noChannel l D ct mo mw ma mf m0 m1 mu mv u0 u1 iz mb p1 _) (cm_V 1 hts kc_X11_noChannel ki_RX11 kl_RX11_344 kv_X11_noChannel kx_X11_noChannel kd_X11_noChannel ⟨Nat.le_of_ble_eq_true rfl, Nat.le_of_ble_eq_true rfl⟩) (cm_preV hP hK hD hS hA hX [0, 1] rfl rfl rfl (q0 := 0) (ci := 11) rfl rfl) rfl rfl hl.1 rfl (lv_room (Nat.le_of_ble_eq_true rfl)) dX11_skip_2 ⟨Nat.le_of_ble_eq_true rfl, Nat.le_of_ble_eq_true rfl⟩) hP hD hS hA [0, 1] [] rfl rfl rfl (by decide) (fun r_1 u H locs hw_2 hP hD hS => ?_)
  have hw_2 : r_1 = 1 := hw_2
  obtain rfl := hw_2
  have hP : va_P D vwCl [(mo, .inr (11, [.ref mw, .ref ma, .ref mf, .ref m0, .ref m1, .ref mu, .ref mv, .ref u0, .ref u1, .ref iz, .int 1, .ref mb, .int 0, .int 0, .int 0, .int 0, .int 0, .int 0, .int 0])), (mw, .inl (ct 0, 958, .inl m_w0))] H := hP
  have hD : va_D A [(mo, .inr (11, [.ref mw, .ref ma, .ref mf, .ref m0, .ref m1, .ref mu, .ref mv, .ref u0, .ref u1, .ref iz, .int 1, .ref mb, .int 0, .int 0, .int 0, .int 0, .int 0, .int 0, .int 0])), (mw, .inl (ct 0, 958, .inl m_w0))] := hD
  refine lv_if_eq (tgt := 10) hx hb dX11_skip_5 (by decide) (fun hc => absurd hc (by decide)) (fun _ => ?_)
  refine lv_iconst (v := 0) hx hb dX11_skip_8 (by decide) ?_
  have hP9 := hP.sub (ws' := [(mo, .inr (11, [.ref mw, .ref ma, .ref mf, .ref m0, .ref m1, .ref mu, .ref mv, .ref u0, .ref u1, .ref iz, .int 1, .ref mb, .int 0, .int 0, .int 0, .int 0, .int 0, .int 0, .int 0])), (mw, .inl (ct 0, 958, .inl m_w0))]) [0, 1] rfl
  have hD9 := hD.sub (ws' := [(mo, .inr (11, [.ref mw, .ref ma, .ref mf, .ref m0, .ref m1, .ref mu, .ref mv, .ref u0, .ref u1, .ref iz, .int 1, .ref mb, .int 0, .int 0, .int 0, .int 0, .int 0, .int 0, .int 0])), (mw, .inl (ct 0, 958, .inl m_w0))]) [0, 1] (by decide) rfl
  exact W.iret (v := 0) hx hb hr (fun t ht hW => ⟨⟨0, (), rfl, trivial, by rw [ht]; exact hP9, by rw [hAe]; exact hD9⟩, hS.F ht⟩) hS.2.2 dX11_skip_9
theorem dX11_replace_0 : decode cX11_replace 0 = .ok (.aload_n 0, 1) := by decide +kernel
theorem dX11_replace_1 : decode cX11_replace 1 = .ok (.iload_n 1, 1) := by decide +kernel
theorem dX11_replace_2 : decode cX11_replace 2 = .ok (.invokevirtual 344, 3) := by decide +kernel
theorem dX11_replace_5 : decode cX11_replace 5 = .ok (.ifCond .ne 33, 3) := by decide +kernel
theorem dX11_replace_38 : decode cX11_replace 38 = .ok (.iconst 0, 1) := by decide +kernel
theorem dX11_replace_39 : decode cX11_replace 39 = .ok (.ireturn, 1) := by decide +kernel
set_option maxRecDepth 100000 in
set_option maxHeartbeats 4000000 in
theorem m_replace_0 (l : Launch) (D : va_G) (ct : Nat → ClassId) (mo : Nat) (mw : Nat) (ma : Nat) (mf : Nat) (m0 : Nat) (m1 : Nat) (mu : Nat) (mv : Nat) (u0 : Nat) (u1 : Nat) (iz : Nat) (mb : Nat) (p1 : Int32) (p2 : Int32) (sz : Nat) : Met l yX11_replace (ws_ yX11_replace cX11_replace 5 (some .int)) ({ frames := 2, cells := 0, slots := 0, locals := 46 } : Room) (va_Pc [.ref mo, .int p1, .int p2] (cmP D ct sz [(mo, .inr (11, [.ref mw, .ref ma, .ref mf, .ref m0, .ref m1, .ref mu, .ref mv, .ref u0, .ref u1, .ref iz, .int 0, .ref mb, .int 0, .int 0, .int 0, .int 0, .int 0, .int 0, .int 0])), (mw, .inl (ct 0, 958, .inl m_w0))])) (va_Qi (fun (r : Int32) (_ : Unit) => True) (cmB D [(mo, .inr (11, [.ref mw, .ref ma, .ref mf, .ref m0, .ref m1, .ref mu, .ref mv, .ref u0, .ref u1, .ref iz, .int 0, .ref mb, .int 0, .int 0, .int 0, .int 0, .int 0, .int 0, .int 0])), (mw, .inl (ct 0, 958, .inl m_w0))] sz (fun _ : Unit => [(mo, .inr (11, [.ref mw, .ref ma, .ref mf, .ref m0, .ref m1, .ref mu, .ref mv, .ref u0, .ref u1, .ref iz, .int 1, .ref mb, .int 0, .int 0, .int 0, .int 0, .int 0, .int 0, .int 0])), (mw, .inl (ct 0, 958, .inl m_w0))])) (va_A [(mo, .inr (11, [.ref mw, .ref ma, .ref mf, .ref m0, .ref m1, .ref mu, .ref mv, .ref u0, .ref u1, .ref iz, .int 0, .ref mb, .int 0, .int 0, .int 0, .int 0, .int 0, .int 0, .int 0])), (mw, .inl (ct 0, 958, .inl m_w0))] sz)) 0 0 (va_A [(mo, .inr (11, [.ref mw, .ref ma, .ref mf, .ref m0, .ref m1, .ref mu, .ref mv, .ref u0, .ref u1, .ref iz, .int 0, .ref mb, .int 0, .int 0, .int 0, .int 0, .int 0, .int 0, .int 0])), (mw, .inl (ct 0, 958, .inl m_w0))] sz) := by
  refine Met.ofW (cc := cX11_replace) (maxL := 5) (ret := (some .int)) (by decide) rfl ?_
  intro p e s m args below meth c s₁ B hml hv
  obtain ⟨rfl, hsz, hP, hK, hD0, hX⟩ := hv
  have hx := B.exec
  have hb := B.bytes
  have hr := B.returns
  have hts := ws_all (atoms_spec (ws := ws_ yX11_replace cX11_replace 5 (some .int)) B.pre)
  have hown : s.vm.findClass RX11 = some m.cls := findClass_of_methodNamed B.named
  have hlocks := B.notSynchronized
  subst hsz
  have hD := hD0.self (sz := s.heap.size)
  generalize hAe : va_A [(mo, .inr (11, [.ref mw, .ref ma, .ref mf, .ref m0, .ref m1, .ref mu, .ref mv, .ref u0, .ref u1, .ref iz, .int 0, .ref mb, .int 0, .int 0, .int 0, .int 0, .int 0, .int 0, .int 0])), (mw, .inl (ct 0, 958, .inl m_w0))] s.heap.size = A at hD hX ⊢
  have hA : ∀ q : Nat, s.heap.size ≤ q → A q := fun q h => by rw [← hAe]; exact Or.inr h
  have hS : va_S A s.heap s.heap [] := va_S.rf
  have hl := lv_entry ([.ref mo, .int p1, .int p2]) (n := 5) (Nat.le_of_ble_eq_true rfl)
  rw [lg_entry_eq]
  generalize (lg_sl ([.ref mo, .int p1, .int p2]) ++ List.replicate (5 - (lg_sl ([.ref mo, .int p1, .int p2])).length) Slot.unset).toArray = ls at hl ⊢
  have hl : lv_has ls 5 [(0, .ref mo), (1, .int p1), (2, .int p2)] := hl
  refine lv_aload_n hx hb dX11_replace_0 rfl (lv_at hl 0 rfl) ?_
  refine lv_iload_n hx hb dX11_replace_1 rfl (lv_at hl 1 rfl) ?_
  refine cm_ki (wr := []) (va_runV (As := [.int p1]) (rest := []) ⟨hx, hb, hml, hown, hts⟩ (m_noChannel l D ct mo mw ma mf m0 m1 mu mv u0 u1 iz mb p1 _) (cm_V 1 hts kc_X11_noChannel ki_RX11 kl_RX11_344 kv_X11_noChannel kx_X11_noChannel kd_X11_noChannel ⟨Nat.le_of_ble_eq_true rfl, Nat.le_of_ble_eq_true rfl⟩) (cm_preV hP hK hD hS hA hX [0, 1] rfl rfl rfl (q0 := 0) (ci := 11) rfl rfl) rfl rfl hl.1 rfl (lv_room (Nat.le_of_ble_eq_true rfl)) dX11_replace_2 ⟨Nat.le_of_ble_eq_true rfl, Nat.le_of_ble_eq_true rfl⟩) hP hD hS hA [0, 1] [] rfl rfl rfl (by decide) (fun r_1 u H locs hw_2 hP hD hS => ?_)
  have hw_2 : r_1 = 1 := hw_2
  obtain rfl := hw_2
  have hP : va_P D vwCl [(mo, .inr (11, [.ref mw, .ref ma, .ref mf, .ref m0, .ref m1, .ref mu, .ref mv, .ref u0, .ref u1, .ref iz, .int 1, .ref mb, .int 0, .int 0, .int 0, .int 0, .int 0, .int 0, .int 0])), (mw, .inl (ct 0, 958, .inl m_w0))] H := hP
  have hD : va_D A [(mo, .inr (11, [.ref mw, .ref ma, .ref mf, .ref m0, .ref m1, .ref mu, .ref mv, .ref u0, .ref u1, .ref iz, .int 1, .ref mb, .int 0, .int 0, .int 0, .int 0, .int 0, .int 0, .int 0])), (mw, .inl (ct 0, 958, .inl m_w0))] := hD
  refine lv_if_ne (tgt := 38) hx hb dX11_replace_5 (by decide) (fun _ => ?_) (fun hc => absurd hc (by decide))
  refine lv_iconst (v := 0) hx hb dX11_replace_38 (by decide) ?_
  have hP9 := hP.sub (ws' := [(mo, .inr (11, [.ref mw, .ref ma, .ref mf, .ref m0, .ref m1, .ref mu, .ref mv, .ref u0, .ref u1, .ref iz, .int 1, .ref mb, .int 0, .int 0, .int 0, .int 0, .int 0, .int 0, .int 0])), (mw, .inl (ct 0, 958, .inl m_w0))]) [0, 1] rfl
  have hD9 := hD.sub (ws' := [(mo, .inr (11, [.ref mw, .ref ma, .ref mf, .ref m0, .ref m1, .ref mu, .ref mv, .ref u0, .ref u1, .ref iz, .int 1, .ref mb, .int 0, .int 0, .int 0, .int 0, .int 0, .int 0, .int 0])), (mw, .inl (ct 0, 958, .inl m_w0))]) [0, 1] (by decide) rfl
  exact W.iret (v := 0) hx hb hr (fun t ht hW => ⟨⟨0, (), rfl, trivial, by rw [ht]; exact hP9, by rw [hAe]; exact hD9⟩, hS.F ht⟩) hS.2.2 dX11_replace_39
theorem dX11_enqueue_0 : decode cX11_enqueue 0 = .ok (.aload_n 0, 1) := by decide +kernel
theorem dX11_enqueue_1 : decode cX11_enqueue 1 = .ok (.iload_n 1, 1) := by decide +kernel
theorem dX11_enqueue_2 : decode cX11_enqueue 2 = .ok (.iload_n 2, 1) := by decide +kernel
theorem dX11_enqueue_3 : decode cX11_enqueue 3 = .ok (.invokevirtual 347, 3) := by decide +kernel
theorem dX11_enqueue_6 : decode cX11_enqueue 6 = .ok (.ifCond .eq 5, 3) := by decide +kernel
theorem dX11_enqueue_9 : decode cX11_enqueue 9 = .ok (.iconst 0, 1) := by decide +kernel
theorem dX11_enqueue_10 : decode cX11_enqueue 10 = .ok (.ireturn, 1) := by decide +kernel
set_option maxRecDepth 100000 in
set_option maxHeartbeats 4000000 in
theorem m_enqueue_0 (l : Launch) (D : va_G) (ct : Nat → ClassId) (mo : Nat) (mw : Nat) (ma : Nat) (mf : Nat) (m0 : Nat) (m1 : Nat) (mu : Nat) (mv : Nat) (u0 : Nat) (u1 : Nat) (iz : Nat) (mb : Nat) (p1 : Int32) (p2 : Int32) (sz : Nat) : Met l yX11_enqueue (ws_ yX11_enqueue cX11_enqueue 3 (some .int)) ({ frames := 3, cells := 0, slots := 0, locals := 68 } : Room) (va_Pc [.ref mo, .int p1, .int p2] (cmP D ct sz [(mo, .inr (11, [.ref mw, .ref ma, .ref mf, .ref m0, .ref m1, .ref mu, .ref mv, .ref u0, .ref u1, .ref iz, .int 0, .ref mb, .int 0, .int 0, .int 0, .int 0, .int 0, .int 0, .int 0])), (mw, .inl (ct 0, 958, .inl m_w0))])) (va_Qi (fun (r : Int32) (_ : Unit) => True) (cmB D [(mo, .inr (11, [.ref mw, .ref ma, .ref mf, .ref m0, .ref m1, .ref mu, .ref mv, .ref u0, .ref u1, .ref iz, .int 0, .ref mb, .int 0, .int 0, .int 0, .int 0, .int 0, .int 0, .int 0])), (mw, .inl (ct 0, 958, .inl m_w0))] sz (fun _ : Unit => [(mo, .inr (11, [.ref mw, .ref ma, .ref mf, .ref m0, .ref m1, .ref mu, .ref mv, .ref u0, .ref u1, .ref iz, .int 1, .ref mb, .int 0, .int 0, .int 0, .int 0, .int 0, .int 0, .int 0])), (mw, .inl (ct 0, 958, .inl m_w0))])) (va_A [(mo, .inr (11, [.ref mw, .ref ma, .ref mf, .ref m0, .ref m1, .ref mu, .ref mv, .ref u0, .ref u1, .ref iz, .int 0, .ref mb, .int 0, .int 0, .int 0, .int 0, .int 0, .int 0, .int 0])), (mw, .inl (ct 0, 958, .inl m_w0))] sz)) 0 0 (va_A [(mo, .inr (11, [.ref mw, .ref ma, .ref mf, .ref m0, .ref m1, .ref mu, .ref mv, .ref u0, .ref u1, .ref iz, .int 0, .ref mb, .int 0, .int 0, .int 0, .int 0, .int 0, .int 0, .int 0])), (mw, .inl (ct 0, 958, .inl m_w0))] sz) := by
  refine Met.ofW (cc := cX11_enqueue) (maxL := 3) (ret := (some .int)) (by decide) rfl ?_
  intro p e s m args below meth c s₁ B hml hv
  obtain ⟨rfl, hsz, hP, hK, hD0, hX⟩ := hv
  have hx := B.exec
  have hb := B.bytes
  have hr := B.returns
  have hts := ws_all (atoms_spec (ws := ws_ yX11_enqueue cX11_enqueue 3 (some .int)) B.pre)
  have hown : s.vm.findClass RX11 = some m.cls := findClass_of_methodNamed B.named
  have hlocks := B.notSynchronized
  subst hsz
  have hD := hD0.self (sz := s.heap.size)
  generalize hAe : va_A [(mo, .inr (11, [.ref mw, .ref ma, .ref mf, .ref m0, .ref m1, .ref mu, .ref mv, .ref u0, .ref u1, .ref iz, .int 0, .ref mb, .int 0, .int 0, .int 0, .int 0, .int 0, .int 0, .int 0])), (mw, .inl (ct 0, 958, .inl m_w0))] s.heap.size = A at hD hX ⊢
  have hA : ∀ q : Nat, s.heap.size ≤ q → A q := fun q h => by rw [← hAe]; exact Or.inr h
  have hS : va_S A s.heap s.heap [] := va_S.rf
  have hl := lv_entry ([.ref mo, .int p1, .int p2]) (n := 3) (Nat.le_of_ble_eq_true rfl)
  rw [lg_entry_eq]
  generalize (lg_sl ([.ref mo, .int p1, .int p2]) ++ List.replicate (3 - (lg_sl ([.ref mo, .int p1, .int p2])).length) Slot.unset).toArray = ls at hl ⊢
  have hl : lv_has ls 3 [(0, .ref mo), (1, .int p1), (2, .int p2)] := hl
  refine lv_aload_n hx hb dX11_enqueue_0 rfl (lv_at hl 0 rfl) ?_
  refine lv_iload_n hx hb dX11_enqueue_1 rfl (lv_at hl 1 rfl) ?_
  refine lv_iload_n hx hb dX11_enqueue_2 rfl (lv_at hl 2 rfl) ?_
  refine cm_ki (wr := []) (va_runV (As := [.int p1, .int p2]) (rest := []) ⟨hx, hb, hml, hown, hts⟩ (m_noProgram l D ct mo mw ma mf m0 m1 mu mv u0 u1 iz mb p1 p2 _) (cm_V 2 hts kc_X11_noProgram ki_RX11 kl_RX11_347 kv_X11_noProgram kx_X11_noProgram kd_X11_noProgram ⟨Nat.le_of_ble_eq_true rfl, Nat.le_of_ble_eq_true rfl⟩) (cm_preV hP hK hD hS hA hX [0, 1] rfl rfl rfl (q0 := 0) (ci := 11) rfl rfl) rfl rfl hl.1 rfl (lv_room (Nat.le_of_ble_eq_true rfl)) dX11_enqueue_3 ⟨Nat.le_of_ble_eq_true rfl, Nat.le_of_ble_eq_true rfl⟩) hP hD hS hA [0, 1] [] rfl rfl rfl (by decide) (fun r_1 u H locs hw_2 hP hD hS => ?_)
  have hw_2 : r_1 = 1 := hw_2
  obtain rfl := hw_2
  have hP : va_P D vwCl [(mo, .inr (11, [.ref mw, .ref ma, .ref mf, .ref m0, .ref m1, .ref mu, .ref mv, .ref u0, .ref u1, .ref iz, .int 1, .ref mb, .int 0, .int 0, .int 0, .int 0, .int 0, .int 0, .int 0])), (mw, .inl (ct 0, 958, .inl m_w0))] H := hP
  have hD : va_D A [(mo, .inr (11, [.ref mw, .ref ma, .ref mf, .ref m0, .ref m1, .ref mu, .ref mv, .ref u0, .ref u1, .ref iz, .int 1, .ref mb, .int 0, .int 0, .int 0, .int 0, .int 0, .int 0, .int 0])), (mw, .inl (ct 0, 958, .inl m_w0))] := hD
  refine lv_if_eq (tgt := 11) hx hb dX11_enqueue_6 (by decide) (fun hc => absurd hc (by decide)) (fun _ => ?_)
  refine lv_iconst (v := 0) hx hb dX11_enqueue_9 (by decide) ?_
  have hP9 := hP.sub (ws' := [(mo, .inr (11, [.ref mw, .ref ma, .ref mf, .ref m0, .ref m1, .ref mu, .ref mv, .ref u0, .ref u1, .ref iz, .int 1, .ref mb, .int 0, .int 0, .int 0, .int 0, .int 0, .int 0, .int 0])), (mw, .inl (ct 0, 958, .inl m_w0))]) [0, 1] rfl
  have hD9 := hD.sub (ws' := [(mo, .inr (11, [.ref mw, .ref ma, .ref mf, .ref m0, .ref m1, .ref mu, .ref mv, .ref u0, .ref u1, .ref iz, .int 1, .ref mb, .int 0, .int 0, .int 0, .int 0, .int 0, .int 0, .int 0])), (mw, .inl (ct 0, 958, .inl m_w0))]) [0, 1] (by decide) rfl
  exact W.iret (v := 0) hx hb hr (fun t ht hW => ⟨⟨0, (), rfl, trivial, by rw [ht]; exact hP9, by rw [hAe]; exact hD9⟩, hS.F ht⟩) hS.2.2 dX11_enqueue_10
theorem dX11_dequeue_0 : decode cX11_dequeue 0 = .ok (.aload_n 0, 1) := by decide +kernel
theorem dX11_dequeue_1 : decode cX11_dequeue 1 = .ok (.iload_n 1, 1) := by decide +kernel
theorem dX11_dequeue_2 : decode cX11_dequeue 2 = .ok (.invokevirtual 344, 3) := by decide +kernel
theorem dX11_dequeue_5 : decode cX11_dequeue 5 = .ok (.ifCond .eq 5, 3) := by decide +kernel
theorem dX11_dequeue_8 : decode cX11_dequeue 8 = .ok (.iconst 0, 1) := by decide +kernel
theorem dX11_dequeue_9 : decode cX11_dequeue 9 = .ok (.ireturn, 1) := by decide +kernel
set_option maxRecDepth 100000 in
set_option maxHeartbeats 4000000 in
theorem m_dequeue_0 (l : Launch) (D : va_G) (ct : Nat → ClassId) (mo : Nat) (mw : Nat) (ma : Nat) (mf : Nat) (m0 : Nat) (m1 : Nat) (mu : Nat) (mv : Nat) (u0 : Nat) (u1 : Nat) (iz : Nat) (mb : Nat) (p1 : Int32) (sz : Nat) : Met l yX11_dequeue (ws_ yX11_dequeue cX11_dequeue 2 (some .int)) ({ frames := 2, cells := 0, slots := 0, locals := 46 } : Room) (va_Pc [.ref mo, .int p1] (cmP D ct sz [(mo, .inr (11, [.ref mw, .ref ma, .ref mf, .ref m0, .ref m1, .ref mu, .ref mv, .ref u0, .ref u1, .ref iz, .int 0, .ref mb, .int 0, .int 0, .int 0, .int 0, .int 0, .int 0, .int 0])), (mw, .inl (ct 0, 958, .inl m_w0))])) (va_Qi (fun (r : Int32) (_ : Unit) => True) (cmB D [(mo, .inr (11, [.ref mw, .ref ma, .ref mf, .ref m0, .ref m1, .ref mu, .ref mv, .ref u0, .ref u1, .ref iz, .int 0, .ref mb, .int 0, .int 0, .int 0, .int 0, .int 0, .int 0, .int 0])), (mw, .inl (ct 0, 958, .inl m_w0))] sz (fun _ : Unit => [(mo, .inr (11, [.ref mw, .ref ma, .ref mf, .ref m0, .ref m1, .ref mu, .ref mv, .ref u0, .ref u1, .ref iz, .int 1, .ref mb, .int 0, .int 0, .int 0, .int 0, .int 0, .int 0, .int 0])), (mw, .inl (ct 0, 958, .inl m_w0))])) (va_A [(mo, .inr (11, [.ref mw, .ref ma, .ref mf, .ref m0, .ref m1, .ref mu, .ref mv, .ref u0, .ref u1, .ref iz, .int 0, .ref mb, .int 0, .int 0, .int 0, .int 0, .int 0, .int 0, .int 0])), (mw, .inl (ct 0, 958, .inl m_w0))] sz)) 0 0 (va_A [(mo, .inr (11, [.ref mw, .ref ma, .ref mf, .ref m0, .ref m1, .ref mu, .ref mv, .ref u0, .ref u1, .ref iz, .int 0, .ref mb, .int 0, .int 0, .int 0, .int 0, .int 0, .int 0, .int 0])), (mw, .inl (ct 0, 958, .inl m_w0))] sz) := by
  refine Met.ofW (cc := cX11_dequeue) (maxL := 2) (ret := (some .int)) (by decide) rfl ?_
  intro p e s m args below meth c s₁ B hml hv
  obtain ⟨rfl, hsz, hP, hK, hD0, hX⟩ := hv
  have hx := B.exec
  have hb := B.bytes
  have hr := B.returns
  have hts := ws_all (atoms_spec (ws := ws_ yX11_dequeue cX11_dequeue 2 (some .int)) B.pre)
  have hown : s.vm.findClass RX11 = some m.cls := findClass_of_methodNamed B.named
  have hlocks := B.notSynchronized
  subst hsz
  have hD := hD0.self (sz := s.heap.size)
  generalize hAe : va_A [(mo, .inr (11, [.ref mw, .ref ma, .ref mf, .ref m0, .ref m1, .ref mu, .ref mv, .ref u0, .ref u1, .ref iz, .int 0, .ref mb, .int 0, .int 0, .int 0, .int 0, .int 0, .int 0, .int 0])), (mw, .inl (ct 0, 958, .inl m_w0))] s.heap.size = A at hD hX ⊢
  have hA : ∀ q : Nat, s.heap.size ≤ q → A q := fun q h => by rw [← hAe]; exact Or.inr h
  have hS : va_S A s.heap s.heap [] := va_S.rf
  have hl := lv_entry ([.ref mo, .int p1]) (n := 2) (Nat.le_of_ble_eq_true rfl)
  rw [lg_entry_eq]
  generalize (lg_sl ([.ref mo, .int p1]) ++ List.replicate (2 - (lg_sl ([.ref mo, .int p1])).length) Slot.unset).toArray = ls at hl ⊢
  have hl : lv_has ls 2 [(0, .ref mo), (1, .int p1)] := hl
  refine lv_aload_n hx hb dX11_dequeue_0 rfl (lv_at hl 0 rfl) ?_
  refine lv_iload_n hx hb dX11_dequeue_1 rfl (lv_at hl 1 rfl) ?_
  refine cm_ki (wr := []) (va_runV (As := [.int p1]) (rest := []) ⟨hx, hb, hml, hown, hts⟩ (m_noChannel l D ct mo mw ma mf m0 m1 mu mv u0 u1 iz mb p1 _) (cm_V 1 hts kc_X11_noChannel ki_RX11 kl_RX11_344 kv_X11_noChannel kx_X11_noChannel kd_X11_noChannel ⟨Nat.le_of_ble_eq_true rfl, Nat.le_of_ble_eq_true rfl⟩) (cm_preV hP hK hD hS hA hX [0, 1] rfl rfl rfl (q0 := 0) (ci := 11) rfl rfl) rfl rfl hl.1 rfl (lv_room (Nat.le_of_ble_eq_true rfl)) dX11_dequeue_2 ⟨Nat.le_of_ble_eq_true rfl, Nat.le_of_ble_eq_true rfl⟩) hP hD hS hA [0, 1] [] rfl rfl rfl (by decide) (fun r_1 u H locs hw_2 hP hD hS => ?_)
  have hw_2 : r_1 = 1 := hw_2
  obtain rfl := hw_2
  have hP : va_P D vwCl [(mo, .inr (11, [.ref mw, .ref ma, .ref mf, .ref m0, .ref m1, .ref mu, .ref mv, .ref u0, .ref u1, .ref iz, .int 1, .ref mb, .int 0, .int 0, .int 0, .int 0, .int 0, .int 0, .int 0])), (mw, .inl (ct 0, 958, .inl m_w0))] H := hP
  have hD : va_D A [(mo, .inr (11, [.ref mw, .ref ma, .ref mf, .ref m0, .ref m1, .ref mu, .ref mv, .ref u0, .ref u1, .ref iz, .int 1, .ref mb, .int 0, .int 0, .int 0, .int 0, .int 0, .int 0, .int 0])), (mw, .inl (ct 0, 958, .inl m_w0))] := hD
  refine lv_if_eq (tgt := 10) hx hb dX11_dequeue_5 (by decide) (fun hc => absurd hc (by decide)) (fun _ => ?_)
  refine lv_iconst (v := 0) hx hb dX11_dequeue_8 (by decide) ?_
  have hP9 := hP.sub (ws' := [(mo, .inr (11, [.ref mw, .ref ma, .ref mf, .ref m0, .ref m1, .ref mu, .ref mv, .ref u0, .ref u1, .ref iz, .int 1, .ref mb, .int 0, .int 0, .int 0, .int 0, .int 0, .int 0, .int 0])), (mw, .inl (ct 0, 958, .inl m_w0))]) [0, 1] rfl
  have hD9 := hD.sub (ws' := [(mo, .inr (11, [.ref mw, .ref ma, .ref mf, .ref m0, .ref m1, .ref mu, .ref mv, .ref u0, .ref u1, .ref iz, .int 1, .ref mb, .int 0, .int 0, .int 0, .int 0, .int 0, .int 0, .int 0])), (mw, .inl (ct 0, 958, .inl m_w0))]) [0, 1] (by decide) rfl
  exact W.iret (v := 0) hx hb hr (fun t ht hW => ⟨⟨0, (), rfl, trivial, by rw [ht]; exact hP9, by rw [hAe]; exact hD9⟩, hS.F ht⟩) hS.2.2 dX11_dequeue_9
theorem dX11_startNext_0 : decode cX11_startNext 0 = .ok (.aload_n 0, 1) := by decide +kernel
theorem dX11_startNext_1 : decode cX11_startNext 1 = .ok (.iload_n 1, 1) := by decide +kernel
theorem dX11_startNext_2 : decode cX11_startNext 2 = .ok (.invokevirtual 344, 3) := by decide +kernel
theorem dX11_startNext_5 : decode cX11_startNext 5 = .ok (.ifCond .eq 5, 3) := by decide +kernel
theorem dX11_startNext_8 : decode cX11_startNext 8 = .ok (.iconst 0, 1) := by decide +kernel
theorem dX11_startNext_9 : decode cX11_startNext 9 = .ok (.ireturn, 1) := by decide +kernel
set_option maxRecDepth 100000 in
set_option maxHeartbeats 4000000 in
theorem m_startNext_0 (l : Launch) (D : va_G) (ct : Nat → ClassId) (mo : Nat) (mw : Nat) (ma : Nat) (mf : Nat) (m0 : Nat) (m1 : Nat) (mu : Nat) (mv : Nat) (u0 : Nat) (u1 : Nat) (iz : Nat) (mb : Nat) (p1 : Int32) (sz : Nat) : Met l yX11_startNext (ws_ yX11_startNext cX11_startNext 3 (some .int)) ({ frames := 2, cells := 0, slots := 0, locals := 46 } : Room) (va_Pc [.ref mo, .int p1] (cmP D ct sz [(mo, .inr (11, [.ref mw, .ref ma, .ref mf, .ref m0, .ref m1, .ref mu, .ref mv, .ref u0, .ref u1, .ref iz, .int 0, .ref mb, .int 0, .int 0, .int 0, .int 0, .int 0, .int 0, .int 0])), (mw, .inl (ct 0, 958, .inl m_w0))])) (va_Qi (fun (r : Int32) (_ : Unit) => True) (cmB D [(mo, .inr (11, [.ref mw, .ref ma, .ref mf, .ref m0, .ref m1, .ref mu, .ref mv, .ref u0, .ref u1, .ref iz, .int 0, .ref mb, .int 0, .int 0, .int 0, .int 0, .int 0, .int 0, .int 0])), (mw, .inl (ct 0, 958, .inl m_w0))] sz (fun _ : Unit => [(mo, .inr (11, [.ref mw, .ref ma, .ref mf, .ref m0, .ref m1, .ref mu, .ref mv, .ref u0, .ref u1, .ref iz, .int 1, .ref mb, .int 0, .int 0, .int 0, .int 0, .int 0, .int 0, .int 0])), (mw, .inl (ct 0, 958, .inl m_w0))])) (va_A [(mo, .inr (11, [.ref mw, .ref ma, .ref mf, .ref m0, .ref m1, .ref mu, .ref mv, .ref u0, .ref u1, .ref iz, .int 0, .ref mb, .int 0, .int 0, .int 0, .int 0, .int 0, .int 0, .int 0])), (mw, .inl (ct 0, 958, .inl m_w0))] sz)) 0 0 (va_A [(mo, .inr (11, [.ref mw, .ref ma, .ref mf, .ref m0, .ref m1, .ref mu, .ref mv, .ref u0, .ref u1, .ref iz, .int 0, .ref mb, .int 0, .int 0, .int 0, .int 0, .int 0, .int 0, .int 0])), (mw, .inl (ct 0, 958, .inl m_w0))] sz) := by
  refine Met.ofW (cc := cX11_startNext) (maxL := 3) (ret := (some .int)) (by decide) rfl ?_
  intro p e s m args below meth c s₁ B hml hv
  obtain ⟨rfl, hsz, hP, hK, hD0, hX⟩ := hv
  have hx := B.exec
  have hb := B.bytes
  have hr := B.returns
  have hts := ws_all (atoms_spec (ws := ws_ yX11_startNext cX11_startNext 3 (some .int)) B.pre)
  have hown : s.vm.findClass RX11 = some m.cls := findClass_of_methodNamed B.named
  have hlocks := B.notSynchronized
  subst hsz
  have hD := hD0.self (sz := s.heap.size)
  generalize hAe : va_A [(mo, .inr (11, [.ref mw, .ref ma, .ref mf, .ref m0, .ref m1, .ref mu, .ref mv, .ref u0, .ref u1, .ref iz, .int 0, .ref mb, .int 0, .int 0, .int 0, .int 0, .int 0, .int 0, .int 0])), (mw, .inl (ct 0, 958, .inl m_w0))] s.heap.size = A at hD hX ⊢
  have hA : ∀ q : Nat, s.heap.size ≤ q → A q := fun q h => by rw [← hAe]; exact Or.inr h
  have hS : va_S A s.heap s.heap [] := va_S.rf
  have hl := lv_entry ([.ref mo, .int p1]) (n := 3) (Nat.le_of_ble_eq_true rfl)
  rw [lg_entry_eq]
  generalize (lg_sl ([.ref mo, .int p1]) ++ List.replicate (3 - (lg_sl ([.ref mo, .int p1])).length) Slot.unset).toArray = ls at hl ⊢
  have hl : lv_has ls 3 [(0, .ref mo), (1, .int p1)] := hl
  refine lv_aload_n hx hb dX11_startNext_0 rfl (lv_at hl 0 rfl) ?_
  refine lv_iload_n hx hb dX11_startNext_1 rfl (lv_at hl 1 rfl) ?_
  refine cm_ki (wr := []) (va_runV (As := [.int p1]) (rest := []) ⟨hx, hb, hml, hown, hts⟩ (m_noChannel l D ct mo mw ma mf m0 m1 mu mv u0 u1 iz mb p1 _) (cm_V 1 hts kc_X11_noChannel ki_RX11 kl_RX11_344 kv_X11_noChannel kx_X11_noChannel kd_X11_noChannel ⟨Nat.le_of_ble_eq_true rfl, Nat.le_of_ble_eq_true rfl⟩) (cm_preV hP hK hD hS hA hX [0, 1] rfl rfl rfl (q0 := 0) (ci := 11) rfl rfl) rfl rfl hl.1 rfl (lv_room (Nat.le_of_ble_eq_true rfl)) dX11_startNext_2 ⟨Nat.le_of_ble_eq_true rfl, Nat.le_of_ble_eq_true rfl⟩) hP hD hS hA [0, 1] [] rfl rfl rfl (by decide) (fun r_1 u H locs hw_2 hP hD hS => ?_)
  have hw_2 : r_1 = 1 := hw_2
  obtain rfl := hw_2
  have hP : va_P D vwCl [(mo, .inr (11, [.ref mw, .ref ma, .ref mf, .ref m0, .ref m1, .ref mu, .ref mv, .ref u0, .ref u1, .ref iz, .int 1, .ref mb, .int 0, .int 0, .int 0, .int 0, .int 0, .int 0, .int 0])), (mw, .inl (ct 0, 958, .inl m_w0))] H := hP
  have hD : va_D A [(mo, .inr (11, [.ref mw, .ref ma, .ref mf, .ref m0, .ref m1, .ref mu, .ref mv, .ref u0, .ref u1, .ref iz, .int 1, .ref mb, .int 0, .int 0, .int 0, .int 0, .int 0, .int 0, .int 0])), (mw, .inl (ct 0, 958, .inl m_w0))] := hD
  refine lv_if_eq (tgt := 10) hx hb dX11_startNext_5 (by decide) (fun hc => absurd hc (by decide)) (fun _ => ?_)
  refine lv_iconst (v := 0) hx hb dX11_startNext_8 (by decide) ?_
  have hP9 := hP.sub (ws' := [(mo, .inr (11, [.ref mw, .ref ma, .ref mf, .ref m0, .ref m1, .ref mu, .ref mv, .ref u0, .ref u1, .ref iz, .int 1, .ref mb, .int 0, .int 0, .int 0, .int 0, .int 0, .int 0, .int 0])), (mw, .inl (ct 0, 958, .inl m_w0))]) [0, 1] rfl
  have hD9 := hD.sub (ws' := [(mo, .inr (11, [.ref mw, .ref ma, .ref mf, .ref m0, .ref m1, .ref mu, .ref mv, .ref u0, .ref u1, .ref iz, .int 1, .ref mb, .int 0, .int 0, .int 0, .int 0, .int 0, .int 0, .int 0])), (mw, .inl (ct 0, 958, .inl m_w0))]) [0, 1] (by decide) rfl
  exact W.iret (v := 0) hx hb hr (fun t ht hW => ⟨⟨0, (), rfl, trivial, by rw [ht]; exact hP9, by rw [hAe]; exact hD9⟩, hS.F ht⟩) hS.2.2 dX11_startNext_9
theorem dX11_queueAt_0 : decode cX11_queueAt 0 = .ok (.aload_n 0, 1) := by decide +kernel
theorem dX11_queueAt_1 : decode cX11_queueAt 1 = .ok (.iload_n 1, 1) := by decide +kernel
theorem dX11_queueAt_2 : decode cX11_queueAt 2 = .ok (.invokevirtual 344, 3) := by decide +kernel
theorem dX11_queueAt_5 : decode cX11_queueAt 5 = .ok (.ifCond .eq 5, 3) := by decide +kernel
theorem dX11_queueAt_8 : decode cX11_queueAt 8 = .ok (.iconst 0, 1) := by decide +kernel
theorem dX11_queueAt_9 : decode cX11_queueAt 9 = .ok (.ireturn, 1) := by decide +kernel
set_option maxRecDepth 100000 in
set_option maxHeartbeats 4000000 in
theorem m_queueAt_0 (l : Launch) (D : va_G) (ct : Nat → ClassId) (mo : Nat) (mw : Nat) (ma : Nat) (mf : Nat) (m0 : Nat) (m1 : Nat) (mu : Nat) (mv : Nat) (u0 : Nat) (u1 : Nat) (iz : Nat) (mb : Nat) (p1 : Int32) (p2 : Int32) (sz : Nat) : Met l yX11_queueAt (ws_ yX11_queueAt cX11_queueAt 3 (some .int)) ({ frames := 2, cells := 0, slots := 0, locals := 46 } : Room) (va_Pc [.ref mo, .int p1, .int p2] (cmP D ct sz [(mo, .inr (11, [.ref mw, .ref ma, .ref mf, .ref m0, .ref m1, .ref mu, .ref mv, .ref u0, .ref u1, .ref iz, .int 0, .ref mb, .int 0, .int 0, .int 0, .int 0, .int 0, .int 0, .int 0])), (mw, .inl (ct 0, 958, .inl m_w0))])) (va_Qi (fun (r : Int32) (_ : Unit) => True) (cmB D [(mo, .inr (11, [.ref mw, .ref ma, .ref mf, .ref m0, .ref m1, .ref mu, .ref mv, .ref u0, .ref u1, .ref iz, .int 0, .ref mb, .int 0, .int 0, .int 0, .int 0, .int 0, .int 0, .int 0])), (mw, .inl (ct 0, 958, .inl m_w0))] sz (fun _ : Unit => [(mo, .inr (11, [.ref mw, .ref ma, .ref mf, .ref m0, .ref m1, .ref mu, .ref mv, .ref u0, .ref u1, .ref iz, .int 1, .ref mb, .int 0, .int 0, .int 0, .int 0, .int 0, .int 0, .int 0])), (mw, .inl (ct 0, 958, .inl m_w0))])) (va_A [(mo, .inr (11, [.ref mw, .ref ma, .ref mf, .ref m0, .ref m1, .ref mu, .ref mv, .ref u0, .ref u1, .ref iz, .int 0, .ref mb, .int 0, .int 0, .int 0, .int 0, .int 0, .int 0, .int 0])), (mw, .inl (ct 0, 958, .inl m_w0))] sz)) 0 0 (va_A [(mo, .inr (11, [.ref mw, .ref ma, .ref mf, .ref m0, .ref m1, .ref mu, .ref mv, .ref u0, .ref u1, .ref iz, .int 0, .ref mb, .int 0, .int 0, .int 0, .int 0, .int 0, .int 0, .int 0])), (mw, .inl (ct 0, 958, .inl m_w0))] sz) := by
  refine Met.ofW (cc := cX11_queueAt) (maxL := 3) (ret := (some .int)) (by decide) rfl ?_
  intro p e s m args below meth c s₁ B hml hv
  obtain ⟨rfl, hsz, hP, hK, hD0, hX⟩ := hv
  have hx := B.exec
  have hb := B.bytes
  have hr := B.returns
  have hts := ws_all (atoms_spec (ws := ws_ yX11_queueAt cX11_queueAt 3 (some .int)) B.pre)
  have hown : s.vm.findClass RX11 = some m.cls := findClass_of_methodNamed B.named
  have hlocks := B.notSynchronized
  subst hsz
  have hD := hD0.self (sz := s.heap.size)
  generalize hAe : va_A [(mo, .inr (11, [.ref mw, .ref ma, .ref mf, .ref m0, .ref m1, .ref mu, .ref mv, .ref u0, .ref u1, .ref iz, .int 0, .ref mb, .int 0, .int 0, .int 0, .int 0, .int 0, .int 0, .int 0])), (mw, .inl (ct 0, 958, .inl m_w0))] s.heap.size = A at hD hX ⊢
  have hA : ∀ q : Nat, s.heap.size ≤ q → A q := fun q h => by rw [← hAe]; exact Or.inr h
  have hS : va_S A s.heap s.heap [] := va_S.rf
  have hl := lv_entry ([.ref mo, .int p1, .int p2]) (n := 3) (Nat.le_of_ble_eq_true rfl)
  rw [lg_entry_eq]
  generalize (lg_sl ([.ref mo, .int p1, .int p2]) ++ List.replicate (3 - (lg_sl ([.ref mo, .int p1, .int p2])).length) Slot.unset).toArray = ls at hl ⊢
  have hl : lv_has ls 3 [(0, .ref mo), (1, .int p1), (2, .int p2)] := hl
  refine lv_aload_n hx hb dX11_queueAt_0 rfl (lv_at hl 0 rfl) ?_
  refine lv_iload_n hx hb dX11_queueAt_1 rfl (lv_at hl 1 rfl) ?_
  refine cm_ki (wr := []) (va_runV (As := [.int p1]) (rest := []) ⟨hx, hb, hml, hown, hts⟩ (m_noChannel l D ct mo mw ma mf m0 m1 mu mv u0 u1 iz mb p1 _) (cm_V 1 hts kc_X11_noChannel ki_RX11 kl_RX11_344 kv_X11_noChannel kx_X11_noChannel kd_X11_noChannel ⟨Nat.le_of_ble_eq_true rfl, Nat.le_of_ble_eq_true rfl⟩) (cm_preV hP hK hD hS hA hX [0, 1] rfl rfl rfl (q0 := 0) (ci := 11) rfl rfl) rfl rfl hl.1 rfl (lv_room (Nat.le_of_ble_eq_true rfl)) dX11_queueAt_2 ⟨Nat.le_of_ble_eq_true rfl, Nat.le_of_ble_eq_true rfl⟩) hP hD hS hA [0, 1] [] rfl rfl rfl (by decide) (fun r_1 u H locs hw_2 hP hD hS => ?_)
  have hw_2 : r_1 = 1 := hw_2
  obtain rfl := hw_2
  have hP : va_P D vwCl [(mo, .inr (11, [.ref mw, .ref ma, .ref mf, .ref m0, .ref m1, .ref mu, .ref mv, .ref u0, .ref u1, .ref iz, .int 1, .ref mb, .int 0, .int 0, .int 0, .int 0, .int 0, .int 0, .int 0])), (mw, .inl (ct 0, 958, .inl m_w0))] H := hP
  have hD : va_D A [(mo, .inr (11, [.ref mw, .ref ma, .ref mf, .ref m0, .ref m1, .ref mu, .ref mv, .ref u0, .ref u1, .ref iz, .int 1, .ref mb, .int 0, .int 0, .int 0, .int 0, .int 0, .int 0, .int 0])), (mw, .inl (ct 0, 958, .inl m_w0))] := hD
  refine lv_if_eq (tgt := 10) hx hb dX11_queueAt_5 (by decide) (fun hc => absurd hc (by decide)) (fun _ => ?_)
  refine lv_iconst (v := 0) hx hb dX11_queueAt_8 (by decide) ?_
  have hP9 := hP.sub (ws' := [(mo, .inr (11, [.ref mw, .ref ma, .ref mf, .ref m0, .ref m1, .ref mu, .ref mv, .ref u0, .ref u1, .ref iz, .int 1, .ref mb, .int 0, .int 0, .int 0, .int 0, .int 0, .int 0, .int 0])), (mw, .inl (ct 0, 958, .inl m_w0))]) [0, 1] rfl
  have hD9 := hD.sub (ws' := [(mo, .inr (11, [.ref mw, .ref ma, .ref mf, .ref m0, .ref m1, .ref mu, .ref mv, .ref u0, .ref u1, .ref iz, .int 1, .ref mb, .int 0, .int 0, .int 0, .int 0, .int 0, .int 0, .int 0])), (mw, .inl (ct 0, 958, .inl m_w0))]) [0, 1] (by decide) rfl
  exact W.iret (v := 0) hx hb hr (fun t ht hW => ⟨⟨0, (), rfl, trivial, by rw [ht]; exact hP9, by rw [hAe]; exact hD9⟩, hS.F ht⟩) hS.2.2 dX11_queueAt_9
theorem dX11_queueSize_0 : decode cX11_queueSize 0 = .ok (.aload_n 0, 1) := by decide +kernel
theorem dX11_queueSize_1 : decode cX11_queueSize 1 = .ok (.iload_n 1, 1) := by decide +kernel
theorem dX11_queueSize_2 : decode cX11_queueSize 2 = .ok (.invokevirtual 344, 3) := by decide +kernel
theorem dX11_queueSize_5 : decode cX11_queueSize 5 = .ok (.ifCond .eq 7, 3) := by decide +kernel
theorem dX11_queueSize_8 : decode cX11_queueSize 8 = .ok (.iconst 0, 1) := by decide +kernel
theorem dX11_queueSize_9 : decode cX11_queueSize 9 = .ok (.goto 10, 3) := by decide +kernel
theorem dX11_queueSize_19 : decode cX11_queueSize 19 = .ok (.ireturn, 1) := by decide +kernel
set_option maxRecDepth 100000 in
set_option maxHeartbeats 4000000 in
theorem m_queueSize_0 (l : Launch) (D : va_G) (ct : Nat → ClassId) (mo : Nat) (mw : Nat) (ma : Nat) (mf : Nat) (m0 : Nat) (m1 : Nat) (mu : Nat) (mv : Nat) (u0 : Nat) (u1 : Nat) (iz : Nat) (mb : Nat) (p1 : Int32) (sz : Nat) : Met l yX11_queueSize (ws_ yX11_queueSize cX11_queueSize 2 (some .int)) ({ frames := 2, cells := 0, slots := 0, locals := 46 } : Room) (va_Pc [.ref mo, .int p1] (cmP D ct sz [(mo, .inr (11, [.ref mw, .ref ma, .ref mf, .ref m0, .ref m1, .ref mu, .ref mv, .ref u0, .ref u1, .ref iz, .int 0, .ref mb, .int 0, .int 0, .int 0, .int 0, .int 0, .int 0, .int 0])), (mw, .inl (ct 0, 958, .inl m_w0))])) (va_Qi (fun (r : Int32) (_ : Unit) => True) (cmB D [(mo, .inr (11, [.ref mw, .ref ma, .ref mf, .ref m0, .ref m1, .ref mu, .ref mv, .ref u0, .ref u1, .ref iz, .int 0, .ref mb, .int 0, .int 0, .int 0, .int 0, .int 0, .int 0, .int 0])), (mw, .inl (ct 0, 958, .inl m_w0))] sz (fun _ : Unit => [(mo, .inr (11, [.ref mw, .ref ma, .ref mf, .ref m0, .ref m1, .ref mu, .ref mv, .ref u0, .ref u1, .ref iz, .int 1, .ref mb, .int 0, .int 0, .int 0, .int 0, .int 0, .int 0, .int 0])), (mw, .inl (ct 0, 958, .inl m_w0))])) (va_A [(mo, .inr (11, [.ref mw, .ref ma, .ref mf, .ref m0, .ref m1, .ref mu, .ref mv, .ref u0, .ref u1, .ref iz, .int 0, .ref mb, .int 0, .int 0, .int 0, .int 0, .int 0, .int 0, .int 0])), (mw, .inl (ct 0, 958, .inl m_w0))] sz)) 0 0 (va_A [(mo, .inr (11, [.ref mw, .ref ma, .ref mf, .ref m0, .ref m1, .ref mu, .ref mv, .ref u0, .ref u1, .ref iz, .int 0, .ref mb, .int 0, .int 0, .int 0, .int 0, .int 0, .int 0, .int 0])), (mw, .inl (ct 0, 958, .inl m_w0))] sz) := by
  refine Met.ofW (cc := cX11_queueSize) (maxL := 2) (ret := (some .int)) (by decide) rfl ?_
  intro p e s m args below meth c s₁ B hml hv
  obtain ⟨rfl, hsz, hP, hK, hD0, hX⟩ := hv
  have hx := B.exec
  have hb := B.bytes
  have hr := B.returns
  have hts := ws_all (atoms_spec (ws := ws_ yX11_queueSize cX11_queueSize 2 (some .int)) B.pre)
  have hown : s.vm.findClass RX11 = some m.cls := findClass_of_methodNamed B.named
  have hlocks := B.notSynchronized
  subst hsz
  have hD := hD0.self (sz := s.heap.size)
  generalize hAe : va_A [(mo, .inr (11, [.ref mw, .ref ma, .ref mf, .ref m0, .ref m1, .ref mu, .ref mv, .ref u0, .ref u1, .ref iz, .int 0, .ref mb, .int 0, .int 0, .int 0, .int 0, .int 0, .int 0, .int 0])), (mw, .inl (ct 0, 958, .inl m_w0))] s.heap.size = A at hD hX ⊢
  have hA : ∀ q : Nat, s.heap.size ≤ q → A q := fun q h => by rw [← hAe]; exact Or.inr h
  have hS : va_S A s.heap s.heap [] := va_S.rf
  have hl := lv_entry ([.ref mo, .int p1]) (n := 2) (Nat.le_of_ble_eq_true rfl)
  rw [lg_entry_eq]
  generalize (lg_sl ([.ref mo, .int p1]) ++ List.replicate (2 - (lg_sl ([.ref mo, .int p1])).length) Slot.unset).toArray = ls at hl ⊢
  have hl : lv_has ls 2 [(0, .ref mo), (1, .int p1)] := hl
  refine lv_aload_n hx hb dX11_queueSize_0 rfl (lv_at hl 0 rfl) ?_
  refine lv_iload_n hx hb dX11_queueSize_1 rfl (lv_at hl 1 rfl) ?_
  refine cm_ki (wr := []) (va_runV (As := [.int p1]) (rest := []) ⟨hx, hb, hml, hown, hts⟩ (m_noChannel l D ct mo mw ma mf m0 m1 mu mv u0 u1 iz mb p1 _) (cm_V 1 hts kc_X11_noChannel ki_RX11 kl_RX11_344 kv_X11_noChannel kx_X11_noChannel kd_X11_noChannel ⟨Nat.le_of_ble_eq_true rfl, Nat.le_of_ble_eq_true rfl⟩) (cm_preV hP hK hD hS hA hX [0, 1] rfl rfl rfl (q0 := 0) (ci := 11) rfl rfl) rfl rfl hl.1 rfl (lv_room (Nat.le_of_ble_eq_true rfl)) dX11_queueSize_2 ⟨Nat.le_of_ble_eq_true rfl, Nat.le_of_ble_eq_true rfl⟩) hP hD hS hA [0, 1] [] rfl rfl rfl (by decide) (fun r_1 u H locs hw_2 hP hD hS => ?_)
  have hw_2 : r_1 = 1 := hw_2
  obtain rfl := hw_2
  have hP : va_P D vwCl [(mo, .inr (11, [.ref mw, .ref ma, .ref mf, .ref m0, .ref m1, .ref mu, .ref mv, .ref u0, .ref u1, .ref iz, .int 1, .ref mb, .int 0, .int 0, .int 0, .int 0, .int 0, .int 0, .int 0])), (mw, .inl (ct 0, 958, .inl m_w0))] H := hP
  have hD : va_D A [(mo, .inr (11, [.ref mw, .ref ma, .ref mf, .ref m0, .ref m1, .ref mu, .ref mv, .ref u0, .ref u1, .ref iz, .int 1, .ref mb, .int 0, .int 0, .int 0, .int 0, .int 0, .int 0, .int 0])), (mw, .inl (ct 0, 958, .inl m_w0))] := hD
  refine lv_if_eq (tgt := 12) hx hb dX11_queueSize_5 (by decide) (fun hc => absurd hc (by decide)) (fun _ => ?_)
  refine lv_iconst (v := 0) hx hb dX11_queueSize_8 (by decide) ?_
  refine lv_goto (tgt := 19) hx hb dX11_queueSize_9 (by decide) ?_
  have hP9 := hP.sub (ws' := [(mo, .inr (11, [.ref mw, .ref ma, .ref mf, .ref m0, .ref m1, .ref mu, .ref mv, .ref u0, .ref u1, .ref iz, .int 1, .ref mb, .int 0, .int 0, .int 0, .int 0, .int 0, .int 0, .int 0])), (mw, .inl (ct 0, 958, .inl m_w0))]) [0, 1] rfl
  have hD9 := hD.sub (ws' := [(mo, .inr (11, [.ref mw, .ref ma, .ref mf, .ref m0, .ref m1, .ref mu, .ref mv, .ref u0, .ref u1, .ref iz, .int 1, .ref mb, .int 0, .int 0, .int 0, .int 0, .int 0, .int 0, .int 0])), (mw, .inl (ct 0, 958, .inl m_w0))]) [0, 1] (by decide) rfl
  exact W.iret (v := 0) hx hb hr (fun t ht hW => ⟨⟨0, (), rfl, trivial, by rw [ht]; exact hP9, by rw [hAe]; exact hD9⟩, hS.F ht⟩) hS.2.2 dX11_queueSize_19
theorem dX11_internalResistance_0 : decode cX11_internalResistance 0 = .ok (.aload_n 0, 1) := by decide +kernel
theorem dX11_internalResistance_1 : decode cX11_internalResistance 1 = .ok (.iload_n 1, 1) := by decide +kernel
theorem dX11_internalResistance_2 : decode cX11_internalResistance 2 = .ok (.invokevirtual 344, 3) := by decide +kernel
theorem dX11_internalResistance_5 : decode cX11_internalResistance 5 = .ok (.ifCond .eq 7, 3) := by decide +kernel
theorem dX11_internalResistance_8 : decode cX11_internalResistance 8 = .ok (.iconst 0, 1) := by decide +kernel
theorem dX11_internalResistance_9 : decode cX11_internalResistance 9 = .ok (.goto 10, 3) := by decide +kernel
theorem dX11_internalResistance_19 : decode cX11_internalResistance 19 = .ok (.ireturn, 1) := by decide +kernel
set_option maxRecDepth 100000 in
set_option maxHeartbeats 4000000 in
theorem m_internalResistance_0 (l : Launch) (D : va_G) (ct : Nat → ClassId) (mo : Nat) (mw : Nat) (ma : Nat) (mf : Nat) (m0 : Nat) (m1 : Nat) (mu : Nat) (mv : Nat) (u0 : Nat) (u1 : Nat) (iz : Nat) (mb : Nat) (p1 : Int32) (sz : Nat) : Met l yX11_internalResistance (ws_ yX11_internalResistance cX11_internalResistance 2 (some .int)) ({ frames := 2, cells := 0, slots := 0, locals := 46 } : Room) (va_Pc [.ref mo, .int p1] (cmP D ct sz [(mo, .inr (11, [.ref mw, .ref ma, .ref mf, .ref m0, .ref m1, .ref mu, .ref mv, .ref u0, .ref u1, .ref iz, .int 0, .ref mb, .int 0, .int 0, .int 0, .int 0, .int 0, .int 0, .int 0])), (mw, .inl (ct 0, 958, .inl m_w0))])) (va_Qi (fun (r : Int32) (_ : Unit) => True) (cmB D [(mo, .inr (11, [.ref mw, .ref ma, .ref mf, .ref m0, .ref m1, .ref mu, .ref mv, .ref u0, .ref u1, .ref iz, .int 0, .ref mb, .int 0, .int 0, .int 0, .int 0, .int 0, .int 0, .int 0])), (mw, .inl (ct 0, 958, .inl m_w0))] sz (fun _ : Unit => [(mo, .inr (11, [.ref mw, .ref ma, .ref mf, .ref m0, .ref m1, .ref mu, .ref mv, .ref u0, .ref u1, .ref iz, .int 1, .ref mb, .int 0, .int 0, .int 0, .int 0, .int 0, .int 0, .int 0])), (mw, .inl (ct 0, 958, .inl m_w0))])) (va_A [(mo, .inr (11, [.ref mw, .ref ma, .ref mf, .ref m0, .ref m1, .ref mu, .ref mv, .ref u0, .ref u1, .ref iz, .int 0, .ref mb, .int 0, .int 0, .int 0, .int 0, .int 0, .int 0, .int 0])), (mw, .inl (ct 0, 958, .inl m_w0))] sz)) 0 0 (va_A [(mo, .inr (11, [.ref mw, .ref ma, .ref mf, .ref m0, .ref m1, .ref mu, .ref mv, .ref u0, .ref u1, .ref iz, .int 0, .ref mb, .int 0, .int 0, .int 0, .int 0, .int 0, .int 0, .int 0])), (mw, .inl (ct 0, 958, .inl m_w0))] sz) := by
  refine Met.ofW (cc := cX11_internalResistance) (maxL := 2) (ret := (some .int)) (by decide) rfl ?_
  intro p e s m args below meth c s₁ B hml hv
  obtain ⟨rfl, hsz, hP, hK, hD0, hX⟩ := hv
  have hx := B.exec
  have hb := B.bytes
  have hr := B.returns
  have hts := ws_all (atoms_spec (ws := ws_ yX11_internalResistance cX11_internalResistance 2 (some .int)) B.pre)
  have hown : s.vm.findClass RX11 = some m.cls := findClass_of_methodNamed B.named
  have hlocks := B.notSynchronized
  subst hsz
  have hD := hD0.self (sz := s.heap.size)
  generalize hAe : va_A [(mo, .inr (11, [.ref mw, .ref ma, .ref mf, .ref m0, .ref m1, .ref mu, .ref mv, .ref u0, .ref u1, .ref iz, .int 0, .ref mb, .int 0, .int 0, .int 0, .int 0, .int 0, .int 0, .int 0])), (mw, .inl (ct 0, 958, .inl m_w0))] s.heap.size = A at hD hX ⊢
  have hA : ∀ q : Nat, s.heap.size ≤ q → A q := fun q h => by rw [← hAe]; exact Or.inr h
  have hS : va_S A s.heap s.heap [] := va_S.rf
  have hl := lv_entry ([.ref mo, .int p1]) (n := 2) (Nat.le_of_ble_eq_true rfl)
  rw [lg_entry_eq]
  generalize (lg_sl ([.ref mo, .int p1]) ++ List.replicate (2 - (lg_sl ([.ref mo, .int p1])).length) Slot.unset).toArray = ls at hl ⊢
  have hl : lv_has ls 2 [(0, .ref mo), (1, .int p1)] := hl
  refine lv_aload_n hx hb dX11_internalResistance_0 rfl (lv_at hl 0 rfl) ?_
  refine lv_iload_n hx hb dX11_internalResistance_1 rfl (lv_at hl 1 rfl) ?_
  refine cm_ki (wr := []) (va_runV (As := [.int p1]) (rest := []) ⟨hx, hb, hml, hown, hts⟩ (m_noChannel l D ct mo mw ma mf m0 m1 mu mv u0 u1 iz mb p1 _) (cm_V 1 hts kc_X11_noChannel ki_RX11 kl_RX11_344 kv_X11_noChannel kx_X11_noChannel kd_X11_noChannel ⟨Nat.le_of_ble_eq_true rfl, Nat.le_of_ble_eq_true rfl⟩) (cm_preV hP hK hD hS hA hX [0, 1] rfl rfl rfl (q0 := 0) (ci := 11) rfl rfl) rfl rfl hl.1 rfl (lv_room (Nat.le_of_ble_eq_true rfl)) dX11_internalResistance_2 ⟨Nat.le_of_ble_eq_true rfl, Nat.le_of_ble_eq_true rfl⟩) hP hD hS hA [0, 1] [] rfl rfl rfl (by decide) (fun r_1 u H locs hw_2 hP hD hS => ?_)
  have hw_2 : r_1 = 1 := hw_2
  obtain rfl := hw_2
  have hP : va_P D vwCl [(mo, .inr (11, [.ref mw, .ref ma, .ref mf, .ref m0, .ref m1, .ref mu, .ref mv, .ref u0, .ref u1, .ref iz, .int 1, .ref mb, .int 0, .int 0, .int 0, .int 0, .int 0, .int 0, .int 0])), (mw, .inl (ct 0, 958, .inl m_w0))] H := hP
  have hD : va_D A [(mo, .inr (11, [.ref mw, .ref ma, .ref mf, .ref m0, .ref m1, .ref mu, .ref mv, .ref u0, .ref u1, .ref iz, .int 1, .ref mb, .int 0, .int 0, .int 0, .int 0, .int 0, .int 0, .int 0])), (mw, .inl (ct 0, 958, .inl m_w0))] := hD
  refine lv_if_eq (tgt := 12) hx hb dX11_internalResistance_5 (by decide) (fun hc => absurd hc (by decide)) (fun _ => ?_)
  refine lv_iconst (v := 0) hx hb dX11_internalResistance_8 (by decide) ?_
  refine lv_goto (tgt := 19) hx hb dX11_internalResistance_9 (by decide) ?_
  have hP9 := hP.sub (ws' := [(mo, .inr (11, [.ref mw, .ref ma, .ref mf, .ref m0, .ref m1, .ref mu, .ref mv, .ref u0, .ref u1, .ref iz, .int 1, .ref mb, .int 0, .int 0, .int 0, .int 0, .int 0, .int 0, .int 0])), (mw, .inl (ct 0, 958, .inl m_w0))]) [0, 1] rfl
  have hD9 := hD.sub (ws' := [(mo, .inr (11, [.ref mw, .ref ma, .ref mf, .ref m0, .ref m1, .ref mu, .ref mv, .ref u0, .ref u1, .ref iz, .int 1, .ref mb, .int 0, .int 0, .int 0, .int 0, .int 0, .int 0, .int 0])), (mw, .inl (ct 0, 958, .inl m_w0))]) [0, 1] (by decide) rfl
  exact W.iret (v := 0) hx hb hr (fun t ht hW => ⟨⟨0, (), rfl, trivial, by rw [ht]; exact hP9, by rw [hAe]; exact hD9⟩, hS.F ht⟩) hS.2.2 dX11_internalResistance_19
theorem dX11_ticksIn_0 : decode cX11_ticksIn 0 = .ok (.aload_n 0, 1) := by decide +kernel
theorem dX11_ticksIn_1 : decode cX11_ticksIn 1 = .ok (.iload_n 1, 1) := by decide +kernel
theorem dX11_ticksIn_2 : decode cX11_ticksIn 2 = .ok (.invokevirtual 344, 3) := by decide +kernel
theorem dX11_ticksIn_5 : decode cX11_ticksIn 5 = .ok (.ifCond .ne 28, 3) := by decide +kernel
theorem dX11_ticksIn_33 : decode cX11_ticksIn 33 = .ok (.iconst 0, 1) := by decide +kernel
theorem dX11_ticksIn_34 : decode cX11_ticksIn 34 = .ok (.goto 12, 3) := by decide +kernel
theorem dX11_ticksIn_46 : decode cX11_ticksIn 46 = .ok (.ireturn, 1) := by decide +kernel
set_option maxRecDepth 100000 in
set_option maxHeartbeats 4000000 in
theorem m_ticksIn_0 (l : Launch) (D : va_G) (ct : Nat → ClassId) (mo : Nat) (mw : Nat) (ma : Nat) (mf : Nat) (m0 : Nat) (m1 : Nat) (mu : Nat) (mv : Nat) (u0 : Nat) (u1 : Nat) (iz : Nat) (mb : Nat) (p1 : Int32) (p2 : Int32) (sz : Nat) : Met l yX11_ticksIn (ws_ yX11_ticksIn cX11_ticksIn 3 (some .int)) ({ frames := 2, cells := 0, slots := 0, locals := 46 } : Room) (va_Pc [.ref mo, .int p1, .int p2] (cmP D ct sz [(mo, .inr (11, [.ref mw, .ref ma, .ref mf, .ref m0, .ref m1, .ref mu, .ref mv, .ref u0, .ref u1, .ref iz, .int 0, .ref mb, .int 0, .int 0, .int 0, .int 0, .int 0, .int 0, .int 0])), (mw, .inl (ct 0, 958, .inl m_w0))])) (va_Qi (fun (r : Int32) (_ : Unit) => True) (cmB D [(mo, .inr (11, [.ref mw, .ref ma, .ref mf, .ref m0, .ref m1, .ref mu, .ref mv, .ref u0, .ref u1, .ref iz, .int 0, .ref mb, .int 0, .int 0, .int 0, .int 0, .int 0, .int 0, .int 0])), (mw, .inl (ct 0, 958, .inl m_w0))] sz (fun _ : Unit => [(mo, .inr (11, [.ref mw, .ref ma, .ref mf, .ref m0, .ref m1, .ref mu, .ref mv, .ref u0, .ref u1, .ref iz, .int 1, .ref mb, .int 0, .int 0, .int 0, .int 0, .int 0, .int 0, .int 0])), (mw, .inl (ct 0, 958, .inl m_w0))])) (va_A [(mo, .inr (11, [.ref mw, .ref ma, .ref mf, .ref m0, .ref m1, .ref mu, .ref mv, .ref u0, .ref u1, .ref iz, .int 0, .ref mb, .int 0, .int 0, .int 0, .int 0, .int 0, .int 0, .int 0])), (mw, .inl (ct 0, 958, .inl m_w0))] sz)) 0 0 (va_A [(mo, .inr (11, [.ref mw, .ref ma, .ref mf, .ref m0, .ref m1, .ref mu, .ref mv, .ref u0, .ref u1, .ref iz, .int 0, .ref mb, .int 0, .int 0, .int 0, .int 0, .int 0, .int 0, .int 0])), (mw, .inl (ct 0, 958, .inl m_w0))] sz) := by
  refine Met.ofW (cc := cX11_ticksIn) (maxL := 3) (ret := (some .int)) (by decide) rfl ?_
  intro p e s m args below meth c s₁ B hml hv
  obtain ⟨rfl, hsz, hP, hK, hD0, hX⟩ := hv
  have hx := B.exec
  have hb := B.bytes
  have hr := B.returns
  have hts := ws_all (atoms_spec (ws := ws_ yX11_ticksIn cX11_ticksIn 3 (some .int)) B.pre)
  have hown : s.vm.findClass RX11 = some m.cls := findClass_of_methodNamed B.named
  have hlocks := B.notSynchronized
  subst hsz
  have hD := hD0.self (sz := s.heap.size)
  generalize hAe : va_A [(mo, .inr (11, [.ref mw, .ref ma, .ref mf, .ref m0, .ref m1, .ref mu, .ref mv, .ref u0, .ref u1, .ref iz, .int 0, .ref mb, .int 0, .int 0, .int 0, .int 0, .int 0, .int 0, .int 0])), (mw, .inl (ct 0, 958, .inl m_w0))] s.heap.size = A at hD hX ⊢
  have hA : ∀ q : Nat, s.heap.size ≤ q → A q := fun q h => by rw [← hAe]; exact Or.inr h
  have hS : va_S A s.heap s.heap [] := va_S.rf
  have hl := lv_entry ([.ref mo, .int p1, .int p2]) (n := 3) (Nat.le_of_ble_eq_true rfl)
  rw [lg_entry_eq]
  generalize (lg_sl ([.ref mo, .int p1, .int p2]) ++ List.replicate (3 - (lg_sl ([.ref mo, .int p1, .int p2])).length) Slot.unset).toArray = ls at hl ⊢
  have hl : lv_has ls 3 [(0, .ref mo), (1, .int p1), (2, .int p2)] := hl
  refine lv_aload_n hx hb dX11_ticksIn_0 rfl (lv_at hl 0 rfl) ?_
  refine lv_iload_n hx hb dX11_ticksIn_1 rfl (lv_at hl 1 rfl) ?_
  refine cm_ki (wr := []) (va_runV (As := [.int p1]) (rest := []) ⟨hx, hb, hml, hown, hts⟩ (m_noChannel l D ct mo mw ma mf m0 m1 mu mv u0 u1 iz mb p1 _) (cm_V 1 hts kc_X11_noChannel ki_RX11 kl_RX11_344 kv_X11_noChannel kx_X11_noChannel kd_X11_noChannel ⟨Nat.le_of_ble_eq_true rfl, Nat.le_of_ble_eq_true rfl⟩) (cm_preV hP hK hD hS hA hX [0, 1] rfl rfl rfl (q0 := 0) (ci := 11) rfl rfl) rfl rfl hl.1 rfl (lv_room (Nat.le_of_ble_eq_true rfl)) dX11_ticksIn_2 ⟨Nat.le_of_ble_eq_true rfl, Nat.le_of_ble_eq_true rfl⟩) hP hD hS hA [0, 1] [] rfl rfl rfl (by decide) (fun r_1 u H locs hw_2 hP hD hS => ?_)
  have hw_2 : r_1 = 1 := hw_2
  obtain rfl := hw_2
  have hP : va_P D vwCl [(mo, .inr (11, [.ref mw, .ref ma, .ref mf, .ref m0, .ref m1, .ref mu, .ref mv, .ref u0, .ref u1, .ref iz, .int 1, .ref mb, .int 0, .int 0, .int 0, .int 0, .int 0, .int 0, .int 0])), (mw, .inl (ct 0, 958, .inl m_w0))] H := hP
  have hD : va_D A [(mo, .inr (11, [.ref mw, .ref ma, .ref mf, .ref m0, .ref m1, .ref mu, .ref mv, .ref u0, .ref u1, .ref iz, .int 1, .ref mb, .int 0, .int 0, .int 0, .int 0, .int 0, .int 0, .int 0])), (mw, .inl (ct 0, 958, .inl m_w0))] := hD
  refine lv_if_ne (tgt := 33) hx hb dX11_ticksIn_5 (by decide) (fun _ => ?_) (fun hc => absurd hc (by decide))
  refine lv_iconst (v := 0) hx hb dX11_ticksIn_33 (by decide) ?_
  refine lv_goto (tgt := 46) hx hb dX11_ticksIn_34 (by decide) ?_
  have hP9 := hP.sub (ws' := [(mo, .inr (11, [.ref mw, .ref ma, .ref mf, .ref m0, .ref m1, .ref mu, .ref mv, .ref u0, .ref u1, .ref iz, .int 1, .ref mb, .int 0, .int 0, .int 0, .int 0, .int 0, .int 0, .int 0])), (mw, .inl (ct 0, 958, .inl m_w0))]) [0, 1] rfl
  have hD9 := hD.sub (ws' := [(mo, .inr (11, [.ref mw, .ref ma, .ref mf, .ref m0, .ref m1, .ref mu, .ref mv, .ref u0, .ref u1, .ref iz, .int 1, .ref mb, .int 0, .int 0, .int 0, .int 0, .int 0, .int 0, .int 0])), (mw, .inl (ct 0, 958, .inl m_w0))]) [0, 1] (by decide) rfl
  exact W.iret (v := 0) hx hb hr (fun t ht hW => ⟨⟨0, (), rfl, trivial, by rw [ht]; exact hP9, by rw [hAe]; exact hD9⟩, hS.F ht⟩) hS.2.2 dX11_ticksIn_46
theorem dX11_warnings_0 : decode cX11_warnings 0 = .ok (.aload_n 0, 1) := by decide +kernel
theorem dX11_warnings_1 : decode cX11_warnings 1 = .ok (.iload_n 1, 1) := by decide +kernel
theorem dX11_warnings_2 : decode cX11_warnings 2 = .ok (.invokevirtual 344, 3) := by decide +kernel
theorem dX11_warnings_5 : decode cX11_warnings 5 = .ok (.ifCond .eq 7, 3) := by decide +kernel
theorem dX11_warnings_8 : decode cX11_warnings 8 = .ok (.iconst 0, 1) := by decide +kernel
theorem dX11_warnings_9 : decode cX11_warnings 9 = .ok (.goto 10, 3) := by decide +kernel
theorem dX11_warnings_19 : decode cX11_warnings 19 = .ok (.ireturn, 1) := by decide +kernel
set_option maxRecDepth 100000 in
set_option maxHeartbeats 4000000 in
theorem m_warnings_0 (l : Launch) (D : va_G) (ct : Nat → ClassId) (mo : Nat) (mw : Nat) (ma : Nat) (mf : Nat) (m0 : Nat) (m1 : Nat) (mu : Nat) (mv : Nat) (u0 : Nat) (u1 : Nat) (iz : Nat) (mb : Nat) (p1 : Int32) (sz : Nat) : Met l yX11_warnings (ws_ yX11_warnings cX11_warnings 2 (some .int)) ({ frames := 2, cells := 0, slots := 0, locals := 46 } : Room) (va_Pc [.ref mo, .int p1] (cmP D ct sz [(mo, .inr (11, [.ref mw, .ref ma, .ref mf, .ref m0, .ref m1, .ref mu, .ref mv, .ref u0, .ref u1, .ref iz, .int 0, .ref mb, .int 0, .int 0, .int 0, .int 0, .int 0, .int 0, .int 0])), (mw, .inl (ct 0, 958, .inl m_w0))])) (va_Qi (fun (r : Int32) (_ : Unit) => True) (cmB D [(mo, .inr (11, [.ref mw, .ref ma, .ref mf, .ref m0, .ref m1, .ref mu, .ref mv, .ref u0, .ref u1, .ref iz, .int 0, .ref mb, .int 0, .int 0, .int 0, .int 0, .int 0, .int 0, .int 0])), (mw, .inl (ct 0, 958, .inl m_w0))] sz (fun _ : Unit => [(mo, .inr (11, [.ref mw, .ref ma, .ref mf, .ref m0, .ref m1, .ref mu, .ref mv, .ref u0, .ref u1, .ref iz, .int 1, .ref mb, .int 0, .int 0, .int 0, .int 0, .int 0, .int 0, .int 0])), (mw, .inl (ct 0, 958, .inl m_w0))])) (va_A [(mo, .inr (11, [.ref mw, .ref ma, .ref mf, .ref m0, .ref m1, .ref mu, .ref mv, .ref u0, .ref u1, .ref iz, .int 0, .ref mb, .int 0, .int 0, .int 0, .int 0, .int 0, .int 0, .int 0])), (mw, .inl (ct 0, 958, .inl m_w0))] sz)) 0 0 (va_A [(mo, .inr (11, [.ref mw, .ref ma, .ref mf, .ref m0, .ref m1, .ref mu, .ref mv, .ref u0, .ref u1, .ref iz, .int 0, .ref mb, .int 0, .int 0, .int 0, .int 0, .int 0, .int 0, .int 0])), (mw, .inl (ct 0, 958, .inl m_w0))] sz) := by
  refine Met.ofW (cc := cX11_warnings) (maxL := 2) (ret := (some .int)) (by decide) rfl ?_
  intro p e s m args below meth c s₁ B hml hv
  obtain ⟨rfl, hsz, hP, hK, hD0, hX⟩ := hv
  have hx := B.exec
  have hb := B.bytes
  have hr := B.returns
  have hts := ws_all (atoms_spec (ws := ws_ yX11_warnings cX11_warnings 2 (some .int)) B.pre)
  have hown : s.vm.findClass RX11 = some m.cls := findClass_of_methodNamed B.named
  have hlocks := B.notSynchronized
  subst hsz
  have hD := hD0.self (sz := s.heap.size)
  generalize hAe : va_A [(mo, .inr (11, [.ref mw, .ref ma, .ref mf, .ref m0, .ref m1, .ref mu, .ref mv, .ref u0, .ref u1, .ref iz, .int 0, .ref mb, .int 0, .int 0, .int 0, .int 0, .int 0, .int 0, .int 0])), (mw, .inl (ct 0, 958, .inl m_w0))] s.heap.size = A at hD hX ⊢
  have hA : ∀ q : Nat, s.heap.size ≤ q → A q := fun q h => by rw [← hAe]; exact Or.inr h
  have hS : va_S A s.heap s.heap [] := va_S.rf
  have hl := lv_entry ([.ref mo, .int p1]) (n := 2) (Nat.le_of_ble_eq_true rfl)
  rw [lg_entry_eq]
  generalize (lg_sl ([.ref mo, .int p1]) ++ List.replicate (2 - (lg_sl ([.ref mo, .int p1])).length) Slot.unset).toArray = ls at hl ⊢
  have hl : lv_has ls 2 [(0, .ref mo), (1, .int p1)] := hl
  refine lv_aload_n hx hb dX11_warnings_0 rfl (lv_at hl 0 rfl) ?_
  refine lv_iload_n hx hb dX11_warnings_1 rfl (lv_at hl 1 rfl) ?_
  refine cm_ki (wr := []) (va_runV (As := [.int p1]) (rest := []) ⟨hx, hb, hml, hown, hts⟩ (m_noChannel l D ct mo mw ma mf m0 m1 mu mv u0 u1 iz mb p1 _) (cm_V 1 hts kc_X11_noChannel ki_RX11 kl_RX11_344 kv_X11_noChannel kx_X11_noChannel kd_X11_noChannel ⟨Nat.le_of_ble_eq_true rfl, Nat.le_of_ble_eq_true rfl⟩) (cm_preV hP hK hD hS hA hX [0, 1] rfl rfl rfl (q0 := 0) (ci := 11) rfl rfl) rfl rfl hl.1 rfl (lv_room (Nat.le_of_ble_eq_true rfl)) dX11_warnings_2 ⟨Nat.le_of_ble_eq_true rfl, Nat.le_of_ble_eq_true rfl⟩) hP hD hS hA [0, 1] [] rfl rfl rfl (by decide) (fun r_1 u H locs hw_2 hP hD hS => ?_)
  have hw_2 : r_1 = 1 := hw_2
  obtain rfl := hw_2
  have hP : va_P D vwCl [(mo, .inr (11, [.ref mw, .ref ma, .ref mf, .ref m0, .ref m1, .ref mu, .ref mv, .ref u0, .ref u1, .ref iz, .int 1, .ref mb, .int 0, .int 0, .int 0, .int 0, .int 0, .int 0, .int 0])), (mw, .inl (ct 0, 958, .inl m_w0))] H := hP
  have hD : va_D A [(mo, .inr (11, [.ref mw, .ref ma, .ref mf, .ref m0, .ref m1, .ref mu, .ref mv, .ref u0, .ref u1, .ref iz, .int 1, .ref mb, .int 0, .int 0, .int 0, .int 0, .int 0, .int 0, .int 0])), (mw, .inl (ct 0, 958, .inl m_w0))] := hD
  refine lv_if_eq (tgt := 12) hx hb dX11_warnings_5 (by decide) (fun hc => absurd hc (by decide)) (fun _ => ?_)
  refine lv_iconst (v := 0) hx hb dX11_warnings_8 (by decide) ?_
  refine lv_goto (tgt := 19) hx hb dX11_warnings_9 (by decide) ?_
  have hP9 := hP.sub (ws' := [(mo, .inr (11, [.ref mw, .ref ma, .ref mf, .ref m0, .ref m1, .ref mu, .ref mv, .ref u0, .ref u1, .ref iz, .int 1, .ref mb, .int 0, .int 0, .int 0, .int 0, .int 0, .int 0, .int 0])), (mw, .inl (ct 0, 958, .inl m_w0))]) [0, 1] rfl
  have hD9 := hD.sub (ws' := [(mo, .inr (11, [.ref mw, .ref ma, .ref mf, .ref m0, .ref m1, .ref mu, .ref mv, .ref u0, .ref u1, .ref iz, .int 1, .ref mb, .int 0, .int 0, .int 0, .int 0, .int 0, .int 0, .int 0])), (mw, .inl (ct 0, 958, .inl m_w0))]) [0, 1] (by decide) rfl
  exact W.iret (v := 0) hx hb hr (fun t ht hW => ⟨⟨0, (), rfl, trivial, by rw [ht]; exact hP9, by rw [hAe]; exact hD9⟩, hS.F ht⟩) hS.2.2 dX11_warnings_19
theorem dX11_warned_0 : decode cX11_warned 0 = .ok (.aload_n 0, 1) := by decide +kernel
theorem dX11_warned_1 : decode cX11_warned 1 = .ok (.iload_n 1, 1) := by decide +kernel
theorem dX11_warned_2 : decode cX11_warned 2 = .ok (.invokevirtual 344, 3) := by decide +kernel
theorem dX11_warned_5 : decode cX11_warned 5 = .ok (.ifCond .eq 7, 3) := by decide +kernel
theorem dX11_warned_8 : decode cX11_warned 8 = .ok (.iconst 0, 1) := by decide +kernel
theorem dX11_warned_9 : decode cX11_warned 9 = .ok (.goto 10, 3) := by decide +kernel
theorem dX11_warned_19 : decode cX11_warned 19 = .ok (.ireturn, 1) := by decide +kernel
set_option maxRecDepth 100000 in
set_option maxHeartbeats 4000000 in
theorem m_warned_0 (l : Launch) (D : va_G) (ct : Nat → ClassId) (mo : Nat) (mw : Nat) (ma : Nat) (mf : Nat) (m0 : Nat) (m1 : Nat) (mu : Nat) (mv : Nat) (u0 : Nat) (u1 : Nat) (iz : Nat) (mb : Nat) (p1 : Int32) (sz : Nat) : Met l yX11_warned (ws_ yX11_warned cX11_warned 2 (some .int)) ({ frames := 2, cells := 0, slots := 0, locals := 46 } : Room) (va_Pc [.ref mo, .int p1] (cmP D ct sz [(mo, .inr (11, [.ref mw, .ref ma, .ref mf, .ref m0, .ref m1, .ref mu, .ref mv, .ref u0, .ref u1, .ref iz, .int 0, .ref mb, .int 0, .int 0, .int 0, .int 0, .int 0, .int 0, .int 0])), (mw, .inl (ct 0, 958, .inl m_w0))])) (va_Qi (fun (r : Int32) (_ : Unit) => True) (cmB D [(mo, .inr (11, [.ref mw, .ref ma, .ref mf, .ref m0, .ref m1, .ref mu, .ref mv, .ref u0, .ref u1, .ref iz, .int 0, .ref mb, .int 0, .int 0, .int 0, .int 0, .int 0, .int 0, .int 0])), (mw, .inl (ct 0, 958, .inl m_w0))] sz (fun _ : Unit => [(mo, .inr (11, [.ref mw, .ref ma, .ref mf, .ref m0, .ref m1, .ref mu, .ref mv, .ref u0, .ref u1, .ref iz, .int 1, .ref mb, .int 0, .int 0, .int 0, .int 0, .int 0, .int 0, .int 0])), (mw, .inl (ct 0, 958, .inl m_w0))])) (va_A [(mo, .inr (11, [.ref mw, .ref ma, .ref mf, .ref m0, .ref m1, .ref mu, .ref mv, .ref u0, .ref u1, .ref iz, .int 0, .ref mb, .int 0, .int 0, .int 0, .int 0, .int 0, .int 0, .int 0])), (mw, .inl (ct 0, 958, .inl m_w0))] sz)) 0 0 (va_A [(mo, .inr (11, [.ref mw, .ref ma, .ref mf, .ref m0, .ref m1, .ref mu, .ref mv, .ref u0, .ref u1, .ref iz, .int 0, .ref mb, .int 0, .int 0, .int 0, .int 0, .int 0, .int 0, .int 0])), (mw, .inl (ct 0, 958, .inl m_w0))] sz) := by
  refine Met.ofW (cc := cX11_warned) (maxL := 2) (ret := (some .int)) (by decide) rfl ?_
  intro p e s m args below meth c s₁ B hml hv
  obtain ⟨rfl, hsz, hP, hK, hD0, hX⟩ := hv
  have hx := B.exec
  have hb := B.bytes
  have hr := B.returns
  have hts := ws_all (atoms_spec (ws := ws_ yX11_warned cX11_warned 2 (some .int)) B.pre)
  have hown : s.vm.findClass RX11 = some m.cls := findClass_of_methodNamed B.named
  have hlocks := B.notSynchronized
  subst hsz
  have hD := hD0.self (sz := s.heap.size)
  generalize hAe : va_A [(mo, .inr (11, [.ref mw, .ref ma, .ref mf, .ref m0, .ref m1, .ref mu, .ref mv, .ref u0, .ref u1, .ref iz, .int 0, .ref mb, .int 0, .int 0, .int 0, .int 0, .int 0, .int 0, .int 0])), (mw, .inl (ct 0, 958, .inl m_w0))] s.heap.size = A at hD hX ⊢
  have hA : ∀ q : Nat, s.heap.size ≤ q → A q := fun q h => by rw [← hAe]; exact Or.inr h
  have hS : va_S A s.heap s.heap [] := va_S.rf
  have hl := lv_entry ([.ref mo, .int p1]) (n := 2) (Nat.le_of_ble_eq_true rfl)
  rw [lg_entry_eq]
  generalize (lg_sl ([.ref mo, .int p1]) ++ List.replicate (2 - (lg_sl ([.ref mo, .int p1])).length) Slot.unset).toArray = ls at hl ⊢
  have hl : lv_has ls 2 [(0, .ref mo), (1, .int p1)] := hl
  refine lv_aload_n hx hb dX11_warned_0 rfl (lv_at hl 0 rfl) ?_
  refine lv_iload_n hx hb dX11_warned_1 rfl (lv_at hl 1 rfl) ?_
  refine cm_ki (wr := []) (va_runV (As := [.int p1]) (rest := []) ⟨hx, hb, hml, hown, hts⟩ (m_noChannel l D ct mo mw ma mf m0 m1 mu mv u0 u1 iz mb p1 _) (cm_V 1 hts kc_X11_noChannel ki_RX11 kl_RX11_344 kv_X11_noChannel kx_X11_noChannel kd_X11_noChannel ⟨Nat.le_of_ble_eq_true rfl, Nat.le_of_ble_eq_true rfl⟩) (cm_preV hP hK hD hS hA hX [0, 1] rfl rfl rfl (q0 := 0) (ci := 11) rfl rfl) rfl rfl hl.1 rfl (lv_room (Nat.le_of_ble_eq_true rfl)) dX11_warned_2 ⟨Nat.le_of_ble_eq_true rfl, Nat.le_of_ble_eq_true rfl⟩) hP hD hS hA [0, 1] [] rfl rfl rfl (by decide) (fun r_1 u H locs hw_2 hP hD hS => ?_)
  have hw_2 : r_1 = 1 := hw_2
  obtain rfl := hw_2
  have hP : va_P D vwCl [(mo, .inr (11, [.ref mw, .ref ma, .ref mf, .ref m0, .ref m1, .ref mu, .ref mv, .ref u0, .ref u1, .ref iz, .int 1, .ref mb, .int 0, .int 0, .int 0, .int 0, .int 0, .int 0, .int 0])), (mw, .inl (ct 0, 958, .inl m_w0))] H := hP
  have hD : va_D A [(mo, .inr (11, [.ref mw, .ref ma, .ref mf, .ref m0, .ref m1, .ref mu, .ref mv, .ref u0, .ref u1, .ref iz, .int 1, .ref mb, .int 0, .int 0, .int 0, .int 0, .int 0, .int 0, .int 0])), (mw, .inl (ct 0, 958, .inl m_w0))] := hD
  refine lv_if_eq (tgt := 12) hx hb dX11_warned_5 (by decide) (fun hc => absurd hc (by decide)) (fun _ => ?_)
  refine lv_iconst (v := 0) hx hb dX11_warned_8 (by decide) ?_
  refine lv_goto (tgt := 19) hx hb dX11_warned_9 (by decide) ?_
  have hP9 := hP.sub (ws' := [(mo, .inr (11, [.ref mw, .ref ma, .ref mf, .ref m0, .ref m1, .ref mu, .ref mv, .ref u0, .ref u1, .ref iz, .int 1, .ref mb, .int 0, .int 0, .int 0, .int 0, .int 0, .int 0, .int 0])), (mw, .inl (ct 0, 958, .inl m_w0))]) [0, 1] rfl
  have hD9 := hD.sub (ws' := [(mo, .inr (11, [.ref mw, .ref ma, .ref mf, .ref m0, .ref m1, .ref mu, .ref mv, .ref u0, .ref u1, .ref iz, .int 1, .ref mb, .int 0, .int 0, .int 0, .int 0, .int 0, .int 0, .int 0])), (mw, .inl (ct 0, 958, .inl m_w0))]) [0, 1] (by decide) rfl
  exact W.iret (v := 0) hx hb hr (fun t ht hW => ⟨⟨0, (), rfl, trivial, by rw [ht]; exact hP9, by rw [hAe]; exact hD9⟩, hS.F ht⟩) hS.2.2 dX11_warned_19
theorem dX11_eventsOf_0 : decode cX11_eventsOf 0 = .ok (.aload_n 0, 1) := by decide +kernel
theorem dX11_eventsOf_1 : decode cX11_eventsOf 1 = .ok (.iload_n 1, 1) := by decide +kernel
theorem dX11_eventsOf_2 : decode cX11_eventsOf 2 = .ok (.invokevirtual 344, 3) := by decide +kernel
theorem dX11_eventsOf_5 : decode cX11_eventsOf 5 = .ok (.ifCond .ne 28, 3) := by decide +kernel
theorem dX11_eventsOf_33 : decode cX11_eventsOf 33 = .ok (.iconst 0, 1) := by decide +kernel
theorem dX11_eventsOf_34 : decode cX11_eventsOf 34 = .ok (.ireturn, 1) := by decide +kernel
set_option maxRecDepth 100000 in
set_option maxHeartbeats 4000000 in
theorem m_eventsOf_0 (l : Launch) (D : va_G) (ct : Nat → ClassId) (mo : Nat) (mw : Nat) (ma : Nat) (mf : Nat) (m0 : Nat) (m1 : Nat) (mu : Nat) (mv : Nat) (u0 : Nat) (u1 : Nat) (iz : Nat) (mb : Nat) (p1 : Int32) (p2 : Int32) (sz : Nat) : Met l yX11_eventsOf (ws_ yX11_eventsOf cX11_eventsOf 5 (some .int)) ({ frames := 2, cells := 0, slots := 0, locals := 46 } : Room) (va_Pc [.ref mo, .int p1, .int p2] (cmP D ct sz [(mo, .inr (11, [.ref mw, .ref ma, .ref mf, .ref m0, .ref m1, .ref mu, .ref mv, .ref u0, .ref u1, .ref iz, .int 0, .ref mb, .int 0, .int 0, .int 0, .int 0, .int 0, .int 0, .int 0])), (mw, .inl (ct 0, 958, .inl m_w0))])) (va_Qi (fun (r : Int32) (_ : Unit) => True) (cmB D [(mo, .inr (11, [.ref mw, .ref ma, .ref mf, .ref m0, .ref m1, .ref mu, .ref mv, .ref u0, .ref u1, .ref iz, .int 0, .ref mb, .int 0, .int 0, .int 0, .int 0, .int 0, .int 0, .int 0])), (mw, .inl (ct 0, 958, .inl m_w0))] sz (fun _ : Unit => [(mo, .inr (11, [.ref mw, .ref ma, .ref mf, .ref m0, .ref m1, .ref mu, .ref mv, .ref u0, .ref u1, .ref iz, .int 1, .ref mb, .int 0, .int 0, .int 0, .int 0, .int 0, .int 0, .int 0])), (mw, .inl (ct 0, 958, .inl m_w0))])) (va_A [(mo, .inr (11, [.ref mw, .ref ma, .ref mf, .ref m0, .ref m1, .ref mu, .ref mv, .ref u0, .ref u1, .ref iz, .int 0, .ref mb, .int 0, .int 0, .int 0, .int 0, .int 0, .int 0, .int 0])), (mw, .inl (ct 0, 958, .inl m_w0))] sz)) 0 0 (va_A [(mo, .inr (11, [.ref mw, .ref ma, .ref mf, .ref m0, .ref m1, .ref mu, .ref mv, .ref u0, .ref u1, .ref iz, .int 0, .ref mb, .int 0, .int 0, .int 0, .int 0, .int 0, .int 0, .int 0])), (mw, .inl (ct 0, 958, .inl m_w0))] sz) := by
  refine Met.ofW (cc := cX11_eventsOf) (maxL := 5) (ret := (some .int)) (by decide) rfl ?_
  intro p e s m args below meth c s₁ B hml hv
  obtain ⟨rfl, hsz, hP, hK, hD0, hX⟩ := hv
  have hx := B.exec
  have hb := B.bytes
  have hr := B.returns
  have hts := ws_all (atoms_spec (ws := ws_ yX11_eventsOf cX11_eventsOf 5 (some .int)) B.pre)
  have hown : s.vm.findClass RX11 = some m.cls := findClass_of_methodNamed B.named
  have hlocks := B.notSynchronized
  subst hsz
  have hD := hD0.self (sz := s.heap.size)
  generalize hAe : va_A [(mo, .inr (11, [.ref mw, .ref ma, .ref mf, .ref m0, .ref m1, .ref mu, .ref mv, .ref u0, .ref u1, .ref iz, .int 0, .ref mb, .int 0, .int 0, .int 0, .int 0, .int 0, .int 0, .int 0])), (mw, .inl (ct 0, 958, .inl m_w0))] s.heap.size = A at hD hX ⊢
  have hA : ∀ q : Nat, s.heap.size ≤ q → A q := fun q h => by rw [← hAe]; exact Or.inr h
  have hS : va_S A s.heap s.heap [] := va_S.rf
  have hl := lv_entry ([.ref mo, .int p1, .int p2]) (n := 5) (Nat.le_of_ble_eq_true rfl)
  rw [lg_entry_eq]
  generalize (lg_sl ([.ref mo, .int p1, .int p2]) ++ List.replicate (5 - (lg_sl ([.ref mo, .int p1, .int p2])).length) Slot.unset).toArray = ls at hl ⊢
  have hl : lv_has ls 5 [(0, .ref mo), (1, .int p1), (2, .int p2)] := hl
  refine lv_aload_n hx hb dX11_eventsOf_0 rfl (lv_at hl 0 rfl) ?_
  refine lv_iload_n hx hb dX11_eventsOf_1 rfl (lv_at hl 1 rfl) ?_
  refine cm_ki (wr := []) (va_runV (As := [.int p1]) (rest := []) ⟨hx, hb, hml, hown, hts⟩ (m_noChannel l D ct mo mw ma mf m0 m1 mu mv u0 u1 iz mb p1 _) (cm_V 1 hts kc_X11_noChannel ki_RX11 kl_RX11_344 kv_X11_noChannel kx_X11_noChannel kd_X11_noChannel ⟨Nat.le_of_ble_eq_true rfl, Nat.le_of_ble_eq_true rfl⟩) (cm_preV hP hK hD hS hA hX [0, 1] rfl rfl rfl (q0 := 0) (ci := 11) rfl rfl) rfl rfl hl.1 rfl (lv_room (Nat.le_of_ble_eq_true rfl)) dX11_eventsOf_2 ⟨Nat.le_of_ble_eq_true rfl, Nat.le_of_ble_eq_true rfl⟩) hP hD hS hA [0, 1] [] rfl rfl rfl (by decide) (fun r_1 u H locs hw_2 hP hD hS => ?_)
  have hw_2 : r_1 = 1 := hw_2
  obtain rfl := hw_2
  have hP : va_P D vwCl [(mo, .inr (11, [.ref mw, .ref ma, .ref mf, .ref m0, .ref m1, .ref mu, .ref mv, .ref u0, .ref u1, .ref iz, .int 1, .ref mb, .int 0, .int 0, .int 0, .int 0, .int 0, .int 0, .int 0])), (mw, .inl (ct 0, 958, .inl m_w0))] H := hP
  have hD : va_D A [(mo, .inr (11, [.ref mw, .ref ma, .ref mf, .ref m0, .ref m1, .ref mu, .ref mv, .ref u0, .ref u1, .ref iz, .int 1, .ref mb, .int 0, .int 0, .int 0, .int 0, .int 0, .int 0, .int 0])), (mw, .inl (ct 0, 958, .inl m_w0))] := hD
  refine lv_if_ne (tgt := 33) hx hb dX11_eventsOf_5 (by decide) (fun _ => ?_) (fun hc => absurd hc (by decide))
  refine lv_iconst (v := 0) hx hb dX11_eventsOf_33 (by decide) ?_
  have hP9 := hP.sub (ws' := [(mo, .inr (11, [.ref mw, .ref ma, .ref mf, .ref m0, .ref m1, .ref mu, .ref mv, .ref u0, .ref u1, .ref iz, .int 1, .ref mb, .int 0, .int 0, .int 0, .int 0, .int 0, .int 0, .int 0])), (mw, .inl (ct 0, 958, .inl m_w0))]) [0, 1] rfl
  have hD9 := hD.sub (ws' := [(mo, .inr (11, [.ref mw, .ref ma, .ref mf, .ref m0, .ref m1, .ref mu, .ref mv, .ref u0, .ref u1, .ref iz, .int 1, .ref mb, .int 0, .int 0, .int 0, .int 0, .int 0, .int 0, .int 0])), (mw, .inl (ct 0, 958, .inl m_w0))]) [0, 1] (by decide) rfl
  exact W.iret (v := 0) hx hb hr (fun t ht hW => ⟨⟨0, (), rfl, trivial, by rw [ht]; exact hP9, by rw [hAe]; exact hD9⟩, hS.F ht⟩) hS.2.2 dX11_eventsOf_34
theorem dX11_value_0 : decode cX11_value 0 = .ok (.aload_n 0, 1) := by decide +kernel
theorem dX11_value_1 : decode cX11_value 1 = .ok (.iload_n 1, 1) := by decide +kernel
theorem dX11_value_2 : decode cX11_value 2 = .ok (.invokevirtual 344, 3) := by decide +kernel
theorem dX11_value_5 : decode cX11_value 5 = .ok (.ifCond .ne 28, 3) := by decide +kernel
theorem dX11_value_33 : decode cX11_value 33 = .ok (.iconst 0, 1) := by decide +kernel
theorem dX11_value_34 : decode cX11_value 34 = .ok (.goto 9, 3) := by decide +kernel
theorem dX11_value_43 : decode cX11_value 43 = .ok (.ireturn, 1) := by decide +kernel
set_option maxRecDepth 100000 in
set_option maxHeartbeats 4000000 in
theorem m_value_0 (l : Launch) (D : va_G) (ct : Nat → ClassId) (mo : Nat) (mw : Nat) (ma : Nat) (mf : Nat) (m0 : Nat) (m1 : Nat) (mu : Nat) (mv : Nat) (u0 : Nat) (u1 : Nat) (iz : Nat) (mb : Nat) (p1 : Int32) (p2 : Int32) (sz : Nat) : Met l yX11_value (ws_ yX11_value cX11_value 3 (some .int)) ({ frames := 2, cells := 0, slots := 0, locals := 46 } : Room) (va_Pc [.ref mo, .int p1, .int p2] (cmP D ct sz [(mo, .inr (11, [.ref mw, .ref ma, .ref mf, .ref m0, .ref m1, .ref mu, .ref mv, .ref u0, .ref u1, .ref iz, .int 0, .ref mb, .int 0, .int 0, .int 0, .int 0, .int 0, .int 0, .int 0])), (mw, .inl (ct 0, 958, .inl m_w0))])) (va_Qi (fun (r : Int32) (_ : Unit) => True) (cmB D [(mo, .inr (11, [.ref mw, .ref ma, .ref mf, .ref m0, .ref m1, .ref mu, .ref mv, .ref u0, .ref u1, .ref iz, .int 0, .ref mb, .int 0, .int 0, .int 0, .int 0, .int 0, .int 0, .int 0])), (mw, .inl (ct 0, 958, .inl m_w0))] sz (fun _ : Unit => [(mo, .inr (11, [.ref mw, .ref ma, .ref mf, .ref m0, .ref m1, .ref mu, .ref mv, .ref u0, .ref u1, .ref iz, .int 1, .ref mb, .int 0, .int 0, .int 0, .int 0, .int 0, .int 0, .int 0])), (mw, .inl (ct 0, 958, .inl m_w0))])) (va_A [(mo, .inr (11, [.ref mw, .ref ma, .ref mf, .ref m0, .ref m1, .ref mu, .ref mv, .ref u0, .ref u1, .ref iz, .int 0, .ref mb, .int 0, .int 0, .int 0, .int 0, .int 0, .int 0, .int 0])), (mw, .inl (ct 0, 958, .inl m_w0))] sz)) 0 0 (va_A [(mo, .inr (11, [.ref mw, .ref ma, .ref mf, .ref m0, .ref m1, .ref mu, .ref mv, .ref u0, .ref u1, .ref iz, .int 0, .ref mb, .int 0, .int 0, .int 0, .int 0, .int 0, .int 0, .int 0])), (mw, .inl (ct 0, 958, .inl m_w0))] sz) := by
  refine Met.ofW (cc := cX11_value) (maxL := 3) (ret := (some .int)) (by decide) rfl ?_
  intro p e s m args below meth c s₁ B hml hv
  obtain ⟨rfl, hsz, hP, hK, hD0, hX⟩ := hv
  have hx := B.exec
  have hb := B.bytes
  have hr := B.returns
  have hts := ws_all (atoms_spec (ws := ws_ yX11_value cX11_value 3 (some .int)) B.pre)
  have hown : s.vm.findClass RX11 = some m.cls := findClass_of_methodNamed B.named
  have hlocks := B.notSynchronized
  subst hsz
  have hD := hD0.self (sz := s.heap.size)
  generalize hAe : va_A [(mo, .inr (11, [.ref mw, .ref ma, .ref mf, .ref m0, .ref m1, .ref mu, .ref mv, .ref u0, .ref u1, .ref iz, .int 0, .ref mb, .int 0, .int 0, .int 0, .int 0, .int 0, .int 0, .int 0])), (mw, .inl (ct 0, 958, .inl m_w0))] s.heap.size = A at hD hX ⊢
  have hA : ∀ q : Nat, s.heap.size ≤ q → A q := fun q h => by rw [← hAe]; exact Or.inr h
  have hS : va_S A s.heap s.heap [] := va_S.rf
  have hl := lv_entry ([.ref mo, .int p1, .int p2]) (n := 3) (Nat.le_of_ble_eq_true rfl)
  rw [lg_entry_eq]
  generalize (lg_sl ([.ref mo, .int p1, .int p2]) ++ List.replicate (3 - (lg_sl ([.ref mo, .int p1, .int p2])).length) Slot.unset).toArray = ls at hl ⊢
  have hl : lv_has ls 3 [(0, .ref mo), (1, .int p1), (2, .int p2)] := hl
  refine lv_aload_n hx hb dX11_value_0 rfl (lv_at hl 0 rfl) ?_
  refine lv_iload_n hx hb dX11_value_1 rfl (lv_at hl 1 rfl) ?_
  refine cm_ki (wr := []) (va_runV (As := [.int p1]) (rest := []) ⟨hx, hb, hml, hown, hts⟩ (m_noChannel l D ct mo mw ma mf m0 m1 mu mv u0 u1 iz mb p1 _) (cm_V 1 hts kc_X11_noChannel ki_RX11 kl_RX11_344 kv_X11_noChannel kx_X11_noChannel kd_X11_noChannel ⟨Nat.le_of_ble_eq_true rfl, Nat.le_of_ble_eq_true rfl⟩) (cm_preV hP hK hD hS hA hX [0, 1] rfl rfl rfl (q0 := 0) (ci := 11) rfl rfl) rfl rfl hl.1 rfl (lv_room (Nat.le_of_ble_eq_true rfl)) dX11_value_2 ⟨Nat.le_of_ble_eq_true rfl, Nat.le_of_ble_eq_true rfl⟩) hP hD hS hA [0, 1] [] rfl rfl rfl (by decide) (fun r_1 u H locs hw_2 hP hD hS => ?_)
  have hw_2 : r_1 = 1 := hw_2
  obtain rfl := hw_2
  have hP : va_P D vwCl [(mo, .inr (11, [.ref mw, .ref ma, .ref mf, .ref m0, .ref m1, .ref mu, .ref mv, .ref u0, .ref u1, .ref iz, .int 1, .ref mb, .int 0, .int 0, .int 0, .int 0, .int 0, .int 0, .int 0])), (mw, .inl (ct 0, 958, .inl m_w0))] H := hP
  have hD : va_D A [(mo, .inr (11, [.ref mw, .ref ma, .ref mf, .ref m0, .ref m1, .ref mu, .ref mv, .ref u0, .ref u1, .ref iz, .int 1, .ref mb, .int 0, .int 0, .int 0, .int 0, .int 0, .int 0, .int 0])), (mw, .inl (ct 0, 958, .inl m_w0))] := hD
  refine lv_if_ne (tgt := 33) hx hb dX11_value_5 (by decide) (fun _ => ?_) (fun hc => absurd hc (by decide))
  refine lv_iconst (v := 0) hx hb dX11_value_33 (by decide) ?_
  refine lv_goto (tgt := 43) hx hb dX11_value_34 (by decide) ?_
  have hP9 := hP.sub (ws' := [(mo, .inr (11, [.ref mw, .ref ma, .ref mf, .ref m0, .ref m1, .ref mu, .ref mv, .ref u0, .ref u1, .ref iz, .int 1, .ref mb, .int 0, .int 0, .int 0, .int 0, .int 0, .int 0, .int 0])), (mw, .inl (ct 0, 958, .inl m_w0))]) [0, 1] rfl
  have hD9 := hD.sub (ws' := [(mo, .inr (11, [.ref mw, .ref ma, .ref mf, .ref m0, .ref m1, .ref mu, .ref mv, .ref u0, .ref u1, .ref iz, .int 1, .ref mb, .int 0, .int 0, .int 0, .int 0, .int 0, .int 0, .int 0])), (mw, .inl (ct 0, 958, .inl m_w0))]) [0, 1] (by decide) rfl
  exact W.iret (v := 0) hx hb hr (fun t ht hW => ⟨⟨0, (), rfl, trivial, by rw [ht]; exact hP9, by rw [hAe]; exact hD9⟩, hS.F ht⟩) hS.2.2 dX11_value_43
theorem dX11_restVoltage_0 : decode cX11_restVoltage 0 = .ok (.aload_n 0, 1) := by decide +kernel
theorem dX11_restVoltage_1 : decode cX11_restVoltage 1 = .ok (.iload_n 1, 1) := by decide +kernel
theorem dX11_restVoltage_2 : decode cX11_restVoltage 2 = .ok (.invokevirtual 344, 3) := by decide +kernel
theorem dX11_restVoltage_5 : decode cX11_restVoltage 5 = .ok (.ifCond .ne 28, 3) := by decide +kernel
theorem dX11_restVoltage_33 : decode cX11_restVoltage 33 = .ok (.iconst 0, 1) := by decide +kernel
theorem dX11_restVoltage_34 : decode cX11_restVoltage 34 = .ok (.goto 9, 3) := by decide +kernel
theorem dX11_restVoltage_43 : decode cX11_restVoltage 43 = .ok (.ireturn, 1) := by decide +kernel
set_option maxRecDepth 100000 in
set_option maxHeartbeats 4000000 in
theorem m_restVoltage_0 (l : Launch) (D : va_G) (ct : Nat → ClassId) (mo : Nat) (mw : Nat) (ma : Nat) (mf : Nat) (m0 : Nat) (m1 : Nat) (mu : Nat) (mv : Nat) (u0 : Nat) (u1 : Nat) (iz : Nat) (mb : Nat) (p1 : Int32) (p2 : Int32) (sz : Nat) : Met l yX11_restVoltage (ws_ yX11_restVoltage cX11_restVoltage 3 (some .int)) ({ frames := 2, cells := 0, slots := 0, locals := 46 } : Room) (va_Pc [.ref mo, .int p1, .int p2] (cmP D ct sz [(mo, .inr (11, [.ref mw, .ref ma, .ref mf, .ref m0, .ref m1, .ref mu, .ref mv, .ref u0, .ref u1, .ref iz, .int 0, .ref mb, .int 0, .int 0, .int 0, .int 0, .int 0, .int 0, .int 0])), (mw, .inl (ct 0, 958, .inl m_w0))])) (va_Qi (fun (r : Int32) (_ : Unit) => True) (cmB D [(mo, .inr (11, [.ref mw, .ref ma, .ref mf, .ref m0, .ref m1, .ref mu, .ref mv, .ref u0, .ref u1, .ref iz, .int 0, .ref mb, .int 0, .int 0, .int 0, .int 0, .int 0, .int 0, .int 0])), (mw, .inl (ct 0, 958, .inl m_w0))] sz (fun _ : Unit => [(mo, .inr (11, [.ref mw, .ref ma, .ref mf, .ref m0, .ref m1, .ref mu, .ref mv, .ref u0, .ref u1, .ref iz, .int 1, .ref mb, .int 0, .int 0, .int 0, .int 0, .int 0, .int 0, .int 0])), (mw, .inl (ct 0, 958, .inl m_w0))])) (va_A [(mo, .inr (11, [.ref mw, .ref ma, .ref mf, .ref m0, .ref m1, .ref mu, .ref mv, .ref u0, .ref u1, .ref iz, .int 0, .ref mb, .int 0, .int 0, .int 0, .int 0, .int 0, .int 0, .int 0])), (mw, .inl (ct 0, 958, .inl m_w0))] sz)) 0 0 (va_A [(mo, .inr (11, [.ref mw, .ref ma, .ref mf, .ref m0, .ref m1, .ref mu, .ref mv, .ref u0, .ref u1, .ref iz, .int 0, .ref mb, .int 0, .int 0, .int 0, .int 0, .int 0, .int 0, .int 0])), (mw, .inl (ct 0, 958, .inl m_w0))] sz) := by
  refine Met.ofW (cc := cX11_restVoltage) (maxL := 3) (ret := (some .int)) (by decide) rfl ?_
  intro p e s m args below meth c s₁ B hml hv
  obtain ⟨rfl, hsz, hP, hK, hD0, hX⟩ := hv
  have hx := B.exec
  have hb := B.bytes
  have hr := B.returns
  have hts := ws_all (atoms_spec (ws := ws_ yX11_restVoltage cX11_restVoltage 3 (some .int)) B.pre)
  have hown : s.vm.findClass RX11 = some m.cls := findClass_of_methodNamed B.named
  have hlocks := B.notSynchronized
  subst hsz
  have hD := hD0.self (sz := s.heap.size)
  generalize hAe : va_A [(mo, .inr (11, [.ref mw, .ref ma, .ref mf, .ref m0, .ref m1, .ref mu, .ref mv, .ref u0, .ref u1, .ref iz, .int 0, .ref mb, .int 0, .int 0, .int 0, .int 0, .int 0, .int 0, .int 0])), (mw, .inl (ct 0, 958, .inl m_w0))] s.heap.size = A at hD hX ⊢
  have hA : ∀ q : Nat, s.heap.size ≤ q → A q := fun q h => by rw [← hAe]; exact Or.inr h
  have hS : va_S A s.heap s.heap [] := va_S.rf
  have hl := lv_entry ([.ref mo, .int p1, .int p2]) (n := 3) (Nat.le_of_ble_eq_true rfl)
  rw [lg_entry_eq]
  generalize (lg_sl ([.ref mo, .int p1, .int p2]) ++ List.replicate (3 - (lg_sl ([.ref mo, .int p1, .int p2])).length) Slot.unset).toArray = ls at hl ⊢
  have hl : lv_has ls 3 [(0, .ref mo), (1, .int p1), (2, .int p2)] := hl
  refine lv_aload_n hx hb dX11_restVoltage_0 rfl (lv_at hl 0 rfl) ?_
  refine lv_iload_n hx hb dX11_restVoltage_1 rfl (lv_at hl 1 rfl) ?_
  refine cm_ki (wr := []) (va_runV (As := [.int p1]) (rest := []) ⟨hx, hb, hml, hown, hts⟩ (m_noChannel l D ct mo mw ma mf m0 m1 mu mv u0 u1 iz mb p1 _) (cm_V 1 hts kc_X11_noChannel ki_RX11 kl_RX11_344 kv_X11_noChannel kx_X11_noChannel kd_X11_noChannel ⟨Nat.le_of_ble_eq_true rfl, Nat.le_of_ble_eq_true rfl⟩) (cm_preV hP hK hD hS hA hX [0, 1] rfl rfl rfl (q0 := 0) (ci := 11) rfl rfl) rfl rfl hl.1 rfl (lv_room (Nat.le_of_ble_eq_true rfl)) dX11_restVoltage_2 ⟨Nat.le_of_ble_eq_true rfl, Nat.le_of_ble_eq_true rfl⟩) hP hD hS hA [0, 1] [] rfl rfl rfl (by decide) (fun r_1 u H locs hw_2 hP hD hS => ?_)
  have hw_2 : r_1 = 1 := hw_2
  obtain rfl := hw_2
  have hP : va_P D vwCl [(mo, .inr (11, [.ref mw, .ref ma, .ref mf, .ref m0, .ref m1, .ref mu, .ref mv, .ref u0, .ref u1, .ref iz, .int 1, .ref mb, .int 0, .int 0, .int 0, .int 0, .int 0, .int 0, .int 0])), (mw, .inl (ct 0, 958, .inl m_w0))] H := hP
  have hD : va_D A [(mo, .inr (11, [.ref mw, .ref ma, .ref mf, .ref m0, .ref m1, .ref mu, .ref mv, .ref u0, .ref u1, .ref iz, .int 1, .ref mb, .int 0, .int 0, .int 0, .int 0, .int 0, .int 0, .int 0])), (mw, .inl (ct 0, 958, .inl m_w0))] := hD
  refine lv_if_ne (tgt := 33) hx hb dX11_restVoltage_5 (by decide) (fun _ => ?_) (fun hc => absurd hc (by decide))
  refine lv_iconst (v := 0) hx hb dX11_restVoltage_33 (by decide) ?_
  refine lv_goto (tgt := 43) hx hb dX11_restVoltage_34 (by decide) ?_
  have hP9 := hP.sub (ws' := [(mo, .inr (11, [.ref mw, .ref ma, .ref mf, .ref m0, .ref m1, .ref mu, .ref mv, .ref u0, .ref u1, .ref iz, .int 1, .ref mb, .int 0, .int 0, .int 0, .int 0, .int 0, .int 0, .int 0])), (mw, .inl (ct 0, 958, .inl m_w0))]) [0, 1] rfl
  have hD9 := hD.sub (ws' := [(mo, .inr (11, [.ref mw, .ref ma, .ref mf, .ref m0, .ref m1, .ref mu, .ref mv, .ref u0, .ref u1, .ref iz, .int 1, .ref mb, .int 0, .int 0, .int 0, .int 0, .int 0, .int 0, .int 0])), (mw, .inl (ct 0, 958, .inl m_w0))]) [0, 1] (by decide) rfl
  exact W.iret (v := 0) hx hb hr (fun t ht hW => ⟨⟨0, (), rfl, trivial, by rw [ht]; exact hP9, by rw [hAe]; exact hD9⟩, hS.F ht⟩) hS.2.2 dX11_restVoltage_43
theorem dX11_chargeFor_0 : decode cX11_chargeFor 0 = .ok (.aload_n 0, 1) := by decide +kernel
theorem dX11_chargeFor_1 : decode cX11_chargeFor 1 = .ok (.iload_n 1, 1) := by decide +kernel
theorem dX11_chargeFor_2 : decode cX11_chargeFor 2 = .ok (.invokevirtual 344, 3) := by decide +kernel
theorem dX11_chargeFor_5 : decode cX11_chargeFor 5 = .ok (.ifCond .ne 28, 3) := by decide +kernel
theorem dX11_chargeFor_33 : decode cX11_chargeFor 33 = .ok (.iconst 0, 1) := by decide +kernel
theorem dX11_chargeFor_34 : decode cX11_chargeFor 34 = .ok (.ireturn, 1) := by decide +kernel
set_option maxRecDepth 100000 in
set_option maxHeartbeats 4000000 in
theorem m_chargeFor_0 (l : Launch) (D : va_G) (ct : Nat → ClassId) (mo : Nat) (mw : Nat) (ma : Nat) (mf : Nat) (m0 : Nat) (m1 : Nat) (mu : Nat) (mv : Nat) (u0 : Nat) (u1 : Nat) (iz : Nat) (mb : Nat) (p1 : Int32) (p2 : Int32) (sz : Nat) : Met l yX11_chargeFor (ws_ yX11_chargeFor cX11_chargeFor 6 (some .int)) ({ frames := 2, cells := 0, slots := 0, locals := 46 } : Room) (va_Pc [.ref mo, .int p1, .int p2] (cmP D ct sz [(mo, .inr (11, [.ref mw, .ref ma, .ref mf, .ref m0, .ref m1, .ref mu, .ref mv, .ref u0, .ref u1, .ref iz, .int 0, .ref mb, .int 0, .int 0, .int 0, .int 0, .int 0, .int 0, .int 0])), (mw, .inl (ct 0, 958, .inl m_w0))])) (va_Qi (fun (r : Int32) (_ : Unit) => True) (cmB D [(mo, .inr (11, [.ref mw, .ref ma, .ref mf, .ref m0, .ref m1, .ref mu, .ref mv, .ref u0, .ref u1, .ref iz, .int 0, .ref mb, .int 0, .int 0, .int 0, .int 0, .int 0, .int 0, .int 0])), (mw, .inl (ct 0, 958, .inl m_w0))] sz (fun _ : Unit => [(mo, .inr (11, [.ref mw, .ref ma, .ref mf, .ref m0, .ref m1, .ref mu, .ref mv, .ref u0, .ref u1, .ref iz, .int 1, .ref mb, .int 0, .int 0, .int 0, .int 0, .int 0, .int 0, .int 0])), (mw, .inl (ct 0, 958, .inl m_w0))])) (va_A [(mo, .inr (11, [.ref mw, .ref ma, .ref mf, .ref m0, .ref m1, .ref mu, .ref mv, .ref u0, .ref u1, .ref iz, .int 0, .ref mb, .int 0, .int 0, .int 0, .int 0, .int 0, .int 0, .int 0])), (mw, .inl (ct 0, 958, .inl m_w0))] sz)) 0 0 (va_A [(mo, .inr (11, [.ref mw, .ref ma, .ref mf, .ref m0, .ref m1, .ref mu, .ref mv, .ref u0, .ref u1, .ref iz, .int 0, .ref mb, .int 0, .int 0, .int 0, .int 0, .int 0, .int 0, .int 0])), (mw, .inl (ct 0, 958, .inl m_w0))] sz) := by
  refine Met.ofW (cc := cX11_chargeFor) (maxL := 6) (ret := (some .int)) (by decide) rfl ?_
  intro p e s m args below meth c s₁ B hml hv
  obtain ⟨rfl, hsz, hP, hK, hD0, hX⟩ := hv
  have hx := B.exec
  have hb := B.bytes
  have hr := B.returns
  have hts := ws_all (atoms_spec (ws := ws_ yX11_chargeFor cX11_chargeFor 6 (some .int)) B.pre)
  have hown : s.vm.findClass RX11 = some m.cls := findClass_of_methodNamed B.named
  have hlocks := B.notSynchronized
  subst hsz
  have hD := hD0.self (sz := s.heap.size)
  generalize hAe : va_A [(mo, .inr (11, [.ref mw, .ref ma, .ref mf, .ref m0, .ref m1, .ref mu, .ref mv, .ref u0, .ref u1, .ref iz, .int 0, .ref mb, .int 0, .int 0, .int 0, .int 0, .int 0, .int 0, .int 0])), (mw, .inl (ct 0, 958, .inl m_w0))] s.heap.size = A at hD hX ⊢
  have hA : ∀ q : Nat, s.heap.size ≤ q → A q := fun q h => by rw [← hAe]; exact Or.inr h
  have hS : va_S A s.heap s.heap [] := va_S.rf
  have hl := lv_entry ([.ref mo, .int p1, .int p2]) (n := 6) (Nat.le_of_ble_eq_true rfl)
  rw [lg_entry_eq]
  generalize (lg_sl ([.ref mo, .int p1, .int p2]) ++ List.replicate (6 - (lg_sl ([.ref mo, .int p1, .int p2])).length) Slot.unset).toArray = ls at hl ⊢
  have hl : lv_has ls 6 [(0, .ref mo), (1, .int p1), (2, .int p2)] := hl
  refine lv_aload_n hx hb dX11_chargeFor_0 rfl (lv_at hl 0 rfl) ?_
  refine lv_iload_n hx hb dX11_chargeFor_1 rfl (lv_at hl 1 rfl) ?_
  refine cm_ki (wr := []) (va_runV (As := [.int p1]) (rest := []) ⟨hx, hb, hml, hown, hts⟩ (m_noChannel l D ct mo mw ma mf m0 m1 mu mv u0 u1 iz mb p1 _) (cm_V 1 hts kc_X11_noChannel ki_RX11 kl_RX11_344 kv_X11_noChannel kx_X11_noChannel kd_X11_noChannel ⟨Nat.le_of_ble_eq_true rfl, Nat.le_of_ble_eq_true rfl⟩) (cm_preV hP hK hD hS hA hX [0, 1] rfl rfl rfl (q0 := 0) (ci := 11) rfl rfl) rfl rfl hl.1 rfl (lv_room (Nat.le_of_ble_eq_true rfl)) dX11_chargeFor_2 ⟨Nat.le_of_ble_eq_true rfl, Nat.le_of_ble_eq_true rfl⟩) hP hD hS hA [0, 1] [] rfl rfl rfl (by decide) (fun r_1 u H locs hw_2 hP hD hS => ?_)
  have hw_2 : r_1 = 1 := hw_2
  obtain rfl := hw_2
  have hP : va_P D vwCl [(mo, .inr (11, [.ref mw, .ref ma, .ref mf, .ref m0, .ref m1, .ref mu, .ref mv, .ref u0, .ref u1, .ref iz, .int 1, .ref mb, .int 0, .int 0, .int 0, .int 0, .int 0, .int 0, .int 0])), (mw, .inl (ct 0, 958, .inl m_w0))] H := hP
  have hD : va_D A [(mo, .inr (11, [.ref mw, .ref ma, .ref mf, .ref m0, .ref m1, .ref mu, .ref mv, .ref u0, .ref u1, .ref iz, .int 1, .ref mb, .int 0, .int 0, .int 0, .int 0, .int 0, .int 0, .int 0])), (mw, .inl (ct 0, 958, .inl m_w0))] := hD
  refine lv_if_ne (tgt := 33) hx hb dX11_chargeFor_5 (by decide) (fun _ => ?_) (fun hc => absurd hc (by decide))
  refine lv_iconst (v := 0) hx hb dX11_chargeFor_33 (by decide) ?_
  have hP9 := hP.sub (ws' := [(mo, .inr (11, [.ref mw, .ref ma, .ref mf, .ref m0, .ref m1, .ref mu, .ref mv, .ref u0, .ref u1, .ref iz, .int 1, .ref mb, .int 0, .int 0, .int 0, .int 0, .int 0, .int 0, .int 0])), (mw, .inl (ct 0, 958, .inl m_w0))]) [0, 1] rfl
  have hD9 := hD.sub (ws' := [(mo, .inr (11, [.ref mw, .ref ma, .ref mf, .ref m0, .ref m1, .ref mu, .ref mv, .ref u0, .ref u1, .ref iz, .int 1, .ref mb, .int 0, .int 0, .int 0, .int 0, .int 0, .int 0, .int 0])), (mw, .inl (ct 0, 958, .inl m_w0))]) [0, 1] (by decide) rfl
  exact W.iret (v := 0) hx hb hr (fun t ht hW => ⟨⟨0, (), rfl, trivial, by rw [ht]; exact hP9, by rw [hAe]; exact hD9⟩, hS.F ht⟩) hS.2.2 dX11_chargeFor_34
theorem dX11_filling_0 : decode cX11_filling 0 = .ok (.aload_n 0, 1) := by decide +kernel
theorem dX11_filling_1 : decode cX11_filling 1 = .ok (.iload_n 1, 1) := by decide +kernel
theorem dX11_filling_2 : decode cX11_filling 2 = .ok (.invokevirtual 344, 3) := by decide +kernel
theorem dX11_filling_5 : decode cX11_filling 5 = .ok (.ifCond .eq 7, 3) := by decide +kernel
theorem dX11_filling_8 : decode cX11_filling 8 = .ok (.iconst 0, 1) := by decide +kernel
theorem dX11_filling_9 : decode cX11_filling 9 = .ok (.goto 8, 3) := by decide +kernel
theorem dX11_filling_17 : decode cX11_filling 17 = .ok (.ireturn, 1) := by decide +kernel
set_option maxRecDepth 100000 in
set_option maxHeartbeats 4000000 in
theorem m_filling_0 (l : Launch) (D : va_G) (ct : Nat → ClassId) (mo : Nat) (mw : Nat) (ma : Nat) (mf : Nat) (m0 : Nat) (m1 : Nat) (mu : Nat) (mv : Nat) (u0 : Nat) (u1 : Nat) (iz : Nat) (mb : Nat) (p1 : Int32) (sz : Nat) : Met l yX11_filling (ws_ yX11_filling cX11_filling 2 (some .int)) ({ frames := 2, cells := 0, slots := 0, locals := 46 } : Room) (va_Pc [.ref mo, .int p1] (cmP D ct sz [(mo, .inr (11, [.ref mw, .ref ma, .ref mf, .ref m0, .ref m1, .ref mu, .ref mv, .ref u0, .ref u1, .ref iz, .int 0, .ref mb, .int 0, .int 0, .int 0, .int 0, .int 0, .int 0, .int 0])), (mw, .inl (ct 0, 958, .inl m_w0))])) (va_Qi (fun (r : Int32) (_ : Unit) => True) (cmB D [(mo, .inr (11, [.ref mw, .ref ma, .ref mf, .ref m0, .ref m1, .ref mu, .ref mv, .ref u0, .ref u1, .ref iz, .int 0, .ref mb, .int 0, .int 0, .int 0, .int 0, .int 0, .int 0, .int 0])), (mw, .inl (ct 0, 958, .inl m_w0))] sz (fun _ : Unit => [(mo, .inr (11, [.ref mw, .ref ma, .ref mf, .ref m0, .ref m1, .ref mu, .ref mv, .ref u0, .ref u1, .ref iz, .int 1, .ref mb, .int 0, .int 0, .int 0, .int 0, .int 0, .int 0, .int 0])), (mw, .inl (ct 0, 958, .inl m_w0))])) (va_A [(mo, .inr (11, [.ref mw, .ref ma, .ref mf, .ref m0, .ref m1, .ref mu, .ref mv, .ref u0, .ref u1, .ref iz, .int 0, .ref mb, .int 0, .int 0, .int 0, .int 0, .int 0, .int 0, .int 0])), (mw, .inl (ct 0, 958, .inl m_w0))] sz)) 0 0 (va_A [(mo, .inr (11, [.ref mw, .ref ma, .ref mf, .ref m0, .ref m1, .ref mu, .ref mv, .ref u0, .ref u1, .ref iz, .int 0, .ref mb, .int 0, .int 0, .int 0, .int 0, .int 0, .int 0, .int 0])), (mw, .inl (ct 0, 958, .inl m_w0))] sz) := by
  refine Met.ofW (cc := cX11_filling) (maxL := 2) (ret := (some .int)) (by decide) rfl ?_
  intro p e s m args below meth c s₁ B hml hv
  obtain ⟨rfl, hsz, hP, hK, hD0, hX⟩ := hv
  have hx := B.exec
  have hb := B.bytes
  have hr := B.returns
  have hts := ws_all (atoms_spec (ws := ws_ yX11_filling cX11_filling 2 (some .int)) B.pre)
  have hown : s.vm.findClass RX11 = some m.cls := findClass_of_methodNamed B.named
  have hlocks := B.notSynchronized
  subst hsz
  have hD := hD0.self (sz := s.heap.size)
  generalize hAe : va_A [(mo, .inr (11, [.ref mw, .ref ma, .ref mf, .ref m0, .ref m1, .ref mu, .ref mv, .ref u0, .ref u1, .ref iz, .int 0, .ref mb, .int 0, .int 0, .int 0, .int 0, .int 0, .int 0, .int 0])), (mw, .inl (ct 0, 958, .inl m_w0))] s.heap.size = A at hD hX ⊢
  have hA : ∀ q : Nat, s.heap.size ≤ q → A q := fun q h => by rw [← hAe]; exact Or.inr h
  have hS : va_S A s.heap s.heap [] := va_S.rf
  have hl := lv_entry ([.ref mo, .int p1]) (n := 2) (Nat.le_of_ble_eq_true rfl)
  rw [lg_entry_eq]
  generalize (lg_sl ([.ref mo, .int p1]) ++ List.replicate (2 - (lg_sl ([.ref mo, .int p1])).length) Slot.unset).toArray = ls at hl ⊢
  have hl : lv_has ls 2 [(0, .ref mo), (1, .int p1)] := hl
  refine lv_aload_n hx hb dX11_filling_0 rfl (lv_at hl 0 rfl) ?_
  refine lv_iload_n hx hb dX11_filling_1 rfl (lv_at hl 1 rfl) ?_
  refine cm_ki (wr := []) (va_runV (As := [.int p1]) (rest := []) ⟨hx, hb, hml, hown, hts⟩ (m_noChannel l D ct mo mw ma mf m0 m1 mu mv u0 u1 iz mb p1 _) (cm_V 1 hts kc_X11_noChannel ki_RX11 kl_RX11_344 kv_X11_noChannel kx_X11_noChannel kd_X11_noChannel ⟨Nat.le_of_ble_eq_true rfl, Nat.le_of_ble_eq_true rfl⟩) (cm_preV hP hK hD hS hA hX [0, 1] rfl rfl rfl (q0 := 0) (ci := 11) rfl rfl) rfl rfl hl.1 rfl (lv_room (Nat.le_of_ble_eq_true rfl)) dX11_filling_2 ⟨Nat.le_of_ble_eq_true rfl, Nat.le_of_ble_eq_true rfl⟩) hP hD hS hA [0, 1] [] rfl rfl rfl (by decide) (fun r_1 u H locs hw_2 hP hD hS => ?_)
  have hw_2 : r_1 = 1 := hw_2
  obtain rfl := hw_2
  have hP : va_P D vwCl [(mo, .inr (11, [.ref mw, .ref ma, .ref mf, .ref m0, .ref m1, .ref mu, .ref mv, .ref u0, .ref u1, .ref iz, .int 1, .ref mb, .int 0, .int 0, .int 0, .int 0, .int 0, .int 0, .int 0])), (mw, .inl (ct 0, 958, .inl m_w0))] H := hP
  have hD : va_D A [(mo, .inr (11, [.ref mw, .ref ma, .ref mf, .ref m0, .ref m1, .ref mu, .ref mv, .ref u0, .ref u1, .ref iz, .int 1, .ref mb, .int 0, .int 0, .int 0, .int 0, .int 0, .int 0, .int 0])), (mw, .inl (ct 0, 958, .inl m_w0))] := hD
  refine lv_if_eq (tgt := 12) hx hb dX11_filling_5 (by decide) (fun hc => absurd hc (by decide)) (fun _ => ?_)
  refine lv_iconst (v := 0) hx hb dX11_filling_8 (by decide) ?_
  refine lv_goto (tgt := 17) hx hb dX11_filling_9 (by decide) ?_
  have hP9 := hP.sub (ws' := [(mo, .inr (11, [.ref mw, .ref ma, .ref mf, .ref m0, .ref m1, .ref mu, .ref mv, .ref u0, .ref u1, .ref iz, .int 1, .ref mb, .int 0, .int 0, .int 0, .int 0, .int 0, .int 0, .int 0])), (mw, .inl (ct 0, 958, .inl m_w0))]) [0, 1] rfl
  have hD9 := hD.sub (ws' := [(mo, .inr (11, [.ref mw, .ref ma, .ref mf, .ref m0, .ref m1, .ref mu, .ref mv, .ref u0, .ref u1, .ref iz, .int 1, .ref mb, .int 0, .int 0, .int 0, .int 0, .int 0, .int 0, .int 0])), (mw, .inl (ct 0, 958, .inl m_w0))]) [0, 1] (by decide) rfl
  exact W.iret (v := 0) hx hb hr (fun t ht hW => ⟨⟨0, (), rfl, trivial, by rw [ht]; exact hP9, by rw [hAe]; exact hD9⟩, hS.F ht⟩) hS.2.2 dX11_filling_17
theorem dX11_ledger_0 : decode cX11_ledger 0 = .ok (.aload_n 0, 1) := by decide +kernel
theorem dX11_ledger_1 : decode cX11_ledger 1 = .ok (.iload_n 1, 1) := by decide +kernel
theorem dX11_ledger_2 : decode cX11_ledger 2 = .ok (.invokevirtual 344, 3) := by decide +kernel
theorem dX11_ledger_5 : decode cX11_ledger 5 = .ok (.ifCond .ne 28, 3) := by decide +kernel
theorem dX11_ledger_33 : decode cX11_ledger 33 = .ok (.lconst 0, 1) := by decide +kernel
theorem dX11_ledger_34 : decode cX11_ledger 34 = .ok (.lreturn, 1) := by decide +kernel
set_option maxRecDepth 100000 in
set_option maxHeartbeats 4000000 in
theorem m_ledger_0 (l : Launch) (D : va_G) (ct : Nat → ClassId) (mo : Nat) (mw : Nat) (ma : Nat) (mf : Nat) (m0 : Nat) (m1 : Nat) (mu : Nat) (mv : Nat) (u0 : Nat) (u1 : Nat) (iz : Nat) (mb : Nat) (p1 : Int32) (p2 : Int32) (sz : Nat) : Met l yX11_ledger (ws_ yX11_ledger cX11_ledger 3 (some .long)) ({ frames := 2, cells := 0, slots := 0, locals := 46 } : Room) (va_Pc [.ref mo, .int p1, .int p2] (cmP D ct sz [(mo, .inr (11, [.ref mw, .ref ma, .ref mf, .ref m0, .ref m1, .ref mu, .ref mv, .ref u0, .ref u1, .ref iz, .int 0, .ref mb, .int 0, .int 0, .int 0, .int 0, .int 0, .int 0, .int 0])), (mw, .inl (ct 0, 958, .inl m_w0))])) (va_Ql (fun (r : Int64) (_ : Unit) => True) (cmB D [(mo, .inr (11, [.ref mw, .ref ma, .ref mf, .ref m0, .ref m1, .ref mu, .ref mv, .ref u0, .ref u1, .ref iz, .int 0, .ref mb, .int 0, .int 0, .int 0, .int 0, .int 0, .int 0, .int 0])), (mw, .inl (ct 0, 958, .inl m_w0))] sz (fun _ : Unit => [(mo, .inr (11, [.ref mw, .ref ma, .ref mf, .ref m0, .ref m1, .ref mu, .ref mv, .ref u0, .ref u1, .ref iz, .int 1, .ref mb, .int 0, .int 0, .int 0, .int 0, .int 0, .int 0, .int 0])), (mw, .inl (ct 0, 958, .inl m_w0))])) (va_A [(mo, .inr (11, [.ref mw, .ref ma, .ref mf, .ref m0, .ref m1, .ref mu, .ref mv, .ref u0, .ref u1, .ref iz, .int 0, .ref mb, .int 0, .int 0, .int 0, .int 0, .int 0, .int 0, .int 0])), (mw, .inl (ct 0, 958, .inl m_w0))] sz)) 0 0 (va_A [(mo, .inr (11, [.ref mw, .ref ma, .ref mf, .ref m0, .ref m1, .ref mu, .ref mv, .ref u0, .ref u1, .ref iz, .int 0, .ref mb, .int 0, .int 0, .int 0, .int 0, .int 0, .int 0, .int 0])), (mw, .inl (ct 0, 958, .inl m_w0))] sz) := by
  refine Met.ofW (cc := cX11_ledger) (maxL := 3) (ret := (some .long)) (by decide) rfl ?_
  intro p e s m args below meth c s₁ B hml hv
  obtain ⟨rfl, hsz, hP, hK, hD0, hX⟩ := hv
  have hx := B.exec
  have hb := B.bytes
  have hr := B.returns
  have hts := ws_all (atoms_spec (ws := ws_ yX11_ledger cX11_ledger 3 (some .long)) B.pre)
  have hown : s.vm.findClass RX11 = some m.cls := findClass_of_methodNamed B.named
  have hlocks := B.notSynchronized
  subst hsz
  have hD := hD0.self (sz := s.heap.size)
  generalize hAe : va_A [(mo, .inr (11, [.ref mw, .ref ma, .ref mf, .ref m0, .ref m1, .ref mu, .ref mv, .ref u0, .ref u1, .ref iz, .int 0, .ref mb, .int 0, .int 0, .int 0, .int 0, .int 0, .int 0, .int 0])), (mw, .inl (ct 0, 958, .inl m_w0))] s.heap.size = A at hD hX ⊢
  have hA : ∀ q : Nat, s.heap.size ≤ q → A q := fun q h => by rw [← hAe]; exact Or.inr h
  have hS : va_S A s.heap s.heap [] := va_S.rf
  have hl := lv_entry ([.ref mo, .int p1, .int p2]) (n := 3) (Nat.le_of_ble_eq_true rfl)
  rw [lg_entry_eq]
  generalize (lg_sl ([.ref mo, .int p1, .int p2]) ++ List.replicate (3 - (lg_sl ([.ref mo, .int p1, .int p2])).length) Slot.unset).toArray = ls at hl ⊢
  have hl : lv_has ls 3 [(0, .ref mo), (1, .int p1), (2, .int p2)] := hl
  refine lv_aload_n hx hb dX11_ledger_0 rfl (lv_at hl 0 rfl) ?_
  refine lv_iload_n hx hb dX11_ledger_1 rfl (lv_at hl 1 rfl) ?_
  refine cm_ki (wr := []) (va_runV (As := [.int p1]) (rest := []) ⟨hx, hb, hml, hown, hts⟩ (m_noChannel l D ct mo mw ma mf m0 m1 mu mv u0 u1 iz mb p1 _) (cm_V 1 hts kc_X11_noChannel ki_RX11 kl_RX11_344 kv_X11_noChannel kx_X11_noChannel kd_X11_noChannel ⟨Nat.le_of_ble_eq_true rfl, Nat.le_of_ble_eq_true rfl⟩) (cm_preV hP hK hD hS hA hX [0, 1] rfl rfl rfl (q0 := 0) (ci := 11) rfl rfl) rfl rfl hl.1 rfl (lv_room (Nat.le_of_ble_eq_true rfl)) dX11_ledger_2 ⟨Nat.le_of_ble_eq_true rfl, Nat.le_of_ble_eq_true rfl⟩) hP hD hS hA [0, 1] [] rfl rfl rfl (by decide) (fun r_1 u H locs hw_2 hP hD hS => ?_)
  have hw_2 : r_1 = 1 := hw_2
  obtain rfl := hw_2
  have hP : va_P D vwCl [(mo, .inr (11, [.ref mw, .ref ma, .ref mf, .ref m0, .ref m1, .ref mu, .ref mv, .ref u0, .ref u1, .ref iz, .int 1, .ref mb, .int 0, .int 0, .int 0, .int 0, .int 0, .int 0, .int 0])), (mw, .inl (ct 0, 958, .inl m_w0))] H := hP
  have hD : va_D A [(mo, .inr (11, [.ref mw, .ref ma, .ref mf, .ref m0, .ref m1, .ref mu, .ref mv, .ref u0, .ref u1, .ref iz, .int 1, .ref mb, .int 0, .int 0, .int 0, .int 0, .int 0, .int 0, .int 0])), (mw, .inl (ct 0, 958, .inl m_w0))] := hD
  refine lv_if_ne (tgt := 33) hx hb dX11_ledger_5 (by decide) (fun _ => ?_) (fun hc => absurd hc (by decide))
  refine lv_lconst (v := 0) hx hb dX11_ledger_33 (by decide) ?_
  have hP9 := hP.sub (ws' := [(mo, .inr (11, [.ref mw, .ref ma, .ref mf, .ref m0, .ref m1, .ref mu, .ref mv, .ref u0, .ref u1, .ref iz, .int 1, .ref mb, .int 0, .int 0, .int 0, .int 0, .int 0, .int 0, .int 0])), (mw, .inl (ct 0, 958, .inl m_w0))]) [0, 1] rfl
  have hD9 := hD.sub (ws' := [(mo, .inr (11, [.ref mw, .ref ma, .ref mf, .ref m0, .ref m1, .ref mu, .ref mv, .ref u0, .ref u1, .ref iz, .int 1, .ref mb, .int 0, .int 0, .int 0, .int 0, .int 0, .int 0, .int 0])), (mw, .inl (ct 0, 958, .inl m_w0))]) [0, 1] (by decide) rfl
  exact W.lret (v := 0) hx hb hr (fun t ht hW => ⟨⟨0, (), rfl, trivial, by rw [ht]; exact hP9, by rw [hAe]; exact hD9⟩, hS.F ht⟩) hS.2.2 dX11_ledger_34
theorem dX11_chargeEfficiency_0 : decode cX11_chargeEfficiency 0 = .ok (.aload_n 0, 1) := by decide +kernel
theorem dX11_chargeEfficiency_1 : decode cX11_chargeEfficiency 1 = .ok (.iload_n 1, 1) := by decide +kernel
theorem dX11_chargeEfficiency_2 : decode cX11_chargeEfficiency 2 = .ok (.invokevirtual 344, 3) := by decide +kernel
theorem dX11_chargeEfficiency_5 : decode cX11_chargeEfficiency 5 = .ok (.ifCond .ne 14, 3) := by decide +kernel
theorem dX11_chargeEfficiency_19 : decode cX11_chargeEfficiency 19 = .ok (.fconst 0, 1) := by decide +kernel
theorem dX11_chargeEfficiency_20 : decode cX11_chargeEfficiency 20 = .ok (.freturn, 1) := by decide +kernel
set_option maxRecDepth 100000 in
set_option maxHeartbeats 4000000 in
theorem m_chargeEfficiency_0 (l : Launch) (D : va_G) (ct : Nat → ClassId) (mo : Nat) (mw : Nat) (ma : Nat) (mf : Nat) (m0 : Nat) (m1 : Nat) (mu : Nat) (mv : Nat) (u0 : Nat) (u1 : Nat) (iz : Nat) (mb : Nat) (p1 : Int32) (sz : Nat) : Met l yX11_chargeEfficiency (ws_ yX11_chargeEfficiency cX11_chargeEfficiency 2 (some .float)) ({ frames := 2, cells := 0, slots := 0, locals := 46 } : Room) (va_Pc [.ref mo, .int p1] (cmP D ct sz [(mo, .inr (11, [.ref mw, .ref ma, .ref mf, .ref m0, .ref m1, .ref mu, .ref mv, .ref u0, .ref u1, .ref iz, .int 0, .ref mb, .int 0, .int 0, .int 0, .int 0, .int 0, .int 0, .int 0])), (mw, .inl (ct 0, 958, .inl m_w0))])) (va_Qf (fun (r : UInt32) (_ : Unit) => True) (cmB D [(mo, .inr (11, [.ref mw, .ref ma, .ref mf, .ref m0, .ref m1, .ref mu, .ref mv, .ref u0, .ref u1, .ref iz, .int 0, .ref mb, .int 0, .int 0, .int 0, .int 0, .int 0, .int 0, .int 0])), (mw, .inl (ct 0, 958, .inl m_w0))] sz (fun _ : Unit => [(mo, .inr (11, [.ref mw, .ref ma, .ref mf, .ref m0, .ref m1, .ref mu, .ref mv, .ref u0, .ref u1, .ref iz, .int 1, .ref mb, .int 0, .int 0, .int 0, .int 0, .int 0, .int 0, .int 0])), (mw, .inl (ct 0, 958, .inl m_w0))])) (va_A [(mo, .inr (11, [.ref mw, .ref ma, .ref mf, .ref m0, .ref m1, .ref mu, .ref mv, .ref u0, .ref u1, .ref iz, .int 0, .ref mb, .int 0, .int 0, .int 0, .int 0, .int 0, .int 0, .int 0])), (mw, .inl (ct 0, 958, .inl m_w0))] sz)) 0 0 (va_A [(mo, .inr (11, [.ref mw, .ref ma, .ref mf, .ref m0, .ref m1, .ref mu, .ref mv, .ref u0, .ref u1, .ref iz, .int 0, .ref mb, .int 0, .int 0, .int 0, .int 0, .int 0, .int 0, .int 0])), (mw, .inl (ct 0, 958, .inl m_w0))] sz) := by
  refine Met.ofW (cc := cX11_chargeEfficiency) (maxL := 2) (ret := (some .float)) (by decide) rfl ?_
  intro p e s m args below meth c s₁ B hml hv
  obtain ⟨rfl, hsz, hP, hK, hD0, hX⟩ := hv
  have hx := B.exec
  have hb := B.bytes
  have hr := B.returns
  have hts := ws_all (atoms_spec (ws := ws_ yX11_chargeEfficiency cX11_chargeEfficiency 2 (some .float)) B.pre)
  have hown : s.vm.findClass RX11 = some m.cls := findClass_of_methodNamed B.named
  have hlocks := B.notSynchronized
  subst hsz
  have hD := hD0.self (sz := s.heap.size)
  generalize hAe : va_A [(mo, .inr (11, [.ref mw, .ref ma, .ref mf, .ref m0, .ref m1, .ref mu, .ref mv, .ref u0, .ref u1, .ref iz, .int 0, .ref mb, .int 0, .int 0, .int 0, .int 0, .int 0, .int 0, .int 0])), (mw, .inl (ct 0, 958, .inl m_w0))] s.heap.size = A at hD hX ⊢
  have hA : ∀ q : Nat, s.heap.size ≤ q → A q := fun q h => by rw [← hAe]; exact Or.inr h
  have hS : va_S A s.heap s.heap [] := va_S.rf
  have hl := lv_entry ([.ref mo, .int p1]) (n := 2) (Nat.le_of_ble_eq_true rfl)
  rw [lg_entry_eq]
  generalize (lg_sl ([.ref mo, .int p1]) ++ List.replicate (2 - (lg_sl ([.ref mo, .int p1])).length) Slot.unset).toArray = ls at hl ⊢
  have hl : lv_has ls 2 [(0, .ref mo), (1, .int p1)] := hl
  refine lv_aload_n hx hb dX11_chargeEfficiency_0 rfl (lv_at hl 0 rfl) ?_
  refine lv_iload_n hx hb dX11_chargeEfficiency_1 rfl (lv_at hl 1 rfl) ?_
  refine cm_ki (wr := []) (va_runV (As := [.int p1]) (rest := []) ⟨hx, hb, hml, hown, hts⟩ (m_noChannel l D ct mo mw ma mf m0 m1 mu mv u0 u1 iz mb p1 _) (cm_V 1 hts kc_X11_noChannel ki_RX11 kl_RX11_344 kv_X11_noChannel kx_X11_noChannel kd_X11_noChannel ⟨Nat.le_of_ble_eq_true rfl, Nat.le_of_ble_eq_true rfl⟩) (cm_preV hP hK hD hS hA hX [0, 1] rfl rfl rfl (q0 := 0) (ci := 11) rfl rfl) rfl rfl hl.1 rfl (lv_room (Nat.le_of_ble_eq_true rfl)) dX11_chargeEfficiency_2 ⟨Nat.le_of_ble_eq_true rfl, Nat.le_of_ble_eq_true rfl⟩) hP hD hS hA [0, 1] [] rfl rfl rfl (by decide) (fun r_1 u H locs hw_2 hP hD hS => ?_)
  have hw_2 : r_1 = 1 := hw_2
  obtain rfl := hw_2
  have hP : va_P D vwCl [(mo, .inr (11, [.ref mw, .ref ma, .ref mf, .ref m0, .ref m1, .ref mu, .ref mv, .ref u0, .ref u1, .ref iz, .int 1, .ref mb, .int 0, .int 0, .int 0, .int 0, .int 0, .int 0, .int 0])), (mw, .inl (ct 0, 958, .inl m_w0))] H := hP
  have hD : va_D A [(mo, .inr (11, [.ref mw, .ref ma, .ref mf, .ref m0, .ref m1, .ref mu, .ref mv, .ref u0, .ref u1, .ref iz, .int 1, .ref mb, .int 0, .int 0, .int 0, .int 0, .int 0, .int 0, .int 0])), (mw, .inl (ct 0, 958, .inl m_w0))] := hD
  refine lv_if_ne (tgt := 19) hx hb dX11_chargeEfficiency_5 (by decide) (fun _ => ?_) (fun hc => absurd hc (by decide))
  refine lv_fconst0 hx hb dX11_chargeEfficiency_19 ?_
  have hP9 := hP.sub (ws' := [(mo, .inr (11, [.ref mw, .ref ma, .ref mf, .ref m0, .ref m1, .ref mu, .ref mv, .ref u0, .ref u1, .ref iz, .int 1, .ref mb, .int 0, .int 0, .int 0, .int 0, .int 0, .int 0, .int 0])), (mw, .inl (ct 0, 958, .inl m_w0))]) [0, 1] rfl
  have hD9 := hD.sub (ws' := [(mo, .inr (11, [.ref mw, .ref ma, .ref mf, .ref m0, .ref m1, .ref mu, .ref mv, .ref u0, .ref u1, .ref iz, .int 1, .ref mb, .int 0, .int 0, .int 0, .int 0, .int 0, .int 0, .int 0])), (mw, .inl (ct 0, 958, .inl m_w0))]) [0, 1] (by decide) rfl
  exact W.fret (v := 0) hx hb hr (fun t ht hW => ⟨⟨0, (), rfl, trivial, by rw [ht]; exact hP9, by rw [hAe]; exact hD9⟩, hS.F ht⟩) hS.2.2 dX11_chargeEfficiency_20
theorem dX11_energyEfficiency_0 : decode cX11_energyEfficiency 0 = .ok (.aload_n 0, 1) := by decide +kernel
theorem dX11_energyEfficiency_1 : decode cX11_energyEfficiency 1 = .ok (.iload_n 1, 1) := by decide +kernel
theorem dX11_energyEfficiency_2 : decode cX11_energyEfficiency 2 = .ok (.invokevirtual 344, 3) := by decide +kernel
theorem dX11_energyEfficiency_5 : decode cX11_energyEfficiency 5 = .ok (.ifCond .ne 14, 3) := by decide +kernel
theorem dX11_energyEfficiency_19 : decode cX11_energyEfficiency 19 = .ok (.dconst 0, 1) := by decide +kernel
theorem dX11_energyEfficiency_20 : decode cX11_energyEfficiency 20 = .ok (.dreturn, 1) := by decide +kernel
set_option maxRecDepth 100000 in
set_option maxHeartbeats 4000000 in
theorem m_energyEfficiency_0 (l : Launch) (D : va_G) (ct : Nat → ClassId) (mo : Nat) (mw : Nat) (ma : Nat) (mf : Nat) (m0 : Nat) (m1 : Nat) (mu : Nat) (mv : Nat) (u0 : Nat) (u1 : Nat) (iz : Nat) (mb : Nat) (p1 : Int32) (sz : Nat) : Met l yX11_energyEfficiency (ws_ yX11_energyEfficiency cX11_energyEfficiency 2 (some .double)) ({ frames := 2, cells := 0, slots := 0, locals := 46 } : Room) (va_Pc [.ref mo, .int p1] (cmP D ct sz [(mo, .inr (11, [.ref mw, .ref ma, .ref mf, .ref m0, .ref m1, .ref mu, .ref mv, .ref u0, .ref u1, .ref iz, .int 0, .ref mb, .int 0, .int 0, .int 0, .int 0, .int 0, .int 0, .int 0])), (mw, .inl (ct 0, 958, .inl m_w0))])) (va_Qd (fun (r : UInt64) (_ : Unit) => True) (cmB D [(mo, .inr (11, [.ref mw, .ref ma, .ref mf, .ref m0, .ref m1, .ref mu, .ref mv, .ref u0, .ref u1, .ref iz, .int 0, .ref mb, .int 0, .int 0, .int 0, .int 0, .int 0, .int 0, .int 0])), (mw, .inl (ct 0, 958, .inl m_w0))] sz (fun _ : Unit => [(mo, .inr (11, [.ref mw, .ref ma, .ref mf, .ref m0, .ref m1, .ref mu, .ref mv, .ref u0, .ref u1, .ref iz, .int 1, .ref mb, .int 0, .int 0, .int 0, .int 0, .int 0, .int 0, .int 0])), (mw, .inl (ct 0, 958, .inl m_w0))])) (va_A [(mo, .inr (11, [.ref mw, .ref ma, .ref mf, .ref m0, .ref m1, .ref mu, .ref mv, .ref u0, .ref u1, .ref iz, .int 0, .ref mb, .int 0, .int 0, .int 0, .int 0, .int 0, .int 0, .int 0])), (mw, .inl (ct 0, 958, .inl m_w0))] sz)) 0 0 (va_A [(mo, .inr (11, [.ref mw, .ref ma, .ref mf, .ref m0, .ref m1, .ref mu, .ref mv, .ref u0, .ref u1, .ref iz, .int 0, .ref mb, .int 0, .int 0, .int 0, .int 0, .int 0, .int 0, .int 0])), (mw, .inl (ct 0, 958, .inl m_w0))] sz) := by
  refine Met.ofW (cc := cX11_energyEfficiency) (maxL := 2) (ret := (some .double)) (by decide) rfl ?_
  intro p e s m args below meth c s₁ B hml hv
  obtain ⟨rfl, hsz, hP, hK, hD0, hX⟩ := hv
  have hx := B.exec
  have hb := B.bytes
  have hr := B.returns
  have hts := ws_all (atoms_spec (ws := ws_ yX11_energyEfficiency cX11_energyEfficiency 2 (some .double)) B.pre)
  have hown : s.vm.findClass RX11 = some m.cls := findClass_of_methodNamed B.named
  have hlocks := B.notSynchronized
  subst hsz
  have hD := hD0.self (sz := s.heap.size)
  generalize hAe : va_A [(mo, .inr (11, [.ref mw, .ref ma, .ref mf, .ref m0, .ref m1, .ref mu, .ref mv, .ref u0, .ref u1, .ref iz, .int 0, .ref mb, .int 0, .int 0, .int 0, .int 0, .int 0, .int 0, .int 0])), (mw, .inl (ct 0, 958, .inl m_w0))] s.heap.size = A at hD hX ⊢
  have hA : ∀ q : Nat, s.heap.size ≤ q → A q := fun q h => by rw [← hAe]; exact Or.inr h
  have hS : va_S A s.heap s.heap [] := va_S.rf
  have hl := lv_entry ([.ref mo, .int p1]) (n := 2) (Nat.le_of_ble_eq_true rfl)
  rw [lg_entry_eq]
  generalize (lg_sl ([.ref mo, .int p1]) ++ List.replicate (2 - (lg_sl ([.ref mo, .int p1])).length) Slot.unset).toArray = ls at hl ⊢
  have hl : lv_has ls 2 [(0, .ref mo), (1, .int p1)] := hl
  refine lv_aload_n hx hb dX11_energyEfficiency_0 rfl (lv_at hl 0 rfl) ?_
  refine lv_iload_n hx hb dX11_energyEfficiency_1 rfl (lv_at hl 1 rfl) ?_
  refine cm_ki (wr := []) (va_runV (As := [.int p1]) (rest := []) ⟨hx, hb, hml, hown, hts⟩ (m_noChannel l D ct mo mw ma mf m0 m1 mu mv u0 u1 iz mb p1 _) (cm_V 1 hts kc_X11_noChannel ki_RX11 kl_RX11_344 kv_X11_noChannel kx_X11_noChannel kd_X11_noChannel ⟨Nat.le_of_ble_eq_true rfl, Nat.le_of_ble_eq_true rfl⟩) (cm_preV hP hK hD hS hA hX [0, 1] rfl rfl rfl (q0 := 0) (ci := 11) rfl rfl) rfl rfl hl.1 rfl (lv_room (Nat.le_of_ble_eq_true rfl)) dX11_energyEfficiency_2 ⟨Nat.le_of_ble_eq_true rfl, Nat.le_of_ble_eq_true rfl⟩) hP hD hS hA [0, 1] [] rfl rfl rfl (by decide) (fun r_1 u H locs hw_2 hP hD hS => ?_)
  have hw_2 : r_1 = 1 := hw_2
  obtain rfl := hw_2
  have hP : va_P D vwCl [(mo, .inr (11, [.ref mw, .ref ma, .ref mf, .ref m0, .ref m1, .ref mu, .ref mv, .ref u0, .ref u1, .ref iz, .int 1, .ref mb, .int 0, .int 0, .int 0, .int 0, .int 0, .int 0, .int 0])), (mw, .inl (ct 0, 958, .inl m_w0))] H := hP
  have hD : va_D A [(mo, .inr (11, [.ref mw, .ref ma, .ref mf, .ref m0, .ref m1, .ref mu, .ref mv, .ref u0, .ref u1, .ref iz, .int 1, .ref mb, .int 0, .int 0, .int 0, .int 0, .int 0, .int 0, .int 0])), (mw, .inl (ct 0, 958, .inl m_w0))] := hD
  refine lv_if_ne (tgt := 19) hx hb dX11_energyEfficiency_5 (by decide) (fun _ => ?_) (fun hc => absurd hc (by decide))
  refine lv_dconst0 hx hb dX11_energyEfficiency_19 ?_
  have hP9 := hP.sub (ws' := [(mo, .inr (11, [.ref mw, .ref ma, .ref mf, .ref m0, .ref m1, .ref mu, .ref mv, .ref u0, .ref u1, .ref iz, .int 1, .ref mb, .int 0, .int 0, .int 0, .int 0, .int 0, .int 0, .int 0])), (mw, .inl (ct 0, 958, .inl m_w0))]) [0, 1] rfl
  have hD9 := hD.sub (ws' := [(mo, .inr (11, [.ref mw, .ref ma, .ref mf, .ref m0, .ref m1, .ref mu, .ref mv, .ref u0, .ref u1, .ref iz, .int 1, .ref mb, .int 0, .int 0, .int 0, .int 0, .int 0, .int 0, .int 0])), (mw, .inl (ct 0, 958, .inl m_w0))]) [0, 1] (by decide) rfl
  exact W.dret (v := 0) hx hb hr (fun t ht hW => ⟨⟨0, (), rfl, trivial, by rw [ht]; exact hP9, by rw [hAe]; exact hD9⟩, hS.F ht⟩) hS.2.2 dX11_energyEfficiency_20
theorem dX11_power_0 : decode cX11_power 0 = .ok (.aload_n 0, 1) := by decide +kernel
theorem dX11_power_1 : decode cX11_power 1 = .ok (.iload_n 1, 1) := by decide +kernel
theorem dX11_power_2 : decode cX11_power 2 = .ok (.invokevirtual 344, 3) := by decide +kernel
theorem dX11_power_5 : decode cX11_power 5 = .ok (.ifCond .eq 7, 3) := by decide +kernel
theorem dX11_power_8 : decode cX11_power 8 = .ok (.iconst 0, 1) := by decide +kernel
theorem dX11_power_9 : decode cX11_power 9 = .ok (.goto 23, 3) := by decide +kernel
theorem dX11_power_32 : decode cX11_power 32 = .ok (.ireturn, 1) := by decide +kernel
set_option maxRecDepth 100000 in
set_option maxHeartbeats 4000000 in
theorem m_power_0 (l : Launch) (D : va_G) (ct : Nat → ClassId) (mo : Nat) (mw : Nat) (ma : Nat) (mf : Nat) (m0 : Nat) (m1 : Nat) (mu : Nat) (mv : Nat) (u0 : Nat) (u1 : Nat) (iz : Nat) (mb : Nat) (p1 : Int32) (sz : Nat) : Met l yX11_power (ws_ yX11_power cX11_power 2 (some .int)) ({ frames := 2, cells := 0, slots := 0, locals := 46 } : Room) (va_Pc [.ref mo, .int p1] (cmP D ct sz [(mo, .inr (11, [.ref mw, .ref ma, .ref mf, .ref m0, .ref m1, .ref mu, .ref mv, .ref u0, .ref u1, .ref iz, .int 0, .ref mb, .int 0, .int 0, .int 0, .int 0, .int 0, .int 0, .int 0])), (mw, .inl (ct 0, 958, .inl m_w0))])) (va_Qi (fun (r : Int32) (_ : Unit) => True) (cmB D [(mo, .inr (11, [.ref mw, .ref ma, .ref mf, .ref m0, .ref m1, .ref mu, .ref mv, .ref u0, .ref u1, .ref iz, .int 0, .ref mb, .int 0, .int 0, .int 0, .int 0, .int 0, .int 0, .int 0])), (mw, .inl (ct 0, 958, .inl m_w0))] sz (fun _ : Unit => [(mo, .inr (11, [.ref mw, .ref ma, .ref mf, .ref m0, .ref m1, .ref mu, .ref mv, .ref u0, .ref u1, .ref iz, .int 1, .ref mb, .int 0, .int 0, .int 0, .int 0, .int 0, .int 0, .int 0])), (mw, .inl (ct 0, 958, .inl m_w0))])) (va_A [(mo, .inr (11, [.ref mw, .ref ma, .ref mf, .ref m0, .ref m1, .ref mu, .ref mv, .ref u0, .ref u1, .ref iz, .int 0, .ref mb, .int 0, .int 0, .int 0, .int 0, .int 0, .int 0, .int 0])), (mw, .inl (ct 0, 958, .inl m_w0))] sz)) 0 0 (va_A [(mo, .inr (11, [.ref mw, .ref ma, .ref mf, .ref m0, .ref m1, .ref mu, .ref mv, .ref u0, .ref u1, .ref iz, .int 0, .ref mb, .int 0, .int 0, .int 0, .int 0, .int 0, .int 0, .int 0])), (mw, .inl (ct 0, 958, .inl m_w0))] sz) := by
  refine Met.ofW (cc := cX11_power) (maxL := 2) (ret := (some .int)) (by decide) rfl ?_
  intro p e s m args below meth c s₁ B hml hv
  obtain ⟨rfl, hsz, hP, hK, hD0, hX⟩ := hv
  have hx := B.exec
  have hb := B.bytes
  have hr := B.returns
  have hts := ws_all (atoms_spec (ws := ws_ yX11_power cX11_power 2 (some .int)) B.pre)
  have hown : s.vm.findClass RX11 = some m.cls := findClass_of_methodNamed B.named
  have hlocks := B.notSynchronized
  subst hsz
  have hD := hD0.self (sz := s.heap.size)
  generalize hAe : va_A [(mo, .inr (11, [.ref mw, .ref ma, .ref mf, .ref m0, .ref m1, .ref mu, .ref mv, .ref u0, .ref u1, .ref iz, .int 0, .ref mb, .int 0, .int 0, .int 0, .int 0, .int 0, .int 0, .int 0])), (mw, .inl (ct 0, 958, .inl m_w0))] s.heap.size = A at hD hX ⊢
  have hA : ∀ q : Nat, s.heap.size ≤ q → A q := fun q h => by rw [← hAe]; exact Or.inr h
  have hS : va_S A s.heap s.heap [] := va_S.rf
  have hl := lv_entry ([.ref mo, .int p1]) (n := 2) (Nat.le_of_ble_eq_true rfl)
  rw [lg_entry_eq]
  generalize (lg_sl ([.ref mo, .int p1]) ++ List.replicate (2 - (lg_sl ([.ref mo, .int p1])).length) Slot.unset).toArray = ls at hl ⊢
  have hl : lv_has ls 2 [(0, .ref mo), (1, .int p1)] := hl
  refine lv_aload_n hx hb dX11_power_0 rfl (lv_at hl 0 rfl) ?_
  refine lv_iload_n hx hb dX11_power_1 rfl (lv_at hl 1 rfl) ?_
  refine cm_ki (wr := []) (va_runV (As := [.int p1]) (rest := []) ⟨hx, hb, hml, hown, hts⟩ (m_noChannel l D ct mo mw ma mf m0 m1 mu mv u0 u1 iz mb p1 _) (cm_V 1 hts kc_X11_noChannel ki_RX11 kl_RX11_344 kv_X11_noChannel kx_X11_noChannel kd_X11_noChannel ⟨Nat.le_of_ble_eq_true rfl, Nat.le_of_ble_eq_true rfl⟩) (cm_preV hP hK hD hS hA hX [0, 1] rfl rfl rfl (q0 := 0) (ci := 11) rfl rfl) rfl rfl hl.1 rfl (lv_room (Nat.le_of_ble_eq_true rfl)) dX11_power_2 ⟨Nat.le_of_ble_eq_true rfl, Nat.le_of_ble_eq_true rfl⟩) hP hD hS hA [0, 1] [] rfl rfl rfl (by decide) (fun r_1 u H locs hw_2 hP hD hS => ?_)
  have hw_2 : r_1 = 1 := hw_2
  obtain rfl := hw_2
  have hP : va_P D vwCl [(mo, .inr (11, [.ref mw, .ref ma, .ref mf, .ref m0, .ref m1, .ref mu, .ref mv, .ref u0, .ref u1, .ref iz, .int 1, .ref mb, .int 0, .int 0, .int 0, .int 0, .int 0, .int 0, .int 0])), (mw, .inl (ct 0, 958, .inl m_w0))] H := hP
  have hD : va_D A [(mo, .inr (11, [.ref mw, .ref ma, .ref mf, .ref m0, .ref m1, .ref mu, .ref mv, .ref u0, .ref u1, .ref iz, .int 1, .ref mb, .int 0, .int 0, .int 0, .int 0, .int 0, .int 0, .int 0])), (mw, .inl (ct 0, 958, .inl m_w0))] := hD
  refine lv_if_eq (tgt := 12) hx hb dX11_power_5 (by decide) (fun hc => absurd hc (by decide)) (fun _ => ?_)
  refine lv_iconst (v := 0) hx hb dX11_power_8 (by decide) ?_
  refine lv_goto (tgt := 32) hx hb dX11_power_9 (by decide) ?_
  have hP9 := hP.sub (ws' := [(mo, .inr (11, [.ref mw, .ref ma, .ref mf, .ref m0, .ref m1, .ref mu, .ref mv, .ref u0, .ref u1, .ref iz, .int 1, .ref mb, .int 0, .int 0, .int 0, .int 0, .int 0, .int 0, .int 0])), (mw, .inl (ct 0, 958, .inl m_w0))]) [0, 1] rfl
  have hD9 := hD.sub (ws' := [(mo, .inr (11, [.ref mw, .ref ma, .ref mf, .ref m0, .ref m1, .ref mu, .ref mv, .ref u0, .ref u1, .ref iz, .int 1, .ref mb, .int 0, .int 0, .int 0, .int 0, .int 0, .int 0, .int 0])), (mw, .inl (ct 0, 958, .inl m_w0))]) [0, 1] (by decide) rfl
  exact W.iret (v := 0) hx hb hr (fun t ht hW => ⟨⟨0, (), rfl, trivial, by rw [ht]; exact hP9, by rw [hAe]; exact hD9⟩, hS.F ht⟩) hS.2.2 dX11_power_32
theorem dX11_measuredRest_0 : decode cX11_measuredRest 0 = .ok (.aload_n 0, 1) := by decide +kernel
theorem dX11_measuredRest_1 : decode cX11_measuredRest 1 = .ok (.iload_n 1, 1) := by decide +kernel
theorem dX11_measuredRest_2 : decode cX11_measuredRest 2 = .ok (.invokevirtual 344, 3) := by decide +kernel
theorem dX11_measuredRest_5 : decode cX11_measuredRest 5 = .ok (.ifCond .eq 7, 3) := by decide +kernel
theorem dX11_measuredRest_8 : decode cX11_measuredRest 8 = .ok (.iconst 0, 1) := by decide +kernel
theorem dX11_measuredRest_9 : decode cX11_measuredRest 9 = .ok (.goto 10, 3) := by decide +kernel
theorem dX11_measuredRest_19 : decode cX11_measuredRest 19 = .ok (.ireturn, 1) := by decide +kernel
set_option maxRecDepth 100000 in
set_option maxHeartbeats 4000000 in
theorem m_measuredRest_0 (l : Launch) (D : va_G) (ct : Nat → ClassId) (mo : Nat) (mw : Nat) (ma : Nat) (mf : Nat) (m0 : Nat) (m1 : Nat) (mu : Nat) (mv : Nat) (u0 : Nat) (u1 : Nat) (iz : Nat) (mb : Nat) (p1 : Int32) (sz : Nat) : Met l yX11_measuredRest (ws_ yX11_measuredRest cX11_measuredRest 2 (some .int)) ({ frames := 2, cells := 0, slots := 0, locals := 46 } : Room) (va_Pc [.ref mo, .int p1] (cmP D ct sz [(mo, .inr (11, [.ref mw, .ref ma, .ref mf, .ref m0, .ref m1, .ref mu, .ref mv, .ref u0, .ref u1, .ref iz, .int 0, .ref mb, .int 0, .int 0, .int 0, .int 0, .int 0, .int 0, .int 0])), (mw, .inl (ct 0, 958, .inl m_w0))])) (va_Qi (fun (r : Int32) (_ : Unit) => True) (cmB D [(mo, .inr (11, [.ref mw, .ref ma, .ref mf, .ref m0, .ref m1, .ref mu, .ref mv, .ref u0, .ref u1, .ref iz, .int 0, .ref mb, .int 0, .int 0, .int 0, .int 0, .int 0, .int 0, .int 0])), (mw, .inl (ct 0, 958, .inl m_w0))] sz (fun _ : Unit => [(mo, .inr (11, [.ref mw, .ref ma, .ref mf, .ref m0, .ref m1, .ref mu, .ref mv, .ref u0, .ref u1, .ref iz, .int 1, .ref mb, .int 0, .int 0, .int 0, .int 0, .int 0, .int 0, .int 0])), (mw, .inl (ct 0, 958, .inl m_w0))])) (va_A [(mo, .inr (11, [.ref mw, .ref ma, .ref mf, .ref m0, .ref m1, .ref mu, .ref mv, .ref u0, .ref u1, .ref iz, .int 0, .ref mb, .int 0, .int 0, .int 0, .int 0, .int 0, .int 0, .int 0])), (mw, .inl (ct 0, 958, .inl m_w0))] sz)) 0 0 (va_A [(mo, .inr (11, [.ref mw, .ref ma, .ref mf, .ref m0, .ref m1, .ref mu, .ref mv, .ref u0, .ref u1, .ref iz, .int 0, .ref mb, .int 0, .int 0, .int 0, .int 0, .int 0, .int 0, .int 0])), (mw, .inl (ct 0, 958, .inl m_w0))] sz) := by
  refine Met.ofW (cc := cX11_measuredRest) (maxL := 2) (ret := (some .int)) (by decide) rfl ?_
  intro p e s m args below meth c s₁ B hml hv
  obtain ⟨rfl, hsz, hP, hK, hD0, hX⟩ := hv
  have hx := B.exec
  have hb := B.bytes
  have hr := B.returns
  have hts := ws_all (atoms_spec (ws := ws_ yX11_measuredRest cX11_measuredRest 2 (some .int)) B.pre)
  have hown : s.vm.findClass RX11 = some m.cls := findClass_of_methodNamed B.named
  have hlocks := B.notSynchronized
  subst hsz
  have hD := hD0.self (sz := s.heap.size)
  generalize hAe : va_A [(mo, .inr (11, [.ref mw, .ref ma, .ref mf, .ref m0, .ref m1, .ref mu, .ref mv, .ref u0, .ref u1, .ref iz, .int 0, .ref mb, .int 0, .int 0, .int 0, .int 0, .int 0, .int 0, .int 0])), (mw, .inl (ct 0, 958, .inl m_w0))] s.heap.size = A at hD hX ⊢
  have hA : ∀ q : Nat, s.heap.size ≤ q → A q := fun q h => by rw [← hAe]; exact Or.inr h
  have hS : va_S A s.heap s.heap [] := va_S.rf
  have hl := lv_entry ([.ref mo, .int p1]) (n := 2) (Nat.le_of_ble_eq_true rfl)
  rw [lg_entry_eq]
  generalize (lg_sl ([.ref mo, .int p1]) ++ List.replicate (2 - (lg_sl ([.ref mo, .int p1])).length) Slot.unset).toArray = ls at hl ⊢
  have hl : lv_has ls 2 [(0, .ref mo), (1, .int p1)] := hl
  refine lv_aload_n hx hb dX11_measuredRest_0 rfl (lv_at hl 0 rfl) ?_
  refine lv_iload_n hx hb dX11_measuredRest_1 rfl (lv_at hl 1 rfl) ?_
  refine cm_ki (wr := []) (va_runV (As := [.int p1]) (rest := []) ⟨hx, hb, hml, hown, hts⟩ (m_noChannel l D ct mo mw ma mf m0 m1 mu mv u0 u1 iz mb p1 _) (cm_V 1 hts kc_X11_noChannel ki_RX11 kl_RX11_344 kv_X11_noChannel kx_X11_noChannel kd_X11_noChannel ⟨Nat.le_of_ble_eq_true rfl, Nat.le_of_ble_eq_true rfl⟩) (cm_preV hP hK hD hS hA hX [0, 1] rfl rfl rfl (q0 := 0) (ci := 11) rfl rfl) rfl rfl hl.1 rfl (lv_room (Nat.le_of_ble_eq_true rfl)) dX11_measuredRest_2 ⟨Nat.le_of_ble_eq_true rfl, Nat.le_of_ble_eq_true rfl⟩) hP hD hS hA [0, 1] [] rfl rfl rfl (by decide) (fun r_1 u H locs hw_2 hP hD hS => ?_)
  have hw_2 : r_1 = 1 := hw_2
  obtain rfl := hw_2
  have hP : va_P D vwCl [(mo, .inr (11, [.ref mw, .ref ma, .ref mf, .ref m0, .ref m1, .ref mu, .ref mv, .ref u0, .ref u1, .ref iz, .int 1, .ref mb, .int 0, .int 0, .int 0, .int 0, .int 0, .int 0, .int 0])), (mw, .inl (ct 0, 958, .inl m_w0))] H := hP
  have hD : va_D A [(mo, .inr (11, [.ref mw, .ref ma, .ref mf, .ref m0, .ref m1, .ref mu, .ref mv, .ref u0, .ref u1, .ref iz, .int 1, .ref mb, .int 0, .int 0, .int 0, .int 0, .int 0, .int 0, .int 0])), (mw, .inl (ct 0, 958, .inl m_w0))] := hD
  refine lv_if_eq (tgt := 12) hx hb dX11_measuredRest_5 (by decide) (fun hc => absurd hc (by decide)) (fun _ => ?_)
  refine lv_iconst (v := 0) hx hb dX11_measuredRest_8 (by decide) ?_
  refine lv_goto (tgt := 19) hx hb dX11_measuredRest_9 (by decide) ?_
  have hP9 := hP.sub (ws' := [(mo, .inr (11, [.ref mw, .ref ma, .ref mf, .ref m0, .ref m1, .ref mu, .ref mv, .ref u0, .ref u1, .ref iz, .int 1, .ref mb, .int 0, .int 0, .int 0, .int 0, .int 0, .int 0, .int 0])), (mw, .inl (ct 0, 958, .inl m_w0))]) [0, 1] rfl
  have hD9 := hD.sub (ws' := [(mo, .inr (11, [.ref mw, .ref ma, .ref mf, .ref m0, .ref m1, .ref mu, .ref mv, .ref u0, .ref u1, .ref iz, .int 1, .ref mb, .int 0, .int 0, .int 0, .int 0, .int 0, .int 0, .int 0])), (mw, .inl (ct 0, 958, .inl m_w0))]) [0, 1] (by decide) rfl
  exact W.iret (v := 0) hx hb hr (fun t ht hW => ⟨⟨0, (), rfl, trivial, by rw [ht]; exact hP9, by rw [hAe]; exact hD9⟩, hS.F ht⟩) hS.2.2 dX11_measuredRest_19
theorem dX11_capacityByRule_0 : decode cX11_capacityByRule 0 = .ok (.aload_n 0, 1) := by decide +kernel
theorem dX11_capacityByRule_1 : decode cX11_capacityByRule 1 = .ok (.iload_n 1, 1) := by decide +kernel
theorem dX11_capacityByRule_2 : decode cX11_capacityByRule 2 = .ok (.invokevirtual 344, 3) := by decide +kernel
theorem dX11_capacityByRule_5 : decode cX11_capacityByRule 5 = .ok (.ifCond .eq 7, 3) := by decide +kernel
theorem dX11_capacityByRule_8 : decode cX11_capacityByRule 8 = .ok (.iconst 0, 1) := by decide +kernel
theorem dX11_capacityByRule_9 : decode cX11_capacityByRule 9 = .ok (.goto 10, 3) := by decide +kernel
theorem dX11_capacityByRule_19 : decode cX11_capacityByRule 19 = .ok (.ireturn, 1) := by decide +kernel
set_option maxRecDepth 100000 in
set_option maxHeartbeats 4000000 in
theorem m_capacityByRule_0 (l : Launch) (D : va_G) (ct : Nat → ClassId) (mo : Nat) (mw : Nat) (ma : Nat) (mf : Nat) (m0 : Nat) (m1 : Nat) (mu : Nat) (mv : Nat) (u0 : Nat) (u1 : Nat) (iz : Nat) (mb : Nat) (p1 : Int32) (sz : Nat) : Met l yX11_capacityByRule (ws_ yX11_capacityByRule cX11_capacityByRule 2 (some .int)) ({ frames := 2, cells := 0, slots := 0, locals := 46 } : Room) (va_Pc [.ref mo, .int p1] (cmP D ct sz [(mo, .inr (11, [.ref mw, .ref ma, .ref mf, .ref m0, .ref m1, .ref mu, .ref mv, .ref u0, .ref u1, .ref iz, .int 0, .ref mb, .int 0, .int 0, .int 0, .int 0, .int 0, .int 0, .int 0])), (mw, .inl (ct 0, 958, .inl m_w0))])) (va_Qi (fun (r : Int32) (_ : Unit) => True) (cmB D [(mo, .inr (11, [.ref mw, .ref ma, .ref mf, .ref m0, .ref m1, .ref mu, .ref mv, .ref u0, .ref u1, .ref iz, .int 0, .ref mb, .int 0, .int 0, .int 0, .int 0, .int 0, .int 0, .int 0])), (mw, .inl (ct 0, 958, .inl m_w0))] sz (fun _ : Unit => [(mo, .inr (11, [.ref mw, .ref ma, .ref mf, .ref m0, .ref m1, .ref mu, .ref mv, .ref u0, .ref u1, .ref iz, .int 1, .ref mb, .int 0, .int 0, .int 0, .int 0, .int 0, .int 0, .int 0])), (mw, .inl (ct 0, 958, .inl m_w0))])) (va_A [(mo, .inr (11, [.ref mw, .ref ma, .ref mf, .ref m0, .ref m1, .ref mu, .ref mv, .ref u0, .ref u1, .ref iz, .int 0, .ref mb, .int 0, .int 0, .int 0, .int 0, .int 0, .int 0, .int 0])), (mw, .inl (ct 0, 958, .inl m_w0))] sz)) 0 0 (va_A [(mo, .inr (11, [.ref mw, .ref ma, .ref mf, .ref m0, .ref m1, .ref mu, .ref mv, .ref u0, .ref u1, .ref iz, .int 0, .ref mb, .int 0, .int 0, .int 0, .int 0, .int 0, .int 0, .int 0])), (mw, .inl (ct 0, 958, .inl m_w0))] sz) := by
  refine Met.ofW (cc := cX11_capacityByRule) (maxL := 2) (ret := (some .int)) (by decide) rfl ?_
  intro p e s m args below meth c s₁ B hml hv
  obtain ⟨rfl, hsz, hP, hK, hD0, hX⟩ := hv
  have hx := B.exec
  have hb := B.bytes
  have hr := B.returns
  have hts := ws_all (atoms_spec (ws := ws_ yX11_capacityByRule cX11_capacityByRule 2 (some .int)) B.pre)
  have hown : s.vm.findClass RX11 = some m.cls := findClass_of_methodNamed B.named
  have hlocks := B.notSynchronized
  subst hsz
  have hD := hD0.self (sz := s.heap.size)
  generalize hAe : va_A [(mo, .inr (11, [.ref mw, .ref ma, .ref mf, .ref m0, .ref m1, .ref mu, .ref mv, .ref u0, .ref u1, .ref iz, .int 0, .ref mb, .int 0, .int 0, .int 0, .int 0, .int 0, .int 0, .int 0])), (mw, .inl (ct 0, 958, .inl m_w0))] s.heap.size = A at hD hX ⊢
  have hA : ∀ q : Nat, s.heap.size ≤ q → A q := fun q h => by rw [← hAe]; exact Or.inr h
  have hS : va_S A s.heap s.heap [] := va_S.rf
  have hl := lv_entry ([.ref mo, .int p1]) (n := 2) (Nat.le_of_ble_eq_true rfl)
  rw [lg_entry_eq]
  generalize (lg_sl ([.ref mo, .int p1]) ++ List.replicate (2 - (lg_sl ([.ref mo, .int p1])).length) Slot.unset).toArray = ls at hl ⊢
  have hl : lv_has ls 2 [(0, .ref mo), (1, .int p1)] := hl
  refine lv_aload_n hx hb dX11_capacityByRule_0 rfl (lv_at hl 0 rfl) ?_
  refine lv_iload_n hx hb dX11_capacityByRule_1 rfl (lv_at hl 1 rfl) ?_
  refine cm_ki (wr := []) (va_runV (As := [.int p1]) (rest := []) ⟨hx, hb, hml, hown, hts⟩ (m_noChannel l D ct mo mw ma mf m0 m1 mu mv u0 u1 iz mb p1 _) (cm_V 1 hts kc_X11_noChannel ki_RX11 kl_RX11_344 kv_X11_noChannel kx_X11_noChannel kd_X11_noChannel ⟨Nat.le_of_ble_eq_true rfl, Nat.le_of_ble_eq_true rfl⟩) (cm_preV hP hK hD hS hA hX [0, 1] rfl rfl rfl (q0 := 0) (ci := 11) rfl rfl) rfl rfl hl.1 rfl (lv_room (Nat.le_of_ble_eq_true rfl)) dX11_capacityByRule_2 ⟨Nat.le_of_ble_eq_true rfl, Nat.le_of_ble_eq_true rfl⟩) hP hD hS hA [0, 1] [] rfl rfl rfl (by decide) (fun r_1 u H locs hw_2 hP hD hS => ?_)
  have hw_2 : r_1 = 1 := hw_2
  obtain rfl := hw_2
  have hP : va_P D vwCl [(mo, .inr (11, [.ref mw, .ref ma, .ref mf, .ref m0, .ref m1, .ref mu, .ref mv, .ref u0, .ref u1, .ref iz, .int 1, .ref mb, .int 0, .int 0, .int 0, .int 0, .int 0, .int 0, .int 0])), (mw, .inl (ct 0, 958, .inl m_w0))] H := hP
  have hD : va_D A [(mo, .inr (11, [.ref mw, .ref ma, .ref mf, .ref m0, .ref m1, .ref mu, .ref mv, .ref u0, .ref u1, .ref iz, .int 1, .ref mb, .int 0, .int 0, .int 0, .int 0, .int 0, .int 0, .int 0])), (mw, .inl (ct 0, 958, .inl m_w0))] := hD
  refine lv_if_eq (tgt := 12) hx hb dX11_capacityByRule_5 (by decide) (fun hc => absurd hc (by decide)) (fun _ => ?_)
  refine lv_iconst (v := 0) hx hb dX11_capacityByRule_8 (by decide) ?_
  refine lv_goto (tgt := 19) hx hb dX11_capacityByRule_9 (by decide) ?_
  have hP9 := hP.sub (ws' := [(mo, .inr (11, [.ref mw, .ref ma, .ref mf, .ref m0, .ref m1, .ref mu, .ref mv, .ref u0, .ref u1, .ref iz, .int 1, .ref mb, .int 0, .int 0, .int 0, .int 0, .int 0, .int 0, .int 0])), (mw, .inl (ct 0, 958, .inl m_w0))]) [0, 1] rfl
  have hD9 := hD.sub (ws' := [(mo, .inr (11, [.ref mw, .ref ma, .ref mf, .ref m0, .ref m1, .ref mu, .ref mv, .ref u0, .ref u1, .ref iz, .int 1, .ref mb, .int 0, .int 0, .int 0, .int 0, .int 0, .int 0, .int 0])), (mw, .inl (ct 0, 958, .inl m_w0))]) [0, 1] (by decide) rfl
  exact W.iret (v := 0) hx hb hr (fun t ht hW => ⟨⟨0, (), rfl, trivial, by rw [ht]; exact hP9, by rw [hAe]; exact hD9⟩, hS.F ht⟩) hS.2.2 dX11_capacityByRule_19
theorem dX11_repeats_0 : decode cX11_repeats 0 = .ok (.aload_n 0, 1) := by decide +kernel
theorem dX11_repeats_1 : decode cX11_repeats 1 = .ok (.iload_n 1, 1) := by decide +kernel
theorem dX11_repeats_2 : decode cX11_repeats 2 = .ok (.invokevirtual 344, 3) := by decide +kernel
theorem dX11_repeats_5 : decode cX11_repeats 5 = .ok (.ifCond .eq 5, 3) := by decide +kernel
theorem dX11_repeats_8 : decode cX11_repeats 8 = .ok (.iconst 0, 1) := by decide +kernel
theorem dX11_repeats_9 : decode cX11_repeats 9 = .ok (.ireturn, 1) := by decide +kernel
set_option maxRecDepth 100000 in
set_option maxHeartbeats 4000000 in
theorem m_repeats_0 (l : Launch) (D : va_G) (ct : Nat → ClassId) (mo : Nat) (mw : Nat) (ma : Nat) (mf : Nat) (m0 : Nat) (m1 : Nat) (mu : Nat) (mv : Nat) (u0 : Nat) (u1 : Nat) (iz : Nat) (mb : Nat) (p1 : Int32) (p2 : Int32) (sz : Nat) : Met l yX11_repeats (ws_ yX11_repeats cX11_repeats 4 (some .int)) ({ frames := 2, cells := 0, slots := 0, locals := 46 } : Room) (va_Pc [.ref mo, .int p1, .int p2] (cmP D ct sz [(mo, .inr (11, [.ref mw, .ref ma, .ref mf, .ref m0, .ref m1, .ref mu, .ref mv, .ref u0, .ref u1, .ref iz, .int 0, .ref mb, .int 0, .int 0, .int 0, .int 0, .int 0, .int 0, .int 0])), (mw, .inl (ct 0, 958, .inl m_w0))])) (va_Qi (fun (r : Int32) (_ : Unit) => True) (cmB D [(mo, .inr (11, [.ref mw, .ref ma, .ref mf, .ref m0, .ref m1, .ref mu, .ref mv, .ref u0, .ref u1, .ref iz, .int 0, .ref mb, .int 0, .int 0, .int 0, .int 0, .int 0, .int 0, .int 0])), (mw, .inl (ct 0, 958, .inl m_w0))] sz (fun _ : Unit => [(mo, .inr (11, [.ref mw, .ref ma, .ref mf, .ref m0, .ref m1, .ref mu, .ref mv, .ref u0, .ref u1, .ref iz, .int 1, .ref mb, .int 0, .int 0, .int 0, .int 0, .int 0, .int 0, .int 0])), (mw, .inl (ct 0, 958, .inl m_w0))])) (va_A [(mo, .inr (11, [.ref mw, .ref ma, .ref mf, .ref m0, .ref m1, .ref mu, .ref mv, .ref u0, .ref u1, .ref iz, .int 0, .ref mb, .int 0, .int 0, .int 0, .int 0, .int 0, .int 0, .int 0])), (mw, .inl (ct 0, 958, .inl m_w0))] sz)) 0 0 (va_A [(mo, .inr (11, [.ref mw, .ref ma, .ref mf, .ref m0, .ref m1, .ref mu, .ref mv, .ref u0, .ref u1, .ref iz, .int 0, .ref mb, .int 0, .int 0, .int 0, .int 0, .int 0, .int 0, .int 0])), (mw, .inl (ct 0, 958, .inl m_w0))] sz) := by
  refine Met.ofW (cc := cX11_repeats) (maxL := 4) (ret := (some .int)) (by decide) rfl ?_
  intro p e s m args below meth c s₁ B hml hv
  obtain ⟨rfl, hsz, hP, hK, hD0, hX⟩ := hv
  have hx := B.exec
  have hb := B.bytes
  have hr := B.returns
  have hts := ws_all (atoms_spec (ws := ws_ yX11_repeats cX11_repeats 4 (some .int)) B.pre)
  have hown : s.vm.findClass RX11 = some m.cls := findClass_of_methodNamed B.named
  have hlocks := B.notSynchronized
  subst hsz
  have hD := hD0.self (sz := s.heap.size)
  generalize hAe : va_A [(mo, .inr (11, [.ref mw, .ref ma, .ref mf, .ref m0, .ref m1, .ref mu, .ref mv, .ref u0, .ref u1, .ref iz, .int 0, .ref mb, .int 0, .int 0, .int 0, .int 0, .int 0, .int 0, .int 0])), (mw, .inl (ct 0, 958, .inl m_w0))] s.heap.size = A at hD hX ⊢
  have hA : ∀ q : Nat, s.heap.size ≤ q → A q := fun q h => by rw [← hAe]; exact Or.inr h
  have hS : va_S A s.heap s.heap [] := va_S.rf
  have hl := lv_entry ([.ref mo, .int p1, .int p2]) (n := 4) (Nat.le_of_ble_eq_true rfl)
  rw [lg_entry_eq]
  generalize (lg_sl ([.ref mo, .int p1, .int p2]) ++ List.replicate (4 - (lg_sl ([.ref mo, .int p1, .int p2])).length) Slot.unset).toArray = ls at hl ⊢
  have hl : lv_has ls 4 [(0, .ref mo), (1, .int p1), (2, .int p2)] := hl
  refine lv_aload_n hx hb dX11_repeats_0 rfl (lv_at hl 0 rfl) ?_
  refine lv_iload_n hx hb dX11_repeats_1 rfl (lv_at hl 1 rfl) ?_
  refine cm_ki (wr := []) (va_runV (As := [.int p1]) (rest := []) ⟨hx, hb, hml, hown, hts⟩ (m_noChannel l D ct mo mw ma mf m0 m1 mu mv u0 u1 iz mb p1 _) (cm_V 1 hts kc_X11_noChannel ki_RX11 kl_RX11_344 kv_X11_noChannel kx_X11_noChannel kd_X11_noChannel ⟨Nat.le_of_ble_eq_true rfl, Nat.le_of_ble_eq_true rfl⟩) (cm_preV hP hK hD hS hA hX [0, 1] rfl rfl rfl (q0 := 0) (ci := 11) rfl rfl) rfl rfl hl.1 rfl (lv_room (Nat.le_of_ble_eq_true rfl)) dX11_repeats_2 ⟨Nat.le_of_ble_eq_true rfl, Nat.le_of_ble_eq_true rfl⟩) hP hD hS hA [0, 1] [] rfl rfl rfl (by decide) (fun r_1 u H locs hw_2 hP hD hS => ?_)
  have hw_2 : r_1 = 1 := hw_2
  obtain rfl := hw_2
  have hP : va_P D vwCl [(mo, .inr (11, [.ref mw, .ref ma, .ref mf, .ref m0, .ref m1, .ref mu, .ref mv, .ref u0, .ref u1, .ref iz, .int 1, .ref mb, .int 0, .int 0, .int 0, .int 0, .int 0, .int 0, .int 0])), (mw, .inl (ct 0, 958, .inl m_w0))] H := hP
  have hD : va_D A [(mo, .inr (11, [.ref mw, .ref ma, .ref mf, .ref m0, .ref m1, .ref mu, .ref mv, .ref u0, .ref u1, .ref iz, .int 1, .ref mb, .int 0, .int 0, .int 0, .int 0, .int 0, .int 0, .int 0])), (mw, .inl (ct 0, 958, .inl m_w0))] := hD
  refine lv_if_eq (tgt := 10) hx hb dX11_repeats_5 (by decide) (fun hc => absurd hc (by decide)) (fun _ => ?_)
  refine lv_iconst (v := 0) hx hb dX11_repeats_8 (by decide) ?_
  have hP9 := hP.sub (ws' := [(mo, .inr (11, [.ref mw, .ref ma, .ref mf, .ref m0, .ref m1, .ref mu, .ref mv, .ref u0, .ref u1, .ref iz, .int 1, .ref mb, .int 0, .int 0, .int 0, .int 0, .int 0, .int 0, .int 0])), (mw, .inl (ct 0, 958, .inl m_w0))]) [0, 1] rfl
  have hD9 := hD.sub (ws' := [(mo, .inr (11, [.ref mw, .ref ma, .ref mf, .ref m0, .ref m1, .ref mu, .ref mv, .ref u0, .ref u1, .ref iz, .int 1, .ref mb, .int 0, .int 0, .int 0, .int 0, .int 0, .int 0, .int 0])), (mw, .inl (ct 0, 958, .inl m_w0))]) [0, 1] (by decide) rfl
  exact W.iret (v := 0) hx hb hr (fun t ht hW => ⟨⟨0, (), rfl, trivial, by rw [ht]; exact hP9, by rw [hAe]; exact hD9⟩, hS.F ht⟩) hS.2.2 dX11_repeats_9
theorem dX11_counting_0 : decode cX11_counting 0 = .ok (.aload_n 0, 1) := by decide +kernel
theorem dX11_counting_1 : decode cX11_counting 1 = .ok (.iload_n 1, 1) := by decide +kernel
theorem dX11_counting_2 : decode cX11_counting 2 = .ok (.invokevirtual 344, 3) := by decide +kernel
theorem dX11_counting_5 : decode cX11_counting 5 = .ok (.ifCond .eq 5, 3) := by decide +kernel
theorem dX11_counting_8 : decode cX11_counting 8 = .ok (.iconst 0, 1) := by decide +kernel
theorem dX11_counting_9 : decode cX11_counting 9 = .ok (.ireturn, 1) := by decide +kernel
set_option maxRecDepth 100000 in
set_option maxHeartbeats 4000000 in
theorem m_counting_0 (l : Launch) (D : va_G) (ct : Nat → ClassId) (mo : Nat) (mw : Nat) (ma : Nat) (mf : Nat) (m0 : Nat) (m1 : Nat) (mu : Nat) (mv : Nat) (u0 : Nat) (u1 : Nat) (iz : Nat) (mb : Nat) (p1 : Int32) (sz : Nat) : Met l yX11_counting (ws_ yX11_counting cX11_counting 4 (some .int)) ({ frames := 2, cells := 0, slots := 0, locals := 46 } : Room) (va_Pc [.ref mo, .int p1] (cmP D ct sz [(mo, .inr (11, [.ref mw, .ref ma, .ref mf, .ref m0, .ref m1, .ref mu, .ref mv, .ref u0, .ref u1, .ref iz, .int 0, .ref mb, .int 0, .int 0, .int 0, .int 0, .int 0, .int 0, .int 0])), (mw, .inl (ct 0, 958, .inl m_w0))])) (va_Qi (fun (r : Int32) (_ : Unit) => True) (cmB D [(mo, .inr (11, [.ref mw, .ref ma, .ref mf, .ref m0, .ref m1, .ref mu, .ref mv, .ref u0, .ref u1, .ref iz, .int 0, .ref mb, .int 0, .int 0, .int 0, .int 0, .int 0, .int 0, .int 0])), (mw, .inl (ct 0, 958, .inl m_w0))] sz (fun _ : Unit => [(mo, .inr (11, [.ref mw, .ref ma, .ref mf, .ref m0, .ref m1, .ref mu, .ref mv, .ref u0, .ref u1, .ref iz, .int 1, .ref mb, .int 0, .int 0, .int 0, .int 0, .int 0, .int 0, .int 0])), (mw, .inl (ct 0, 958, .inl m_w0))])) (va_A [(mo, .inr (11, [.ref mw, .ref ma, .ref mf, .ref m0, .ref m1, .ref mu, .ref mv, .ref u0, .ref u1, .ref iz, .int 0, .ref mb, .int 0, .int 0, .int 0, .int 0, .int 0, .int 0, .int 0])), (mw, .inl (ct 0, 958, .inl m_w0))] sz)) 0 0 (va_A [(mo, .inr (11, [.ref mw, .ref ma, .ref mf, .ref m0, .ref m1, .ref mu, .ref mv, .ref u0, .ref u1, .ref iz, .int 0, .ref mb, .int 0, .int 0, .int 0, .int 0, .int 0, .int 0, .int 0])), (mw, .inl (ct 0, 958, .inl m_w0))] sz) := by
  refine Met.ofW (cc := cX11_counting) (maxL := 4) (ret := (some .int)) (by decide) rfl ?_
  intro p e s m args below meth c s₁ B hml hv
  obtain ⟨rfl, hsz, hP, hK, hD0, hX⟩ := hv
  have hx := B.exec
  have hb := B.bytes
  have hr := B.returns
  have hts := ws_all (atoms_spec (ws := ws_ yX11_counting cX11_counting 4 (some .int)) B.pre)
  have hown : s.vm.findClass RX11 = some m.cls := findClass_of_methodNamed B.named
  have hlocks := B.notSynchronized
  subst hsz
  have hD := hD0.self (sz := s.heap.size)
  generalize hAe : va_A [(mo, .inr (11, [.ref mw, .ref ma, .ref mf, .ref m0, .ref m1, .ref mu, .ref mv, .ref u0, .ref u1, .ref iz, .int 0, .ref mb, .int 0, .int 0, .int 0, .int 0, .int 0, .int 0, .int 0])), (mw, .inl (ct 0, 958, .inl m_w0))] s.heap.size = A at hD hX ⊢
  have hA : ∀ q : Nat, s.heap.size ≤ q → A q := fun q h => by rw [← hAe]; exact Or.inr h
  have hS : va_S A s.heap s.heap [] := va_S.rf
  have hl := lv_entry ([.ref mo, .int p1]) (n := 4) (Nat.le_of_ble_eq_true rfl)
  rw [lg_entry_eq]
  generalize (lg_sl ([.ref mo, .int p1]) ++ List.replicate (4 - (lg_sl ([.ref mo, .int p1])).length) Slot.unset).toArray = ls at hl ⊢
  have hl : lv_has ls 4 [(0, .ref mo), (1, .int p1)] := hl
  refine lv_aload_n hx hb dX11_counting_0 rfl (lv_at hl 0 rfl) ?_
  refine lv_iload_n hx hb dX11_counting_1 rfl (lv_at hl 1 rfl) ?_
  refine cm_ki (wr := []) (va_runV (As := [.int p1]) (rest := []) ⟨hx, hb, hml, hown, hts⟩ (m_noChannel l D ct mo mw ma mf m0 m1 mu mv u0 u1 iz mb p1 _) (cm_V 1 hts kc_X11_noChannel ki_RX11 kl_RX11_344 kv_X11_noChannel kx_X11_noChannel kd_X11_noChannel ⟨Nat.le_of_ble_eq_true rfl, Nat.le_of_ble_eq_true rfl⟩) (cm_preV hP hK hD hS hA hX [0, 1] rfl rfl rfl (q0 := 0) (ci := 11) rfl rfl) rfl rfl hl.1 rfl (lv_room (Nat.le_of_ble_eq_true rfl)) dX11_counting_2 ⟨Nat.le_of_ble_eq_true rfl, Nat.le_of_ble_eq_true rfl⟩) hP hD hS hA [0, 1] [] rfl rfl rfl (by decide) (fun r_1 u H locs hw_2 hP hD hS => ?_)
  have hw_2 : r_1 = 1 := hw_2
  obtain rfl := hw_2
  have hP : va_P D vwCl [(mo, .inr (11, [.ref mw, .ref ma, .ref mf, .ref m0, .ref m1, .ref mu, .ref mv, .ref u0, .ref u1, .ref iz, .int 1, .ref mb, .int 0, .int 0, .int 0, .int 0, .int 0, .int 0, .int 0])), (mw, .inl (ct 0, 958, .inl m_w0))] H := hP
  have hD : va_D A [(mo, .inr (11, [.ref mw, .ref ma, .ref mf, .ref m0, .ref m1, .ref mu, .ref mv, .ref u0, .ref u1, .ref iz, .int 1, .ref mb, .int 0, .int 0, .int 0, .int 0, .int 0, .int 0, .int 0])), (mw, .inl (ct 0, 958, .inl m_w0))] := hD
  refine lv_if_eq (tgt := 10) hx hb dX11_counting_5 (by decide) (fun hc => absurd hc (by decide)) (fun _ => ?_)
  refine lv_iconst (v := 0) hx hb dX11_counting_8 (by decide) ?_
  have hP9 := hP.sub (ws' := [(mo, .inr (11, [.ref mw, .ref ma, .ref mf, .ref m0, .ref m1, .ref mu, .ref mv, .ref u0, .ref u1, .ref iz, .int 1, .ref mb, .int 0, .int 0, .int 0, .int 0, .int 0, .int 0, .int 0])), (mw, .inl (ct 0, 958, .inl m_w0))]) [0, 1] rfl
  have hD9 := hD.sub (ws' := [(mo, .inr (11, [.ref mw, .ref ma, .ref mf, .ref m0, .ref m1, .ref mu, .ref mv, .ref u0, .ref u1, .ref iz, .int 1, .ref mb, .int 0, .int 0, .int 0, .int 0, .int 0, .int 0, .int 0])), (mw, .inl (ct 0, 958, .inl m_w0))]) [0, 1] (by decide) rfl
  exact W.iret (v := 0) hx hb hr (fun t ht hW => ⟨⟨0, (), rfl, trivial, by rw [ht]; exact hP9, by rw [hAe]; exact hD9⟩, hS.F ht⟩) hS.2.2 dX11_counting_9
theorem dX11_loss_0 : decode cX11_loss 0 = .ok (.aload_n 0, 1) := by decide +kernel
theorem dX11_loss_1 : decode cX11_loss 1 = .ok (.iload_n 1, 1) := by decide +kernel
theorem dX11_loss_2 : decode cX11_loss 2 = .ok (.invokevirtual 344, 3) := by decide +kernel
theorem dX11_loss_5 : decode cX11_loss 5 = .ok (.ifCond .eq 5, 3) := by decide +kernel
theorem dX11_loss_8 : decode cX11_loss 8 = .ok (.iconst 0, 1) := by decide +kernel
theorem dX11_loss_9 : decode cX11_loss 9 = .ok (.ireturn, 1) := by decide +kernel
set_option maxRecDepth 100000 in
set_option maxHeartbeats 4000000 in
theorem m_loss_0 (l : Launch) (D : va_G) (ct : Nat → ClassId) (mo : Nat) (mw : Nat) (ma : Nat) (mf : Nat) (m0 : Nat) (m1 : Nat) (mu : Nat) (mv : Nat) (u0 : Nat) (u1 : Nat) (iz : Nat) (mb : Nat) (p1 : Int32) (sz : Nat) : Met l yX11_loss (ws_ yX11_loss cX11_loss 5 (some .int)) ({ frames := 2, cells := 0, slots := 0, locals := 46 } : Room) (va_Pc [.ref mo, .int p1] (cmP D ct sz [(mo, .inr (11, [.ref mw, .ref ma, .ref mf, .ref m0, .ref m1, .ref mu, .ref mv, .ref u0, .ref u1, .ref iz, .int 0, .ref mb, .int 0, .int 0, .int 0, .int 0, .int 0, .int 0, .int 0])), (mw, .inl (ct 0, 958, .inl m_w0))])) (va_Qi (fun (r : Int32) (_ : Unit) => True) (cmB D [(mo, .inr (11, [.ref mw, .ref ma, .ref mf, .ref m0, .ref m1, .ref mu, .ref mv, .ref u0, .ref u1, .ref iz, .int 0, .ref mb, .int 0, .int 0, .int 0, .int 0, .int 0, .int 0, .int 0])), (mw, .inl (ct 0, 958, .inl m_w0))] sz (fun _ : Unit => [(mo, .inr (11, [.ref mw, .ref ma, .ref mf, .ref m0, .ref m1, .ref mu, .ref mv, .ref u0, .ref u1, .ref iz, .int 1, .ref mb, .int 0, .int 0, .int 0, .int 0, .int 0, .int 0, .int 0])), (mw, .inl (ct 0, 958, .inl m_w0))])) (va_A [(mo, .inr (11, [.ref mw, .ref ma, .ref mf, .ref m0, .ref m1, .ref mu, .ref mv, .ref u0, .ref u1, .ref iz, .int 0, .ref mb, .int 0, .int 0, .int 0, .int 0, .int 0, .int 0, .int 0])), (mw, .inl (ct 0, 958, .inl m_w0))] sz)) 0 0 (va_A [(mo, .inr (11, [.ref mw, .ref ma, .ref mf, .ref m0, .ref m1, .ref mu, .ref mv, .ref u0, .ref u1, .ref iz, .int 0, .ref mb, .int 0, .int 0, .int 0, .int 0, .int 0, .int 0, .int 0])), (mw, .inl (ct 0, 958, .inl m_w0))] sz) := by
  refine Met.ofW (cc := cX11_loss) (maxL := 5) (ret := (some .int)) (by decide) rfl ?_
  intro p e s m args below meth c s₁ B hml hv
  obtain ⟨rfl, hsz, hP, hK, hD0, hX⟩ := hv
  have hx := B.exec
  have hb := B.bytes
  have hr := B.returns
  have hts := ws_all (atoms_spec (ws := ws_ yX11_loss cX11_loss 5 (some .int)) B.pre)
  have hown : s.vm.findClass RX11 = some m.cls := findClass_of_methodNamed B.named
  have hlocks := B.notSynchronized
  subst hsz
  have hD := hD0.self (sz := s.heap.size)
  generalize hAe : va_A [(mo, .inr (11, [.ref mw, .ref ma, .ref mf, .ref m0, .ref m1, .ref mu, .ref mv, .ref u0, .ref u1, .ref iz, .int 0, .ref mb, .int 0, .int 0, .int 0, .int 0, .int 0, .int 0, .int 0])), (mw, .inl (ct 0, 958, .inl m_w0))] s.heap.size = A at hD hX ⊢
  have hA : ∀ q : Nat, s.heap.size ≤ q → A q := fun q h => by rw [← hAe]; exact Or.inr h
  have hS : va_S A s.heap s.heap [] := va_S.rf
  have hl := lv_entry ([.ref mo, .int p1]) (n := 5) (Nat.le_of_ble_eq_true rfl)
  rw [lg_entry_eq]
  generalize (lg_sl ([.ref mo, .int p1]) ++ List.replicate (5 - (lg_sl ([.ref mo, .int p1])).length) Slot.unset).toArray = ls at hl ⊢
  have hl : lv_has ls 5 [(0, .ref mo), (1, .int p1)] := hl
  refine lv_aload_n hx hb dX11_loss_0 rfl (lv_at hl 0 rfl) ?_
  refine lv_iload_n hx hb dX11_loss_1 rfl (lv_at hl 1 rfl) ?_
  refine cm_ki (wr := []) (va_runV (As := [.int p1]) (rest := []) ⟨hx, hb, hml, hown, hts⟩ (m_noChannel l D ct mo mw ma mf m0 m1 mu mv u0 u1 iz mb p1 _) (cm_V 1 hts kc_X11_noChannel ki_RX11 kl_RX11_344 kv_X11_noChannel kx_X11_noChannel kd_X11_noChannel ⟨Nat.le_of_ble_eq_true rfl, Nat.le_of_ble_eq_true rfl⟩) (cm_preV hP hK hD hS hA hX [0, 1] rfl rfl rfl (q0 := 0) (ci := 11) rfl rfl) rfl rfl hl.1 rfl (lv_room (Nat.le_of_ble_eq_true rfl)) dX11_loss_2 ⟨Nat.le_of_ble_eq_true rfl, Nat.le_of_ble_eq_true rfl⟩) hP hD hS hA [0, 1] [] rfl rfl rfl (by decide) (fun r_1 u H locs hw_2 hP hD hS => ?_)
  have hw_2 : r_1 = 1 := hw_2
  obtain rfl := hw_2
  have hP : va_P D vwCl [(mo, .inr (11, [.ref mw, .ref ma, .ref mf, .ref m0, .ref m1, .ref mu, .ref mv, .ref u0, .ref u1, .ref iz, .int 1, .ref mb, .int 0, .int 0, .int 0, .int 0, .int 0, .int 0, .int 0])), (mw, .inl (ct 0, 958, .inl m_w0))] H := hP
  have hD : va_D A [(mo, .inr (11, [.ref mw, .ref ma, .ref mf, .ref m0, .ref m1, .ref mu, .ref mv, .ref u0, .ref u1, .ref iz, .int 1, .ref mb, .int 0, .int 0, .int 0, .int 0, .int 0, .int 0, .int 0])), (mw, .inl (ct 0, 958, .inl m_w0))] := hD
  refine lv_if_eq (tgt := 10) hx hb dX11_loss_5 (by decide) (fun hc => absurd hc (by decide)) (fun _ => ?_)
  refine lv_iconst (v := 0) hx hb dX11_loss_8 (by decide) ?_
  have hP9 := hP.sub (ws' := [(mo, .inr (11, [.ref mw, .ref ma, .ref mf, .ref m0, .ref m1, .ref mu, .ref mv, .ref u0, .ref u1, .ref iz, .int 1, .ref mb, .int 0, .int 0, .int 0, .int 0, .int 0, .int 0, .int 0])), (mw, .inl (ct 0, 958, .inl m_w0))]) [0, 1] rfl
  have hD9 := hD.sub (ws' := [(mo, .inr (11, [.ref mw, .ref ma, .ref mf, .ref m0, .ref m1, .ref mu, .ref mv, .ref u0, .ref u1, .ref iz, .int 1, .ref mb, .int 0, .int 0, .int 0, .int 0, .int 0, .int 0, .int 0])), (mw, .inl (ct 0, 958, .inl m_w0))]) [0, 1] (by decide) rfl
  exact W.iret (v := 0) hx hb hr (fun t ht hW => ⟨⟨0, (), rfl, trivial, by rw [ht]; exact hP9, by rw [hAe]; exact hD9⟩, hS.F ht⟩) hS.2.2 dX11_loss_9
theorem dX11_stepEndsIn_0 : decode cX11_stepEndsIn 0 = .ok (.aload_n 0, 1) := by decide +kernel
theorem dX11_stepEndsIn_1 : decode cX11_stepEndsIn 1 = .ok (.iload_n 1, 1) := by decide +kernel
theorem dX11_stepEndsIn_2 : decode cX11_stepEndsIn 2 = .ok (.invokevirtual 344, 3) := by decide +kernel
theorem dX11_stepEndsIn_5 : decode cX11_stepEndsIn 5 = .ok (.ifCond .eq 5, 3) := by decide +kernel
theorem dX11_stepEndsIn_8 : decode cX11_stepEndsIn 8 = .ok (.iconst 0, 1) := by decide +kernel
theorem dX11_stepEndsIn_9 : decode cX11_stepEndsIn 9 = .ok (.ireturn, 1) := by decide +kernel
set_option maxRecDepth 100000 in
set_option maxHeartbeats 4000000 in
theorem m_stepEndsIn_0 (l : Launch) (D : va_G) (ct : Nat → ClassId) (mo : Nat) (mw : Nat) (ma : Nat) (mf : Nat) (m0 : Nat) (m1 : Nat) (mu : Nat) (mv : Nat) (u0 : Nat) (u1 : Nat) (iz : Nat) (mb : Nat) (p1 : Int32) (sz : Nat) : Met l yX11_stepEndsIn (ws_ yX11_stepEndsIn cX11_stepEndsIn 4 (some .int)) ({ frames := 2, cells := 0, slots := 0, locals := 46 } : Room) (va_Pc [.ref mo, .int p1] (cmP D ct sz [(mo, .inr (11, [.ref mw, .ref ma, .ref mf, .ref m0, .ref m1, .ref mu, .ref mv, .ref u0, .ref u1, .ref iz, .int 0, .ref mb, .int 0, .int 0, .int 0, .int 0, .int 0, .int 0, .int 0])), (mw, .inl (ct 0, 958, .inl m_w0))])) (va_Qi (fun (r : Int32) (_ : Unit) => True) (cmB D [(mo, .inr (11, [.ref mw, .ref ma, .ref mf, .ref m0, .ref m1, .ref mu, .ref mv, .ref u0, .ref u1, .ref iz, .int 0, .ref mb, .int 0, .int 0, .int 0, .int 0, .int 0, .int 0, .int 0])), (mw, .inl (ct 0, 958, .inl m_w0))] sz (fun _ : Unit => [(mo, .inr (11, [.ref mw, .ref ma, .ref mf, .ref m0, .ref m1, .ref mu, .ref mv, .ref u0, .ref u1, .ref iz, .int 1, .ref mb, .int 0, .int 0, .int 0, .int 0, .int 0, .int 0, .int 0])), (mw, .inl (ct 0, 958, .inl m_w0))])) (va_A [(mo, .inr (11, [.ref mw, .ref ma, .ref mf, .ref m0, .ref m1, .ref mu, .ref mv, .ref u0, .ref u1, .ref iz, .int 0, .ref mb, .int 0, .int 0, .int 0, .int 0, .int 0, .int 0, .int 0])), (mw, .inl (ct 0, 958, .inl m_w0))] sz)) 0 0 (va_A [(mo, .inr (11, [.ref mw, .ref ma, .ref mf, .ref m0, .ref m1, .ref mu, .ref mv, .ref u0, .ref u1, .ref iz, .int 0, .ref mb, .int 0, .int 0, .int 0, .int 0, .int 0, .int 0, .int 0])), (mw, .inl (ct 0, 958, .inl m_w0))] sz) := by
  refine Met.ofW (cc := cX11_stepEndsIn) (maxL := 4) (ret := (some .int)) (by decide) rfl ?_
  intro p e s m args below meth c s₁ B hml hv
  obtain ⟨rfl, hsz, hP, hK, hD0, hX⟩ := hv
  have hx := B.exec
  have hb := B.bytes
  have hr := B.returns
  have hts := ws_all (atoms_spec (ws := ws_ yX11_stepEndsIn cX11_stepEndsIn 4 (some .int)) B.pre)
  have hown : s.vm.findClass RX11 = some m.cls := findClass_of_methodNamed B.named
  have hlocks := B.notSynchronized
  subst hsz
  have hD := hD0.self (sz := s.heap.size)
  generalize hAe : va_A [(mo, .inr (11, [.ref mw, .ref ma, .ref mf, .ref m0, .ref m1, .ref mu, .ref mv, .ref u0, .ref u1, .ref iz, .int 0, .ref mb, .int 0, .int 0, .int 0, .int 0, .int 0, .int 0, .int 0])), (mw, .inl (ct 0, 958, .inl m_w0))] s.heap.size = A at hD hX ⊢
  have hA : ∀ q : Nat, s.heap.size ≤ q → A q := fun q h => by rw [← hAe]; exact Or.inr h
  have hS : va_S A s.heap s.heap [] := va_S.rf
  have hl := lv_entry ([.ref mo, .int p1]) (n := 4) (Nat.le_of_ble_eq_true rfl)
  rw [lg_entry_eq]
  generalize (lg_sl ([.ref mo, .int p1]) ++ List.replicate (4 - (lg_sl ([.ref mo, .int p1])).length) Slot.unset).toArray = ls at hl ⊢
  have hl : lv_has ls 4 [(0, .ref mo), (1, .int p1)] := hl
  refine lv_aload_n hx hb dX11_stepEndsIn_0 rfl (lv_at hl 0 rfl) ?_
  refine lv_iload_n hx hb dX11_stepEndsIn_1 rfl (lv_at hl 1 rfl) ?_
  refine cm_ki (wr := []) (va_runV (As := [.int p1]) (rest := []) ⟨hx, hb, hml, hown, hts⟩ (m_noChannel l D ct mo mw ma mf m0 m1 mu mv u0 u1 iz mb p1 _) (cm_V 1 hts kc_X11_noChannel ki_RX11 kl_RX11_344 kv_X11_noChannel kx_X11_noChannel kd_X11_noChannel ⟨Nat.le_of_ble_eq_true rfl, Nat.le_of_ble_eq_true rfl⟩) (cm_preV hP hK hD hS hA hX [0, 1] rfl rfl rfl (q0 := 0) (ci := 11) rfl rfl) rfl rfl hl.1 rfl (lv_room (Nat.le_of_ble_eq_true rfl)) dX11_stepEndsIn_2 ⟨Nat.le_of_ble_eq_true rfl, Nat.le_of_ble_eq_true rfl⟩) hP hD hS hA [0, 1] [] rfl rfl rfl (by decide) (fun r_1 u H locs hw_2 hP hD hS => ?_)
  have hw_2 : r_1 = 1 := hw_2
  obtain rfl := hw_2
  have hP : va_P D vwCl [(mo, .inr (11, [.ref mw, .ref ma, .ref mf, .ref m0, .ref m1, .ref mu, .ref mv, .ref u0, .ref u1, .ref iz, .int 1, .ref mb, .int 0, .int 0, .int 0, .int 0, .int 0, .int 0, .int 0])), (mw, .inl (ct 0, 958, .inl m_w0))] H := hP
  have hD : va_D A [(mo, .inr (11, [.ref mw, .ref ma, .ref mf, .ref m0, .ref m1, .ref mu, .ref mv, .ref u0, .ref u1, .ref iz, .int 1, .ref mb, .int 0, .int 0, .int 0, .int 0, .int 0, .int 0, .int 0])), (mw, .inl (ct 0, 958, .inl m_w0))] := hD
  refine lv_if_eq (tgt := 10) hx hb dX11_stepEndsIn_5 (by decide) (fun hc => absurd hc (by decide)) (fun _ => ?_)
  refine lv_iconst (v := 0) hx hb dX11_stepEndsIn_8 (by decide) ?_
  have hP9 := hP.sub (ws' := [(mo, .inr (11, [.ref mw, .ref ma, .ref mf, .ref m0, .ref m1, .ref mu, .ref mv, .ref u0, .ref u1, .ref iz, .int 1, .ref mb, .int 0, .int 0, .int 0, .int 0, .int 0, .int 0, .int 0])), (mw, .inl (ct 0, 958, .inl m_w0))]) [0, 1] rfl
  have hD9 := hD.sub (ws' := [(mo, .inr (11, [.ref mw, .ref ma, .ref mf, .ref m0, .ref m1, .ref mu, .ref mv, .ref u0, .ref u1, .ref iz, .int 1, .ref mb, .int 0, .int 0, .int 0, .int 0, .int 0, .int 0, .int 0])), (mw, .inl (ct 0, 958, .inl m_w0))]) [0, 1] (by decide) rfl
  exact W.iret (v := 0) hx hb hr (fun t ht hW => ⟨⟨0, (), rfl, trivial, by rw [ht]; exact hP9, by rw [hAe]; exact hD9⟩, hS.F ht⟩) hS.2.2 dX11_stepEndsIn_9
theorem dX11_doneIn_0 : decode cX11_doneIn 0 = .ok (.aload_n 0, 1) := by decide +kernel
theorem dX11_doneIn_1 : decode cX11_doneIn 1 = .ok (.iload_n 1, 1) := by decide +kernel
theorem dX11_doneIn_2 : decode cX11_doneIn 2 = .ok (.invokevirtual 344, 3) := by decide +kernel
theorem dX11_doneIn_5 : decode cX11_doneIn 5 = .ok (.ifCond .eq 5, 3) := by decide +kernel
theorem dX11_doneIn_8 : decode cX11_doneIn 8 = .ok (.iconst 0, 1) := by decide +kernel
theorem dX11_doneIn_9 : decode cX11_doneIn 9 = .ok (.ireturn, 1) := by decide +kernel
set_option maxRecDepth 100000 in
set_option maxHeartbeats 4000000 in
theorem m_doneIn_0 (l : Launch) (D : va_G) (ct : Nat → ClassId) (mo : Nat) (mw : Nat) (ma : Nat) (mf : Nat) (m0 : Nat) (m1 : Nat) (mu : Nat) (mv : Nat) (u0 : Nat) (u1 : Nat) (iz : Nat) (mb : Nat) (p1 : Int32) (sz : Nat) : Met l yX11_doneIn (ws_ yX11_doneIn cX11_doneIn 2 (some .int)) ({ frames := 2, cells := 0, slots := 0, locals := 46 } : Room) (va_Pc [.ref mo, .int p1] (cmP D ct sz [(mo, .inr (11, [.ref mw, .ref ma, .ref mf, .ref m0, .ref m1, .ref mu, .ref mv, .ref u0, .ref u1, .ref iz, .int 0, .ref mb, .int 0, .int 0, .int 0, .int 0, .int 0, .int 0, .int 0])), (mw, .inl (ct 0, 958, .inl m_w0))])) (va_Qi (fun (r : Int32) (_ : Unit) => True) (cmB D [(mo, .inr (11, [.ref mw, .ref ma, .ref mf, .ref m0, .ref m1, .ref mu, .ref mv, .ref u0, .ref u1, .ref iz, .int 0, .ref mb, .int 0, .int 0, .int 0, .int 0, .int 0, .int 0, .int 0])), (mw, .inl (ct 0, 958, .inl m_w0))] sz (fun _ : Unit => [(mo, .inr (11, [.ref mw, .ref ma, .ref mf, .ref m0, .ref m1, .ref mu, .ref mv, .ref u0, .ref u1, .ref iz, .int 1, .ref mb, .int 0, .int 0, .int 0, .int 0, .int 0, .int 0, .int 0])), (mw, .inl (ct 0, 958, .inl m_w0))])) (va_A [(mo, .inr (11, [.ref mw, .ref ma, .ref mf, .ref m0, .ref m1, .ref mu, .ref mv, .ref u0, .ref u1, .ref iz, .int 0, .ref mb, .int 0, .int 0, .int 0, .int 0, .int 0, .int 0, .int 0])), (mw, .inl (ct 0, 958, .inl m_w0))] sz)) 0 0 (va_A [(mo, .inr (11, [.ref mw, .ref ma, .ref mf, .ref m0, .ref m1, .ref mu, .ref mv, .ref u0, .ref u1, .ref iz, .int 0, .ref mb, .int 0, .int 0, .int 0, .int 0, .int 0, .int 0, .int 0])), (mw, .inl (ct 0, 958, .inl m_w0))] sz) := by
  refine Met.ofW (cc := cX11_doneIn) (maxL := 2) (ret := (some .int)) (by decide) rfl ?_
  intro p e s m args below meth c s₁ B hml hv
  obtain ⟨rfl, hsz, hP, hK, hD0, hX⟩ := hv
  have hx := B.exec
  have hb := B.bytes
  have hr := B.returns
  have hts := ws_all (atoms_spec (ws := ws_ yX11_doneIn cX11_doneIn 2 (some .int)) B.pre)
  have hown : s.vm.findClass RX11 = some m.cls := findClass_of_methodNamed B.named
  have hlocks := B.notSynchronized
  subst hsz
  have hD := hD0.self (sz := s.heap.size)
  generalize hAe : va_A [(mo, .inr (11, [.ref mw, .ref ma, .ref mf, .ref m0, .ref m1, .ref mu, .ref mv, .ref u0, .ref u1, .ref iz, .int 0, .ref mb, .int 0, .int 0, .int 0, .int 0, .int 0, .int 0, .int 0])), (mw, .inl (ct 0, 958, .inl m_w0))] s.heap.size = A at hD hX ⊢
  have hA : ∀ q : Nat, s.heap.size ≤ q → A q := fun q h => by rw [← hAe]; exact Or.inr h
  have hS : va_S A s.heap s.heap [] := va_S.rf
  have hl := lv_entry ([.ref mo, .int p1]) (n := 2) (Nat.le_of_ble_eq_true rfl)
  rw [lg_entry_eq]
  generalize (lg_sl ([.ref mo, .int p1]) ++ List.replicate (2 - (lg_sl ([.ref mo, .int p1])).length) Slot.unset).toArray = ls at hl ⊢
  have hl : lv_has ls 2 [(0, .ref mo), (1, .int p1)] := hl
  refine lv_aload_n hx hb dX11_doneIn_0 rfl (lv_at hl 0 rfl) ?_
  refine lv_iload_n hx hb dX11_doneIn_1 rfl (lv_at hl 1 rfl) ?_
  refine cm_ki (wr := []) (va_runV (As := [.int p1]) (rest := []) ⟨hx, hb, hml, hown, hts⟩ (m_noChannel l D ct mo mw ma mf m0 m1 mu mv u0 u1 iz mb p1 _) (cm_V 1 hts kc_X11_noChannel ki_RX11 kl_RX11_344 kv_X11_noChannel kx_X11_noChannel kd_X11_noChannel ⟨Nat.le_of_ble_eq_true rfl, Nat.le_of_ble_eq_true rfl⟩) (cm_preV hP hK hD hS hA hX [0, 1] rfl rfl rfl (q0 := 0) (ci := 11) rfl rfl) rfl rfl hl.1 rfl (lv_room (Nat.le_of_ble_eq_true rfl)) dX11_doneIn_2 ⟨Nat.le_of_ble_eq_true rfl, Nat.le_of_ble_eq_true rfl⟩) hP hD hS hA [0, 1] [] rfl rfl rfl (by decide) (fun r_1 u H locs hw_2 hP hD hS => ?_)
  have hw_2 : r_1 = 1 := hw_2
  obtain rfl := hw_2
  have hP : va_P D vwCl [(mo, .inr (11, [.ref mw, .ref ma, .ref mf, .ref m0, .ref m1, .ref mu, .ref mv, .ref u0, .ref u1, .ref iz, .int 1, .ref mb, .int 0, .int 0, .int 0, .int 0, .int 0, .int 0, .int 0])), (mw, .inl (ct 0, 958, .inl m_w0))] H := hP
  have hD : va_D A [(mo, .inr (11, [.ref mw, .ref ma, .ref mf, .ref m0, .ref m1, .ref mu, .ref mv, .ref u0, .ref u1, .ref iz, .int 1, .ref mb, .int 0, .int 0, .int 0, .int 0, .int 0, .int 0, .int 0])), (mw, .inl (ct 0, 958, .inl m_w0))] := hD
  refine lv_if_eq (tgt := 10) hx hb dX11_doneIn_5 (by decide) (fun hc => absurd hc (by decide)) (fun _ => ?_)
  refine lv_iconst (v := 0) hx hb dX11_doneIn_8 (by decide) ?_
  have hP9 := hP.sub (ws' := [(mo, .inr (11, [.ref mw, .ref ma, .ref mf, .ref m0, .ref m1, .ref mu, .ref mv, .ref u0, .ref u1, .ref iz, .int 1, .ref mb, .int 0, .int 0, .int 0, .int 0, .int 0, .int 0, .int 0])), (mw, .inl (ct 0, 958, .inl m_w0))]) [0, 1] rfl
  have hD9 := hD.sub (ws' := [(mo, .inr (11, [.ref mw, .ref ma, .ref mf, .ref m0, .ref m1, .ref mu, .ref mv, .ref u0, .ref u1, .ref iz, .int 1, .ref mb, .int 0, .int 0, .int 0, .int 0, .int 0, .int 0, .int 0])), (mw, .inl (ct 0, 958, .inl m_w0))]) [0, 1] (by decide) rfl
  exact W.iret (v := 0) hx hb hr (fun t ht hW => ⟨⟨0, (), rfl, trivial, by rw [ht]; exact hP9, by rw [hAe]; exact hD9⟩, hS.F ht⟩) hS.2.2 dX11_doneIn_9
theorem dX11_tripsIn_0 : decode cX11_tripsIn 0 = .ok (.aload_n 0, 1) := by decide +kernel
theorem dX11_tripsIn_1 : decode cX11_tripsIn 1 = .ok (.iload_n 1, 1) := by decide +kernel
theorem dX11_tripsIn_2 : decode cX11_tripsIn 2 = .ok (.invokevirtual 344, 3) := by decide +kernel
theorem dX11_tripsIn_5 : decode cX11_tripsIn 5 = .ok (.ifCond .eq 5, 3) := by decide +kernel
theorem dX11_tripsIn_8 : decode cX11_tripsIn 8 = .ok (.iconst 0, 1) := by decide +kernel
theorem dX11_tripsIn_9 : decode cX11_tripsIn 9 = .ok (.ireturn, 1) := by decide +kernel
set_option maxRecDepth 100000 in
set_option maxHeartbeats 4000000 in
theorem m_tripsIn_0 (l : Launch) (D : va_G) (ct : Nat → ClassId) (mo : Nat) (mw : Nat) (ma : Nat) (mf : Nat) (m0 : Nat) (m1 : Nat) (mu : Nat) (mv : Nat) (u0 : Nat) (u1 : Nat) (iz : Nat) (mb : Nat) (p1 : Int32) (sz : Nat) : Met l yX11_tripsIn (ws_ yX11_tripsIn cX11_tripsIn 2 (some .int)) ({ frames := 2, cells := 0, slots := 0, locals := 46 } : Room) (va_Pc [.ref mo, .int p1] (cmP D ct sz [(mo, .inr (11, [.ref mw, .ref ma, .ref mf, .ref m0, .ref m1, .ref mu, .ref mv, .ref u0, .ref u1, .ref iz, .int 0, .ref mb, .int 0, .int 0, .int 0, .int 0, .int 0, .int 0, .int 0])), (mw, .inl (ct 0, 958, .inl m_w0))])) (va_Qi (fun (r : Int32) (_ : Unit) => True) (cmB D [(mo, .inr (11, [.ref mw, .ref ma, .ref mf, .ref m0, .ref m1, .ref mu, .ref mv, .ref u0, .ref u1, .ref iz, .int 0, .ref mb, .int 0, .int 0, .int 0, .int 0, .int 0, .int 0, .int 0])), (mw, .inl (ct 0, 958, .inl m_w0))] sz (fun _ : Unit => [(mo, .inr (11, [.ref mw, .ref ma, .ref mf, .ref m0, .ref m1, .ref mu, .ref mv, .ref u0, .ref u1, .ref iz, .int 1, .ref mb, .int 0, .int 0, .int 0, .int 0, .int 0, .int 0, .int 0])), (mw, .inl (ct 0, 958, .inl m_w0))])) (va_A [(mo, .inr (11, [.ref mw, .ref ma, .ref mf, .ref m0, .ref m1, .ref mu, .ref mv, .ref u0, .ref u1, .ref iz, .int 0, .ref mb, .int 0, .int 0, .int 0, .int 0, .int 0, .int 0, .int 0])), (mw, .inl (ct 0, 958, .inl m_w0))] sz)) 0 0 (va_A [(mo, .inr (11, [.ref mw, .ref ma, .ref mf, .ref m0, .ref m1, .ref mu, .ref mv, .ref u0, .ref u1, .ref iz, .int 0, .ref mb, .int 0, .int 0, .int 0, .int 0, .int 0, .int 0, .int 0])), (mw, .inl (ct 0, 958, .inl m_w0))] sz) := by
  refine Met.ofW (cc := cX11_tripsIn) (maxL := 2) (ret := (some .int)) (by decide) rfl ?_
  intro p e s m args below meth c s₁ B hml hv
  obtain ⟨rfl, hsz, hP, hK, hD0, hX⟩ := hv
  have hx := B.exec
  have hb := B.bytes
  have hr := B.returns
  have hts := ws_all (atoms_spec (ws := ws_ yX11_tripsIn cX11_tripsIn 2 (some .int)) B.pre)
  have hown : s.vm.findClass RX11 = some m.cls := findClass_of_methodNamed B.named
  have hlocks := B.notSynchronized
  subst hsz
  have hD := hD0.self (sz := s.heap.size)
  generalize hAe : va_A [(mo, .inr (11, [.ref mw, .ref ma, .ref mf, .ref m0, .ref m1, .ref mu, .ref mv, .ref u0, .ref u1, .ref iz, .int 0, .ref mb, .int 0, .int 0, .int 0, .int 0, .int 0, .int 0, .int 0])), (mw, .inl (ct 0, 958, .inl m_w0))] s.heap.size = A at hD hX ⊢
  have hA : ∀ q : Nat, s.heap.size ≤ q → A q := fun q h => by rw [← hAe]; exact Or.inr h
  have hS : va_S A s.heap s.heap [] := va_S.rf
  have hl := lv_entry ([.ref mo, .int p1]) (n := 2) (Nat.le_of_ble_eq_true rfl)
  rw [lg_entry_eq]
  generalize (lg_sl ([.ref mo, .int p1]) ++ List.replicate (2 - (lg_sl ([.ref mo, .int p1])).length) Slot.unset).toArray = ls at hl ⊢
  have hl : lv_has ls 2 [(0, .ref mo), (1, .int p1)] := hl
  refine lv_aload_n hx hb dX11_tripsIn_0 rfl (lv_at hl 0 rfl) ?_
  refine lv_iload_n hx hb dX11_tripsIn_1 rfl (lv_at hl 1 rfl) ?_
  refine cm_ki (wr := []) (va_runV (As := [.int p1]) (rest := []) ⟨hx, hb, hml, hown, hts⟩ (m_noChannel l D ct mo mw ma mf m0 m1 mu mv u0 u1 iz mb p1 _) (cm_V 1 hts kc_X11_noChannel ki_RX11 kl_RX11_344 kv_X11_noChannel kx_X11_noChannel kd_X11_noChannel ⟨Nat.le_of_ble_eq_true rfl, Nat.le_of_ble_eq_true rfl⟩) (cm_preV hP hK hD hS hA hX [0, 1] rfl rfl rfl (q0 := 0) (ci := 11) rfl rfl) rfl rfl hl.1 rfl (lv_room (Nat.le_of_ble_eq_true rfl)) dX11_tripsIn_2 ⟨Nat.le_of_ble_eq_true rfl, Nat.le_of_ble_eq_true rfl⟩) hP hD hS hA [0, 1] [] rfl rfl rfl (by decide) (fun r_1 u H locs hw_2 hP hD hS => ?_)
  have hw_2 : r_1 = 1 := hw_2
  obtain rfl := hw_2
  have hP : va_P D vwCl [(mo, .inr (11, [.ref mw, .ref ma, .ref mf, .ref m0, .ref m1, .ref mu, .ref mv, .ref u0, .ref u1, .ref iz, .int 1, .ref mb, .int 0, .int 0, .int 0, .int 0, .int 0, .int 0, .int 0])), (mw, .inl (ct 0, 958, .inl m_w0))] H := hP
  have hD : va_D A [(mo, .inr (11, [.ref mw, .ref ma, .ref mf, .ref m0, .ref m1, .ref mu, .ref mv, .ref u0, .ref u1, .ref iz, .int 1, .ref mb, .int 0, .int 0, .int 0, .int 0, .int 0, .int 0, .int 0])), (mw, .inl (ct 0, 958, .inl m_w0))] := hD
  refine lv_if_eq (tgt := 10) hx hb dX11_tripsIn_5 (by decide) (fun hc => absurd hc (by decide)) (fun _ => ?_)
  refine lv_iconst (v := 0) hx hb dX11_tripsIn_8 (by decide) ?_
  have hP9 := hP.sub (ws' := [(mo, .inr (11, [.ref mw, .ref ma, .ref mf, .ref m0, .ref m1, .ref mu, .ref mv, .ref u0, .ref u1, .ref iz, .int 1, .ref mb, .int 0, .int 0, .int 0, .int 0, .int 0, .int 0, .int 0])), (mw, .inl (ct 0, 958, .inl m_w0))]) [0, 1] rfl
  have hD9 := hD.sub (ws' := [(mo, .inr (11, [.ref mw, .ref ma, .ref mf, .ref m0, .ref m1, .ref mu, .ref mv, .ref u0, .ref u1, .ref iz, .int 1, .ref mb, .int 0, .int 0, .int 0, .int 0, .int 0, .int 0, .int 0])), (mw, .inl (ct 0, 958, .inl m_w0))]) [0, 1] (by decide) rfl
  exact W.iret (v := 0) hx hb hr (fun t ht hW => ⟨⟨0, (), rfl, trivial, by rw [ht]; exact hP9, by rw [hAe]; exact hD9⟩, hS.F ht⟩) hS.2.2 dX11_tripsIn_9
theorem dX11_valueAfter_0 : decode cX11_valueAfter 0 = .ok (.aload_n 0, 1) := by decide +kernel
theorem dX11_valueAfter_1 : decode cX11_valueAfter 1 = .ok (.iload_n 1, 1) := by decide +kernel
theorem dX11_valueAfter_2 : decode cX11_valueAfter 2 = .ok (.invokevirtual 344, 3) := by decide +kernel
theorem dX11_valueAfter_5 : decode cX11_valueAfter 5 = .ok (.ifCond .ne 40, 3) := by decide +kernel
theorem dX11_valueAfter_45 : decode cX11_valueAfter 45 = .ok (.iconst 0, 1) := by decide +kernel
theorem dX11_valueAfter_46 : decode cX11_valueAfter 46 = .ok (.ireturn, 1) := by decide +kernel
set_option maxRecDepth 100000 in
set_option maxHeartbeats 4000000 in
theorem m_valueAfter_0 (l : Launch) (D : va_G) (ct : Nat → ClassId) (mo : Nat) (mw : Nat) (ma : Nat) (mf : Nat) (m0 : Nat) (m1 : Nat) (mu : Nat) (mv : Nat) (u0 : Nat) (u1 : Nat) (iz : Nat) (mb : Nat) (p1 : Int32) (p2 : Int32) (p3 : Int32) (sz : Nat) : Met l yX11_valueAfter (ws_ yX11_valueAfter cX11_valueAfter 5 (some .int)) ({ frames := 2, cells := 0, slots := 0, locals := 46 } : Room) (va_Pc [.ref mo, .int p1, .int p2, .int p3] (cmP D ct sz [(mo, .inr (11, [.ref mw, .ref ma, .ref mf, .ref m0, .ref m1, .ref mu, .ref mv, .ref u0, .ref u1, .ref iz, .int 0, .ref mb, .int 0, .int 0, .int 0, .int 0, .int 0, .int 0, .int 0])), (mw, .inl (ct 0, 958, .inl m_w0))])) (va_Qi (fun (r : Int32) (_ : Unit) => True) (cmB D [(mo, .inr (11, [.ref mw, .ref ma, .ref mf, .ref m0, .ref m1, .ref mu, .ref mv, .ref u0, .ref u1, .ref iz, .int 0, .ref mb, .int 0, .int 0, .int 0, .int 0, .int 0, .int 0, .int 0])), (mw, .inl (ct 0, 958, .inl m_w0))] sz (fun _ : Unit => [(mo, .inr (11, [.ref mw, .ref ma, .ref mf, .ref m0, .ref m1, .ref mu, .ref mv, .ref u0, .ref u1, .ref iz, .int 1, .ref mb, .int 0, .int 0, .int 0, .int 0, .int 0, .int 0, .int 0])), (mw, .inl (ct 0, 958, .inl m_w0))])) (va_A [(mo, .inr (11, [.ref mw, .ref ma, .ref mf, .ref m0, .ref m1, .ref mu, .ref mv, .ref u0, .ref u1, .ref iz, .int 0, .ref mb, .int 0, .int 0, .int 0, .int 0, .int 0, .int 0, .int 0])), (mw, .inl (ct 0, 958, .inl m_w0))] sz)) 0 0 (va_A [(mo, .inr (11, [.ref mw, .ref ma, .ref mf, .ref m0, .ref m1, .ref mu, .ref mv, .ref u0, .ref u1, .ref iz, .int 0, .ref mb, .int 0, .int 0, .int 0, .int 0, .int 0, .int 0, .int 0])), (mw, .inl (ct 0, 958, .inl m_w0))] sz) := by
  refine Met.ofW (cc := cX11_valueAfter) (maxL := 5) (ret := (some .int)) (by decide) rfl ?_
  intro p e s m args below meth c s₁ B hml hv
  obtain ⟨rfl, hsz, hP, hK, hD0, hX⟩ := hv
  have hx := B.exec
  have hb := B.bytes
  have hr := B.returns
  have hts := ws_all (atoms_spec (ws := ws_ yX11_valueAfter cX11_valueAfter 5 (some .int)) B.pre)
  have hown : s.vm.findClass RX11 = some m.cls := findClass_of_methodNamed B.named
  have hlocks := B.notSynchronized
  subst hsz
  have hD := hD0.self (sz := s.heap.size)
  generalize hAe : va_A [(mo, .inr (11, [.ref mw, .ref ma, .ref mf, .ref m0, .ref m1, .ref mu, .ref mv, .ref u0, .ref u1, .ref iz, .int 0, .ref mb, .int 0, .int 0, .int 0, .int 0, .int 0, .int 0, .int 0])), (mw, .inl (ct 0, 958, .inl m_w0))] s.heap.size = A at hD hX ⊢
  have hA : ∀ q : Nat, s.heap.size ≤ q → A q := fun q h => by rw [← hAe]; exact Or.inr h
  have hS : va_S A s.heap s.heap [] := va_S.rf
  have hl := lv_entry ([.ref mo, .int p1, .int p2, .int p3]) (n := 5) (Nat.le_of_ble_eq_true rfl)
  rw [lg_entry_eq]
  generalize (lg_sl ([.ref mo, .int p1, .int p2, .int p3]) ++ List.replicate (5 - (lg_sl ([.ref mo, .int p1, .int p2, .int p3])).length) Slot.unset).toArray = ls at hl ⊢
  have hl : lv_has ls 5 [(0, .ref mo), (1, .int p1), (2, .int p2), (3, .int p3)] := hl
  refine lv_aload_n hx hb dX11_valueAfter_0 rfl (lv_at hl 0 rfl) ?_
  refine lv_iload_n hx hb dX11_valueAfter_1 rfl (lv_at hl 1 rfl) ?_
  refine cm_ki (wr := []) (va_runV (As := [.int p1]) (rest := []) ⟨hx, hb, hml, hown, hts⟩ (m_noChannel l D ct mo mw ma mf m0 m1 mu mv u0 u1 iz mb p1 _) (cm_V 1 hts kc_X11_noChannel ki_RX11 kl_RX11_344 kv_X11_noChannel kx_X11_noChannel kd_X11_noChannel ⟨Nat.le_of_ble_eq_true rfl, Nat.le_of_ble_eq_true rfl⟩) (cm_preV hP hK hD hS hA hX [0, 1] rfl rfl rfl (q0 := 0) (ci := 11) rfl rfl) rfl rfl hl.1 rfl (lv_room (Nat.le_of_ble_eq_true rfl)) dX11_valueAfter_2 ⟨Nat.le_of_ble_eq_true rfl, Nat.le_of_ble_eq_true rfl⟩) hP hD hS hA [0, 1] [] rfl rfl rfl (by decide) (fun r_1 u H locs hw_2 hP hD hS => ?_)
  have hw_2 : r_1 = 1 := hw_2
  obtain rfl := hw_2
  have hP : va_P D vwCl [(mo, .inr (11, [.ref mw, .ref ma, .ref mf, .ref m0, .ref m1, .ref mu, .ref mv, .ref u0, .ref u1, .ref iz, .int 1, .ref mb, .int 0, .int 0, .int 0, .int 0, .int 0, .int 0, .int 0])), (mw, .inl (ct 0, 958, .inl m_w0))] H := hP
  have hD : va_D A [(mo, .inr (11, [.ref mw, .ref ma, .ref mf, .ref m0, .ref m1, .ref mu, .ref mv, .ref u0, .ref u1, .ref iz, .int 1, .ref mb, .int 0, .int 0, .int 0, .int 0, .int 0, .int 0, .int 0])), (mw, .inl (ct 0, 958, .inl m_w0))] := hD
  refine lv_if_ne (tgt := 45) hx hb dX11_valueAfter_5 (by decide) (fun _ => ?_) (fun hc => absurd hc (by decide))
  refine lv_iconst (v := 0) hx hb dX11_valueAfter_45 (by decide) ?_
  have hP9 := hP.sub (ws' := [(mo, .inr (11, [.ref mw, .ref ma, .ref mf, .ref m0, .ref m1, .ref mu, .ref mv, .ref u0, .ref u1, .ref iz, .int 1, .ref mb, .int 0, .int 0, .int 0, .int 0, .int 0, .int 0, .int 0])), (mw, .inl (ct 0, 958, .inl m_w0))]) [0, 1] rfl
  have hD9 := hD.sub (ws' := [(mo, .inr (11, [.ref mw, .ref ma, .ref mf, .ref m0, .ref m1, .ref mu, .ref mv, .ref u0, .ref u1, .ref iz, .int 1, .ref mb, .int 0, .int 0, .int 0, .int 0, .int 0, .int 0, .int 0])), (mw, .inl (ct 0, 958, .inl m_w0))]) [0, 1] (by decide) rfl
  exact W.iret (v := 0) hx hb hr (fun t ht hW => ⟨⟨0, (), rfl, trivial, by rw [ht]; exact hP9, by rw [hAe]; exact hD9⟩, hS.F ht⟩) hS.2.2 dX11_valueAfter_46
theorem dX11_peakTemperature_0 : decode cX11_peakTemperature 0 = .ok (.aload_n 0, 1) := by decide +kernel
theorem dX11_peakTemperature_1 : decode cX11_peakTemperature 1 = .ok (.iload_n 1, 1) := by decide +kernel
theorem dX11_peakTemperature_2 : decode cX11_peakTemperature 2 = .ok (.invokevirtual 344, 3) := by decide +kernel
theorem dX11_peakTemperature_5 : decode cX11_peakTemperature 5 = .ok (.ifCond .ne 28, 3) := by decide +kernel
theorem dX11_peakTemperature_33 : decode cX11_peakTemperature 33 = .ok (.iconst 0, 1) := by decide +kernel
theorem dX11_peakTemperature_34 : decode cX11_peakTemperature 34 = .ok (.ireturn, 1) := by decide +kernel
set_option maxRecDepth 100000 in
set_option maxHeartbeats 4000000 in
theorem m_peakTemperature_0 (l : Launch) (D : va_G) (ct : Nat → ClassId) (mo : Nat) (mw : Nat) (ma : Nat) (mf : Nat) (m0 : Nat) (m1 : Nat) (mu : Nat) (mv : Nat) (u0 : Nat) (u1 : Nat) (iz : Nat) (mb : Nat) (p1 : Int32) (p2 : Int32) (sz : Nat) : Met l yX11_peakTemperature (ws_ yX11_peakTemperature cX11_peakTemperature 5 (some .int)) ({ frames := 2, cells := 0, slots := 0, locals := 46 } : Room) (va_Pc [.ref mo, .int p1, .int p2] (cmP D ct sz [(mo, .inr (11, [.ref mw, .ref ma, .ref mf, .ref m0, .ref m1, .ref mu, .ref mv, .ref u0, .ref u1, .ref iz, .int 0, .ref mb, .int 0, .int 0, .int 0, .int 0, .int 0, .int 0, .int 0])), (mw, .inl (ct 0, 958, .inl m_w0))])) (va_Qi (fun (r : Int32) (_ : Unit) => True) (cmB D [(mo, .inr (11, [.ref mw, .ref ma, .ref mf, .ref m0, .ref m1, .ref mu, .ref mv, .ref u0, .ref u1, .ref iz, .int 0, .ref mb, .int 0, .int 0, .int 0, .int 0, .int 0, .int 0, .int 0])), (mw, .inl (ct 0, 958, .inl m_w0))] sz (fun _ : Unit => [(mo, .inr (11, [.ref mw, .ref ma, .ref mf, .ref m0, .ref m1, .ref mu, .ref mv, .ref u0, .ref u1, .ref iz, .int 1, .ref mb, .int 0, .int 0, .int 0, .int 0, .int 0, .int 0, .int 0])), (mw, .inl (ct 0, 958, .inl m_w0))])) (va_A [(mo, .inr (11, [.ref mw, .ref ma, .ref mf, .ref m0, .ref m1, .ref mu, .ref mv, .ref u0, .ref u1, .ref iz, .int 0, .ref mb, .int 0, .int 0, .int 0, .int 0, .int 0, .int 0, .int 0])), (mw, .inl (ct 0, 958, .inl m_w0))] sz)) 0 0 (va_A [(mo, .inr (11, [.ref mw, .ref ma, .ref mf, .ref m0, .ref m1, .ref mu, .ref mv, .ref u0, .ref u1, .ref iz, .int 0, .ref mb, .int 0, .int 0, .int 0, .int 0, .int 0, .int 0, .int 0])), (mw, .inl (ct 0, 958, .inl m_w0))] sz) := by
  refine Met.ofW (cc := cX11_peakTemperature) (maxL := 5) (ret := (some .int)) (by decide) rfl ?_
  intro p e s m args below meth c s₁ B hml hv
  obtain ⟨rfl, hsz, hP, hK, hD0, hX⟩ := hv
  have hx := B.exec
  have hb := B.bytes
  have hr := B.returns
  have hts := ws_all (atoms_spec (ws := ws_ yX11_peakTemperature cX11_peakTemperature 5 (some .int)) B.pre)
  have hown : s.vm.findClass RX11 = some m.cls := findClass_of_methodNamed B.named
  have hlocks := B.notSynchronized
  subst hsz
  have hD := hD0.self (sz := s.heap.size)
  generalize hAe : va_A [(mo, .inr (11, [.ref mw, .ref ma, .ref mf, .ref m0, .ref m1, .ref mu, .ref mv, .ref u0, .ref u1, .ref iz, .int 0, .ref mb, .int 0, .int 0, .int 0, .int 0, .int 0, .int 0, .int 0])), (mw, .inl (ct 0, 958, .inl m_w0))] s.heap.size = A at hD hX ⊢
  have hA : ∀ q : Nat, s.heap.size ≤ q → A q := fun q h => by rw [← hAe]; exact Or.inr h
  have hS : va_S A s.heap s.heap [] := va_S.rf
  have hl := lv_entry ([.ref mo, .int p1, .int p2]) (n := 5) (Nat.le_of_ble_eq_true rfl)
  rw [lg_entry_eq]
  generalize (lg_sl ([.ref mo, .int p1, .int p2]) ++ List.replicate (5 - (lg_sl ([.ref mo, .int p1, .int p2])).length) Slot.unset).toArray = ls at hl ⊢
  have hl : lv_has ls 5 [(0, .ref mo), (1, .int p1), (2, .int p2)] := hl
  refine lv_aload_n hx hb dX11_peakTemperature_0 rfl (lv_at hl 0 rfl) ?_
  refine lv_iload_n hx hb dX11_peakTemperature_1 rfl (lv_at hl 1 rfl) ?_
  refine cm_ki (wr := []) (va_runV (As := [.int p1]) (rest := []) ⟨hx, hb, hml, hown, hts⟩ (m_noChannel l D ct mo mw ma mf m0 m1 mu mv u0 u1 iz mb p1 _) (cm_V 1 hts kc_X11_noChannel ki_RX11 kl_RX11_344 kv_X11_noChannel kx_X11_noChannel kd_X11_noChannel ⟨Nat.le_of_ble_eq_true rfl, Nat.le_of_ble_eq_true rfl⟩) (cm_preV hP hK hD hS hA hX [0, 1] rfl rfl rfl (q0 := 0) (ci := 11) rfl rfl) rfl rfl hl.1 rfl (lv_room (Nat.le_of_ble_eq_true rfl)) dX11_peakTemperature_2 ⟨Nat.le_of_ble_eq_true rfl, Nat.le_of_ble_eq_true rfl⟩) hP hD hS hA [0, 1] [] rfl rfl rfl (by decide) (fun r_1 u H locs hw_2 hP hD hS => ?_)
  have hw_2 : r_1 = 1 := hw_2
  obtain rfl := hw_2
  have hP : va_P D vwCl [(mo, .inr (11, [.ref mw, .ref ma, .ref mf, .ref m0, .ref m1, .ref mu, .ref mv, .ref u0, .ref u1, .ref iz, .int 1, .ref mb, .int 0, .int 0, .int 0, .int 0, .int 0, .int 0, .int 0])), (mw, .inl (ct 0, 958, .inl m_w0))] H := hP
  have hD : va_D A [(mo, .inr (11, [.ref mw, .ref ma, .ref mf, .ref m0, .ref m1, .ref mu, .ref mv, .ref u0, .ref u1, .ref iz, .int 1, .ref mb, .int 0, .int 0, .int 0, .int 0, .int 0, .int 0, .int 0])), (mw, .inl (ct 0, 958, .inl m_w0))] := hD
  refine lv_if_ne (tgt := 33) hx hb dX11_peakTemperature_5 (by decide) (fun _ => ?_) (fun hc => absurd hc (by decide))
  refine lv_iconst (v := 0) hx hb dX11_peakTemperature_33 (by decide) ?_
  have hP9 := hP.sub (ws' := [(mo, .inr (11, [.ref mw, .ref ma, .ref mf, .ref m0, .ref m1, .ref mu, .ref mv, .ref u0, .ref u1, .ref iz, .int 1, .ref mb, .int 0, .int 0, .int 0, .int 0, .int 0, .int 0, .int 0])), (mw, .inl (ct 0, 958, .inl m_w0))]) [0, 1] rfl
  have hD9 := hD.sub (ws' := [(mo, .inr (11, [.ref mw, .ref ma, .ref mf, .ref m0, .ref m1, .ref mu, .ref mv, .ref u0, .ref u1, .ref iz, .int 1, .ref mb, .int 0, .int 0, .int 0, .int 0, .int 0, .int 0, .int 0])), (mw, .inl (ct 0, 958, .inl m_w0))]) [0, 1] (by decide) rfl
  exact W.iret (v := 0) hx hb hr (fun t ht hW => ⟨⟨0, (), rfl, trivial, by rw [ht]; exact hP9, by rw [hAe]; exact hD9⟩, hS.F ht⟩) hS.2.2 dX11_peakTemperature_34
theorem dX11_settledIn_0 : decode cX11_settledIn 0 = .ok (.aload_n 0, 1) := by decide +kernel
theorem dX11_settledIn_1 : decode cX11_settledIn 1 = .ok (.iload_n 1, 1) := by decide +kernel
theorem dX11_settledIn_2 : decode cX11_settledIn 2 = .ok (.invokevirtual 344, 3) := by decide +kernel
theorem dX11_settledIn_5 : decode cX11_settledIn 5 = .ok (.ifCond .eq 5, 3) := by decide +kernel
theorem dX11_settledIn_8 : decode cX11_settledIn 8 = .ok (.iconst 0, 1) := by decide +kernel
theorem dX11_settledIn_9 : decode cX11_settledIn 9 = .ok (.ireturn, 1) := by decide +kernel
set_option maxRecDepth 100000 in
set_option maxHeartbeats 4000000 in
theorem m_settledIn_0 (l : Launch) (D : va_G) (ct : Nat → ClassId) (mo : Nat) (mw : Nat) (ma : Nat) (mf : Nat) (m0 : Nat) (m1 : Nat) (mu : Nat) (mv : Nat) (u0 : Nat) (u1 : Nat) (iz : Nat) (mb : Nat) (p1 : Int32) (sz : Nat) : Met l yX11_settledIn (ws_ yX11_settledIn cX11_settledIn 3 (some .int)) ({ frames := 2, cells := 0, slots := 0, locals := 46 } : Room) (va_Pc [.ref mo, .int p1] (cmP D ct sz [(mo, .inr (11, [.ref mw, .ref ma, .ref mf, .ref m0, .ref m1, .ref mu, .ref mv, .ref u0, .ref u1, .ref iz, .int 0, .ref mb, .int 0, .int 0, .int 0, .int 0, .int 0, .int 0, .int 0])), (mw, .inl (ct 0, 958, .inl m_w0))])) (va_Qi (fun (r : Int32) (_ : Unit) => True) (cmB D [(mo, .inr (11, [.ref mw, .ref ma, .ref mf, .ref m0, .ref m1, .ref mu, .ref mv, .ref u0, .ref u1, .ref iz, .int 0, .ref mb, .int 0, .int 0, .int 0, .int 0, .int 0, .int 0, .int 0])), (mw, .inl (ct 0, 958, .inl m_w0))] sz (fun _ : Unit => [(mo, .inr (11, [.ref mw, .ref ma, .ref mf, .ref m0, .ref m1, .ref mu, .ref mv, .ref u0, .ref u1, .ref iz, .int 1, .ref mb, .int 0, .int 0, .int 0, .int 0, .int 0, .int 0, .int 0])), (mw, .inl (ct 0, 958, .inl m_w0))])) (va_A [(mo, .inr (11, [.ref mw, .ref ma, .ref mf, .ref m0, .ref m1, .ref mu, .ref mv, .ref u0, .ref u1, .ref iz, .int 0, .ref mb, .int 0, .int 0, .int 0, .int 0, .int 0, .int 0, .int 0])), (mw, .inl (ct 0, 958, .inl m_w0))] sz)) 0 0 (va_A [(mo, .inr (11, [.ref mw, .ref ma, .ref mf, .ref m0, .ref m1, .ref mu, .ref mv, .ref u0, .ref u1, .ref iz, .int 0, .ref mb, .int 0, .int 0, .int 0, .int 0, .int 0, .int 0, .int 0])), (mw, .inl (ct 0, 958, .inl m_w0))] sz) := by
  refine Met.ofW (cc := cX11_settledIn) (maxL := 3) (ret := (some .int)) (by decide) rfl ?_
  intro p e s m args below meth c s₁ B hml hv
  obtain ⟨rfl, hsz, hP, hK, hD0, hX⟩ := hv
  have hx := B.exec
  have hb := B.bytes
  have hr := B.returns
  have hts := ws_all (atoms_spec (ws := ws_ yX11_settledIn cX11_settledIn 3 (some .int)) B.pre)
  have hown : s.vm.findClass RX11 = some m.cls := findClass_of_methodNamed B.named
  have hlocks := B.notSynchronized
  subst hsz
  have hD := hD0.self (sz := s.heap.size)
  generalize hAe : va_A [(mo, .inr (11, [.ref mw, .ref ma, .ref mf, .ref m0, .ref m1, .ref mu, .ref mv, .ref u0, .ref u1, .ref iz, .int 0, .ref mb, .int 0, .int 0, .int 0, .int 0, .int 0, .int 0, .int 0])), (mw, .inl (ct 0, 958, .inl m_w0))] s.heap.size = A at hD hX ⊢
  have hA : ∀ q : Nat, s.heap.size ≤ q → A q := fun q h => by rw [← hAe]; exact Or.inr h
  have hS : va_S A s.heap s.heap [] := va_S.rf
  have hl := lv_entry ([.ref mo, .int p1]) (n := 3) (Nat.le_of_ble_eq_true rfl)
  rw [lg_entry_eq]
  generalize (lg_sl ([.ref mo, .int p1]) ++ List.replicate (3 - (lg_sl ([.ref mo, .int p1])).length) Slot.unset).toArray = ls at hl ⊢
  have hl : lv_has ls 3 [(0, .ref mo), (1, .int p1)] := hl
  refine lv_aload_n hx hb dX11_settledIn_0 rfl (lv_at hl 0 rfl) ?_
  refine lv_iload_n hx hb dX11_settledIn_1 rfl (lv_at hl 1 rfl) ?_
  refine cm_ki (wr := []) (va_runV (As := [.int p1]) (rest := []) ⟨hx, hb, hml, hown, hts⟩ (m_noChannel l D ct mo mw ma mf m0 m1 mu mv u0 u1 iz mb p1 _) (cm_V 1 hts kc_X11_noChannel ki_RX11 kl_RX11_344 kv_X11_noChannel kx_X11_noChannel kd_X11_noChannel ⟨Nat.le_of_ble_eq_true rfl, Nat.le_of_ble_eq_true rfl⟩) (cm_preV hP hK hD hS hA hX [0, 1] rfl rfl rfl (q0 := 0) (ci := 11) rfl rfl) rfl rfl hl.1 rfl (lv_room (Nat.le_of_ble_eq_true rfl)) dX11_settledIn_2 ⟨Nat.le_of_ble_eq_true rfl, Nat.le_of_ble_eq_true rfl⟩) hP hD hS hA [0, 1] [] rfl rfl rfl (by decide) (fun r_1 u H locs hw_2 hP hD hS => ?_)
  have hw_2 : r_1 = 1 := hw_2
  obtain rfl := hw_2
  have hP : va_P D vwCl [(mo, .inr (11, [.ref mw, .ref ma, .ref mf, .ref m0, .ref m1, .ref mu, .ref mv, .ref u0, .ref u1, .ref iz, .int 1, .ref mb, .int 0, .int 0, .int 0, .int 0, .int 0, .int 0, .int 0])), (mw, .inl (ct 0, 958, .inl m_w0))] H := hP
  have hD : va_D A [(mo, .inr (11, [.ref mw, .ref ma, .ref mf, .ref m0, .ref m1, .ref mu, .ref mv, .ref u0, .ref u1, .ref iz, .int 1, .ref mb, .int 0, .int 0, .int 0, .int 0, .int 0, .int 0, .int 0])), (mw, .inl (ct 0, 958, .inl m_w0))] := hD
  refine lv_if_eq (tgt := 10) hx hb dX11_settledIn_5 (by decide) (fun hc => absurd hc (by decide)) (fun _ => ?_)
  refine lv_iconst (v := 0) hx hb dX11_settledIn_8 (by decide) ?_
  have hP9 := hP.sub (ws' := [(mo, .inr (11, [.ref mw, .ref ma, .ref mf, .ref m0, .ref m1, .ref mu, .ref mv, .ref u0, .ref u1, .ref iz, .int 1, .ref mb, .int 0, .int 0, .int 0, .int 0, .int 0, .int 0, .int 0])), (mw, .inl (ct 0, 958, .inl m_w0))]) [0, 1] rfl
  have hD9 := hD.sub (ws' := [(mo, .inr (11, [.ref mw, .ref ma, .ref mf, .ref m0, .ref m1, .ref mu, .ref mv, .ref u0, .ref u1, .ref iz, .int 1, .ref mb, .int 0, .int 0, .int 0, .int 0, .int 0, .int 0, .int 0])), (mw, .inl (ct 0, 958, .inl m_w0))]) [0, 1] (by decide) rfl
  exact W.iret (v := 0) hx hb hr (fun t ht hW => ⟨⟨0, (), rfl, trivial, by rw [ht]; exact hP9, by rw [hAe]; exact hD9⟩, hS.F ht⟩) hS.2.2 dX11_settledIn_9
theorem dX11_duration_0 : decode cX11_duration 0 = .ok (.aload_n 0, 1) := by decide +kernel
theorem dX11_duration_1 : decode cX11_duration 1 = .ok (.iload_n 1, 1) := by decide +kernel
theorem dX11_duration_2 : decode cX11_duration 2 = .ok (.iload_n 2, 1) := by decide +kernel
theorem dX11_duration_3 : decode cX11_duration 3 = .ok (.invokevirtual 347, 3) := by decide +kernel
theorem dX11_duration_6 : decode cX11_duration 6 = .ok (.ifCond .eq 7, 3) := by decide +kernel
theorem dX11_duration_9 : decode cX11_duration 9 = .ok (.iconst 0, 1) := by decide +kernel
theorem dX11_duration_10 : decode cX11_duration 10 = .ok (.goto 9, 3) := by decide +kernel
theorem dX11_duration_19 : decode cX11_duration 19 = .ok (.ireturn, 1) := by decide +kernel
set_option maxRecDepth 100000 in
set_option maxHeartbeats 4000000 in
theorem m_duration_0 (l : Launch) (D : va_G) (ct : Nat → ClassId) (mo : Nat) (mw : Nat) (ma : Nat) (mf : Nat) (m0 : Nat) (m1 : Nat) (mu : Nat) (mv : Nat) (u0 : Nat) (u1 : Nat) (iz : Nat) (mb : Nat) (p1 : Int32) (p2 : Int32) (sz : Nat) : Met l yX11_duration (ws_ yX11_duration cX11_duration 3 (some .int)) ({ frames := 3, cells := 0, slots := 0, locals := 68 } : Room) (va_Pc [.ref mo, .int p1, .int p2] (cmP D ct sz [(mo, .inr (11, [.ref mw, .ref ma, .ref mf, .ref m0, .ref m1, .ref mu, .ref mv, .ref u0, .ref u1, .ref iz, .int 0, .ref mb, .int 0, .int 0, .int 0, .int 0, .int 0, .int 0, .int 0])), (mw, .inl (ct 0, 958, .inl m_w0))])) (va_Qi (fun (r : Int32) (_ : Unit) => True) (cmB D [(mo, .inr (11, [.ref mw, .ref ma, .ref mf, .ref m0, .ref m1, .ref mu, .ref mv, .ref u0, .ref u1, .ref iz, .int 0, .ref mb, .int 0, .int 0, .int 0, .int 0, .int 0, .int 0, .int 0])), (mw, .inl (ct 0, 958, .inl m_w0))] sz (fun _ : Unit => [(mo, .inr (11, [.ref mw, .ref ma, .ref mf, .ref m0, .ref m1, .ref mu, .ref mv, .ref u0, .ref u1, .ref iz, .int 1, .ref mb, .int 0, .int 0, .int 0, .int 0, .int 0, .int 0, .int 0])), (mw, .inl (ct 0, 958, .inl m_w0))])) (va_A [(mo, .inr (11, [.ref mw, .ref ma, .ref mf, .ref m0, .ref m1, .ref mu, .ref mv, .ref u0, .ref u1, .ref iz, .int 0, .ref mb, .int 0, .int 0, .int 0, .int 0, .int 0, .int 0, .int 0])), (mw, .inl (ct 0, 958, .inl m_w0))] sz)) 0 0 (va_A [(mo, .inr (11, [.ref mw, .ref ma, .ref mf, .ref m0, .ref m1, .ref mu, .ref mv, .ref u0, .ref u1, .ref iz, .int 0, .ref mb, .int 0, .int 0, .int 0, .int 0, .int 0, .int 0, .int 0])), (mw, .inl (ct 0, 958, .inl m_w0))] sz) := by
  refine Met.ofW (cc := cX11_duration) (maxL := 3) (ret := (some .int)) (by decide) rfl ?_
  intro p e s m args below meth c s₁ B hml hv
  obtain ⟨rfl, hsz, hP, hK, hD0, hX⟩ := hv
  have hx := B.exec
  have hb := B.bytes
  have hr := B.returns
  have hts := ws_all (atoms_spec (ws := ws_ yX11_duration cX11_duration 3 (some .int)) B.pre)
  have hown : s.vm.findClass RX11 = some m.cls := findClass_of_methodNamed B.named
  have hlocks := B.notSynchronized
  subst hsz
  have hD := hD0.self (sz := s.heap.size)
  generalize hAe : va_A [(mo, .inr (11, [.ref mw, .ref ma, .ref mf, .ref m0, .ref m1, .ref mu, .ref mv, .ref u0, .ref u1, .ref iz, .int 0, .ref mb, .int 0, .int 0, .int 0, .int 0, .int 0, .int 0, .int 0])), (mw, .inl (ct 0, 958, .inl m_w0))] s.heap.size = A at hD hX ⊢
  have hA : ∀ q : Nat, s.heap.size ≤ q → A q := fun q h => by rw [← hAe]; exact Or.inr h
  have hS : va_S A s.heap s.heap [] := va_S.rf
  have hl := lv_entry ([.ref mo, .int p1, .int p2]) (n := 3) (Nat.le_of_ble_eq_true rfl)
  rw [lg_entry_eq]
  generalize (lg_sl ([.ref mo, .int p1, .int p2]) ++ List.replicate (3 - (lg_sl ([.ref mo, .int p1, .int p2])).length) Slot.unset).toArray = ls at hl ⊢
  have hl : lv_has ls 3 [(0, .ref mo), (1, .int p1), (2, .int p2)] := hl
  refine lv_aload_n hx hb dX11_duration_0 rfl (lv_at hl 0 rfl) ?_
  refine lv_iload_n hx hb dX11_duration_1 rfl (lv_at hl 1 rfl) ?_
  refine lv_iload_n hx hb dX11_duration_2 rfl (lv_at hl 2 rfl) ?_
  refine cm_ki (wr := []) (va_runV (As := [.int p1, .int p2]) (rest := []) ⟨hx, hb, hml, hown, hts⟩ (m_noProgram l D ct mo mw ma mf m0 m1 mu mv u0 u1 iz mb p1 p2 _) (cm_V 2 hts kc_X11_noProgram ki_RX11 kl_RX11_347 kv_X11_noProgram kx_X11_noProgram kd_X11_noProgram ⟨Nat.le_of_ble_eq_true rfl, Nat.le_of_ble_eq_true rfl⟩) (cm_preV hP hK hD hS hA hX [0, 1] rfl rfl rfl (q0 := 0) (ci := 11) rfl rfl) rfl rfl hl.1 rfl (lv_room (Nat.le_of_ble_eq_true rfl)) dX11_duration_3 ⟨Nat.le_of_ble_eq_true rfl, Nat.le_of_ble_eq_true rfl⟩) hP hD hS hA [0, 1] [] rfl rfl rfl (by decide) (fun r_1 u H locs hw_2 hP hD hS => ?_)
  have hw_2 : r_1 = 1 := hw_2
  obtain rfl := hw_2
  have hP : va_P D vwCl [(mo, .inr (11, [.ref mw, .ref ma, .ref mf, .ref m0, .ref m1, .ref mu, .ref mv, .ref u0, .ref u1, .ref iz, .int 1, .ref mb, .int 0, .int 0, .int 0, .int 0, .int 0, .int 0, .int 0])), (mw, .inl (ct 0, 958, .inl m_w0))] H := hP
  have hD : va_D A [(mo, .inr (11, [.ref mw, .ref ma, .ref mf, .ref m0, .ref m1, .ref mu, .ref mv, .ref u0, .ref u1, .ref iz, .int 1, .ref mb, .int 0, .int 0, .int 0, .int 0, .int 0, .int 0, .int 0])), (mw, .inl (ct 0, 958, .inl m_w0))] := hD
  refine lv_if_eq (tgt := 13) hx hb dX11_duration_6 (by decide) (fun hc => absurd hc (by decide)) (fun _ => ?_)
  refine lv_iconst (v := 0) hx hb dX11_duration_9 (by decide) ?_
  refine lv_goto (tgt := 19) hx hb dX11_duration_10 (by decide) ?_
  have hP9 := hP.sub (ws' := [(mo, .inr (11, [.ref mw, .ref ma, .ref mf, .ref m0, .ref m1, .ref mu, .ref mv, .ref u0, .ref u1, .ref iz, .int 1, .ref mb, .int 0, .int 0, .int 0, .int 0, .int 0, .int 0, .int 0])), (mw, .inl (ct 0, 958, .inl m_w0))]) [0, 1] rfl
  have hD9 := hD.sub (ws' := [(mo, .inr (11, [.ref mw, .ref ma, .ref mf, .ref m0, .ref m1, .ref mu, .ref mv, .ref u0, .ref u1, .ref iz, .int 1, .ref mb, .int 0, .int 0, .int 0, .int 0, .int 0, .int 0, .int 0])), (mw, .inl (ct 0, 958, .inl m_w0))]) [0, 1] (by decide) rfl
  exact W.iret (v := 0) hx hb hr (fun t ht hW => ⟨⟨0, (), rfl, trivial, by rw [ht]; exact hP9, by rw [hAe]; exact hD9⟩, hS.F ht⟩) hS.2.2 dX11_duration_19
theorem dX11_shortest_0 : decode cX11_shortest 0 = .ok (.aload_n 0, 1) := by decide +kernel
theorem dX11_shortest_1 : decode cX11_shortest 1 = .ok (.iload_n 1, 1) := by decide +kernel
theorem dX11_shortest_2 : decode cX11_shortest 2 = .ok (.invokevirtual 344, 3) := by decide +kernel
theorem dX11_shortest_5 : decode cX11_shortest 5 = .ok (.ifCond .eq 5, 3) := by decide +kernel
theorem dX11_shortest_8 : decode cX11_shortest 8 = .ok (.iconst 0, 1) := by decide +kernel
theorem dX11_shortest_9 : decode cX11_shortest 9 = .ok (.ireturn, 1) := by decide +kernel
set_option maxRecDepth 100000 in
set_option maxHeartbeats 4000000 in
theorem m_shortest_0 (l : Launch) (D : va_G) (ct : Nat → ClassId) (mo : Nat) (mw : Nat) (ma : Nat) (mf : Nat) (m0 : Nat) (m1 : Nat) (mu : Nat) (mv : Nat) (u0 : Nat) (u1 : Nat) (iz : Nat) (mb : Nat) (p1 : Int32) (sz : Nat) : Met l yX11_shortest (ws_ yX11_shortest cX11_shortest 6 (some .int)) ({ frames := 2, cells := 0, slots := 0, locals := 46 } : Room) (va_Pc [.ref mo, .int p1] (cmP D ct sz [(mo, .inr (11, [.ref mw, .ref ma, .ref mf, .ref m0, .ref m1, .ref mu, .ref mv, .ref u0, .ref u1, .ref iz, .int 0, .ref mb, .int 0, .int 0, .int 0, .int 0, .int 0, .int 0, .int 0])), (mw, .inl (ct 0, 958, .inl m_w0))])) (va_Qi (fun (r : Int32) (_ : Unit) => True) (cmB D [(mo, .inr (11, [.ref mw, .ref ma, .ref mf, .ref m0, .ref m1, .ref mu, .ref mv, .ref u0, .ref u1, .ref iz, .int 0, .ref mb, .int 0, .int 0, .int 0, .int 0, .int 0, .int 0, .int 0])), (mw, .inl (ct 0, 958, .inl m_w0))] sz (fun _ : Unit => [(mo, .inr (11, [.ref mw, .ref ma, .ref mf, .ref m0, .ref m1, .ref mu, .ref mv, .ref u0, .ref u1, .ref iz, .int 1, .ref mb, .int 0, .int 0, .int 0, .int 0, .int 0, .int 0, .int 0])), (mw, .inl (ct 0, 958, .inl m_w0))])) (va_A [(mo, .inr (11, [.ref mw, .ref ma, .ref mf, .ref m0, .ref m1, .ref mu, .ref mv, .ref u0, .ref u1, .ref iz, .int 0, .ref mb, .int 0, .int 0, .int 0, .int 0, .int 0, .int 0, .int 0])), (mw, .inl (ct 0, 958, .inl m_w0))] sz)) 0 0 (va_A [(mo, .inr (11, [.ref mw, .ref ma, .ref mf, .ref m0, .ref m1, .ref mu, .ref mv, .ref u0, .ref u1, .ref iz, .int 0, .ref mb, .int 0, .int 0, .int 0, .int 0, .int 0, .int 0, .int 0])), (mw, .inl (ct 0, 958, .inl m_w0))] sz) := by
  refine Met.ofW (cc := cX11_shortest) (maxL := 6) (ret := (some .int)) (by decide) rfl ?_
  intro p e s m args below meth c s₁ B hml hv
  obtain ⟨rfl, hsz, hP, hK, hD0, hX⟩ := hv
  have hx := B.exec
  have hb := B.bytes
  have hr := B.returns
  have hts := ws_all (atoms_spec (ws := ws_ yX11_shortest cX11_shortest 6 (some .int)) B.pre)
  have hown : s.vm.findClass RX11 = some m.cls := findClass_of_methodNamed B.named
  have hlocks := B.notSynchronized
  subst hsz
  have hD := hD0.self (sz := s.heap.size)
  generalize hAe : va_A [(mo, .inr (11, [.ref mw, .ref ma, .ref mf, .ref m0, .ref m1, .ref mu, .ref mv, .ref u0, .ref u1, .ref iz, .int 0, .ref mb, .int 0, .int 0, .int 0, .int 0, .int 0, .int 0, .int 0])), (mw, .inl (ct 0, 958, .inl m_w0))] s.heap.size = A at hD hX ⊢
  have hA : ∀ q : Nat, s.heap.size ≤ q → A q := fun q h => by rw [← hAe]; exact Or.inr h
  have hS : va_S A s.heap s.heap [] := va_S.rf
  have hl := lv_entry ([.ref mo, .int p1]) (n := 6) (Nat.le_of_ble_eq_true rfl)
  rw [lg_entry_eq]
  generalize (lg_sl ([.ref mo, .int p1]) ++ List.replicate (6 - (lg_sl ([.ref mo, .int p1])).length) Slot.unset).toArray = ls at hl ⊢
  have hl : lv_has ls 6 [(0, .ref mo), (1, .int p1)] := hl
  refine lv_aload_n hx hb dX11_shortest_0 rfl (lv_at hl 0 rfl) ?_
  refine lv_iload_n hx hb dX11_shortest_1 rfl (lv_at hl 1 rfl) ?_
  refine cm_ki (wr := []) (va_runV (As := [.int p1]) (rest := []) ⟨hx, hb, hml, hown, hts⟩ (m_noChannel l D ct mo mw ma mf m0 m1 mu mv u0 u1 iz mb p1 _) (cm_V 1 hts kc_X11_noChannel ki_RX11 kl_RX11_344 kv_X11_noChannel kx_X11_noChannel kd_X11_noChannel ⟨Nat.le_of_ble_eq_true rfl, Nat.le_of_ble_eq_true rfl⟩) (cm_preV hP hK hD hS hA hX [0, 1] rfl rfl rfl (q0 := 0) (ci := 11) rfl rfl) rfl rfl hl.1 rfl (lv_room (Nat.le_of_ble_eq_true rfl)) dX11_shortest_2 ⟨Nat.le_of_ble_eq_true rfl, Nat.le_of_ble_eq_true rfl⟩) hP hD hS hA [0, 1] [] rfl rfl rfl (by decide) (fun r_1 u H locs hw_2 hP hD hS => ?_)
  have hw_2 : r_1 = 1 := hw_2
  obtain rfl := hw_2
  have hP : va_P D vwCl [(mo, .inr (11, [.ref mw, .ref ma, .ref mf, .ref m0, .ref m1, .ref mu, .ref mv, .ref u0, .ref u1, .ref iz, .int 1, .ref mb, .int 0, .int 0, .int 0, .int 0, .int 0, .int 0, .int 0])), (mw, .inl (ct 0, 958, .inl m_w0))] H := hP
  have hD : va_D A [(mo, .inr (11, [.ref mw, .ref ma, .ref mf, .ref m0, .ref m1, .ref mu, .ref mv, .ref u0, .ref u1, .ref iz, .int 1, .ref mb, .int 0, .int 0, .int 0, .int 0, .int 0, .int 0, .int 0])), (mw, .inl (ct 0, 958, .inl m_w0))] := hD
  refine lv_if_eq (tgt := 10) hx hb dX11_shortest_5 (by decide) (fun hc => absurd hc (by decide)) (fun _ => ?_)
  refine lv_iconst (v := 0) hx hb dX11_shortest_8 (by decide) ?_
  have hP9 := hP.sub (ws' := [(mo, .inr (11, [.ref mw, .ref ma, .ref mf, .ref m0, .ref m1, .ref mu, .ref mv, .ref u0, .ref u1, .ref iz, .int 1, .ref mb, .int 0, .int 0, .int 0, .int 0, .int 0, .int 0, .int 0])), (mw, .inl (ct 0, 958, .inl m_w0))]) [0, 1] rfl
  have hD9 := hD.sub (ws' := [(mo, .inr (11, [.ref mw, .ref ma, .ref mf, .ref m0, .ref m1, .ref mu, .ref mv, .ref u0, .ref u1, .ref iz, .int 1, .ref mb, .int 0, .int 0, .int 0, .int 0, .int 0, .int 0, .int 0])), (mw, .inl (ct 0, 958, .inl m_w0))]) [0, 1] (by decide) rfl
  exact W.iret (v := 0) hx hb hr (fun t ht hW => ⟨⟨0, (), rfl, trivial, by rw [ht]; exact hP9, by rw [hAe]; exact hD9⟩, hS.F ht⟩) hS.2.2 dX11_shortest_9
theorem dX11_capacityIf_0 : decode cX11_capacityIf 0 = .ok (.aload_n 0, 1) := by decide +kernel
theorem dX11_capacityIf_1 : decode cX11_capacityIf 1 = .ok (.iload_n 1, 1) := by decide +kernel
theorem dX11_capacityIf_2 : decode cX11_capacityIf 2 = .ok (.iload_n 2, 1) := by decide +kernel
theorem dX11_capacityIf_3 : decode cX11_capacityIf 3 = .ok (.invokevirtual 347, 3) := by decide +kernel
theorem dX11_capacityIf_6 : decode cX11_capacityIf 6 = .ok (.ifCond .eq 5, 3) := by decide +kernel
theorem dX11_capacityIf_9 : decode cX11_capacityIf 9 = .ok (.iconst 0, 1) := by decide +kernel
theorem dX11_capacityIf_10 : decode cX11_capacityIf 10 = .ok (.ireturn, 1) := by decide +kernel
set_option maxRecDepth 100000 in
set_option maxHeartbeats 4000000 in
theorem m_capacityIf_0 (l : Launch) (D : va_G) (ct : Nat → ClassId) (mo : Nat) (mw : Nat) (ma : Nat) (mf : Nat) (m0 : Nat) (m1 : Nat) (mu : Nat) (mv : Nat) (u0 : Nat) (u1 : Nat) (iz : Nat) (mb : Nat) (p1 : Int32) (p2 : Int32) (sz : Nat) : Met l yX11_capacityIf (ws_ yX11_capacityIf cX11_capacityIf 5 (some .int)) ({ frames := 3, cells := 0, slots := 0, locals := 68 } : Room) (va_Pc [.ref mo, .int p1, .int p2] (cmP D ct sz [(mo, .inr (11, [.ref mw, .ref ma, .ref mf, .ref m0, .ref m1, .ref mu, .ref mv, .ref u0, .ref u1, .ref iz, .int 0, .ref mb, .int 0, .int 0, .int 0, .int 0, .int 0, .int 0, .int 0])), (mw, .inl (ct 0, 958, .inl m_w0))])) (va_Qi (fun (r : Int32) (_ : Unit) => True) (cmB D [(mo, .inr (11, [.ref mw, .ref ma, .ref mf, .ref m0, .ref m1, .ref mu, .ref mv, .ref u0, .ref u1, .ref iz, .int 0, .ref mb, .int 0, .int 0, .int 0, .int 0, .int 0, .int 0, .int 0])), (mw, .inl (ct 0, 958, .inl m_w0))] sz (fun _ : Unit => [(mo, .inr (11, [.ref mw, .ref ma, .ref mf, .ref m0, .ref m1, .ref mu, .ref mv, .ref u0, .ref u1, .ref iz, .int 1, .ref mb, .int 0, .int 0, .int 0, .int 0, .int 0, .int 0, .int 0])), (mw, .inl (ct 0, 958, .inl m_w0))])) (va_A [(mo, .inr (11, [.ref mw, .ref ma, .ref mf, .ref m0, .ref m1, .ref mu, .ref mv, .ref u0, .ref u1, .ref iz, .int 0, .ref mb, .int 0, .int 0, .int 0, .int 0, .int 0, .int 0, .int 0])), (mw, .inl (ct 0, 958, .inl m_w0))] sz)) 0 0 (va_A [(mo, .inr (11, [.ref mw, .ref ma, .ref mf, .ref m0, .ref m1, .ref mu, .ref mv, .ref u0, .ref u1, .ref iz, .int 0, .ref mb, .int 0, .int 0, .int 0, .int 0, .int 0, .int 0, .int 0])), (mw, .inl (ct 0, 958, .inl m_w0))] sz) := by
  refine Met.ofW (cc := cX11_capacityIf) (maxL := 5) (ret := (some .int)) (by decide) rfl ?_
  intro p e s m args below meth c s₁ B hml hv
  obtain ⟨rfl, hsz, hP, hK, hD0, hX⟩ := hv
  have hx := B.exec
  have hb := B.bytes
  have hr := B.returns
  have hts := ws_all (atoms_spec (ws := ws_ yX11_capacityIf cX11_capacityIf 5 (some .int)) B.pre)
  have hown : s.vm.findClass RX11 = some m.cls := findClass_of_methodNamed B.named
  have hlocks := B.notSynchronized
  subst hsz
  have hD := hD0.self (sz := s.heap.size)
  generalize hAe : va_A [(mo, .inr (11, [.ref mw, .ref ma, .ref mf, .ref m0, .ref m1, .ref mu, .ref mv, .ref u0, .ref u1, .ref iz, .int 0, .ref mb, .int 0, .int 0, .int 0, .int 0, .int 0, .int 0, .int 0])), (mw, .inl (ct 0, 958, .inl m_w0))] s.heap.size = A at hD hX ⊢
  have hA : ∀ q : Nat, s.heap.size ≤ q → A q := fun q h => by rw [← hAe]; exact Or.inr h
  have hS : va_S A s.heap s.heap [] := va_S.rf
  have hl := lv_entry ([.ref mo, .int p1, .int p2]) (n := 5) (Nat.le_of_ble_eq_true rfl)
  rw [lg_entry_eq]
  generalize (lg_sl ([.ref mo, .int p1, .int p2]) ++ List.replicate (5 - (lg_sl ([.ref mo, .int p1, .int p2])).length) Slot.unset).toArray = ls at hl ⊢
  have hl : lv_has ls 5 [(0, .ref mo), (1, .int p1), (2, .int p2)] := hl
  refine lv_aload_n hx hb dX11_capacityIf_0 rfl (lv_at hl 0 rfl) ?_
  refine lv_iload_n hx hb dX11_capacityIf_1 rfl (lv_at hl 1 rfl) ?_
  refine lv_iload_n hx hb dX11_capacityIf_2 rfl (lv_at hl 2 rfl) ?_
  refine cm_ki (wr := []) (va_runV (As := [.int p1, .int p2]) (rest := []) ⟨hx, hb, hml, hown, hts⟩ (m_noProgram l D ct mo mw ma mf m0 m1 mu mv u0 u1 iz mb p1 p2 _) (cm_V 2 hts kc_X11_noProgram ki_RX11 kl_RX11_347 kv_X11_noProgram kx_X11_noProgram kd_X11_noProgram ⟨Nat.le_of_ble_eq_true rfl, Nat.le_of_ble_eq_true rfl⟩) (cm_preV hP hK hD hS hA hX [0, 1] rfl rfl rfl (q0 := 0) (ci := 11) rfl rfl) rfl rfl hl.1 rfl (lv_room (Nat.le_of_ble_eq_true rfl)) dX11_capacityIf_3 ⟨Nat.le_of_ble_eq_true rfl, Nat.le_of_ble_eq_true rfl⟩) hP hD hS hA [0, 1] [] rfl rfl rfl (by decide) (fun r_1 u H locs hw_2 hP hD hS => ?_)
  have hw_2 : r_1 = 1 := hw_2
  obtain rfl := hw_2
  have hP : va_P D vwCl [(mo, .inr (11, [.ref mw, .ref ma, .ref mf, .ref m0, .ref m1, .ref mu, .ref mv, .ref u0, .ref u1, .ref iz, .int 1, .ref mb, .int 0, .int 0, .int 0, .int 0, .int 0, .int 0, .int 0])), (mw, .inl (ct 0, 958, .inl m_w0))] H := hP
  have hD : va_D A [(mo, .inr (11, [.ref mw, .ref ma, .ref mf, .ref m0, .ref m1, .ref mu, .ref mv, .ref u0, .ref u1, .ref iz, .int 1, .ref mb, .int 0, .int 0, .int 0, .int 0, .int 0, .int 0, .int 0])), (mw, .inl (ct 0, 958, .inl m_w0))] := hD
  refine lv_if_eq (tgt := 11) hx hb dX11_capacityIf_6 (by decide) (fun hc => absurd hc (by decide)) (fun _ => ?_)
  refine lv_iconst (v := 0) hx hb dX11_capacityIf_9 (by decide) ?_
  have hP9 := hP.sub (ws' := [(mo, .inr (11, [.ref mw, .ref ma, .ref mf, .ref m0, .ref m1, .ref mu, .ref mv, .ref u0, .ref u1, .ref iz, .int 1, .ref mb, .int 0, .int 0, .int 0, .int 0, .int 0, .int 0, .int 0])), (mw, .inl (ct 0, 958, .inl m_w0))]) [0, 1] rfl
  have hD9 := hD.sub (ws' := [(mo, .inr (11, [.ref mw, .ref ma, .ref mf, .ref m0, .ref m1, .ref mu, .ref mv, .ref u0, .ref u1, .ref iz, .int 1, .ref mb, .int 0, .int 0, .int 0, .int 0, .int 0, .int 0, .int 0])), (mw, .inl (ct 0, 958, .inl m_w0))]) [0, 1] (by decide) rfl
  exact W.iret (v := 0) hx hb hr (fun t ht hW => ⟨⟨0, (), rfl, trivial, by rw [ht]; exact hP9, by rw [hAe]; exact hD9⟩, hS.F ht⟩) hS.2.2 dX11_capacityIf_10
theorem dX11_safeCurrent_0 : decode cX11_safeCurrent 0 = .ok (.aload_n 0, 1) := by decide +kernel
theorem dX11_safeCurrent_1 : decode cX11_safeCurrent 1 = .ok (.iload_n 1, 1) := by decide +kernel
theorem dX11_safeCurrent_2 : decode cX11_safeCurrent 2 = .ok (.invokevirtual 344, 3) := by decide +kernel
theorem dX11_safeCurrent_5 : decode cX11_safeCurrent 5 = .ok (.ifCond .ne 28, 3) := by decide +kernel
theorem dX11_safeCurrent_33 : decode cX11_safeCurrent 33 = .ok (.iconst 0, 1) := by decide +kernel
theorem dX11_safeCurrent_34 : decode cX11_safeCurrent 34 = .ok (.ireturn, 1) := by decide +kernel
set_option maxRecDepth 100000 in
set_option maxHeartbeats 4000000 in
theorem m_safeCurrent_0 (l : Launch) (D : va_G) (ct : Nat → ClassId) (mo : Nat) (mw : Nat) (ma : Nat) (mf : Nat) (m0 : Nat) (m1 : Nat) (mu : Nat) (mv : Nat) (u0 : Nat) (u1 : Nat) (iz : Nat) (mb : Nat) (p1 : Int32) (p2 : Int32) (sz : Nat) : Met l yX11_safeCurrent (ws_ yX11_safeCurrent cX11_safeCurrent 4 (some .int)) ({ frames := 2, cells := 0, slots := 0, locals := 46 } : Room) (va_Pc [.ref mo, .int p1, .int p2] (cmP D ct sz [(mo, .inr (11, [.ref mw, .ref ma, .ref mf, .ref m0, .ref m1, .ref mu, .ref mv, .ref u0, .ref u1, .ref iz, .int 0, .ref mb, .int 0, .int 0, .int 0, .int 0, .int 0, .int 0, .int 0])), (mw, .inl (ct 0, 958, .inl m_w0))])) (va_Qi (fun (r : Int32) (_ : Unit) => True) (cmB D [(mo, .inr (11, [.ref mw, .ref ma, .ref mf, .ref m0, .ref m1, .ref mu, .ref mv, .ref u0, .ref u1, .ref iz, .int 0, .ref mb, .int 0, .int 0, .int 0, .int 0, .int 0, .int 0, .int 0])), (mw, .inl (ct 0, 958, .inl m_w0))] sz (fun _ : Unit => [(mo, .inr (11, [.ref mw, .ref ma, .ref mf, .ref m0, .ref m1, .ref mu, .ref mv, .ref u0, .ref u1, .ref iz, .int 1, .ref mb, .int 0, .int 0, .int 0, .int 0, .int 0, .int 0, .int 0])), (mw, .inl (ct 0, 958, .inl m_w0))])) (va_A [(mo, .inr (11, [.ref mw, .ref ma, .ref mf, .ref m0, .ref m1, .ref mu, .ref mv, .ref u0, .ref u1, .ref iz, .int 0, .ref mb, .int 0, .int 0, .int 0, .int 0, .int 0, .int 0, .int 0])), (mw, .inl (ct 0, 958, .inl m_w0))] sz)) 0 0 (va_A [(mo, .inr (11, [.ref mw, .ref ma, .ref mf, .ref m0, .ref m1, .ref mu, .ref mv, .ref u0, .ref u1, .ref iz, .int 0, .ref mb, .int 0, .int 0, .int 0, .int 0, .int 0, .int 0, .int 0])), (mw, .inl (ct 0, 958, .inl m_w0))] sz) := by
  refine Met.ofW (cc := cX11_safeCurrent) (maxL := 4) (ret := (some .int)) (by decide) rfl ?_
  intro p e s m args below meth c s₁ B hml hv
  obtain ⟨rfl, hsz, hP, hK, hD0, hX⟩ := hv
  have hx := B.exec
  have hb := B.bytes
  have hr := B.returns
  have hts := ws_all (atoms_spec (ws := ws_ yX11_safeCurrent cX11_safeCurrent 4 (some .int)) B.pre)
  have hown : s.vm.findClass RX11 = some m.cls := findClass_of_methodNamed B.named
  have hlocks := B.notSynchronized
  subst hsz
  have hD := hD0.self (sz := s.heap.size)
  generalize hAe : va_A [(mo, .inr (11, [.ref mw, .ref ma, .ref mf, .ref m0, .ref m1, .ref mu, .ref mv, .ref u0, .ref u1, .ref iz, .int 0, .ref mb, .int 0, .int 0, .int 0, .int 0, .int 0, .int 0, .int 0])), (mw, .inl (ct 0, 958, .inl m_w0))] s.heap.size = A at hD hX ⊢
  have hA : ∀ q : Nat, s.heap.size ≤ q → A q := fun q h => by rw [← hAe]; exact Or.inr h
  have hS : va_S A s.heap s.heap [] := va_S.rf
  have hl := lv_entry ([.ref mo, .int p1, .int p2]) (n := 4) (Nat.le_of_ble_eq_true rfl)
  rw [lg_entry_eq]
  generalize (lg_sl ([.ref mo, .int p1, .int p2]) ++ List.replicate (4 - (lg_sl ([.ref mo, .int p1, .int p2])).length) Slot.unset).toArray = ls at hl ⊢
  have hl : lv_has ls 4 [(0, .ref mo), (1, .int p1), (2, .int p2)] := hl
  refine lv_aload_n hx hb dX11_safeCurrent_0 rfl (lv_at hl 0 rfl) ?_
  refine lv_iload_n hx hb dX11_safeCurrent_1 rfl (lv_at hl 1 rfl) ?_
  refine cm_ki (wr := []) (va_runV (As := [.int p1]) (rest := []) ⟨hx, hb, hml, hown, hts⟩ (m_noChannel l D ct mo mw ma mf m0 m1 mu mv u0 u1 iz mb p1 _) (cm_V 1 hts kc_X11_noChannel ki_RX11 kl_RX11_344 kv_X11_noChannel kx_X11_noChannel kd_X11_noChannel ⟨Nat.le_of_ble_eq_true rfl, Nat.le_of_ble_eq_true rfl⟩) (cm_preV hP hK hD hS hA hX [0, 1] rfl rfl rfl (q0 := 0) (ci := 11) rfl rfl) rfl rfl hl.1 rfl (lv_room (Nat.le_of_ble_eq_true rfl)) dX11_safeCurrent_2 ⟨Nat.le_of_ble_eq_true rfl, Nat.le_of_ble_eq_true rfl⟩) hP hD hS hA [0, 1] [] rfl rfl rfl (by decide) (fun r_1 u H locs hw_2 hP hD hS => ?_)
  have hw_2 : r_1 = 1 := hw_2
  obtain rfl := hw_2
  have hP : va_P D vwCl [(mo, .inr (11, [.ref mw, .ref ma, .ref mf, .ref m0, .ref m1, .ref mu, .ref mv, .ref u0, .ref u1, .ref iz, .int 1, .ref mb, .int 0, .int 0, .int 0, .int 0, .int 0, .int 0, .int 0])), (mw, .inl (ct 0, 958, .inl m_w0))] H := hP
  have hD : va_D A [(mo, .inr (11, [.ref mw, .ref ma, .ref mf, .ref m0, .ref m1, .ref mu, .ref mv, .ref u0, .ref u1, .ref iz, .int 1, .ref mb, .int 0, .int 0, .int 0, .int 0, .int 0, .int 0, .int 0])), (mw, .inl (ct 0, 958, .inl m_w0))] := hD
  refine lv_if_ne (tgt := 33) hx hb dX11_safeCurrent_5 (by decide) (fun _ => ?_) (fun hc => absurd hc (by decide))
  refine lv_iconst (v := 0) hx hb dX11_safeCurrent_33 (by decide) ?_
  have hP9 := hP.sub (ws' := [(mo, .inr (11, [.ref mw, .ref ma, .ref mf, .ref m0, .ref m1, .ref mu, .ref mv, .ref u0, .ref u1, .ref iz, .int 1, .ref mb, .int 0, .int 0, .int 0, .int 0, .int 0, .int 0, .int 0])), (mw, .inl (ct 0, 958, .inl m_w0))]) [0, 1] rfl
  have hD9 := hD.sub (ws' := [(mo, .inr (11, [.ref mw, .ref ma, .ref mf, .ref m0, .ref m1, .ref mu, .ref mv, .ref u0, .ref u1, .ref iz, .int 1, .ref mb, .int 0, .int 0, .int 0, .int 0, .int 0, .int 0, .int 0])), (mw, .inl (ct 0, 958, .inl m_w0))]) [0, 1] (by decide) rfl
  exact W.iret (v := 0) hx hb hr (fun t ht hW => ⟨⟨0, (), rfl, trivial, by rw [ht]; exact hP9, by rw [hAe]; exact hD9⟩, hS.F ht⟩) hS.2.2 dX11_safeCurrent_34
