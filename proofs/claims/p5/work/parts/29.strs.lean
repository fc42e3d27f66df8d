/-! String constants as arguments -/
def cmPs (D : va_G) (ct : Nat → ClassId) (sz : Nat) (W0 : va_W) (q : cm_sq) (a : Nat) (U : State) : Prop := cmP D ct sz W0 U ∧ vk_R q.1 q.2.1 q.2.2.1 a U
theorem cm_sinj {own tx : String} {k a b : Nat} {U : State} (h1 : vk_R own k tx a U) (h2 : vk_R own k tx b U) : a = b := by
  have h := Option.some.inj (h1.2.symm.trans h2.2)
  cases h
  rfl
theorem cm_blinds {D : va_G} {ct : Nat → ClassId} {sz : Nat} {W0 : va_W} {av : List Value} {q : cm_sq} {a : Nat} : FrameBlind (va_Pc av (cmPs D ct sz W0 q a)) := by
  intro b U g mk h
  exact ⟨h.1, (cm_blind (ct := ct) b U g mk ⟨h.1, h.2.1⟩).2, vk_R.same (u := U) (U := U.calling g mk b) rfl h.2.2⟩
theorem cm_preSs {s : State} {H : Heap} {D : va_G} {ct : Nat → ClassId} {wc : va_W} {As : List Value} {q : cm_sq} {a : Nat} (h : PreS s H (va_Pc As (cmP D ct H.size wc)) As) (hR : vk_R q.1 q.2.1 q.2.2.1 a s) : PreS s H (va_Pc As (cmPs D ct H.size wc q a)) As := ⟨cm_blinds, fun U hU hW => ⟨(h.2 U hU hW).1, (h.2 U hU hW).2, vk_R.warm hW hR⟩⟩
theorem cm_preVs {s : State} {H : Heap} {D : va_G} {ct : Nat → ClassId} {wc : va_W} {C : String} {b : Addr} {As : List Value} {q : cm_sq} {a : Nat} (h : PreV s H C b (va_Pc (.ref b :: As) (cmP D ct H.size wc)) As) (hR : vk_R q.1 q.2.1 q.2.2.1 a s) : PreV s H C b (va_Pc (.ref b :: As) (cmPs D ct H.size wc q a)) As := ⟨cm_blinds, h.2.1, fun U hU hW => ⟨(h.2.2 U hU hW).1, (h.2.2 U hU hW).2, vk_R.warm hW hR⟩⟩
theorem cm_preVt {s : State} {H : Heap} {D : va_G} {ct : Nat → ClassId} {wc : va_W} {b : Nat} {As : List Value} {q : cm_sq} (h : PreS s H (va_Pc (.ref b :: As) (cmP D ct H.size wc)) (.ref b :: As)) (hc : ∃ cell : Cell, H[b]? = some cell ∧ cell.vm.isStatics = false ∧ s.vm.findClass "java/lang/String" = some cell.cls) (hR : vk_R q.1 q.2.1 q.2.2.1 b s) : PreV s H "java/lang/String" b (va_Pc (.ref b :: As) (cmPs D ct H.size wc q b)) As := ⟨cm_blinds, hc, fun U hU hW => ⟨(h.2 U hU hW).1, (h.2 U hU hW).2, vk_R.warm hW hR⟩⟩
theorem cm_shr0 (x : Int32) : x >>> ((0 : Int32) &&& 31) = x := by
  apply Int32.toInt_inj.mp
  rw [show ((0 : Int32) &&& 31) = 0 from by decide]
  simp
