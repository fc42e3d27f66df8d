/-! decode over a window: where the bytes of a long code from a place on (a multiple of four) are a short window's, the long code's rows are the window's -/
abbrev wn_Rd (α : Type) := Jvm.ClassFile.Reader Jvm.ClassFile.DecodeError α
def wn_H (A w : ByteArray) (o : Nat) : Prop := o + w.size ≤ A.size ∧ ∀ k : Nat, k < w.size → A.data.toList[o + k]? = w.data.toList[k]?
def wn_R (A w : ByteArray) (o : Nat) {α : Type} (r r' : wn_Rd α) : Prop := ∀ (k : Nat) (a : α) (j : Nat), r w k = .ok (a, j) → r' A (o + k) = .ok (a, o + j)
theorem wn_bt {C : ByteArray} {i : Nat} (h : i < C.size) : C.data.toList[i]? = some C[i] := by
  rw [List.getElem?_eq_getElem (by simpa using h)]
  rfl
theorem wn_run {α β : Type} (r : wn_Rd α) (f : α → wn_Rd β) (C : ByteArray) (i : Nat) : (r >>= f) C i = (match r C i with | .error e => Except.error e | .ok q => f q.1 C q.2) := by
  show (Except.bind (r C i) (fun q => f q.1 C q.2)) = _
  cases r C i <;> rfl
section WN
variable {A w : ByteArray} {o : Nat}
theorem wn_bind {α β : Type} {r r' : wn_Rd α} {f f' : α → wn_Rd β} (h : wn_R A w o r r') (g : ∀ a, wn_R A w o (f a) (f' a)) : wn_R A w o (r >>= f) (r' >>= f') := by
  intro k b j e
  rw [wn_run] at e
  rw [wn_run]
  cases q : r w k with
  | error x => rw [q] at e; cases e
  | ok y =>
    obtain ⟨a, i⟩ := y
    rw [q] at e
    rw [h k a i q]
    exact g a i b j e
theorem wn_pure {α : Type} (x : α) : wn_R A w o (pure x : wn_Rd α) (pure x) := by
  intro k b j e
  have e2 : (Except.ok (x, k) : Except Jvm.ClassFile.DecodeError (α × Nat)) = .ok (b, j) := e
  cases e2
  rfl
theorem wn_u1v {C : ByteArray} {i : Nat} (h : i < C.size) : (Jvm.ClassFile.Reader.u1 : wn_Rd Nat) C i = .ok (C[i].toNat, i + 1) := by
  show (if g : i < C.size then (do set (i + 1); pure C[i].toNat) else throw (Jvm.ClassFile.HasTruncated.truncated i) : wn_Rd Nat) C i = _
  rw [dif_pos h]
  rfl
theorem wn_u1n {C : ByteArray} {i : Nat} (h : ¬ i < C.size) : (Jvm.ClassFile.Reader.u1 : wn_Rd Nat) C i = .error (Jvm.ClassFile.HasTruncated.truncated i) := by
  show (if g : i < C.size then (do set (i + 1); pure C[i].toNat) else throw (Jvm.ClassFile.HasTruncated.truncated i) : wn_Rd Nat) C i = _
  rw [dif_neg h]
  rfl
theorem wn_u1 (h : wn_H A w o) : wn_R A w o Jvm.ClassFile.Reader.u1 Jvm.ClassFile.Reader.u1 := by
  intro k a j e
  by_cases q : k < w.size
  · have b := h.2 k q
    have q2 : o + k < A.size := by have := h.1; omega
    rw [wn_u1v q] at e
    rw [wn_bt q2, wn_bt q] at b
    rw [wn_u1v q2, Option.some.inj b]
    cases e
    rfl
  · rw [wn_u1n q] at e
    cases e
theorem wn_u2 (h : wn_H A w o) : wn_R A w o Jvm.ClassFile.Reader.u2 Jvm.ClassFile.Reader.u2 := wn_bind (wn_u1 h) fun _ => wn_bind (wn_u1 h) fun _ => wn_pure _
theorem wn_map {α β : Type} (g : α → β) {r r' : wn_Rd α} (h : wn_R A w o r r') : wn_R A w o (g <$> r) (g <$> r') := by
  have e : ∀ x : wn_Rd α, (g <$> x) = (x >>= fun a => pure (g a)) := fun x => by
    funext C i
    rw [wn_run]
    show (Except.bind (x C i) (fun q => Except.ok (g q.1, q.2))) = _
    cases x C i <;> rfl
  rw [e, e]
  exact wn_bind h fun _ => wn_pure _
theorem wn_s1 (h : wn_H A w o) : wn_R A w o Jvm.ClassFile.Reader.s1 Jvm.ClassFile.Reader.s1 := wn_map _ (wn_u1 h)
theorem wn_s2 (h : wn_H A w o) : wn_R A w o Jvm.ClassFile.Reader.s2 Jvm.ClassFile.Reader.s2 := wn_map _ (wn_u2 h)
theorem wn_s4 (h : wn_H A w o) : wn_R A w o Jvm.ClassFile.Reader.s4 Jvm.ClassFile.Reader.s4 := wn_map _ (wn_bind (wn_u2 h) fun _ => wn_bind (wn_u2 h) fun _ => wn_pure _)
theorem wn_c {P : Nat → Prop} {a : Nat} {l : List Nat} (h : P a) (g : ∀ x ∈ l, P x) : ∀ x ∈ a :: l, P x := fun x hx => (List.mem_cons.mp hx).elim (fun e => e ▸ h) (g x)
theorem wn_n {P : Nat → Prop} : ∀ x ∈ ([] : List Nat), P x := fun _ hx => absurd hx List.not_mem_nil
def wn_S : List Nat := [3, 4, 5, 6, 7, 16, 20, 21, 25, 42, 43, 44, 45, 46, 54, 55, 56, 57, 58, 76, 77, 78, 87, 89, 96, 100, 121, 126, 127, 129, 132, 133, 159, 163, 167, 172, 182, 183, 184, 187, 190]
set_option maxRecDepth 16384 in
set_option maxHeartbeats 4000000 in
theorem wn_ops (h : wn_H A w o) (k k' : Nat) : ∃ F F' : Nat → wn_Rd Jvm.ClassFile.Instr, Jvm.ClassFile.Decoder.instr k = (Jvm.ClassFile.Reader.u1 >>= F) ∧ Jvm.ClassFile.Decoder.instr k' = (Jvm.ClassFile.Reader.u1 >>= F') ∧ ∀ x ∈ wn_S, wn_R A w o (F x) (F' x) := by
  refine ⟨_, _, rfl, rfl, ?_⟩
  show ∀ x ∈ [3, 4, 5, 6, 7, 16, 20, 21, 25, 42, 43, 44, 45, 46, 54, 55, 56, 57, 58, 76, 77, 78, 87, 89, 96, 100, 121, 126, 127, 129, 132, 133, 159, 163, 167, 172, 182, 183, 184, 187, 190], _
  refine wn_c (wn_pure _) ?_
  refine wn_c (wn_pure _) ?_
  refine wn_c (wn_pure _) ?_
  refine wn_c (wn_pure _) ?_
  refine wn_c (wn_pure _) ?_
  refine wn_c (wn_bind (wn_s1 h) fun _ => wn_pure _) ?_
  refine wn_c (wn_bind (wn_u2 h) fun _ => wn_pure _) ?_
  refine wn_c (wn_bind (wn_u1 h) fun _ => wn_pure _) ?_
  refine wn_c (wn_bind (wn_u1 h) fun _ => wn_pure _) ?_
  refine wn_c (wn_pure _) ?_
  refine wn_c (wn_pure _) ?_
  refine wn_c (wn_pure _) ?_
  refine wn_c (wn_pure _) ?_
  refine wn_c (wn_pure _) ?_
  refine wn_c (wn_bind (wn_u1 h) fun _ => wn_pure _) ?_
  refine wn_c (wn_bind (wn_u1 h) fun _ => wn_pure _) ?_
  refine wn_c (wn_bind (wn_u1 h) fun _ => wn_pure _) ?_
  refine wn_c (wn_bind (wn_u1 h) fun _ => wn_pure _) ?_
  refine wn_c (wn_bind (wn_u1 h) fun _ => wn_pure _) ?_
  refine wn_c (wn_pure _) ?_
  refine wn_c (wn_pure _) ?_
  refine wn_c (wn_pure _) ?_
  refine wn_c (wn_pure _) ?_
  refine wn_c (wn_pure _) ?_
  refine wn_c (wn_pure _) ?_
  refine wn_c (wn_pure _) ?_
  refine wn_c (wn_pure _) ?_
  refine wn_c (wn_pure _) ?_
  refine wn_c (wn_pure _) ?_
  refine wn_c (wn_pure _) ?_
  refine wn_c (wn_bind (wn_u1 h) fun _ => wn_bind (wn_s1 h) fun _ => wn_pure _) ?_
  refine wn_c (wn_pure _) ?_
  refine wn_c (wn_bind (wn_s2 h) fun _ => wn_pure _) ?_
  refine wn_c (wn_bind (wn_s2 h) fun _ => wn_pure _) ?_
  refine wn_c (wn_bind (wn_s2 h) fun _ => wn_pure _) ?_
  refine wn_c (wn_pure _) ?_
  refine wn_c (wn_bind (wn_u2 h) fun _ => wn_pure _) ?_
  refine wn_c (wn_bind (wn_u2 h) fun _ => wn_pure _) ?_
  refine wn_c (wn_bind (wn_u2 h) fun _ => wn_pure _) ?_
  refine wn_c (wn_bind (wn_u2 h) fun _ => wn_pure _) ?_
  refine wn_c (wn_pure _) ?_
  exact wn_n
/-- a row of the long code out of the window's -/
theorem wn_dec (h : wn_H A w o) {k n : Nat} {x : Jvm.ClassFile.Instr} (e : decode w k = .ok (x, n) ∧ (match w.data.toList[k]? with | some b => decide (b.toNat ∈ wn_S) | none => false) = true) : decode A (o + k) = .ok (x, n) := by
  obtain ⟨e, g⟩ := e
  obtain ⟨F, F', h1, h2, h3⟩ := wn_ops h k (o + k)
  by_cases q : k < w.size
  · rw [wn_bt q] at g
    have g2 : w[k].toNat ∈ wn_S := of_decide_eq_true g
    have q2 : o + k < A.size := by have := h.1; omega
    have b := h.2 k q
    rw [wn_bt q2, wn_bt q] at b
    unfold decode at e ⊢
    rw [h1] at e
    rw [h2]
    have ev : (Jvm.ClassFile.Reader.u1 >>= F) w k = F w[k].toNat w (k + 1) := by rw [wn_run, wn_u1v q]; first | done | rfl
    have ev2 : (Jvm.ClassFile.Reader.u1 >>= F') A (o + k) = F' w[k].toNat A (o + (k + 1)) := by rw [wn_run, wn_u1v q2, Option.some.inj b]; first | done | rfl
    have e2 : (Except.bind ((Jvm.ClassFile.Reader.u1 >>= F) w k) (fun y => Except.ok (y.1, y.2 - k))) = .ok (x, n) := e
    show (Except.bind ((Jvm.ClassFile.Reader.u1 >>= F') A (o + k)) (fun y => Except.ok (y.1, y.2 - (o + k)))) = .ok (x, n)
    rw [ev] at e2
    rw [ev2]
    cases z : F w[k].toNat w (k + 1) with
    | error y => rw [z] at e2; cases e2
    | ok y =>
      obtain ⟨a, i⟩ := y
      rw [z] at e2
      rw [h3 _ g2 (k + 1) a i z]
      have e3 : (Except.ok (a, i - k) : Except Jvm.ClassFile.DecodeError (Jvm.ClassFile.Instr × Nat)) = .ok (x, n) := e2
      cases e3
      show Except.ok (_, o + i - (o + k)) = _
      rw [Nat.add_sub_add_left]
  · exfalso
    have : w.data.toList[k]? = none := List.getElem?_eq_none (by simpa using Nat.not_lt.mp q)
    rw [this] at g
    cases g
end WN
theorem wn_mk {A w : ByteArray} {o : Nat} (e : decide (o + w.size ≤ A.size) = true ∧ decide ((A.data.toList.drop o).take w.size = w.data.toList) = true) : wn_H A w o := by
  refine ⟨of_decide_eq_true e.1, fun k hk => ?_⟩
  have l := of_decide_eq_true e.2
  rw [← l, List.getElem?_take_of_lt hk, List.getElem?_drop]
def lw_w0 : ByteArray := .mk #[187, 0, 8, 89, 183, 0, 172, 76, 187, 0, 173, 89, 183, 0, 175, 77, 4, 188, 11, 78, 4, 188, 7, 58, 4, 3, 54, 5, 21, 5, 42, 190, 7, 100, 163, 8, 79, 42, 21, 5, 46, 16, 63, 126, 170, 0, 0, 0, 0, 0, 8, 63, 0, 0, 0, 0, 0, 0, 0, 59, 0, 0, 1, 0, 0, 0, 1, 57, 0, 0, 1, 70]
theorem lw_h0 : wn_H cL_law lw_w0 0 := wn_mk (by decide +kernel)
def lw_w256 : ByteArray := .mk #[0, 0, 6, 195, 0, 0, 6, 223, 0, 0, 6, 251, 0, 0, 7, 47, 0, 0, 7, 87, 0, 0, 7, 115, 0, 0, 7, 155, 0, 0, 7, 183, 0, 0, 7, 223, 0, 0, 8, 7, 0, 0, 8, 35, 43, 42, 21, 5, 4, 96, 46, 133, 16, 32, 121, 42, 21, 5, 5, 96, 46, 133, 20, 0, 176, 127, 129, 182, 0, 178, 87, 44]
theorem lw_h256 : wn_H cL_law lw_w256 256 := wn_mk (by decide +kernel)
def lw_w320 : ByteArray := .mk #[176, 127, 129, 182, 0, 178, 87, 44, 42, 21, 5, 4, 96, 46, 133, 16, 32, 121, 42, 21, 5, 5, 96, 46, 133, 20, 0, 176, 127, 129, 182, 0, 182, 87, 167, 7, 9, 43, 182, 0, 183, 87, 44, 182, 0, 187, 87, 167, 6, 252, 43, 182, 0, 188, 87, 44, 182, 0, 191, 87, 167, 6, 239, 43, 182, 0, 192, 44, 182, 0, 195, 159]
theorem lw_h320 : wn_H cL_law lw_w320 320 := wn_mk (by decide +kernel)
def lw_w384 : ByteArray := .mk #[182, 0, 192, 44, 182, 0, 195, 159, 6, 228, 3, 172, 43, 42, 21, 5, 4, 96, 46, 45, 184, 0, 196, 54, 6, 44, 42, 21, 5, 4, 96, 46, 182, 0, 201, 54, 7, 167, 6, 198, 43, 42, 21, 5, 4, 96, 46, 45, 184, 0, 202, 54, 6, 44, 42, 21, 5, 4, 96, 46, 182, 0, 204, 54, 7, 167, 6, 170, 43, 42, 21, 5]
theorem lw_h384 : wn_H cL_law lw_w384 384 := wn_mk (by decide +kernel)
def lw_w448 : ByteArray := .mk #[7, 167, 6, 170, 43, 42, 21, 5, 4, 96, 46, 45, 184, 0, 205, 54, 6, 44, 42, 21, 5, 4, 96, 46, 182, 0, 207, 54, 7, 167, 6, 142, 43, 42, 21, 5, 4, 96, 46, 42, 21, 5, 5, 96, 46, 45, 184, 0, 208, 54, 6, 44, 42, 21, 5, 4, 96, 46, 42, 21, 5, 5, 96, 46, 182, 0, 211, 54, 7, 167, 6, 102]
theorem lw_h448 : wn_H cL_law lw_w448 448 := wn_mk (by decide +kernel)
def lw_w512 : ByteArray := .mk #[182, 0, 211, 54, 7, 167, 6, 102, 43, 42, 21, 5, 4, 96, 46, 45, 184, 0, 212, 54, 6, 44, 42, 21, 5, 4, 96, 46, 182, 0, 214, 54, 7, 167, 6, 74, 43, 42, 21, 5, 4, 96, 46, 42, 21, 5, 5, 96, 46, 42, 21, 5, 6, 96, 46, 45, 184, 0, 215, 54, 6, 44, 42, 21, 5, 4, 96, 46, 42, 21, 5, 5]
theorem lw_h512 : wn_H cL_law lw_w512 512 := wn_mk (by decide +kernel)
def lw_w576 : ByteArray := .mk #[5, 4, 96, 46, 42, 21, 5, 5, 96, 46, 42, 21, 5, 6, 96, 46, 182, 0, 218, 54, 7, 167, 6, 22, 43, 182, 0, 219, 87, 44, 182, 0, 222, 87, 167, 6, 9, 43, 42, 21, 5, 4, 96, 46, 45, 184, 0, 223, 54, 6, 44, 42, 21, 5, 4, 96, 46, 182, 0, 225, 54, 7, 167, 5, 237, 43, 42, 21, 5, 4, 96, 46]
theorem lw_h576 : wn_H cL_law lw_w576 576 := wn_mk (by decide +kernel)
def lw_w640 : ByteArray := .mk #[237, 43, 42, 21, 5, 4, 96, 46, 42, 21, 5, 5, 96, 46, 45, 184, 0, 226, 54, 6, 44, 42, 21, 5, 4, 96, 46, 42, 21, 5, 5, 96, 46, 182, 0, 228, 54, 7, 167, 5, 197, 43, 42, 21, 5, 4, 96, 46, 45, 184, 0, 229, 54, 6, 44, 42, 21, 5, 4, 96, 46, 182, 0, 231, 54, 7, 167, 5, 169, 43, 42, 21]
theorem lw_h640 : wn_H cL_law lw_w640 640 := wn_mk (by decide +kernel)
def lw_w704 : ByteArray := .mk #[54, 7, 167, 5, 169, 43, 42, 21, 5, 4, 96, 46, 45, 184, 0, 232, 54, 6, 44, 42, 21, 5, 4, 96, 46, 182, 0, 234, 54, 7, 167, 5, 141, 43, 42, 21, 5, 4, 96, 46, 45, 184, 0, 235, 54, 6, 44, 42, 21, 5, 4, 96, 46, 182, 0, 237, 54, 7, 167, 5, 113, 43, 42, 21, 5, 4, 96, 46, 45, 184, 0, 238]
theorem lw_h704 : wn_H cL_law lw_w704 704 := wn_mk (by decide +kernel)
def lw_w768 : ByteArray := .mk #[5, 4, 96, 46, 45, 184, 0, 238, 54, 6, 44, 42, 21, 5, 4, 96, 46, 182, 0, 240, 54, 7, 167, 5, 85, 43, 42, 21, 5, 4, 96, 46, 42, 21, 5, 5, 96, 46, 45, 184, 0, 241, 54, 6, 44, 42, 21, 5, 4, 96, 46, 42, 21, 5, 5, 96, 46, 182, 0, 243, 54, 7, 167, 5, 45, 43, 42, 21, 5, 4, 96, 46]
theorem lw_h768 : wn_H cL_law lw_w768 768 := wn_mk (by decide +kernel)
def lw_w832 : ByteArray := .mk #[45, 43, 42, 21, 5, 4, 96, 46, 42, 21, 5, 5, 96, 46, 45, 184, 0, 244, 54, 6, 44, 42, 21, 5, 4, 96, 46, 42, 21, 5, 5, 96, 46, 182, 0, 246, 54, 7, 167, 5, 5, 43, 42, 21, 5, 4, 96, 46, 45, 184, 0, 247, 54, 6, 44, 42, 21, 5, 4, 96, 46, 182, 0, 249, 54, 7, 167, 4, 233, 43, 42, 21]
theorem lw_h832 : wn_H cL_law lw_w832 832 := wn_mk (by decide +kernel)
def lw_w896 : ByteArray := .mk #[54, 7, 167, 4, 233, 43, 42, 21, 5, 4, 96, 46, 45, 184, 0, 250, 54, 6, 44, 42, 21, 5, 4, 96, 46, 182, 0, 252, 54, 7, 167, 4, 205, 43, 42, 21, 5, 4, 96, 46, 42, 21, 5, 5, 96, 46, 45, 184, 0, 253, 54, 6, 44, 42, 21, 5, 4, 96, 46, 42, 21, 5, 5, 96, 46, 182, 0, 255, 54, 7, 167, 4]
theorem lw_h896 : wn_H cL_law lw_w896 896 := wn_mk (by decide +kernel)
def lw_w960 : ByteArray := .mk #[46, 182, 0, 255, 54, 7, 167, 4, 165, 43, 42, 21, 5, 4, 96, 46, 45, 184, 1, 0, 54, 6, 44, 42, 21, 5, 4, 96, 46, 182, 1, 2, 54, 7, 167, 4, 137, 43, 42, 21, 5, 4, 96, 46, 42, 21, 5, 5, 96, 46, 45, 184, 1, 3, 54, 6, 44, 42, 21, 5, 4, 96, 46, 42, 21, 5, 5, 96, 46, 182, 1, 5]
theorem lw_h960 : wn_H cL_law lw_w960 960 := wn_mk (by decide +kernel)
def lw_w1024 : ByteArray := .mk #[21, 5, 5, 96, 46, 182, 1, 5, 54, 7, 167, 4, 97, 43, 42, 21, 5, 4, 96, 46, 42, 21, 5, 5, 96, 46, 45, 184, 1, 6, 54, 6, 44, 42, 21, 5, 4, 96, 46, 42, 21, 5, 5, 96, 46, 182, 1, 8, 54, 7, 167, 4, 57, 43, 42, 21, 5, 4, 96, 46, 42, 21, 5, 5, 96, 46, 45, 184, 1, 9, 54, 6]
theorem lw_h1024 : wn_H cL_law lw_w1024 1024 := wn_mk (by decide +kernel)
def lw_w1088 : ByteArray := .mk #[96, 46, 45, 184, 1, 9, 54, 6, 44, 42, 21, 5, 4, 96, 46, 42, 21, 5, 5, 96, 46, 182, 1, 11, 54, 7, 167, 4, 17, 43, 42, 21, 5, 4, 96, 46, 45, 184, 1, 12, 54, 6, 44, 42, 21, 5, 4, 96, 46, 182, 1, 14, 54, 7, 167, 3, 245, 43, 42, 21, 5, 4, 96, 46, 42, 21, 5, 5, 96, 46, 45, 184]
theorem lw_h1088 : wn_H cL_law lw_w1088 1088 := wn_mk (by decide +kernel)
def lw_w1152 : ByteArray := .mk #[42, 21, 5, 5, 96, 46, 45, 184, 1, 15, 54, 6, 44, 42, 21, 5, 4, 96, 46, 42, 21, 5, 5, 96, 46, 182, 1, 17, 55, 7, 167, 3, 205, 43, 42, 21, 5, 4, 96, 46, 25, 4, 184, 1, 18, 54, 6, 44, 42, 21, 5, 4, 96, 46, 182, 1, 21, 56, 7, 167, 3, 176, 43, 42, 21, 5, 4, 96, 46, 25, 4, 184]
theorem lw_h1152 : wn_H cL_law lw_w1152 1152 := wn_mk (by decide +kernel)
def lw_w1216 : ByteArray := .mk #[21, 5, 4, 96, 46, 25, 4, 184, 1, 22, 54, 6, 44, 42, 21, 5, 4, 96, 46, 182, 1, 24, 57, 7, 167, 3, 147, 43, 42, 21, 5, 4, 96, 46, 45, 184, 1, 25, 54, 6, 44, 42, 21, 5, 4, 96, 46, 182, 1, 27, 54, 7, 167, 3, 119, 43, 42, 21, 5, 4, 96, 46, 45, 184, 1, 28, 54, 6, 44, 42, 21, 5]
theorem lw_h1216 : wn_H cL_law lw_w1216 1216 := wn_mk (by decide +kernel)
def lw_w1280 : ByteArray := .mk #[1, 28, 54, 6, 44, 42, 21, 5, 4, 96, 46, 182, 1, 30, 54, 7, 167, 3, 91, 43, 42, 21, 5, 4, 96, 46, 45, 184, 1, 31, 54, 6, 44, 42, 21, 5, 4, 96, 46, 182, 1, 33, 54, 7, 167, 3, 63, 43, 42, 21, 5, 4, 96, 46, 45, 184, 1, 34, 54, 6, 44, 42, 21, 5, 4, 96, 46, 182, 1, 36, 54, 7]
theorem lw_h1280 : wn_H cL_law lw_w1280 1280 := wn_mk (by decide +kernel)
def lw_w1344 : ByteArray := .mk #[4, 96, 46, 182, 1, 36, 54, 7, 167, 3, 35, 43, 42, 21, 5, 4, 96, 46, 42, 21, 5, 5, 96, 46, 45, 184, 1, 37, 54, 6, 44, 42, 21, 5, 4, 96, 46, 42, 21, 5, 5, 96, 46, 182, 1, 39, 54, 7, 167, 2, 251, 43, 42, 21, 5, 4, 96, 46, 45, 184, 1, 40, 54, 6, 44, 42, 21, 5, 4, 96, 46, 182]
theorem lw_h1344 : wn_H cL_law lw_w1344 1344 := wn_mk (by decide +kernel)
def lw_w1408 : ByteArray := .mk #[44, 42, 21, 5, 4, 96, 46, 182, 1, 42, 54, 7, 167, 2, 223, 43, 42, 21, 5, 4, 96, 46, 45, 184, 1, 43, 54, 6, 44, 42, 21, 5, 4, 96, 46, 182, 1, 45, 54, 7, 167, 2, 195, 43, 42, 21, 5, 4, 96, 46, 42, 21, 5, 5, 96, 46, 45, 184, 1, 46, 54, 6, 44, 42, 21, 5, 4, 96, 46, 42, 21, 5]
theorem lw_h1408 : wn_H cL_law lw_w1408 1408 := wn_mk (by decide +kernel)
def lw_w1472 : ByteArray := .mk #[21, 5, 4, 96, 46, 42, 21, 5, 5, 96, 46, 182, 1, 48, 54, 7, 167, 2, 155, 43, 42, 21, 5, 4, 96, 46, 45, 184, 1, 49, 54, 6, 44, 42, 21, 5, 4, 96, 46, 182, 1, 51, 54, 7, 167, 2, 127, 43, 182, 1, 52, 87, 44, 182, 1, 55, 87, 167, 2, 114, 43, 182, 1, 56, 87, 44, 182, 1, 59, 87, 167, 2]
theorem lw_h1472 : wn_H cL_law lw_w1472 1472 := wn_mk (by decide +kernel)
def lw_w1536 : ByteArray := .mk #[87, 44, 182, 1, 59, 87, 167, 2, 101, 43, 182, 1, 60, 87, 44, 182, 1, 63, 87, 167, 2, 88, 43, 42, 21, 5, 4, 96, 46, 42, 21, 5, 5, 96, 46, 45, 184, 1, 64, 54, 6, 44, 42, 21, 5, 4, 96, 46, 42, 21, 5, 5, 96, 46, 182, 1, 66, 54, 7, 167, 2, 48, 43, 42, 21, 5, 4, 96, 46, 45, 184, 1]
theorem lw_h1536 : wn_H cL_law lw_w1536 1536 := wn_mk (by decide +kernel)
def lw_w1600 : ByteArray := .mk #[21, 5, 4, 96, 46, 45, 184, 1, 67, 54, 6, 44, 42, 21, 5, 4, 96, 46, 182, 1, 69, 54, 7, 167, 2, 20, 43, 42, 21, 5, 4, 96, 46, 45, 184, 1, 70, 54, 6, 44, 42, 21, 5, 4, 96, 46, 182, 1, 72, 54, 7, 167, 1, 248, 43, 182, 1, 73, 87, 44, 182, 1, 76, 87, 167, 1, 235, 43, 42, 21, 5, 4]
theorem lw_h1600 : wn_H cL_law lw_w1600 1600 := wn_mk (by decide +kernel)
def lw_w1664 : ByteArray := .mk #[167, 1, 235, 43, 42, 21, 5, 4, 96, 46, 42, 21, 5, 5, 96, 46, 45, 184, 1, 77, 54, 6, 44, 42, 21, 5, 4, 96, 46, 42, 21, 5, 5, 96, 46, 182, 1, 79, 54, 7, 167, 1, 195, 43, 42, 21, 5, 4, 96, 46, 42, 21, 5, 5, 96, 46, 45, 184, 1, 80, 54, 6, 44, 42, 21, 5, 4, 96, 46, 42, 21, 5]
theorem lw_h1664 : wn_H cL_law lw_w1664 1664 := wn_mk (by decide +kernel)
def lw_w1728 : ByteArray := .mk #[21, 5, 4, 96, 46, 42, 21, 5, 5, 96, 46, 182, 1, 82, 54, 7, 167, 1, 155, 43, 42, 21, 5, 4, 96, 46, 45, 184, 1, 83, 54, 6, 44, 42, 21, 5, 4, 96, 46, 182, 1, 85, 54, 7, 167, 1, 127, 43, 42, 21, 5, 4, 96, 46, 45, 184, 1, 86, 54, 6, 44, 42, 21, 5, 4, 96, 46, 182, 1, 88, 54, 7]
theorem lw_h1728 : wn_H cL_law lw_w1728 1728 := wn_mk (by decide +kernel)
def lw_w1792 : ByteArray := .mk #[4, 96, 46, 182, 1, 88, 54, 7, 167, 1, 99, 43, 42, 21, 5, 4, 96, 46, 45, 184, 1, 89, 54, 6, 44, 42, 21, 5, 4, 96, 46, 182, 1, 91, 54, 7, 167, 1, 71, 43, 42, 21, 5, 4, 96, 46, 42, 21, 5, 5, 96, 46, 42, 21, 5, 6, 96, 46, 45, 184, 1, 92, 54, 6, 44, 42, 21, 5, 4, 96, 46, 42]
theorem lw_h1792 : wn_H cL_law lw_w1792 1792 := wn_mk (by decide +kernel)
def lw_w1856 : ByteArray := .mk #[44, 42, 21, 5, 4, 96, 46, 42, 21, 5, 5, 96, 46, 42, 21, 5, 6, 96, 46, 182, 1, 94, 54, 7, 167, 1, 19, 43, 42, 21, 5, 4, 96, 46, 42, 21, 5, 5, 96, 46, 45, 184, 1, 95, 54, 6, 44, 42, 21, 5, 4, 96, 46, 42, 21, 5, 5, 96, 46, 182, 1, 97, 54, 7, 167, 0, 235, 43, 42, 21, 5, 4]
theorem lw_h1856 : wn_H cL_law lw_w1856 1856 := wn_mk (by decide +kernel)
def lw_w1920 : ByteArray := .mk #[167, 0, 235, 43, 42, 21, 5, 4, 96, 46, 45, 184, 1, 98, 54, 6, 44, 42, 21, 5, 4, 96, 46, 182, 1, 100, 54, 7, 167, 0, 207, 43, 42, 21, 5, 4, 96, 46, 42, 21, 5, 5, 96, 46, 45, 184, 1, 101, 54, 6, 44, 42, 21, 5, 4, 96, 46, 42, 21, 5, 5, 96, 46, 182, 1, 103, 54, 7, 167, 0, 167, 43]
theorem lw_h1920 : wn_H cL_law lw_w1920 1920 := wn_mk (by decide +kernel)
def lw_w1984 : ByteArray := .mk #[1, 103, 54, 7, 167, 0, 167, 43, 42, 21, 5, 4, 96, 46, 45, 184, 1, 104, 54, 6, 44, 42, 21, 5, 4, 96, 46, 182, 1, 106, 54, 7, 167, 0, 139, 43, 42, 21, 5, 4, 96, 46, 42, 21, 5, 5, 96, 46, 45, 184, 1, 107, 54, 6, 44, 42, 21, 5, 4, 96, 46, 42, 21, 5, 5, 96, 46, 182, 1, 109, 54, 7]
theorem lw_h1984 : wn_H cL_law lw_w1984 1984 := wn_mk (by decide +kernel)
def lw_w2048 : ByteArray := .mk #[5, 96, 46, 182, 1, 109, 54, 7, 167, 0, 99, 43, 42, 21, 5, 4, 96, 46, 42, 21, 5, 5, 96, 46, 45, 184, 1, 110, 54, 6, 44, 42, 21, 5, 4, 96, 46, 42, 21, 5, 5, 96, 46, 182, 1, 112, 54, 7, 167, 0, 59, 43, 42, 21, 5, 4, 96, 46, 45, 184, 1, 113, 54, 6, 44, 42, 21, 5, 4, 96, 46, 182]
theorem lw_h2048 : wn_H cL_law lw_w2048 2048 := wn_mk (by decide +kernel)
def lw_w2112 : ByteArray := .mk #[44, 42, 21, 5, 4, 96, 46, 182, 1, 115, 54, 7, 167, 0, 31, 43, 42, 21, 5, 4, 96, 46, 45, 184, 1, 116, 54, 6, 44, 42, 21, 5, 4, 96, 46, 182, 1, 118, 54, 7, 167, 0, 3, 132, 5, 4, 167, 247, 174, 4, 172]
theorem lw_h2112 : wn_H cL_law lw_w2112 2112 := wn_mk (by decide +kernel)
