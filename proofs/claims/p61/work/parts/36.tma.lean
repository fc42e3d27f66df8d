/-! the time: where it is known, and what keeps it -/
theorem rp_ngA {a b c : Int32} (h : a < b) : ¬ (b.toInt ≤ a.toInt ∧ a.toInt ≤ c.toInt) := by
  rw [Int32.lt_iff_toInt_lt] at h
  omega
theorem rp_ngB {a b c : Int32} (h : ¬ a ≤ c) : ¬ (b.toInt ≤ a.toInt ∧ a.toInt ≤ c.toInt) := by
  rw [Int32.le_iff_toInt_le] at h
  omega
theorem rp_ngC {a b c : Int32} (h : ¬ a < b) (k : a ≤ c) : b.toInt ≤ a.toInt ∧ a.toInt ≤ c.toInt := by
  rw [Int32.lt_iff_toInt_lt] at h
  rw [Int32.le_iff_toInt_le] at k
  omega
theorem rp_01 {p : Int32} (h : (0 : Int32).toInt ≤ p.toInt ∧ p.toInt ≤ (1 : Int32).toInt) : p = 0 ∨ p = 1 := by
  have z : (0 : Int32).toInt = 0 := by decide
  have o : (1 : Int32).toInt = 1 := by decide
  rcases (by omega : p.toInt = 0 ∨ p.toInt = 1) with q | q
  · exact Or.inl (Int32.toInt_inj.mp (q.trans z.symm))
  · exact Or.inr (Int32.toInt_inj.mp (q.trans o.symm))
theorem rp_n01 {p : Int32} (h : ¬ ((0 : Int32).toInt ≤ p.toInt ∧ p.toInt ≤ (1 : Int32).toInt)) : ¬ (p = 0 ∨ p = 1) := by
  rintro (q | q)
  · subst q
    exact h (by decide)
  · subst q
    exact h (by decide)
theorem rp_n5k {p : Int32} (h : ¬ ((1 : Int32).toInt ≤ p.toInt ∧ p.toInt ≤ (5000 : Int32).toInt)) : ¬ (1 ≤ p.toInt ∧ p.toInt ≤ 5000) := by
  have o : (1 : Int32).toInt = 1 := by decide
  have z : (5000 : Int32).toInt = 5000 := by decide
  omega
theorem rp_i01 {p : Int32} {u v0 v1 : Option Nat} (h : (p = 0 ∧ u = v0) ∨ (p = 1 ∧ u = v1)) : ¬ p < 0 ∧ p < 2 ∧ vp_in p 2 := by
  rcases h with ⟨q, _⟩ | ⟨q, _⟩
  · subst q
    exact ⟨by decide, by decide, cm_vin (by decide)⟩
  · subst q
    exact ⟨by decide, by decide, cm_vin (by decide)⟩
theorem rp_j01 {p : Int32} {u0 u1 v0 v1 w0 w1 : Option Nat} (h : (p = 0 ∧ u0 = w0 ∧ u1 = v1) ∨ (p = 1 ∧ u0 = v0 ∧ u1 = w1)) : ¬ p < 0 ∧ ¬ (2 : Int32) ≤ p ∧ vp_in p 2 := by
  rcases h with ⟨q, _⟩ | ⟨q, _⟩
  · subst q
    exact ⟨by decide, by decide, cm_vin (by decide)⟩
  · subst q
    exact ⟨by decide, by decide, cm_vin (by decide)⟩
def rp_rs (p : Int32) (v0 v1 : Option Nat) (t τ0 τ1 t1 r : Int32) : Prop := (p = 0 ∧ ((v0 = none ∧ t1 = t ∧ r = -1) ∨ (¬ v0 = none ∧ t1 = τ0 ∧ r = τ0))) ∨ (p = 1 ∧ ((v1 = none ∧ t1 = t ∧ r = -1) ∨ (¬ v1 = none ∧ t1 = τ1 ∧ r = τ1)))
def rp_sp (p t : Int32) (v0 v1 : Option Nat) (τ0 τ1 : Int32) (v01 v11 : Option Nat) (τ01 τ11 : Int32) : Prop := (p = 0 ∧ (∃ a : Nat, v01 = some a) ∧ v11 = v1 ∧ τ01 = t ∧ τ11 = τ1) ∨ (p = 1 ∧ v01 = v0 ∧ (∃ a : Nat, v11 = some a) ∧ τ01 = τ0 ∧ τ11 = t)
def rp_lt (b : Nat → Int32) (n t : Int32) : Int32 := if rp_K b n = 0 then 0 else t
theorem rp_Kn {b : Nat → Int32} {n er ep nc : Int32} (h : rp_T b n er ep nc) (h0 : ¬ er = 0) : ¬ rp_K b n = 0 := by
  rw [(h.2 h0).1]
  exact h0
/-- while a world is taken over -/
def rp_W2 {sp : Nat} (ps : rp_PS sp) (a : Nat) (tm nc : Int32) (cu na pr ch : Nat) (ws : va_W) : Prop := (rp_S ps cu na pr ch ws ∧ ty_fc a 9 0 (.int tm) ws) ∧ ty_fc a 9 4 (.int nc) ws
def rp_xW2 {sp : Nat} (ps : rp_PS sp) (a ch c k b : Nat) : Prop := (rp_xS ps ch c k b ∧ ¬ (c = 9 ∧ k = 0 ∧ b = a)) ∧ ¬ (c = 9 ∧ k = 4 ∧ b = a)
section RPW
variable {sp : Nat} {ps : rp_PS sp} {a cu na pr ch : Nat} {tm nc : Int32}
theorem rp_W2C : ty_C (rp_W2 ps a tm nc cu na pr ch) (rp_xW2 ps a ch) := ty_Cand (ty_Cand rp_SC ty_fcB) ty_fcB
theorem rp_W21 : ty_y1 (rp_xW2 ps a ch) := rp_m1 (rp_m1 rp_S1)
theorem rp_W27 : ty_yc (rp_xW2 ps a ch) 7 := rp_m7 (rp_m7 rp_S7)
theorem rp_W20 (c : Nat) (h : c = 2 ∨ c = 5 ∨ c = 11) : ty_y0 (rp_xW2 ps a ch) c := rp_m0 (by omega) (rp_m0 (by omega) (rp_S0y c h))
theorem rp_W2h {z : Nat} (hx : ps.x 9 0 z) (h4 : ps.x 9 4 z) (hne : ¬ z = a) : rp_xW2 ps a ch 9 0 z ∧ rp_xW2 ps a ch 9 4 z :=
  ⟨⟨⟨rp_Sx (Or.inl rfl) hx, fun q => hne q.2.2⟩, fun q => hne q.2.2⟩, ⟨rp_Sx (Or.inr rfl) h4, fun q => hne q.2.2⟩, fun q => hne q.2.2⟩
end RPW
section RPV
variable {w sp sv z q : Nat} {v0 v1 u0 u1 r0 r1 aw q0 q1 : Option Nat} {t τ0 τ1 : Int32}
theorem rp_P34 : (rp_P3 sp sv v0 v1 aw q0 q1 t τ0 τ1).x 9 4 z := ⟨fun h => absurd h (by decide), fun h => absurd h.2.1 (by decide), fun h => absurd h.2.1 (by decide), fun h => absurd h.2.1 (by decide)⟩
theorem rp_Pw (h : rp_sd w sp v0 v1) : (rp_P3 sp sv v0 v1 none v0 v1 t τ0 τ1).x 9 0 w := ⟨fun q => absurd q (by decide), (fun q => by cases q.2.2), fun q => (h.2.1 _ q.2.2).1 rfl, fun q => (h.2.2.1 _ q.2.2).1 rfl⟩
theorem rp_Pv0 (h : rp_sd w sp u0 u1) (e : u0 = some z) : (rp_P3 sp sv r0 r1 (some w) none u1 t τ0 τ1).x 9 0 z := ⟨fun q => absurd q (by decide), fun q => (h.2.1 _ e).1 (Option.some.inj q.2.2).symm, (fun q => by cases q.2.2), fun q => h.2.2.2 _ e q.2.2⟩
theorem rp_Pv1 (h : rp_sd w sp u0 u1) (e : u1 = some z) : (rp_P3 sp sv r0 r1 (some w) u0 none t τ0 τ1).x 9 0 z := ⟨fun q => absurd q (by decide), fun q => (h.2.2.1 _ e).1 (Option.some.inj q.2.2).symm, fun q => h.2.2.2 _ q.2.2 e, (fun q => by cases q.2.2)⟩
theorem rp_sd0 (h : rp_sd w sp v0 v1) (h1 : ¬ w = q) (h2 : ¬ sp = q) (h3 : ∀ v9 : Nat, v1 = some v9 → ¬ v9 = q) : rp_sd w sp (some q) v1 :=
  ⟨h.1, fun v e => ⟨fun x => h1 (x.symm.trans (Option.some.inj e).symm), fun x => h2 (x.symm.trans (Option.some.inj e).symm)⟩, h.2.2.1, fun v e x => h3 v x (Option.some.inj e).symm⟩
theorem rp_sd1 (h : rp_sd w sp v0 v1) (h1 : ¬ w = q) (h2 : ¬ sp = q) (h3 : ∀ v9 : Nat, v0 = some v9 → ¬ v9 = q) : rp_sd w sp v0 (some q) :=
  ⟨h.1, h.2.1, fun v e => ⟨fun x => h1 (x.symm.trans (Option.some.inj e).symm), fun x => h2 (x.symm.trans (Option.some.inj e).symm)⟩, fun v e x => h3 v e (Option.some.inj x).symm⟩
end RPV
theorem rp_rwu {A : Nat → Prop} {E ws : va_W} {sv : Nat} {v0 v1 : Option Nat} (hD : va_D A (E ++ ws)) (r : rp_rw sv v0 v1 ws) {j n : Nat} {cA : ClassId} {f : Nat → Option Nat} (hj : ws[j]? = some (sv, .inl (cA, n, .inr (.inr (.inr (.inr f)))))) : f 0 = v0 ∧ f 1 = v1 := by
  obtain ⟨i, n', cA', g, h1, h2, h3⟩ := r
  have d := hD.1 _ _ _ _ (ty_app hj) (ty_app h1) rfl
  have e : j = i := by omega
  subst e
  rw [hj] at h1
  cases h1
  exact ⟨h2, h3⟩
theorem rp_rwS {A : Nat → Prop} {E ws : va_W} {ct : Nat → ClassId} {S : ty_S} {sv n v : Nat} {v0 v1 : Option Nat} (hD : va_D A (E ++ ws)) (hW : ty_W ct S ws) (hs : S sv = some (.inr (4, n))) (r : rp_rw sv v0 v1 ws) (h : v0 = some v ∨ v1 = some v) : S v = some (.inl 9) := by
  obtain ⟨j, e9, hj, hn, f, rfl, hf⟩ := hW sv _ hs
  have e := rp_rwu hD r hj
  rcases h with q | q
  · exact hf 0 v (e.1.trans q)
  · exact hf 1 v (e.2.trans q)
theorem rp_kp {A : Nat → Prop} {E ws : va_W} (hD : va_D A (E ++ ws)) {sp sv ch cu na pr : Nat} {v0 v1 aw q0 q1 u0 u1 : Option Nat} {t τ0 τ1 : Int32} (hc : sv ≠ ch) {j n v : Nat} {cA : ClassId} {f : Nat → Option Nat} (hj : ws[j]? = some (sv, .inl (cA, n, .inr (.inr (.inr (.inr f)))))) (h : rp_S (rp_P3 sp sv v0 v1 aw q0 q1 t τ0 τ1) cu na pr ch ws) {i : Int32} (hi : (i = 0 ∧ u0 = some v ∧ u1 = v1) ∨ (i = 1 ∧ u0 = v0 ∧ u1 = some v)) : rp_S (rp_P3 sp sv u0 u1 aw q0 q1 t τ0 τ1) cu na pr ch (ws.set j (sv, .inl (cA, n, .inr (.inr (.inr (.inr (va_up f i.toNatClampNeg (some v)))))))) := by
  obtain ⟨a1, a2, a3, a4, a5, r, o0, o1, o2⟩ := h
  have hl : j < ws.length := (List.getElem?_eq_some_iff.mp hj).1
  have e := rp_rwu hD r hj
  have m : ∀ (p : va_W → Prop) (x : Nat → Nat → Nat → Prop), ty_C p x → x 14 0 sv → p ws → p (ws.set j (sv, .inl (cA, n, .inr (.inr (.inr (.inr (va_up f i.toNatClampNeg (some v)))))))) := fun p x c y z => c.2.2.2.1 _ _ _ _ _ _ _ hj y z
  refine ⟨m _ _ ty_fcC (fun q => absurd q.1 (by decide)) a1, m _ _ ty_fcC (fun q => absurd q.1 (by decide)) a2, m _ _ ty_fcC (fun q => absurd q.1 (by decide)) a3, m _ _ ty_fcC (fun q => absurd q.1 (by decide)) a4, m _ _ ty_fqC (fun _ => hc) a5, ⟨j, n, cA, _, List.getElem?_set_self hl, ?_, ?_⟩, m _ _ rp_otC (fun q => absurd q.1 (by decide)) o0, m _ _ rp_otC (fun q => absurd q.1 (by decide)) o1, m _ _ rp_otC (fun q => absurd q.1 (by decide)) o2⟩
  · unfold va_up
    rcases hi with ⟨q, q1, _⟩ | ⟨q, q1, _⟩
    · rw [q, q1]
      exact if_pos (by decide)
    · rw [q, q1, ← e.1]
      exact if_neg (by decide)
  · unfold va_up
    rcases hi with ⟨q, _, q1⟩ | ⟨q, _, q1⟩
    · rw [q, q1, ← e.2]
      exact if_neg (by decide)
    · rw [q, q1]
      exact if_pos (by decide)
