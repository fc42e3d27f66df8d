/-! the way through repeat steps -/
def fl_stp (n : Nat) (K T M : Nat → Int32) (k : Nat) (B : Nat → Int32) (k1 : Nat) (B1 : Nat → Int32) : Prop := k < n ∧ K k = 4 ∧ ((¬ M k ≤ B k ∧ k1 = (T k).toInt.toNat ∧ ∀ j : Nat, j < 12 → B1 j = if j = k then B k + 1 else B j) ∨ (M k ≤ B k ∧ k1 = k + 1 ∧ ∀ j : Nat, j < 12 → B1 j = if j = k then 0 else B j))
def fl_run (n : Nat) (K T M : Nat → Int32) : Nat → Nat → (Nat → Int32) → Nat → (Nat → Int32) → Prop
  | 0, k, B, k1, B1 => k1 = k ∧ ∀ j : Nat, j < 12 → B1 j = B j
  | m + 1, k, B, k1, B1 => ∃ (k2 : Nat) (B2 : Nat → Int32), fl_stp n K T M k B k2 B2 ∧ fl_run n K T M m k2 B2 k1 B1
def fl_go (n : Nat) (K : Nat → Int32) (k : Nat) : Prop := k < n ∧ K k = 4
theorem fl_stB {n k k1 : Nat} {K T M B C B1 : Nat → Int32} (hn : n ≤ 12) (e : ∀ j : Nat, j < 12 → C j = B j) (h : fl_stp n K T M k B k1 B1) : fl_stp n K T M k C k1 B1 := by
  obtain ⟨a, b, c⟩ := h
  unfold fl_stp
  rw [e k (by omega)]
  refine ⟨a, b, ?_⟩
  rcases c with ⟨c1, c2, c3⟩ | ⟨c1, c2, c3⟩
  · exact Or.inl ⟨c1, c2, fun j hj => by rw [e j hj]; exact c3 j hj⟩
  · exact Or.inr ⟨c1, c2, fun j hj => by rw [e j hj]; exact c3 j hj⟩
theorem fl_snoc {n : Nat} {K T M : Nat → Int32} (hn : n ≤ 12) : ∀ (m : Nat) {k k2 k1 : Nat} {B B2 B1 : Nat → Int32}, fl_run n K T M m k B k2 B2 → fl_stp n K T M k2 B2 k1 B1 → fl_run n K T M (m + 1) k B k1 B1
  | 0, k, k2, k1, B, B2, B1, h, s => by
    obtain ⟨e, h⟩ := h
    subst e
    exact ⟨k1, B1, fl_stB hn (fun j hj => (h j hj).symm) s, rfl, fun _ _ => rfl⟩
  | m + 1, k, k2, k1, B, B2, B1, h, s => by
    obtain ⟨x, X, h1, h2⟩ := h
    exact ⟨x, X, h1, fl_snoc hn m h2 s⟩
/-- one step has one end -/
theorem fl_st1 {n k a b : Nat} {K T M B C X Y : Nat → Int32} (hn : n ≤ 12) (e : ∀ j : Nat, j < 12 → C j = B j) (h : fl_stp n K T M k B a X) (g : fl_stp n K T M k C b Y) : b = a ∧ ∀ j : Nat, j < 12 → Y j = X j := by
  have g := fl_stB hn (fun j hj => (e j hj).symm) g
  obtain ⟨h0, _, h⟩ := h
  obtain ⟨_, _, g⟩ := g
  rcases h with ⟨h1, h2, h3⟩ | ⟨h1, h2, h3⟩
  · rcases g with ⟨g1, g2, g3⟩ | ⟨g1, g2, g3⟩
    · exact ⟨g2.trans h2.symm, fun j hj => by rw [g3 j hj, h3 j hj]⟩
    · exact absurd g1 h1
  · rcases g with ⟨g1, g2, g3⟩ | ⟨g1, g2, g3⟩
    · exact absurd h1 g1
    · exact ⟨g2.trans h2.symm, fun j hj => by rw [g3 j hj, h3 j hj]⟩
theorem fl_rn1 {n : Nat} {K T M : Nat → Int32} (hn : n ≤ 12) : ∀ (m r : Nat) {k a b : Nat} {B C X Y : Nat → Int32}, (∀ j : Nat, j < 12 → C j = B j) → fl_run n K T M m k B a X → fl_run n K T M r k C b Y → ¬ fl_go n K a → ¬ fl_go n K b → m = r ∧ b = a ∧ ∀ j : Nat, j < 12 → Y j = X j
  | 0, 0, k, a, b, B, C, X, Y, e, h, g, ha, hb => ⟨rfl, g.1.trans h.1.symm, fun j hj => by rw [g.2 j hj, h.2 j hj, e j hj]⟩
  | 0, r + 1, k, a, b, B, C, X, Y, e, h, g, ha, hb => by
    obtain ⟨x, Z, s, _⟩ := g
    exact (ha (by rw [h.1]; exact ⟨s.1, s.2.1⟩)).elim
  | m + 1, 0, k, a, b, B, C, X, Y, e, h, g, ha, hb => by
    obtain ⟨x, Z, s, _⟩ := h
    exact (hb (by rw [g.1]; exact ⟨s.1, s.2.1⟩)).elim
  | m + 1, r + 1, k, a, b, B, C, X, Y, e, h, g, ha, hb => by
    obtain ⟨x, Z, s, h⟩ := h
    obtain ⟨y, V, t, g⟩ := g
    obtain ⟨e1, e2⟩ := fl_st1 hn e s t
    subst e1
    obtain ⟨q1, q2, q3⟩ := fl_rn1 hn m r e2 h g ha hb
    exact ⟨by omega, q2, q3⟩
/-- what holds of a program, and below the place -/
def fl_pg (n : Nat) (K T M : Nat → Int32) : Prop := n ≤ 12 ∧ ∀ j : Nat, j < n → K j = 4 → 0 ≤ (T j).toInt ∧ (T j).toInt < (j : Int) ∧ 1 ≤ (M j).toInt
def fl_lo (K : Nat → Int32) (k : Nat) (B : Nat → Int32) : Prop := ∀ j : Nat, j < k → K j = 4 → B j = 0
/-- up the steps, and then only down -/
def fl_ud (n : Nat) (K : Nat → Int32) (k m u : Nat) (B : Nat → Int32) : Prop := u ≤ n ∧ fl_lo K u B ∧ (u = k + m ∨ ∃ t : Nat, u < t ∧ t < n ∧ k ≤ t ∧ m ≤ (t - k) + (t - u) ∧ fl_lo K (u + 1) B)
theorem fl_ud1 {n k m u v : Nat} {K T M B C : Nat → Int32} (hp : fl_pg n K T M) (h : fl_ud n K k m u B) (s : fl_stp n K T M u B v C) : fl_ud n K k (m + 1) v C := by
  obtain ⟨h1, h2, h3⟩ := h
  obtain ⟨s1, s2, s3⟩ := s
  obtain ⟨p1, p2, p3⟩ := hp.2 u s1 s2
  have hn := hp.1
  have z : (0 : Int32).toInt = 0 := by decide
  rcases s3 with ⟨a1, a2, a3⟩ | ⟨a1, a2, a3⟩
  · have low : ∀ t : Nat, t ≤ u → fl_lo K t C := fun t ht j hj hk => by
      rw [a3 j (by omega), if_neg (by omega)]
      exact h2 j (by omega) hk
    refine ⟨by omega, low v (by omega), Or.inr ?_⟩
    rcases h3 with e | ⟨t, t1, t2, t3, t4, t5⟩
    · exact ⟨u, by omega, s1, by omega, by omega, low (v + 1) (by omega)⟩
    · exact ⟨t, by omega, t2, t3, by omega, low (v + 1) (by omega)⟩
  · rcases h3 with e | ⟨t, t1, t2, t3, t4, t5⟩
    · refine ⟨by omega, fun j hj hk => ?_, Or.inl (by omega)⟩
      rw [a3 j (by omega)]
      by_cases q : j = u
      · rw [if_pos q]
      · rw [if_neg q]; exact h2 j (by omega) hk
    · have := t5 u (by omega) s2
      rw [this, Int32.le_iff_toInt_le, z] at a1
      omega
theorem fl_udr {n k : Nat} {K T M : Nat → Int32} (hp : fl_pg n K T M) : ∀ (r m : Nat) {u v : Nat} {B C : Nat → Int32}, fl_ud n K k m u B → fl_run n K T M r u B v C → fl_ud n K k (m + r) v C
  | 0, m, u, v, B, C, h, g => by
    obtain ⟨g1, g2⟩ := g
    obtain ⟨h1, h2, h3⟩ := h
    subst g1
    have hn := hp.1
    have lo : ∀ t : Nat, t ≤ v + 1 → t ≤ n → fl_lo K t B → fl_lo K t C := fun t _ ht q j hj hk => by rw [g2 j (by omega)]; exact q j hj hk
    refine ⟨h1, lo v (by omega) h1 h2, h3.imp id (fun ⟨t, t1, t2, t3, t4, t5⟩ => ⟨t, t1, t2, t3, t4, lo (v + 1) (by omega) (by omega) t5⟩)⟩
  | r + 1, m, u, v, B, C, h, g => by
    obtain ⟨x, X, s, g⟩ := g
    have := fl_udr hp r (m + 1) (fl_ud1 hp h s) g
    rw [show m + (r + 1) = m + 1 + r from by omega]
    exact this
/-- at most so many steps, and below the end all numbers are 0 -/
theorem fl_rnb {n k m v : Nat} {K T M B C : Nat → Int32} (hp : fl_pg n K T M) (hk : k ≤ n) (hl : fl_lo K k B) (h : fl_run n K T M m k B v C) : m ≤ 24 ∧ v ≤ n ∧ fl_lo K v C := by
  have hn := hp.1
  obtain ⟨a, b, c⟩ := fl_udr hp m 0 (k := k) ⟨hk, hl, Or.inl rfl⟩ h
  refine ⟨?_, a, b⟩
  rcases c with e | ⟨t, t1, t2, t3, t4, _⟩
  · omega
  · omega
theorem fl_at12 {b : Nat → Int32} {i r : Int32} {K : Nat} (hi : i.toInt = K) (hK : K < 12) (h : a_X10_at_12 b i r) : r = b K := by
  have t : (12 : Int32).toInt = 12 := by decide
  have z : (0 : Int32).toInt = 0 := by decide
  rcases h with ⟨n, _⟩ | ⟨_, ⟨_, h⟩ | ⟨n, _⟩⟩
  · rw [Int32.lt_iff_toInt_lt] at n; omega
  · rw [h]
    exact congrArg b (by show i.toInt.toNat = K; omega)
  · rw [Int32.lt_iff_toInt_lt] at n; omega
theorem fl_p12 {b b1 : Nat → Int32} {i v : Int32} {K : Nat} (hi : i.toInt = K) (hK : K < 12) (h : a_X10_put_12 b i v b1) : b1 = upd b K v := by
  have t : (12 : Int32).toInt = 12 := by decide
  have z : (0 : Int32).toInt = 0 := by decide
  rcases h with ⟨n, _⟩ | ⟨_, ⟨n, _⟩ | ⟨_, h⟩⟩
  · rw [Int32.lt_iff_toInt_lt] at n; omega
  · rw [Int32.le_iff_toInt_le] at n; omega
  · rw [h, show i.toNatClampNeg = K from by show i.toInt.toNat = K; omega]
/-- the class goes this way -/
theorem fl_sb {fsps fk ff fs : Nat → Int32} {prg : Int32} {P n : Nat} (hp : prg.toInt = P) (hP : P < 4) (hs : fsps P = Int32.ofNat n) (pg : fl_pg n (fun j => fk (12 * P + j)) (fun j => ff (12 * P + j)) (fun j => fs (12 * P + j))) : ∀ (m : Nat) {k r : Int32} {B C : Nat → Int32} {k0 : Nat}, k.toInt = k0 → k0 ≤ n → a_sb fsps fk ff fs prg m k B r C → ∃ (q r0 : Nat), q ≤ m ∧ r.toInt = r0 ∧ fl_run n (fun j => fk (12 * P + j)) (fun j => ff (12 * P + j)) (fun j => fs (12 * P + j)) q k0 B r0 C ∧ (q = m ∨ ¬ fl_go n (fun j => fk (12 * P + j)) r0)
  | 0, k, r, B, C, k0, hk, hn, h => by
    obtain ⟨e1, e2⟩ := h
    subst e1 e2
    exact ⟨0, k0, Nat.le_refl _, hk, ⟨rfl, fun _ _ => rfl⟩, Or.inl rfl⟩
  | m + 1, k, r, B, C, k0, hk, hn, h => by
    obtain ⟨st, h1, h2⟩ := h
    have hn12 := pg.1
    have es := fl_so hp hP h1
    rw [hs] at es
    have et : st.toInt = n := by rw [es]; exact fl_on (by omega)
    rcases h2 with ⟨a, e1, e2⟩ | ⟨a, kd, h3, h4⟩
    · subst e1 e2
      rw [Int32.le_iff_toInt_le] at a
      exact ⟨0, k0, by omega, hk, ⟨rfl, fun _ _ => rfl⟩, Or.inr (fun q => by have := q.1; omega)⟩
    · rw [Int32.le_iff_toInt_le] at a
      have ek := fl_kd hp hk hP (by omega) h3
      rcases h4 with ⟨b, e1, e2⟩ | ⟨b, t, s, h5, h6, h7⟩
      · subst e1 e2
        exact ⟨0, k0, by omega, hk, ⟨rfl, fun _ _ => rfl⟩, Or.inr (fun q => b (ek.trans q.2))⟩
      · have e5 := fl_at12 hk (by omega) h5
        have e6 := fl_sc hp hk hP (by omega) h6
        have kk : fk (12 * P + k0) = 4 := ek.symm.trans b
        obtain ⟨p1, p2, p3⟩ := pg.2 k0 (by omega) kk
        have p1 : 0 ≤ (ff (12 * P + k0)).toInt := p1
        have p2 : (ff (12 * P + k0)).toInt < (k0 : Int) := p2
        rcases h7 with ⟨c, B2, k2, h8, h9, h10⟩ | ⟨c, B2, h8, h10⟩
        · have e8 := fl_p12 hk (by omega) h8
          have e9 := fl_fs hp hk hP (by omega) h9
          have i2 : k2.toInt = (ff (12 * P + k0)).toInt.toNat := by rw [e9]; show (ff (12 * P + k0)).toInt = _; omega
          obtain ⟨q, r0, q1, q2, q3, q4⟩ := fl_sb hp hP hs pg m i2 (by omega) h10
          refine ⟨q + 1, r0, by omega, q2, ⟨(ff (12 * P + k0)).toInt.toNat, B2, ⟨by omega, kk, Or.inl ⟨?_, rfl, fun j hj => ?_⟩⟩, q3⟩, q4.imp (by omega) id⟩
          · show ¬ fs (12 * P + k0) ≤ B k0
            rw [← e6, ← e5]; exact c
          · rw [e8, e5]; rfl
        · have e8 := fl_p12 hk (by omega) h8
          have i2 : (k + Int32.ofInt 1).toInt = (k0 + 1 : Nat) := by rw [rf_oi (by omega)]; omega
          obtain ⟨q, r0, q1, q2, q3, q4⟩ := fl_sb hp hP hs pg m i2 (by omega) h10
          refine ⟨q + 1, r0, by omega, q2, ⟨k0 + 1, B2, ⟨by omega, kk, Or.inr ⟨?_, rfl, fun j hj => ?_⟩⟩, q3⟩, q4.imp (by omega) id⟩
          · show fs (12 * P + k0) ≤ B k0
            rw [← e6, ← e5]; exact c
          · rw [e8]; rfl
