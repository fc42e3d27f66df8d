theorem cp_loss {f G : Nat → Int32} {su : Nat → Int64} {p r th re : Int32} {o o1 : Nat → Int64} {W : fw_W} {x : Nat → fw_C} (Z : fl_Z True f su W x) (hG : f 9 = G 9 ∧ f 10 = G 10) (c : t_L_loss p o W r o1) (m : q_X11_loss f G p re th) : cp_R r th re o1 := by
  refine cp_A (fl_cc Z.1.1.2.2.1 hG.1) c m (fun v r1 t m => ?_)
  have R := Z.2.2.2.1
  have b12 := R.2.1
  obtain ⟨y1, y2, y3, ⟨⟨a1, a2⟩, a3⟩, a4, a5⟩ := t
  obtain ⟨i1, i2, i3, ⟨⟨⟨d1, d2⟩, d3⟩, _⟩, d4, d5⟩ := m
  have a2 := fl_l12 R a2
  rw [← R.1] at a4
  rw [fl_lp rfl a2 a4] at a3
  rw [fl_lp rfl d2 d4] at d3
  obtain ⟨e1, e2, e3⟩ := fl_ls3 R _ _ _ _ _ (by omega) a3 d3
  rw [show (2 : Int32).toInt.toNat = 2 from by decide, ← e1, ← e2] at d5
  have m1 : ¬ (-1 : Int32).toInt ≥ 0 := by decide
  rcases a5 with ⟨n, r10, g1, r15, g2, t⟩ | ⟨n, t⟩
  · rcases e3 with ⟨z1, z2⟩ | ⟨k, l, k1, l1, k2, l2⟩
    · exact absurd (z1.trans z2.symm) n
    · have u1 : y1.toInt = k := by rw [k2]; exact fl_on (by omega)
      have u2 : y2.toInt = l := by rw [l2]; exact fl_on (by omega)
      have q1 := fl_get R (i := y1) (by omega) (K := 2) (by decide) (by omega) g1
      have q2 := fl_get R (i := y2) (by omega) (K := 2) (by decide) (by omega) g2
      obtain ⟨_, m2, m3⟩ := d5.resolve_right (fun z => by
        have := congrArg Int32.toInt z.1
        omega)
      exact ⟨m3, by rw [t, q1, q2, m2]⟩
  · rcases d5 with ⟨q, m2, m3⟩ | ⟨q, m2, m3⟩
    · refine ⟨m3, ?_⟩
      rw [t, m2, n]
      exact (Int32.sub_self _).symm
    · exact ⟨m3, by rw [t, m2]⟩
theorem cp_chargeEfficiency {f G : Nat → Int32} {su : Nat → Int64} {p r th : Int32} {re : UInt32} {v v1 : Nat → UInt64} {W : fw_W} {x : Nat → fw_C} (Z : fl_Z True f su W x) (hG : f 9 = G 9 ∧ f 10 = G 10) (c : t_L_chargeEfficiency p v W x r v1) (m : q_X11_chargeEfficiency G su p re th) : (¬ r = 0 ∧ th = r) ∨ (r = 0 ∧ th = r ∧ v1 (0 : Int32).toNatClampNeg = FP.f2d re) := by
  have hc9 := fl_cc (p := p) Z.1.1.2.2.1 hG.1
  obtain ⟨_, _, m⟩ := m
  rcases c with ⟨q, r1, t, c1, c2⟩ | ⟨q, c1, c2⟩
  · obtain ⟨⟨v8, _⟩, m⟩ := m.resolve_right (fun z => z.1.1 (hc9.mp q))
    obtain ⟨e, U, cb, cs, N, A, b6, k0, kk, C⟩ := fl_fe Z hG v8
    have hc : 0 ≤ p.toInt ∧ p.toInt < 6 := ⟨v8.1, b6⟩
    obtain ⟨r9, s9, m⟩ := m
    have e9 : r9 = (x p.toNatClampNeg).2.1 0 := (fl_sum hc (K := 0) (by decide) (by omega) s9).trans U.2.2.2.1.1
    have key : th = 0 ∧ r1 = re := by
      rcases t with ⟨n, t⟩ | ⟨n, t⟩
      · rcases m with ⟨_, r16, s16, r22, s22, m1, m2⟩ | ⟨z, _⟩
        · have e16 : r16 = (x p.toNatClampNeg).2.1 1 := (fl_sum hc (K := 1) (by decide) (by omega) s16).trans U.2.2.2.1.2.1
          have e22 : r22 = (x p.toNatClampNeg).2.1 0 := (fl_sum hc (K := 0) (by decide) (by omega) s22).trans U.2.2.2.1.1
          exact ⟨m2, by rw [t, m1, e16, e22]⟩
        · rw [e9] at z
          exact absurd z n
      · rcases m with ⟨z, _⟩ | ⟨_, m1, m2⟩
        · rw [e9] at z
          exact absurd n z
        · exact ⟨m2, by rw [t, m1]⟩
    refine Or.inr ⟨c1, by rw [key.1, c1], ?_⟩
    rw [c2, ← key.2]
    exact if_pos rfl
  · obtain ⟨_, _, m2⟩ := m.resolve_left (fun z => q (hc9.mpr z.1.1))
    exact Or.inl ⟨by rw [c1]; decide, by rw [m2, c1]⟩
theorem cp_energyEfficiency {f G : Nat → Int32} {su : Nat → Int64} {p r th : Int32} {re : UInt64} {v v1 : Nat → UInt64} {W : fw_W} {x : Nat → fw_C} (Z : fl_Z True f su W x) (hG : f 9 = G 9 ∧ f 10 = G 10) (c : t_L_energyEfficiency p v W x r v1) (m : q_X11_energyEfficiency G su p re th) : (¬ r = 0 ∧ th = r) ∨ (r = 0 ∧ th = r ∧ v1 (0 : Int32).toNatClampNeg = re) := by
  have hc9 := fl_cc (p := p) Z.1.1.2.2.1 hG.1
  obtain ⟨_, _, m⟩ := m
  rcases c with ⟨q, r1, t, c1, c2⟩ | ⟨q, c1, c2⟩
  · obtain ⟨⟨v8, _⟩, m⟩ := m.resolve_right (fun z => z.1.1 (hc9.mp q))
    obtain ⟨e, U, cb, cs, N, A, b6, k0, kk, C⟩ := fl_fe Z hG v8
    have hc : 0 ≤ p.toInt ∧ p.toInt < 6 := ⟨v8.1, b6⟩
    obtain ⟨r9, s9, m⟩ := m
    have e9 : r9 = (x p.toNatClampNeg).2.1 2 := (fl_sum hc (K := 2) (by decide) (by omega) s9).trans cs.1
    have key : th = 0 ∧ r1 = re := by
      rcases t with ⟨n, t⟩ | ⟨n, t⟩
      · rcases m with ⟨_, r16, s16, r22, s22, m1, m2⟩ | ⟨z, _⟩
        · have e16 : r16 = (x p.toNatClampNeg).2.1 3 := (fl_sum hc (K := 3) (by decide) (by omega) s16).trans cs.2
          have e22 : r22 = (x p.toNatClampNeg).2.1 2 := (fl_sum hc (K := 2) (by decide) (by omega) s22).trans cs.1
          exact ⟨m2, by rw [t, m1, e16, e22]⟩
        · rw [e9] at z
          exact absurd z n
      · rcases m with ⟨z, _⟩ | ⟨_, m1, m2⟩
        · rw [e9] at z
          exact absurd n z
        · exact ⟨m2, by rw [t, m1]⟩
    refine Or.inr ⟨c1, by rw [key.1, c1], ?_⟩
    rw [c2, ← key.2]
    exact if_pos rfl
  · obtain ⟨_, _, m2⟩ := m.resolve_left (fun z => q (hc9.mpr z.1.1))
    exact Or.inl ⟨by rw [c1]; decide, by rw [m2, c1]⟩
/-- the bits of a mask, and how many they are -/
def fl_cm (m : Nat) : Nat → Int32
  | 0 => 0
  | n + 1 => if m.testBit n then fl_cm m n ||| ((1 : Int32) <<< (Int32.ofNat n &&& 31)) else fl_cm m n
def fl_cn (m : Nat) : Nat → Int32
  | 0 => 0
  | n + 1 => fl_cn m n + (if m.testBit n then 1 else 0)
theorem fl_msk (P : Nat → Prop) : ∀ k : Nat, ∃ m : Nat, m < 2 ^ k ∧ ∀ i : Nat, i < k → (m.testBit i = true ↔ P i)
  | 0 => ⟨0, by decide, fun i h => absurd h (Nat.not_lt_zero i)⟩
  | k + 1 => by
    obtain ⟨m, h1, h2⟩ := fl_msk P k
    have e : 2 ^ (k + 1) = 2 ^ k * 2 := by rw [Nat.pow_succ]
    by_cases q : P k
    · refine ⟨2 ^ k + m, by omega, fun i hi => ?_⟩
      by_cases z : i = k
      · subst z
        rw [Nat.testBit_two_pow_add_eq, Nat.testBit_lt_two_pow h1]
        exact ⟨fun _ => q, fun _ => rfl⟩
      · rw [Nat.testBit_two_pow_add_gt (by omega)]
        exact h2 i (by omega)
    · refine ⟨m, by omega, fun i hi => ?_⟩
      by_cases z : i = k
      · subst z
        rw [Nat.testBit_lt_two_pow h1]
        exact ⟨fun z => absurd z (by decide), fun z => absurd z q⟩
      · exact h2 i (by omega)
theorem fl_cme {x : Nat → fw_C} {m : Nat} (h : ∀ i : Nat, i < 6 → (m.testBit i = true ↔ (x i).1 0 = 1)) : ∀ n : Nat, n ≤ 6 → fw_ci x 1 n = fl_cm m n
  | 0, _ => rfl
  | n + 1, hn => by
    have I := fl_cme h n (by omega)
    unfold fw_ci fl_cm
    rw [I]
    by_cases q : (x n).1 0 = 1
    · rw [if_pos q, if_pos ((h n (by omega)).mpr q)]
    · rw [if_neg q, if_neg (fun z => q ((h n (by omega)).mp z))]
theorem fl_cne {tt : Prop} {f : Nat → Int32} {su : Nat → Int64} {W : fw_W} {x : Nat → fw_C} {m : Nat} (Z : fl_Z tt f su W x) (h : ∀ i : Nat, i < 6 → (m.testBit i = true ↔ (x i).1 0 = 1)) : ∀ n : Nat, n ≤ 6 → (n : Int) ≤ (f 9).toInt → q_rn f n = fl_cn m n
  | 0, _, _ => rfl
  | n + 1, hn, h9 => by
    have I := fl_cne Z h n (by omega) (by omega)
    obtain ⟨C, _, _⟩ := Z.2.2.2.2 n (by omega)
    have u0 : rf_of f (Int32.ofNat n) 0 = (x n).1 0 := C.1.1.1
    unfold q_rn fl_cn
    rw [I, u0]
    by_cases q : (x n).1 0 = 1
    · rw [if_pos q, if_pos ((h n (by omega)).mpr q)]
    · rw [if_neg q, if_neg (fun z => q ((h n (by omega)).mp z))]
