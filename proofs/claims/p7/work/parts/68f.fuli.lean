theorem fl_p150 {b b1 : Nat → Int32} {i v : Int32} {K : Nat} (hi : i.toInt = K) (hK : K < 150) (h : a_X10_put_150 b i v b1) : b1 = upd b K v := by
  have t : (150 : Int32).toInt = 150 := by decide
  have z : (0 : Int32).toInt = 0 := by decide
  rcases h with ⟨n, _⟩ | ⟨_, ⟨n, _⟩ | ⟨_, h⟩⟩
  · rw [Int32.lt_iff_toInt_lt] at n; omega
  · rw [Int32.le_iff_toInt_le] at n; omega
  · rw [h, show i.toNatClampNeg = K from by show i.toInt.toNat = K; omega]
/-- where the class writes, and what -/
theorem fl_rcc {idx prg stp vol tim old siz hel1 mca mca1 old1 siz1 hel : Int32} {bin bou sbo cin cou bin1 bou1 : Int64} {fs fr fr1 : Nat → Int32} {P S : Nat} (hp : prg.toInt = P) (hs : stp.toInt = S) (hP : P < 4) (hS : S < 12) (ho : 0 ≤ old.toInt ∧ old.toInt < 30) (hz : 0 ≤ siz.toInt ∧ siz.toInt ≤ 30) (h0 : siz.toInt < 30 → old.toInt = 0)
    (h : a_X1_makeRecord idx prg stp bin bou hel sbo vol cin cou mca tim fs 30 5 old siz fr bin1 bou1 hel1 mca1 old1 siz1 fr1) :
    bin1 = cin ∧ bou1 = cou ∧ hel1 = 0 ∧ mca1 = (if ¬ fs (12 * P + S) < vol ∧ ¬ hel = 0 then (cou - sbo).toInt32 else mca) ∧
    ∃ K : Nat, K < 30 ∧ (∀ j : Nat, fr1 j = if 5 * K ≤ j ∧ j < 5 * K + 5 then fl_v5 idx (cin - bin).toInt32 (cou - bou).toInt32 tim (if ¬ fs (12 * P + S) < vol ∧ ¬ hel = 0 then 1 else 0) (j - 5 * K) else fr j) ∧
      ((siz.toInt < 30 ∧ K = siz.toInt.toNat ∧ siz1 = siz + 1 ∧ old1 = old) ∨ (siz.toInt = 30 ∧ K = old.toInt.toNat ∧ siz1 = siz ∧ old1 = (if old.toInt = 29 then 0 else old + 1))) := by
  have t30 : (30 : Int32).toInt = 30 := by decide
  have t5 : (5 : Int32).toInt = 5 := by decide
  have o1 : (1 : Int32).toInt = 1 := by decide
  have row : ∀ {o s p : Int32} {b1 b2 b3 b4 b5 : Nat → Int32} {x0 x1 x2 x3 x4 : Int32}, a_X8_addRow 30 old siz o s → a_X8_placeOf 30 5 o (s - 1) p → a_X10_put_150 fr (p + 0) x0 b1 → a_X10_put_150 b1 (p + 1) x1 b2 → a_X10_put_150 b2 (p + 2) x2 b3 → a_X10_put_150 b3 (p + 3) x3 b4 → a_X10_put_150 b4 (p + 4) x4 b5 →
      ∃ K : Nat, K < 30 ∧ (∀ j : Nat, b5 j = if 5 * K ≤ j ∧ j < 5 * K + 5 then fl_v5 x0 x1 x2 x3 x4 (j - 5 * K) else fr j) ∧ ((siz.toInt < 30 ∧ K = siz.toInt.toNat ∧ s = siz + 1 ∧ o = old) ∨ (siz.toInt = 30 ∧ K = old.toInt.toNat ∧ s = siz ∧ o = (if old.toInt = 29 then 0 else old + 1))) := by
    intro o s p b1 b2 b3 b4 b5 x0 x1 x2 x3 x4 ha hpl k0 k1 k2 k3 k4
    have place : ∃ K : Nat, K < 30 ∧ p.toInt = 5 * K ∧ ((siz.toInt < 30 ∧ K = siz.toInt.toNat ∧ s = siz + 1 ∧ o = old) ∨ (siz.toInt = 30 ∧ K = old.toInt.toNat ∧ s = siz ∧ o = (if old.toInt = 29 then 0 else old + 1))) := by
      have pl : ∀ R : Int, 0 ≤ o.toInt → o.toInt < 30 → (s - 1).toInt = R → 0 ≤ R → R < 30 → p.toInt = 5 * (if 30 ≤ o.toInt + R then o.toInt + R - 30 else o.toInt + R) := by
        intro R h1 h2 h3 h4 h5
        have e1 : (o + (s - 1)).toInt = o.toInt + R := by rw [Jvm.Kit.i32_add (by omega) (by omega), h3]
        rcases hpl with ⟨q, e⟩ | ⟨q, e⟩
        · rw [Int32.le_iff_toInt_le, e1, t30] at q
          have e2 : ((o + (s - 1)) - 30).toInt = o.toInt + R - 30 := by rw [Jvm.Kit.i32_sub (by omega) (by omega), e1, t30]
          rw [if_pos q, e, Jvm.Kit.i32_mul (by rw [e2, t5]; omega) (by rw [e2, t5]; omega), e2, t5]
          omega
        · rw [Int32.le_iff_toInt_le, e1, t30] at q
          rw [if_neg q, e, Jvm.Kit.i32_mul (by rw [e1, t5]; omega) (by rw [e1, t5]; omega), e1, t5]
          omega
      rcases ha with ⟨q, ⟨w, e1, e2⟩ | ⟨w, e1, e2⟩⟩ | ⟨q, e1, e2⟩
      · rw [Int32.le_iff_toInt_le, t30] at q
        have eo : (old + 1).toInt = old.toInt + 1 := by rw [Jvm.Kit.i32_add (by omega) (by omega), o1]
        rw [Int32.le_iff_toInt_le, t30, eo] at w
        have es : (s - 1).toInt = 29 := by rw [e2, Jvm.Kit.i32_sub (by omega) (by omega), o1]; omega
        have z : (0 : Int32).toInt = 0 := by decide
        have := pl 29 (by rw [e1, z]; omega) (by rw [e1, z]; omega) es (by omega) (by omega)
        rw [e1, z, if_neg (by omega)] at this
        exact ⟨29, by omega, by omega, Or.inr ⟨by omega, by omega, e2, by rw [if_pos (by omega)]; exact e1⟩⟩
      · rw [Int32.le_iff_toInt_le, t30] at q
        have eo : (old + 1).toInt = old.toInt + 1 := by rw [Jvm.Kit.i32_add (by omega) (by omega), o1]
        rw [Int32.le_iff_toInt_le, t30, eo] at w
        have es : (s - 1).toInt = 29 := by rw [e2, Jvm.Kit.i32_sub (by omega) (by omega), o1]; omega
        have := pl 29 (by rw [e1, eo]; omega) (by rw [e1, eo]; omega) es (by omega) (by omega)
        rw [e1, eo, if_pos (by omega)] at this
        exact ⟨old.toInt.toNat, by omega, by omega, Or.inr ⟨by omega, rfl, e2, by rw [if_neg (by omega)]; exact e1⟩⟩
      · rw [Int32.le_iff_toInt_le, t30] at q
        have hold := h0 (by omega)
        have e3 : (siz + 1).toInt = siz.toInt + 1 := by rw [Jvm.Kit.i32_add (by omega) (by omega), o1]
        have es : (s - 1).toInt = siz.toInt := by rw [e2, Jvm.Kit.i32_sub (by omega) (by omega), e3, o1]; omega
        have := pl siz.toInt (by rw [e1]; omega) (by rw [e1]; omega) es (by omega) (by omega)
        rw [e1, hold, if_neg (by omega)] at this
        exact ⟨siz.toInt.toNat, by omega, by omega, Or.inl ⟨by omega, rfl, e2, e1⟩⟩
    obtain ⟨K, hK, hpK, hK2⟩ := place
    refine ⟨K, hK, fun j => ?_, hK2⟩
    have a : ∀ {x : Int32} {m : Nat}, x.toInt = m → m ≤ 4 → (p + x).toInt = (5 * K + m : Nat) := fun {x m} e q => by rw [Jvm.Kit.i32_add (by omega) (by omega)]; omega
    have q0 := fl_p150 (a (x := 0) (m := 0) (by decide) (by omega)) (by omega) k0
    have q1 := fl_p150 (a (x := 1) (m := 1) (by decide) (by omega)) (by omega) k1
    have q2 := fl_p150 (a (x := 2) (m := 2) (by decide) (by omega)) (by omega) k2
    have q3 := fl_p150 (a (x := 3) (m := 3) (by decide) (by omega)) (by omega) k3
    have q4 := fl_p150 (a (x := 4) (m := 4) (by decide) (by omega)) (by omega) k4
    rw [q4, q3, q2, q1, q0]
    unfold upd fl_v5
    by_cases w : 5 * K ≤ j ∧ j < 5 * K + 5
    · rw [if_pos w]
      obtain ⟨m, hm⟩ : ∃ m : Nat, j = 5 * K + m := ⟨j - 5 * K, by omega⟩
      rw [hm, show 5 * K + m - 5 * K = m from by omega]
      rcases (by omega : m = 0 ∨ m = 1 ∨ m = 2 ∨ m = 3 ∨ m = 4) with e | e | e | e | e
      · subst e
        rw [if_neg (by omega), if_neg (by omega), if_neg (by omega), if_neg (by omega), if_pos (by omega), if_pos rfl]
      · subst e
        rw [if_neg (by omega), if_neg (by omega), if_neg (by omega), if_pos (by omega), if_neg (by omega), if_pos rfl]
      · subst e
        rw [if_neg (by omega), if_neg (by omega), if_pos (by omega), if_neg (by omega), if_neg (by omega), if_pos rfl]
      · subst e
        rw [if_neg (by omega), if_pos (by omega), if_neg (by omega), if_neg (by omega), if_neg (by omega), if_pos rfl]
      · subst e
        rw [if_pos (by omega), if_neg (by omega), if_neg (by omega), if_neg (by omega), if_neg (by omega)]
    · rw [if_neg w, if_neg (by omega), if_neg (by omega), if_neg (by omega), if_neg (by omega), if_neg (by omega)]
  obtain ⟨x, hx, h⟩ := h
  have ex := fl_sc hp hs hP hS hx
  subst ex
  rcases h with ⟨w, ⟨g, o, s, ha, p, hpl, b1, k0, b2, k1, b3, k2, b4, k3, b5, k4, e1, e2, e3, e4, e5, e6, e7⟩ | ⟨g, o, s, ha, p, hpl, b1, k0, b2, k1, b3, k2, b4, k3, b5, k4, e1, e2, e3, e4, e5, e6, e7⟩⟩ | ⟨w, ⟨g, o, s, ha, p, hpl, b1, k0, b2, k1, b3, k2, b4, k3, b5, k4, e1, e2, e3, e4, e5, e6, e7⟩ | ⟨g, o, s, ha, p, hpl, b1, k0, b2, k1, b3, k2, b4, k3, b5, k4, e1, e2, e3, e4, e5, e6, e7⟩⟩
  · have n : ¬ (¬ fs (12 * P + S) < vol ∧ ¬ hel = 0) := fun z => z.1 w
    rw [if_neg n, if_neg n, e5, e6, e7]
    exact ⟨e1, e2, e3, e4, row ha hpl k0 k1 k2 k3 k4⟩
  · have n : ¬ (¬ fs (12 * P + S) < vol ∧ ¬ hel = 0) := fun z => z.1 w
    rw [if_neg n, if_neg n, e5, e6, e7]
    exact ⟨e1, e2, e3, e4, row ha hpl k0 k1 k2 k3 k4⟩
  · have n : ¬ (¬ fs (12 * P + S) < vol ∧ ¬ hel = 0) := fun z => z.2 g
    rw [if_neg n, if_neg n, e5, e6, e7]
    exact ⟨e1, e2, e3, e4, row ha hpl k0 k1 k2 k3 k4⟩
  · have n : (¬ fs (12 * P + S) < vol ∧ ¬ hel = 0) := ⟨w, g⟩
    rw [if_pos n, if_pos n, e5, e6, e7]
    exact ⟨e1, e2, e3, e4, row ha hpl k0 k1 k2 k3 k4⟩
/-- the records of both sides are the same -/
def fl_R (tt : Prop) (f : Nat → Int32) (W : fw_W) : Prop := f 12 = W.1 12 ∧ (0 ≤ (f 12).toInt ∧ (f 12).toInt ≤ 30) ∧ (0 ≤ (W.1 18).toInt ∧ (W.1 18).toInt < 30) ∧ ((f 12).toInt < 30 → (W.1 18).toInt = 0) ∧ ∀ i m : Nat, (i : Int) < (f 12).toInt → m < 5 → (m = 3 → tt) → f (568 + 5 * i + m) = W.2.1 6 (5 * (((W.1 18).toInt.toNat + i) % 30) + m)
theorem fl_Rw {tt : Prop} {f f1 : Nat → Int32} {W V : fw_W} (h : fl_R tt f W) (a : fl_rec f f1) (b1 : V.1 12 = W.1 12) (b2 : V.1 18 = W.1 18) (b3 : V.2.1 6 = W.2.1 6) : fl_R tt f1 V := by
  obtain ⟨h1, h2, h3, h4, h5⟩ := h
  unfold fl_R
  rw [a 12 (Or.inr rfl), b1, b2, b3]
  exact ⟨h1, h2, h3, h4, fun i m hi hm h3 => (a _ (Or.inl (by omega))).trans (h5 i m hi hm h3)⟩
theorem fl_v5e {tt : Prop} {a b d e e2 g : Int32} (h : tt → e = e2) : ∀ m : Nat, m < 5 → (m = 3 → tt) → fl_v5 a b d e g m = fl_v5 a b d e2 g m := fun m _ h3 => by
  unfold fl_v5
  by_cases q : m = 3
  · rw [h (h3 q)]
  · rw [if_neg q, if_neg q]
theorem fl_Rn {tt : Prop} {f f1 V Vc : Nat → Int32} {W : fw_W} {K : Nat} {s1 o1 : Int32} {fr1 : Nat → Int32} (h : fl_R tt f W) (a : fl_rm1 f f1 V) (hV : ∀ m : Nat, m < 5 → (m = 3 → tt) → V m = Vc m) (hK : K < 30) (b : ∀ j : Nat, fr1 j = if 5 * K ≤ j ∧ j < 5 * K + 5 then Vc (j - 5 * K) else W.2.1 6 j) (d : ((W.1 12).toInt < 30 ∧ K = (W.1 12).toInt.toNat ∧ s1 = W.1 12 + 1 ∧ o1 = W.1 18) ∨ ((W.1 12).toInt = 30 ∧ K = (W.1 18).toInt.toNat ∧ s1 = W.1 12 ∧ o1 = (if (W.1 18).toInt = 29 then 0 else W.1 18 + 1))) (X : fw_W) (x1 : X.1 12 = s1) (x2 : X.1 18 = o1) (x3 : X.2.1 6 = fr1) : fl_R tt f1 X := by
  obtain ⟨h1, h2, h3, h4, h5⟩ := h
  obtain ⟨_, a⟩ := a
  have t30 : (30 : Int32).toInt = 30 := by decide
  have one : (1 : Int32).toInt = 1 := by decide
  have z : (0 : Int32).toInt = 0 := by decide
  unfold fl_R
  rw [x1, x2, x3]
  rcases a with ⟨n, a1, a2⟩ | ⟨n, a1, a2⟩
  · have n30 : (f 12).toInt ≠ 30 := fun q => n (Int32.toInt_inj.mp (q.trans t30.symm))
    rcases d with ⟨_, d1, d2, d3⟩ | ⟨d0, _⟩
    · have o0 := h4 (by omega)
      have e1 : (f 12 + 1).toInt = (f 12).toInt + 1 := by rw [Jvm.Kit.i32_add (by omega) (by omega), one]
      rw [a1, d2, d3, e1, o0]
      refine ⟨by rw [h1], by omega, by omega, fun _ => rfl, fun i m hi hm hm3 => ?_⟩
      rw [a2 _ (by omega) (by omega), b, show ((0 : Int).toNat + i) % 30 = i from by rw [show (0 : Int).toNat + i = i from by omega]; exact Nat.mod_eq_of_lt (by omega)]
      rw [h1] at hi ⊢
      by_cases q : i = K
      · rw [if_pos (by omega), if_pos (by omega)]
        have e := hV m hm hm3
        exact (congrArg V (by omega)).trans (e.trans (congrArg Vc (by omega)))
      · rw [if_neg (by omega), if_neg (by omega)]
        have k := h5 i m (by rw [h1]; omega) hm hm3
        rw [o0, show ((0 : Int).toNat + i) % 30 = i from by rw [show (0 : Int).toNat + i = i from by omega]; exact Nat.mod_eq_of_lt (by omega)] at k
        exact k
    · rw [← h1] at d0; exact absurd d0 n30
  · have n30 : (f 12).toInt = 30 := by rw [n]; decide
    rcases d with ⟨d0, _⟩ | ⟨_, d1, d2, d3⟩
    · rw [← h1] at d0; omega
    · have e1 : (W.1 18 + 1).toInt = (W.1 18).toInt + 1 := by rw [Jvm.Kit.i32_add (by omega) (by omega), one]
      have eo : o1.toInt = (if (W.1 18).toInt = 29 then 0 else (W.1 18).toInt + 1) := by
        rw [d3]
        by_cases q : (W.1 18).toInt = 29
        · rw [if_pos q, if_pos q, z]
        · rw [if_neg q, if_neg q, e1]
      have er : ∀ i : Nat, i < 30 → (o1.toInt.toNat + i) % 30 = ((W.1 18).toInt.toNat + (i + 1)) % 30 := fun i hi => by
        rw [eo]
        split <;> omega
      rw [a1, d2, t30]
      refine ⟨by rw [← h1]; exact n.symm, by omega, ?_, fun q => absurd q (by omega), fun i m hi hm hm3 => ?_⟩
      · rw [eo]; split <;> omega
      · rw [er i (by omega), a2 _ (by omega) (by omega), b]
        by_cases q : i = 29
        · subst q
          have : ((W.1 18).toInt.toNat + (29 + 1)) % 30 = K := by omega
          rw [this, if_pos (by omega), if_pos (by omega)]
          have e := hV m hm hm3
          exact (congrArg V (by omega)).trans (e.trans (congrArg Vc (by omega)))
        · have k := h5 (i + 1) m (by omega) hm hm3
          have hne : ((W.1 18).toInt.toNat + (i + 1)) % 30 ≠ K := by omega
          rw [if_neg (by omega), if_neg (by omega)]
          rw [← k]
          exact congrArg f (by omega)
