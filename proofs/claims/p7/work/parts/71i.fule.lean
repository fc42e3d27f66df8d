theorem cp_record {f G : Nat → Int32} {su : Nat → Int64} {p p2 r th re : Int32} {o o1 : Nat → Int64} {W : fw_W} {x : Nat → fw_C} (Z : fl_Z True f su W x) (hG : f 9 = G 9 ∧ f 10 = G 10) (c : t_L_record p p2 o W r o1) (m : q_X11_record f p p2 re th) : cp_R r th re o1 := by
  refine cp_C c m (fun b z => by exact lw_rn2 b z) (fun r1 t z => by obtain ⟨t, _⟩ := t; exact lw_rg t z) (fun r1 t m => ?_)
  have R := Z.2.2.2.1
  obtain ⟨nr, t⟩ := t
  have b2 := fl_rb nr
  have z0 : (0 : Int32).toInt = 0 := by decide
  have o1 : (1 : Int32).toInt = 1 := by decide
  have o2 : (2 : Int32).toInt = 2 := by decide
  have o5 : (5 : Int32).toInt = 5 := by decide
  have r0 : (0 : Int64).toInt = 0 := by decide
  rw [z0, o5] at b2
  have w12 : W.1 12 = f 12 := R.1.symm
  have b12 := R.2.1
  have e12 : (f 12 - 1).toInt = (f 12).toInt - 1 := by rw [Jvm.Kit.i32_sub (by rw [o1]; omega) (by rw [o1]; omega), o1]
  have out : ¬ (0 ≤ p.toInt ∧ p.toInt < (f 12).toInt) → r1 = -1 → th = 0 ∧ r1 = re := fun hn h1 => by
    rcases m with ⟨z, _⟩ | ⟨_, m1, m2⟩
    · have r := rf_rng z
      rw [Jvm.Kit.i64_of_i32, Jvm.Kit.i64_of_i32, e12] at r
      omega
    · exact ⟨m2, by rw [h1, m1]⟩
  rcases t with ⟨h, h1⟩ | ⟨h, ⟨h2, t⟩ | ⟨h2, h1⟩⟩
  · rw [Int32.lt_iff_toInt_lt, z0] at h
    exact out (by omega) h1
  · rw [Int32.lt_iff_toInt_lt, z0] at h
    rw [Int32.lt_iff_toInt_lt, w12] at h2
    have hi : 0 ≤ p.toInt ∧ p.toInt < (f 12).toInt := ⟨by omega, h2⟩
    have nz : ¬ cm_rng p.toInt64 0 (f 12 - 1).toInt64 = 0 := fun z => rf_rngn (v := p) (L := 0) (U := (f 12 - 1).toInt) r0 (Jvm.Kit.i64_of_i32 _) z (by rw [e12]; omega)
    obtain ⟨_, m⟩ := m.resolve_right (fun z => nz z.1)
    rcases t with ⟨h5, r10, g1, r15, g2, r20, g3, t⟩ | ⟨h5, r25, g1, t⟩
    · have k1 := fl_get R hi (K := 2) o2 (by omega) g1
      have k2 := fl_get R hi (K := 1) o1 (by omega) g2
      have k3 := fw_qtE g3
      rcases m with ⟨_, m⟩ | ⟨n5, _⟩
      · have i1 : f (568 + 5 * p.toInt.toNat + (1 : Int32).toInt.toNat) = r15 := by rw [k2, o1]; rfl
        have i2 : f (568 + 5 * p.toInt.toNat + (2 : Int32).toInt.toNat) = r10 := by rw [k1, o2]; rfl
        rw [i1, i2] at m
        have sp : ∀ v : Int32, (lg_cmp v.toInt64 0 = 0 ↔ v = 0) := fun v => ⟨fun q => Int32.toInt_inj.mp (by
          have t := congrArg Int64.toInt (rp_lc0 q)
          rw [Jvm.Kit.i64_of_i32, r0] at t
          rw [t, z0]), fun q => by rw [q]; exact cm_lceq 0⟩
        unfold fw_qt at k3
        rcases m with ⟨q, m1, m2⟩ | ⟨q, m1, m2⟩
        · rw [if_neg (fun z => q ((sp _).mp z))] at k3
          exact ⟨m2, by rw [t, k3, m1]⟩
        · rw [if_pos ((sp _).mpr q)] at k3
          exact ⟨m2, by rw [t, k3, m1]; rfl⟩
      · exact absurd h5 n5
    · rcases m with ⟨n5, _⟩ | ⟨_, m1, m2⟩
      · exact absurd n5 h5
      · rw [Int32.le_iff_toInt_le, o5] at h5
        have k1 := fl_get R hi (K := p2.toInt.toNat) (by omega) (by omega) g1
        exact ⟨m2, by rw [t, k1, m1]⟩
  · rw [Int32.lt_iff_toInt_lt, w12] at h2
    exact out (by omega) h1
theorem fl_rk {f : Nat → Int32} {W : fw_W} {i p r r2 : Int32} (R : fl_R True f W) (hi : 0 ≤ i.toInt ∧ i.toInt < (f 12).toInt) (h : a_X9_recordCounts 30 5 (W.1 18) (W.2.1 6) i p r) (m : q_X11_isCounting f i p r2) : r = r2 := by
  obtain ⟨r1, g1, h⟩ := h
  have k1 := fl_get R hi (K := 0) (by decide) (by omega) g1
  unfold q_X11_isCounting at m
  rw [show (0 : Int32).toInt.toNat = 0 from by decide, show (4 : Int32).toInt.toNat = 4 from by decide] at m
  rcases h with ⟨n, e⟩ | ⟨n, r7, g7, h⟩
  · rw [k1] at n
    rcases m with ⟨_, m⟩ | ⟨q, _⟩
    · rw [e, m]
    · exact absurd q n
  · have k7 := fl_get R hi (K := 4) (by decide) (by omega) g7
    rw [k1] at n
    rw [k7] at h
    rcases m with ⟨q, _⟩ | ⟨_, m⟩
    · exact absurd n q
    · rcases h with ⟨a, e⟩ | ⟨a, e⟩
      · rcases m with ⟨_, m⟩ | ⟨q, _⟩
        · rw [e, m]
        · exact absurd q a
      · rcases m with ⟨q, _⟩ | ⟨_, m⟩
        · exact absurd a q
        · rw [e, m]
theorem fl_ct3 {f : Nat → Int32} {W : fw_W} {p : Int32} (R : fl_R True f W) : ∀ (n : Nat) (a b : Int32), (n : Int) ≤ (f 12).toInt → fw_ct W p n a → q_cg f p n b → a = b
  | 0, a, b, _, h, m => (show a = 0 from h).trans (show b = 0 from m).symm
  | n + 1, a, b, hn, h, m => by
    have b12 := R.2.1
    obtain ⟨a2, r, h1, h2, h3⟩ := h
    obtain ⟨b2, r2, m1, m2, m3⟩ := m
    have i := fl_ct3 R n a2 b2 (by omega) h1 m1
    have en : (Int32.ofNat n).toInt = n := fl_on (by omega)
    have e := fl_rk R (by omega) h2 m2
    subst i e
    rcases m3 with ⟨q, m3⟩ | ⟨q, m3⟩
    · rw [h3, m3, if_pos q]
      exact (Int32.add_zero _).symm
    · rw [h3, m3, if_neg q]
      rfl
theorem fl_l12 {f : Nat → Int32} {W : fw_W} {y : Int32} (R : fl_R True f W) (h : y.toInt ≤ (W.1 12).toInt ∨ y = 0) : y.toInt ≤ (f 12).toInt := by
  have b := R.2.1
  rcases h with h | h
  · rw [← R.1] at h; exact h
  · rw [h, show (0 : Int32).toInt = 0 from by decide]; omega
theorem cp_counting {f G : Nat → Int32} {su : Nat → Int64} {p r th re : Int32} {o o1 : Nat → Int64} {W : fw_W} {x : Nat → fw_C} (Z : fl_Z True f su W x) (hG : f 9 = G 9 ∧ f 10 = G 10) (c : t_L_counting p o W r o1) (m : q_X11_counting f G p re th) : cp_R r th re o1 := by
  refine cp_A (fl_cc Z.1.1.2.2.1 hG.1) c m (fun v r1 t m => ?_)
  have R := Z.2.2.2.1
  obtain ⟨y1, y2, ⟨⟨a1, a2⟩, a3⟩, a4, a5⟩ := t
  obtain ⟨i1, i2, ⟨⟨d1, d2⟩, d3⟩, d4, d5, d6⟩ := m
  have a2 := fl_l12 R a2
  rw [← R.1] at a4
  rw [fl_lp rfl a2 a4] at a3
  rw [fl_lp rfl d2 d4] at d3
  refine ⟨d6, ?_⟩
  rw [a5, d5]
  exact fl_ct3 R _ _ _ (by have := R.2.1; omega) a3 d3
theorem fl_ls3 {f : Nat → Int32} {W : fw_W} {p : Int32} (R : fl_R True f W) : ∀ (n : Nat) (a b c d : Int32), (n : Int) ≤ (f 12).toInt → fw_ls W p n a b → q_ls f p n c d → a = c ∧ b = d ∧ ((a = -1 ∧ b = -1) ∨ ∃ k l : Nat, k < n ∧ l < n ∧ a = Int32.ofNat k ∧ b = Int32.ofNat l)
  | 0, a, b, c, d, _, h, m => ⟨h.1.trans m.1.symm, h.2.trans m.2.symm, Or.inl h⟩
  | n + 1, a, b, c, d, hn, h, m => by
    have b12 := R.2.1
    obtain ⟨a2, b2, r, h1, h2, h3⟩ := h
    obtain ⟨c2, d2, r2, m1, m2, m3⟩ := m
    obtain ⟨i1, i2, i3⟩ := fl_ls3 R n a2 b2 c2 d2 (by omega) h1 m1
    have en : (Int32.ofNat n).toInt = n := fl_on (by omega)
    have e := fl_rk R (by omega) h2 m2
    rw [e] at h3
    rcases h3 with ⟨q, h4, h5⟩ | ⟨q, h4, h5⟩
    · obtain ⟨_, m4, m5⟩ := m3.resolve_right (fun z => z.1 q)
      refine ⟨by rw [h4, m4, i1], by rw [h5, m5, i2], ?_⟩
      rw [h4, h5]
      exact i3.imp (fun z => z) (fun ⟨k, l, z1, z2, z3, z4⟩ => ⟨k, l, by omega, by omega, z3, z4⟩)
    · obtain ⟨_, m4, m5⟩ := m3.resolve_left (fun z => q z.1)
      rcases m4 with ⟨m4, m6⟩ | ⟨m4, m6⟩
      · rw [if_pos (i1.trans m4)] at h4
        exact ⟨by rw [h4, m6], by rw [h5, m5], Or.inr ⟨n, n, by omega, by omega, h4, h5⟩⟩
      · rw [if_neg (fun z => m4 (i1.symm.trans z))] at h4
        obtain ⟨k, l, z1, z2, z3, z4⟩ := i3.resolve_left (fun z => m4 (i1.symm.trans z.1))
        exact ⟨by rw [h4, m6, i1], by rw [h5, m5], Or.inr ⟨k, n, by omega, by omega, h4.trans z3, h5⟩⟩
