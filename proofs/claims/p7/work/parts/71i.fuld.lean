theorem cp_inState {f G : Nat → Int32} {su : Nat → Int64} {p r th re : Int32} {o o1 : Nat → Int64} {W : fw_W} {x : Nat → fw_C} (Z : fl_Z True f su W x) (hG : f 9 = G 9 ∧ f 10 = G 10) (c : t_L_inState p o W x r o1) (m : q_X11_inState f G p re th) : cp_R r th re o1 := by
  refine cp_C c m (fun b z => by exact lw_rn2 b z) (fun r1 t z => by obtain ⟨t, _⟩ := t; exact lw_rg t z) (fun r1 t m => ?_)
  obtain ⟨_, r7, ⟨y1, y2, ⟨⟨a1, a2⟩, a3⟩, a4, a5⟩, a6⟩ := t
  obtain ⟨i1, i2, ⟨⟨d1, d2⟩, d3⟩, d4, d5, d6⟩ := m
  have w9 : W.1 9 = f 9 := Z.1.1.2.2.1.symm
  rw [w9] at a2 a4
  rw [← hG.1] at d2
  have b0 := Z.1.2.1
  unfold sd_bds at b0
  refine ⟨d6, ?_⟩
  rw [a6, a5, a3, d5, d3, fl_lp rfl a2 a4, fl_lp rfl d2 d4, fl_is3 Z _ (by omega)]
theorem fl_ht3 {tt : Prop} {f : Nat → Int32} {su : Nat → Int64} {W : fw_W} {x : Nat → fw_C} (Z : fl_Z tt f su W x) : ∀ (n : Nat) (b : Int32), (n : Int) ≤ (f 9).toInt → q_ht f n b → (fw_ht x n).1 = b ∧ (b = -1 ∨ ∃ m : Nat, m < n ∧ b = Int32.ofNat m ∧ (fw_ht x n).2 = (x m).1 9)
  | 0, b, _, h => ⟨Eq.symm h, Or.inl h⟩
  | n + 1, b, hn, h => by
    have F : ∀ m : Nat, m < n + 1 → rf_of f (Int32.ofNat m) 9 = (x m).1 9 := fun m hm => (Z.2.2.2.2 m (by omega)).1.2.1 9 (by unfold fl_e; omega)
    obtain ⟨b2, h1, h2⟩ := h
    obtain ⟨i1, i2⟩ := fl_ht3 Z n b2 (by omega) h1
    have e : fw_ht x (n + 1) = if (fw_ht x n).1 = -1 ∨ ¬ (x n).1 9 ≤ (fw_ht x n).2 then (Int32.ofNat n, (x n).1 9) else fw_ht x n := rfl
    rw [e]
    rcases h2 with ⟨z, hb⟩ | ⟨z, ⟨h3, hb⟩ | ⟨h3, hb⟩⟩
    · rw [if_pos (Or.inl (i1.trans z))]
      exact ⟨hb.symm, Or.inr ⟨n, by omega, hb, rfl⟩⟩
    · obtain ⟨m, m1, m2, m3⟩ := i2.resolve_left z
      rw [F n (by omega), m2, F m (by omega)] at h3
      rw [if_pos (Or.inr (by rw [m3]; exact h3))]
      exact ⟨hb.symm, Or.inr ⟨n, by omega, hb, rfl⟩⟩
    · obtain ⟨m, m1, m2, m3⟩ := i2.resolve_left z
      rw [F n (by omega), m2, F m (by omega)] at h3
      rw [if_neg (fun q => q.elim (fun q => z (i1.symm.trans q)) (fun q => q (by rw [m3]; exact h3)))]
      exact ⟨i1.trans hb.symm, Or.inr ⟨m, by omega, hb.trans m2, m3⟩⟩
theorem cp_hottest {f G : Nat → Int32} {su : Nat → Int64} {r th re : Int32} {W : fw_W} {x : Nat → fw_C} (Z : fl_Z True f su W x) (hG : f 9 = G 9 ∧ f 10 = G 10) (c : t_hottest W x r) (m : q_X11_hottest f G re th) : r = re := by
  obtain ⟨y1, y2, y3, ⟨⟨a1, a2⟩, a3⟩, a4, a5⟩ := c
  obtain ⟨i1, i2, ⟨⟨⟨d1, d2⟩, d3⟩, _⟩, d4, d5, d6⟩ := m
  have w9 : W.1 9 = f 9 := Z.1.1.2.2.1.symm
  rw [w9] at a2 a4
  rw [← hG.1] at d2
  have b0 := Z.1.2.1
  unfold sd_bds at b0
  rw [fl_lp rfl d2 d4] at d3
  rw [fl_lp rfl a2 a4] at a3
  have k := (fl_ht3 Z _ _ (by omega) d3).1
  rw [a5, d5, ← k, ← a3]
/-- a share of the nominal capacity, as both sides have it -/
theorem fl_shr {cap nom : Int32} (h : 1 ≤ nom.toInt ∧ nom.toInt ≤ 100000) (h2 : 0 ≤ cap.toInt ∧ cap.toInt ≤ nom.toInt) : (fw_qt (1000 * cap.toInt64) nom.toInt64).toInt = (1000 * cap.toInt) / nom.toInt ∧ (((1000 * cap.toInt64) / nom.toInt64).toInt32).toInt = (1000 * cap.toInt) / nom.toInt := by
  have k : (1000 : Int64).toInt = 1000 := by decide
  have e1 : (1000 * cap.toInt64).toInt = 1000 * cap.toInt := by rw [Jvm.Kit.i64_mul (by rw [k, Jvm.Kit.i64_of_i32]; omega) (by rw [k, Jvm.Kit.i64_of_i32]; omega), k, Jvm.Kit.i64_of_i32]
  have e2 : ((1000 * cap.toInt64) / nom.toInt64).toInt = (1000 * cap.toInt) / nom.toInt := by
    rw [Jvm.Kit.i64_div (by rw [Jvm.Kit.i64_of_i32]; omega), e1, Jvm.Kit.i64_of_i32, Int.tdiv_eq_ediv_of_nonneg (by omega)]
  have b1 := Int.ediv_nonneg (a := 1000 * cap.toInt) (b := nom.toInt) (by omega) (by omega)
  have b2 : (1000 * cap.toInt) / nom.toInt ≤ 1000 * cap.toInt := Int.ediv_le_self _ (by omega)
  have n0 : ¬ lg_cmp nom.toInt64 0 = 0 := fun z => by
    have t := congrArg Int64.toInt (rp_lc0 z)
    rw [Jvm.Kit.i64_of_i32, show (0 : Int64).toInt = 0 from by decide] at t
    omega
  refine ⟨?_, ?_⟩
  · unfold fw_qt
    rw [if_neg n0, e2]
  · rw [Jvm.Kit.i32_of_i64 (by rw [e2]; omega) (by rw [e2]; omega), e2]
theorem fl_wk3 {tt : Prop} {f : Nat → Int32} {su : Nat → Int64} {W : fw_W} {x : Nat → fw_C} (Z : fl_Z tt f su W x) : ∀ (n : Nat) (b : Int32), (n : Int) ≤ (f 9).toInt → q_wk f n b → (fw_wk x n).1 = b ∧ (b = -1 ∨ ∃ m : Nat, m < n ∧ b = Int32.ofNat m ∧ (fw_wk x n).2 = fw_qt (1000 * ((x m).1 7).toInt64) ((x m).1 12).toInt64)
  | 0, b, _, h => ⟨Eq.symm h, Or.inl h⟩
  | n + 1, b, hn, h => by
    have F : ∀ m : Nat, m < n + 1 → ∀ q : Int32, q_X11_share f (Int32.ofNat m) q → q.toInt = (fw_qt (1000 * ((x m).1 7).toInt64) ((x m).1 12).toInt64).toInt := fun m hm q hq => by
      obtain ⟨C, N, _⟩ := Z.2.2.2.2 m (by omega)
      have e7 := C.2.1 7 (by unfold fl_e; omega)
      have e12 := C.2.1 12 (by unfold fl_e; omega)
      obtain ⟨⟨n1, _⟩, ⟨_, n7, _⟩, _⟩ := N
      have h2 : q = ((1000 * ((rf_of f (Int32.ofNat m) 7).toInt64)) / ((rf_of f (Int32.ofNat m) 12).toInt64)).toInt32 := hq
      rw [e7, e12] at h2
      have s := fl_shr (cap := (x m).1 7) (nom := (x m).1 12) (by omega) (by omega)
      rw [h2, s.1, s.2]
    obtain ⟨b2, h1, h2⟩ := h
    obtain ⟨i1, i2⟩ := fl_wk3 Z n b2 (by omega) h1
    have e : fw_wk x (n + 1) = if (fw_wk x n).1 = -1 ∨ lg_cmp (fw_qt (1000 * ((x n).1 7).toInt64) ((x n).1 12).toInt64) (fw_wk x n).2 < 0 then (Int32.ofNat n, fw_qt (1000 * ((x n).1 7).toInt64) ((x n).1 12).toInt64) else fw_wk x n := rfl
    rw [e]
    rcases h2 with ⟨z, hb⟩ | ⟨z, r1, r2, s1, s2, h3⟩
    · rw [if_pos (Or.inl (i1.trans z))]
      exact ⟨hb.symm, Or.inr ⟨n, by omega, hb, rfl⟩⟩
    · obtain ⟨m, m1, m2, m3⟩ := i2.resolve_left z
      rw [m2] at s2
      have f1 := F n (by omega) r1 s1
      have f2 := F m (by omega) r2 s2
      rcases h3 with ⟨h3, hb⟩ | ⟨h3, hb⟩
      · rw [if_pos (Or.inr (by rw [m3, lg_cmp_lt, Int64.lt_iff_toInt_lt, ← f1, ← f2]; exact Int32.lt_iff_toInt_lt.mp h3))]
        exact ⟨hb.symm, Or.inr ⟨n, by omega, hb, rfl⟩⟩
      · rw [if_neg (fun q => q.elim (fun q => z (i1.symm.trans q)) (fun q => by
          rw [m3, lg_cmp_lt, Int64.lt_iff_toInt_lt, ← f1, ← f2] at q
          rw [Int32.le_iff_toInt_le] at h3
          omega))]
        exact ⟨i1.trans hb.symm, Or.inr ⟨m, by omega, hb.trans m2, m3⟩⟩
theorem cp_weakest {f G : Nat → Int32} {su : Nat → Int64} {r th re : Int32} {W : fw_W} {x : Nat → fw_C} (Z : fl_Z True f su W x) (hG : f 9 = G 9 ∧ f 10 = G 10) (c : t_weakest W x r) (m : q_X11_weakest f G re th) : r = re := by
  obtain ⟨y1, y2, y3, ⟨⟨a1, a2⟩, a3⟩, a4, a5⟩ := c
  obtain ⟨i1, i2, ⟨⟨⟨d1, d2⟩, d3⟩, _⟩, d4, d5, d6⟩ := m
  have w9 : W.1 9 = f 9 := Z.1.1.2.2.1.symm
  rw [w9] at a2 a4
  rw [← hG.1] at d2
  have b0 := Z.1.2.1
  unfold sd_bds at b0
  rw [fl_lp rfl d2 d4] at d3
  rw [fl_lp rfl a2 a4] at a3
  have k := (fl_wk3 Z _ _ (by omega) d3).1
  rw [a5, d5, ← k, ← a3]
theorem cp_recordCount {f : Nat → Int32} {su : Nat → Int64} {r th re : Int32} {W : fw_W} {x : Nat → fw_C} (Z : fl_Z True f su W x) (c : t_recordCount W r) (m : q_X11_recordCount f re th) : r = re := by
  have c2 : r = W.1 12 := c
  rw [c2, m.1]
  exact Z.2.2.2.1.1.symm
/-- a place of the records -/
theorem fl_get {f : Nat → Int32} {W : fw_W} {i m r : Int32} {K : Nat} (R : fl_R True f W) (hi : 0 ≤ i.toInt ∧ i.toInt < (f 12).toInt) (hm : m.toInt = K) (hK : K < 5) (h : a_X8_get 30 5 (W.1 18) (W.2.1 6) i m r) : r = f (568 + 5 * i.toInt.toNat + K) := by
  obtain ⟨_, h2, h3, _, h5⟩ := R
  have e5 := h5 i.toInt.toNat K (by omega) hK (fun _ => trivial)
  obtain ⟨r1, hp, r6, ha, e⟩ := h
  have t30 : (30 : Int32).toInt = 30 := by decide
  have t5 : (5 : Int32).toInt = 5 := by decide
  have z0 : (0 : Int32).toInt = 0 := by decide
  have s : (W.1 18 + i).toInt = (W.1 18).toInt + i.toInt := Jvm.Kit.i32_add (by omega) (by omega)
  have r1e : r1.toInt = 5 * ((((W.1 18).toInt.toNat + i.toInt.toNat) % 30 : Nat) : Int) := by
    rcases hp with ⟨q, q2⟩ | ⟨q, q2⟩
    · rw [Int32.le_iff_toInt_le, t30, s] at q
      have d : (W.1 18 + i - 30).toInt = (W.1 18).toInt + i.toInt - 30 := by rw [Jvm.Kit.i32_sub (by rw [s, t30]; omega) (by rw [s, t30]; omega), s, t30]
      rw [q2, Jvm.Kit.i32_mul (by rw [d, t5]; omega) (by rw [d, t5]; omega), d, t5]
      omega
    · rw [Int32.le_iff_toInt_le, t30, s] at q
      rw [q2, Jvm.Kit.i32_mul (by rw [s, t5]; omega) (by rw [s, t5]; omega), s, t5]
      omega
  have q : (r1 + m).toInt = r1.toInt + K := by rw [Jvm.Kit.i32_add (by rw [hm]; omega) (by rw [hm]; omega), hm]
  have qn : (r1 + m).toNatClampNeg = 5 * (((W.1 18).toInt.toNat + i.toInt.toNat) % 30) + K := by
    show (r1 + m).toInt.toNat = _
    omega
  rw [e, e5, ← qn]
  rcases ha with ⟨q1, _⟩ | ⟨_, ⟨_, q1⟩ | ⟨q1, _⟩⟩
  · rw [Int32.lt_iff_toInt_lt, z0] at q1
    omega
  · exact q1
  · rw [Int32.lt_iff_toInt_lt, show (150 : Int32).toInt = 150 from by decide] at q1
    omega
