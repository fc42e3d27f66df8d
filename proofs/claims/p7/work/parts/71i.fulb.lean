theorem cp_filling {f G : Nat → Int32} {su : Nat → Int64} {p r th re : Int32} {o o1 : Nat → Int64} {W : fw_W} {x : Nat → fw_C} (Z : fl_Z True f su W x) (hG : f 9 = G 9 ∧ f 10 = G 10) (c : t_L_filling p o W x r o1) (m : q_X11_filling f G p re th) : cp_R r th re o1 := by
  refine cp_A (fl_cc Z.1.1.2.2.1 hG.1) c m (fun v r1 t m => ?_)
  obtain ⟨e, U, cb, cs, N, A, b6, k0, k1, C⟩ := fl_fe Z hG v
  obtain ⟨r5, t5, t6⟩ := t
  obtain ⟨r9, m9, m1, m2⟩ := m
  obtain ⟨⟨n1, _⟩, ⟨_, n7, _⟩, _⟩ := N
  refine ⟨m2, ?_⟩
  rw [t6, m1, fl_pmc (by omega) t5, fl_pmm m9, e 6 (by unfold fl_e; omega), e 7 (by unfold fl_e; omega)]
theorem cp_ticksIn {f G : Nat → Int32} {su : Nat → Int64} {p p2 r th re : Int32} {o o1 : Nat → Int64} {W : fw_W} {x : Nat → fw_C} (Z : fl_Z True f su W x) (hG : f 9 = G 9 ∧ f 10 = G 10) (c : t_L_ticksIn p p2 o W x r o1) (m : q_X11_ticksIn f G p p2 re th) : cp_R r th re o1 := by
  refine cp_B (fl_cc Z.1.1.2.2.1 hG.1) c m (fun b z => by exact lw_rn2 b z) (fun r1 t z => by obtain ⟨t, _⟩ := t; exact lw_rg t z) (fun v r1 t m => ?_)
  obtain ⟨e, U, cb, cs, N, A, b6, k0, k1, C⟩ := fl_fe Z hG v
  obtain ⟨nr, r11, t5, t6⟩ := t
  have b2 := fl_rb nr
  rw [show (0 : Int32).toInt = 0 from by decide, show (9 : Int32).toInt = 9 from by decide] at b2
  refine ⟨m.2, ?_⟩
  have q : p2.toNatClampNeg = p2.toInt.toNat := rfl
  rw [t6, m.1, fl_pn (A := 44) (a := 44) (by decide) (by omega) (by omega), cb _ (by omega)]
  rcases t5 with ⟨h, _⟩ | ⟨_, ⟨_, h⟩ | ⟨h, _⟩⟩
  · rw [Int32.lt_iff_toInt_lt, show (0 : Int32).toInt = 0 from by decide] at h
    omega
  · exact h
  · rw [Int32.lt_iff_toInt_lt, show (10 : Int32).toInt = 10 from by decide] at h
    omega
theorem cp_restVoltage {f G : Nat → Int32} {su : Nat → Int64} {p p2 r th re : Int32} {o o1 : Nat → Int64} {W : fw_W} {x : Nat → fw_C} (Z : fl_Z True f su W x) (hG : f 9 = G 9 ∧ f 10 = G 10) (c : t_L_restVoltage p p2 o W x r o1) (m : q_X11_restVoltage f G p p2 re th) : cp_R r th re o1 := by
  refine cp_B (fl_cc Z.1.1.2.2.1 hG.1) c m (fun b z => by exact lw_rn2 b z) (fun r1 t z => by obtain ⟨t, _⟩ := t; exact lw_rg t z) (fun v r1 t m => ?_)
  obtain ⟨e, U, cb, cs, N, A, b6, k0, k1, C⟩ := fl_fe Z hG v
  obtain ⟨nr, r11, t5, t6⟩ := t
  obtain ⟨r21, m5, m1, m2⟩ := m
  have b2 := fl_rb nr
  rw [show (0 : Int32).toInt = 0 from by decide] at b2
  obtain ⟨n, v8, ok, h11, hc⟩ := fl_oko Z.1 Z.2.1 k1 C N
  rw [k0] at ok
  obtain ⟨⟨_, ⟨o1, o2⟩, o3, o4⟩, _⟩ := ok
  obtain ⟨⟨n1, _⟩, ⟨_, n7, _⟩, _⟩ := N
  have e7 := e 7 (by unfold fl_e; omega)
  refine ⟨m2, ?_⟩
  rw [t6, m1, fl_Rc h11 o4 (by omega) b2.1 t5, fl_Rm o1 o2 o3 o4 (by rw [e7]; omega) b2.1 m5, h11, e7]
  exact (fl_Vx o4 (by omega) b2.1 (fun j hj => hc j hj)).symm
/-- the eleven numbers of a channel -/
def fl_N11 (a0 a1 a2 a3 a4 a5 a6 a7 a8 a9 a10 : Int32) (j : Nat) : Int32 := if j = 0 then a0 else if j = 1 then a1 else if j = 2 then a2 else if j = 3 then a3 else if j = 4 then a4 else if j = 5 then a5 else if j = 6 then a6 else if j = 7 then a7 else if j = 8 then a8 else if j = 9 then a9 else a10
theorem fl_n11 {p r a0 a1 a2 a3 a4 a5 a6 a7 a8 a9 a10 : Int32} (b : 0 ≤ p.toInt ∧ p.toInt ≤ 10) (h : (p = (0 : Int32) ∧ (r = a0)) ∨ (¬ p = (0 : Int32) ∧ ((p = (1 : Int32) ∧ (r = a1)) ∨ (¬ p = (1 : Int32) ∧ ((p = (2 : Int32) ∧ (r = a2)) ∨ (¬ p = (2 : Int32) ∧ ((p = (3 : Int32) ∧ (r = a3)) ∨ (¬ p = (3 : Int32) ∧ ((p = (4 : Int32) ∧ (r = a4)) ∨ (¬ p = (4 : Int32) ∧ ((p = (5 : Int32) ∧ (r = a5)) ∨ (¬ p = (5 : Int32) ∧ ((p = (6 : Int32) ∧ (r = a6)) ∨ (¬ p = (6 : Int32) ∧ ((p = (7 : Int32) ∧ (r = a7)) ∨ (¬ p = (7 : Int32) ∧ ((p = (8 : Int32) ∧ (r = a8)) ∨ (¬ p = (8 : Int32) ∧ ((p = (9 : Int32) ∧ (r = a9)) ∨ (¬ p = (9 : Int32) ∧ (r = a10))))))))))))))))))))) : r = fl_N11 a0 a1 a2 a3 a4 a5 a6 a7 a8 a9 a10 p.toInt.toNat := by
  rcases h with ⟨q, h⟩ | ⟨n0, ⟨q, h⟩ | ⟨n1, ⟨q, h⟩ | ⟨n2, ⟨q, h⟩ | ⟨n3, ⟨q, h⟩ | ⟨n4, ⟨q, h⟩ | ⟨n5, ⟨q, h⟩ | ⟨n6, ⟨q, h⟩ | ⟨n7, ⟨q, h⟩ | ⟨n8, ⟨q, h⟩ | ⟨n9, h⟩⟩⟩⟩⟩⟩⟩⟩⟩⟩
  · rw [h, q, show (0 : Int32).toInt.toNat = 0 from by decide]
    rfl
  · rw [h, q, show (1 : Int32).toInt.toNat = 1 from by decide]
    rfl
  · rw [h, q, show (2 : Int32).toInt.toNat = 2 from by decide]
    rfl
  · rw [h, q, show (3 : Int32).toInt.toNat = 3 from by decide]
    rfl
  · rw [h, q, show (4 : Int32).toInt.toNat = 4 from by decide]
    rfl
  · rw [h, q, show (5 : Int32).toInt.toNat = 5 from by decide]
    rfl
  · rw [h, q, show (6 : Int32).toInt.toNat = 6 from by decide]
    rfl
  · rw [h, q, show (7 : Int32).toInt.toNat = 7 from by decide]
    rfl
  · rw [h, q, show (8 : Int32).toInt.toNat = 8 from by decide]
    rfl
  · rw [h, q, show (9 : Int32).toInt.toNat = 9 from by decide]
    rfl
  · have u : ∀ c : Int32, ¬ p = c → ¬ p.toInt = c.toInt := fun c h q => h (Int32.toInt_inj.mp q)
    have d0 := u _ n0
    have d1 := u _ n1
    have d2 := u _ n2
    have d3 := u _ n3
    have d4 := u _ n4
    have d5 := u _ n5
    have d6 := u _ n6
    have d7 := u _ n7
    have d8 := u _ n8
    have d9 := u _ n9
    rw [show (0 : Int32).toInt = 0 from by decide] at d0
    rw [show (1 : Int32).toInt = 1 from by decide] at d1
    rw [show (2 : Int32).toInt = 2 from by decide] at d2
    rw [show (3 : Int32).toInt = 3 from by decide] at d3
    rw [show (4 : Int32).toInt = 4 from by decide] at d4
    rw [show (5 : Int32).toInt = 5 from by decide] at d5
    rw [show (6 : Int32).toInt = 6 from by decide] at d6
    rw [show (7 : Int32).toInt = 7 from by decide] at d7
    rw [show (8 : Int32).toInt = 8 from by decide] at d8
    rw [show (9 : Int32).toInt = 9 from by decide] at d9
    rw [h, show p.toInt.toNat = 10 from by omega]
    rfl
theorem fl_nbv {f : Nat → Int32} {su : Nat → Int64} {p p2 r : Int32} {u : fw_C} {n39 hel : Int32} {bin bou sbo cin cou : Int64} {ftb fqu : Nat → Int32} (U : fl_U f su p (u.1 0) (u.1 1) (u.1 2) (u.1 3) n39 hel bin bou sbo cin cou ftb fqu) (e : ∀ J : Nat, fl_e J → rf_of f p J = u.1 J) (b2 : 0 ≤ p2.toInt ∧ p2.toInt ≤ 10) (t5 : a_X1_number (u.1 0) (u.1 1) (u.1 2) (u.1 3) (u.1 6) (u.1 7) (u.1 8) (u.1 9) (u.1 4) (u.1 5) (u.1 10) p2 r) : r = rf_of f p p2.toInt.toNat := by
  obtain ⟨⟨u0, u1, _, _⟩, _, _, _, ua, un⟩ := U
  have key : r = fl_N11 (rf_of f p 0) (rf_of f p 1) (rf_of f p 2) (rf_of f p 3) (rf_of f p 4) (rf_of f p 5) (rf_of f p 6) (rf_of f p 7) (rf_of f p 8) (rf_of f p 9) (rf_of f p 10) p2.toInt.toNat := by
    rw [u0, u1, e 4 (by unfold fl_e; omega), e 5 (by unfold fl_e; omega), e 6 (by unfold fl_e; omega), e 7 (by unfold fl_e; omega), e 8 (by unfold fl_e; omega), e 9 (by unfold fl_e; omega), e 10 (by unfold fl_e; omega)]
    rcases t5 with ⟨s1, h⟩ | ⟨s1, ⟨s2, h⟩ | ⟨s2, ⟨s4, h⟩ | ⟨s4, h⟩⟩⟩
    · rw [(ua (by unfold fl_ac; exact Or.inl s1)).1, (ua (by unfold fl_ac; exact Or.inl s1)).2.1]
      exact fl_n11 b2 h
    · rw [(ua (by unfold fl_ac; exact Or.inr (Or.inl s2))).1, (ua (by unfold fl_ac; exact Or.inr (Or.inl s2))).2.1]
      exact fl_n11 b2 h
    · have na : ¬ fl_ac (u.1 0) := by
        unfold fl_ac
        exact fun z => z.elim s1 (fun z => z.elim s2 s4)
      rw [(un na).1, (un na).2]
      exact fl_n11 b2 h
    · rw [(ua (by unfold fl_ac; exact Or.inr (Or.inr s4))).1, (ua (by unfold fl_ac; exact Or.inr (Or.inr s4))).2.1]
      exact fl_n11 b2 h
  rw [key]
  rcases (by omega : p2.toInt.toNat = 0 ∨ p2.toInt.toNat = 1 ∨ p2.toInt.toNat = 2 ∨ p2.toInt.toNat = 3 ∨ p2.toInt.toNat = 4 ∨ p2.toInt.toNat = 5 ∨ p2.toInt.toNat = 6 ∨ p2.toInt.toNat = 7 ∨ p2.toInt.toNat = 8 ∨ p2.toInt.toNat = 9 ∨ p2.toInt.toNat = 10) with z | z | z | z | z | z | z | z | z | z | z <;> rw [z] <;> rfl
theorem cp_value {f G : Nat → Int32} {su : Nat → Int64} {p p2 r th re : Int32} {o o1 : Nat → Int64} {W : fw_W} {x : Nat → fw_C} (Z : fl_Z True f su W x) (hG : f 9 = G 9 ∧ f 10 = G 10) (c : t_L_value p p2 o W x r o1) (m : q_X11_value f G p p2 re th) : cp_R r th re o1 := by
  refine cp_B (fl_cc Z.1.1.2.2.1 hG.1) c m (fun b z => by exact lw_rn2 b z) (fun r1 t z => by obtain ⟨t, _⟩ := t; exact lw_rg t z) (fun v r1 t m => ?_)
  obtain ⟨e, U, cb, cs, N, A, b6, k0, k1, C⟩ := fl_fe Z hG v
  obtain ⟨nr, r11, t5, t6⟩ := t
  have b2 := fl_rb nr
  rw [show (0 : Int32).toInt = 0 from by decide, show (10 : Int32).toInt = 10 from by decide] at b2
  exact ⟨m.2, by rw [t6, m.1]; exact fl_nbv U e b2 t5⟩
theorem cp_queueAt {f G : Nat → Int32} {su : Nat → Int64} {p p2 r th re : Int32} {o o1 : Nat → Int64} {W : fw_W} {x : Nat → fw_C} (Z : fl_Z True f su W x) (hG : f 9 = G 9 ∧ f 10 = G 10) (c : t_L_queueAt p p2 o W x r o1) (m : q_X11_queueAt f G p p2 re th) : cp_R r th re o1 := by
  refine cp_A (fl_cc Z.1.1.2.2.1 hG.1) c m (fun v r1 t m => ?_)
  obtain ⟨e, U, cb, cs, N, A, b6, k0, k1, C⟩ := fl_fe Z hG v
  have w39 : rf_of f p 39 = (x p.toNatClampNeg).1 39 := U.1.2.2.1
  have n39 := N.2.2.2.2
  have z0 : (0 : Int32).toInt = 0 := by decide
  have o1 : (1 : Int32).toInt = 1 := by decide
  have e39 : (rf_of f p 39 - 1).toInt = ((x p.toNatClampNeg).1 39).toInt - 1 := by rw [w39, Jvm.Kit.i32_sub (by rw [o1]; omega) (by rw [o1]; omega), o1]
  have q : p2.toNatClampNeg = p2.toInt.toNat := rfl
  have out : ¬ (0 ≤ p2.toInt ∧ p2.toInt < ((x p.toNatClampNeg).1 39).toInt) → r1 = -1 → th = 0 ∧ r1 = re := fun hn h1 => by
    rcases m with ⟨_, m1, m2⟩ | ⟨z, _⟩
    · exact ⟨m2, by rw [h1, m1]⟩
    · have r := rf_rng z
      rw [Jvm.Kit.i64_of_i32, Jvm.Kit.i64_of_i32, e39] at r
      have r0 : (0 : Int64).toInt = 0 := by decide
      omega
  rcases t with ⟨h, h1⟩ | ⟨h, ⟨h2, r7, t5, t6⟩ | ⟨h2, h1⟩⟩
  · rw [Int32.lt_iff_toInt_lt, z0] at h
    exact out (by omega) h1
  · rw [Int32.lt_iff_toInt_lt, z0] at h
    rw [Int32.lt_iff_toInt_lt] at h2
    have nz : ¬ cm_rng p2.toInt64 0 (rf_of f p 39 - 1).toInt64 = 0 := fun z => rf_rngn (v := p2) (L := 0) (U := (rf_of f p 39 - 1).toInt) (by decide) (Jvm.Kit.i64_of_i32 _) z (by rw [e39]; omega)
    obtain ⟨_, m1, m2⟩ := m.resolve_left (fun z => nz z.1)
    refine ⟨m2, ?_⟩
    rw [t6, m1, fl_pn (A := 40) (a := 40) (by decide) (by omega) (by omega), U.2.2.1 _ (by omega)]
    rcases t5 with ⟨h, _⟩ | ⟨_, ⟨_, h⟩ | ⟨h, _⟩⟩
    · rw [Int32.lt_iff_toInt_lt, z0] at h
      omega
    · exact h
    · rw [Int32.lt_iff_toInt_lt, show (4 : Int32).toInt = 4 from by decide] at h
      omega
  · rw [Int32.lt_iff_toInt_lt] at h2
    exact out (by omega) h1
