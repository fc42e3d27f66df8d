theorem cp_repeats {f G : Nat → Int32} {su : Nat → Int64} {p p2 r th re : Int32} {o o1 : Nat → Int64} {W : fw_W} {x : Nat → fw_C} (Z : fl_Z True f su W x) (hG : f 9 = G 9 ∧ f 10 = G 10) (c : t_L_repeats p p2 o W x r o1) (m : q_X11_repeats f G p p2 re th) : cp_R r th re o1 := by
  refine cp_A (fl_cc Z.1.1.2.2.1 hG.1) c m (fun v r1 t m => ?_)
  obtain ⟨e, U, cb, cs, N, A, b6, k0, k1, C⟩ := fl_fe Z hG v
  obtain ⟨r7, t5, t6⟩ := t
  have z0 : (0 : Int32).toInt = 0 := by decide
  have o1 : (1 : Int32).toInt = 1 := by decide
  have u1 : rf_of f p 1 = (x p.toNatClampNeg).1 1 := U.1.2.1
  have q : p2.toNatClampNeg = p2.toInt.toNat := rfl
  have tb := U.2.1
  have at12 : r7 = (if 0 ≤ p2.toInt ∧ p2.toInt < 12 then (x p.toNatClampNeg).2.2 0 p2.toNatClampNeg else 0) := by
    rcases t5 with ⟨h, h1⟩ | ⟨h, ⟨h2, h1⟩ | ⟨h2, h1⟩⟩
    · rw [Int32.lt_iff_toInt_lt, z0] at h
      rw [h1, if_neg (by omega)]
    · rw [Int32.lt_iff_toInt_lt, z0] at h
      rw [Int32.lt_iff_toInt_lt, show (12 : Int32).toInt = 12 from by decide] at h2
      rw [h1, if_pos (by omega)]
    · rw [Int32.lt_iff_toInt_lt, show (12 : Int32).toInt = 12 from by decide] at h2
      rw [h1, if_neg (by omega)]
  rw [t6, at12]
  rcases A.2.2 with ⟨g1, g2⟩ | ⟨P, n, g1, g2, g3, g4, g5⟩
  · have m1 : re = 0 ∧ th = 0 := by
      rcases m with ⟨_, m1⟩ | ⟨m1, _⟩
      · exact m1
      · exact absurd (u1.trans g1) m1
    refine ⟨m1.2, ?_⟩
    rw [m1.1]
    split
    · exact g2 _ (by omega)
    · rfl
  · have h10 : f 10 = W.1 10 := Z.1.1.2.2.2.1
    obtain ⟨n2, _, _, pg, _⟩ := fl_pgo (P := P) Z.1 Z.2.1 (by rw [h10]; exact g2)
    have en : f (96 + 37 * P) = Int32.ofNat n := pg.2.1.trans (pg.1.symm.trans g3)
    have eP : (rf_of f p 1).toInt.toNat = P := by rw [u1, g1]; omega
    have nm : ¬ rf_of f p 1 = -1 := fun z => by
      rw [u1] at z
      rw [z] at g1
      exact absurd g1 (by rw [show (-1 : Int32).toInt = -1 from by decide]; omega)
    obtain ⟨_, m⟩ := m.resolve_left (fun z => nm z.1)
    rw [eP, en] at m
    have en1 : (Int32.ofNat n - 1).toInt = (n : Int) - 1 := by rw [Jvm.Kit.i32_sub (by rw [fl_on (by omega), o1]; omega) (by rw [fl_on (by omega), o1]; omega), fl_on (by omega), o1]
    rcases m with ⟨z, m1, m2⟩ | ⟨z, m1, m2⟩
    · have hn : ¬ (0 ≤ p2.toInt ∧ p2.toInt < n) := fun h => rf_rngn (v := p2) (L := 0) (U := (Int32.ofNat n - 1).toInt) (by decide) (Jvm.Kit.i64_of_i32 _) z (by rw [en1]; omega)
      refine ⟨m2, ?_⟩
      rw [m1]
      split
      · exact g5 _ (by omega) (by omega)
      · rfl
    · have r := rf_rng z
      rw [Jvm.Kit.i64_of_i32, Jvm.Kit.i64_of_i32, en1] at r
      have r0 : (0 : Int64).toInt = 0 := by decide
      refine ⟨m2, ?_⟩
      rw [m1, if_pos (by omega), fl_pn (A := 24) (a := 24) (by decide) (by omega) (by omega)]
      exact (tb _ (by omega)).symm
theorem cp_ledger {f G : Nat → Int32} {su : Nat → Int64} {p p2 r th : Int32} {re : Int64} {o o1 : Nat → Int64} {W : fw_W} {x : Nat → fw_C} (Z : fl_Z True f su W x) (hG : f 9 = G 9 ∧ f 10 = G 10) (c : t_L_ledger p p2 o W x r o1) (m : q_X11_ledger f G su p p2 re th) : cp_L r th re o1 := by
  refine cp_BL (fl_cc Z.1.1.2.2.1 hG.1) c m (fun b z => by exact lw_rn2 b z) (fun r1 t z => by obtain ⟨t, _⟩ := t; exact lw_rg t z) (fun v r1 t m => ?_)
  obtain ⟨e, U, cb, cs, N, A, b6, k0, k1, C⟩ := fl_fe Z hG v
  obtain ⟨nr, t⟩ := t
  have b2 := fl_rb nr
  rw [show (0 : Int32).toInt = 0 from by decide, show (4 : Int32).toInt = 4 from by decide] at b2
  have hc : 0 ≤ p.toInt ∧ p.toInt < 6 := ⟨v.1, b6⟩
  obtain ⟨s0, s1, _⟩ := U.2.2.2.1
  rcases t with ⟨e0, t⟩ | ⟨n0, ⟨e0, t⟩ | ⟨n1, ⟨e0, t⟩ | ⟨n2, ⟨e0, t⟩ | ⟨n3, t⟩⟩⟩⟩
  · subst e0
    rcases m with ⟨_, ⟨h, _⟩ | ⟨_, r9, m1, m2, m3⟩⟩ | ⟨h, _⟩
    · exact absurd h (by decide)
    · exact ⟨m3, by rw [t, m2, fl_sum hc (K := 0) (by decide) (by omega) m1]; exact s0.symm⟩
    · exact absurd h (by decide)
  · subst e0
    rcases m with ⟨_, ⟨h, _⟩ | ⟨_, r9, m1, m2, m3⟩⟩ | ⟨h, _⟩
    · exact absurd h (by decide)
    · exact ⟨m3, by rw [t, m2, fl_sum hc (K := 1) (by decide) (by omega) m1]; exact s1.symm⟩
    · exact absurd h (by decide)
  · subst e0
    rcases m with ⟨h, _⟩ | ⟨_, m1, m2⟩
    · exact absurd rfl h
    · exact ⟨m2, by rw [t, m1, e 18 (by unfold fl_e; omega)]⟩
  · subst e0
    rcases m with ⟨_, ⟨_, r9, m1, m2, m3⟩ | ⟨h, _⟩⟩ | ⟨h, _⟩
    · exact ⟨m3, by rw [t, m2, fl_sum hc (k := 3 - 1) (K := 2) (by decide) (by omega) m1]; exact cs.1.symm⟩
    · exact absurd (by decide) h
    · exact absurd h (by decide)
  · have u : ∀ c : Int32, ¬ p2 = c → ¬ p2.toInt = c.toInt := fun c h q => h (Int32.toInt_inj.mp q)
    have d0 := u _ n0
    have d1 := u _ n1
    have d2 := u _ n2
    have d3 := u _ n3
    rw [show (0 : Int32).toInt = 0 from by decide] at d0
    rw [show (1 : Int32).toInt = 1 from by decide] at d1
    rw [show (2 : Int32).toInt = 2 from by decide] at d2
    rw [show (3 : Int32).toInt = 3 from by decide] at d3
    have e4 : p2 = 4 := Int32.toInt_inj.mp (by rw [show (4 : Int32).toInt = 4 from by decide]; omega)
    subst e4
    rcases m with ⟨_, ⟨_, r9, m1, m2, m3⟩ | ⟨h, _⟩⟩ | ⟨h, _⟩
    · exact ⟨m3, by rw [t, m2, fl_sum hc (k := 4 - 1) (K := 3) (by decide) (by omega) m1]; exact cs.2.symm⟩
    · exact absurd (by decide) h
    · exact absurd h (by decide)
/-- a number can be out of its range, nothing else can be wrong -/
theorem cp_C {B Q M : Prop} {T : Int32 → Prop} {r th re : Int32} {o o1 : Nat → Int64} (c : (True ∧ ∃ r1 : Int32, T r1 ∧ (r = 0 ∧ o1 = vp_updL o (0 : Int32).toNatClampNeg r1.toInt64)) ∨ (B ∧ (r = 1 ∧ o1 = o))) (m : (¬ Q ∧ ∃ t16 : Int32, True ∧ (((0 : Int32) = 0 ∧ t16 = 0) ∧ M)) ∨ (Q ∧ ∃ t27 : Int32, True ∧ ((¬ (1 : Int32) = 0 ∧ t27 = (1 : Int32)) ∧ (re = 0 ∧ th = 1)))) (b : B → ¬ Q → False) (n : ∀ r1 : Int32, T r1 → Q → False) (k : ∀ r1 : Int32, T r1 → M → th = 0 ∧ r1 = re) : cp_R r th re o1 := by
  rcases c with ⟨_, r1, t, c1, c2⟩ | ⟨b1, c1, c2⟩
  · obtain ⟨q, _, _, _, m⟩ := m.resolve_right (fun z => n r1 t z.1)
    obtain ⟨k1, k2⟩ := k r1 t m
    exact Or.inr ⟨c1, by rw [k1, c1], by rw [c2, fl_ovl, k2]⟩
  · obtain ⟨_, _, _, _, _, m2⟩ := m.resolve_left (fun z => b b1 z.1)
    exact Or.inl ⟨by rw [c1]; decide, by rw [m2, c1]⟩
/-- how far a loop over the channels came -/
theorem fl_lp {n y : Int32} {N : Int} (hn : n.toInt = N) (h : y.toInt ≤ N) (h2 : n ≤ y) : y.toInt.toNat = N.toNat := by
  rw [Int32.le_iff_toInt_le, hn] at h2
  rw [show y.toInt = N from by omega]
theorem fl_is3 {tt : Prop} {f : Nat → Int32} {su : Nat → Int64} {W : fw_W} {x : Nat → fw_C} {st : Int32} (Z : fl_Z tt f su W x) : ∀ n : Nat, (n : Int) ≤ (f 9).toInt → q_is f st n = fw_ci x st n
  | 0, _ => rfl
  | n + 1, h => by
    obtain ⟨C, _, _⟩ := Z.2.2.2.2 n (by omega)
    have u0 : rf_of f (Int32.ofNat n) 0 = (x n).1 0 := C.1.1.1
    have I := fl_is3 (st := st) Z n (by omega)
    unfold q_is fw_ci
    rw [I, u0]
    by_cases q : (x n).1 0 = st
    · rw [if_pos q, if_pos q]
    · rw [if_neg q, if_neg q]
      exact Int32.or_zero
