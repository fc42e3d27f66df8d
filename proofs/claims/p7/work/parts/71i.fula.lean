/-! the slots' sums, and what the readers answer -/
theorem fl_sv0 {r e : Int32} {k s0 s1 f k1 s01 s11 : Nat → Int32} {su z0 z1 z01 z11 : Nat → Int64} (q : q_sv 0 k s0 s1 f k1 s01 s11 su z0 z1 z01 z11 r e) : q_cs su z01 ∧ z11 = z1 ∧ r = f 8 ∧ e = 0 := by
  rcases q with q | q | q
  · exact absurd (Or.inl rfl) q.1
  · exact ⟨q.2.2.2.2.2.1, q.2.2.2.2.2.2.1, q.2.2.2.2.2.2.2.2, q.2.2.2.2.2.2.2.1⟩
  · exact absurd q.1 (by decide)
theorem fl_sv1 {r e : Int32} {k s0 s1 f k1 s01 s11 : Nat → Int32} {su z0 z1 z01 z11 : Nat → Int64} (q : q_sv 1 k s0 s1 f k1 s01 s11 su z0 z1 z01 z11 r e) : z01 = z0 ∧ q_cs su z11 ∧ r = f 8 ∧ e = 0 := by
  rcases q with q | q | q
  · exact absurd (Or.inr rfl) q.1
  · exact absurd q.1 (by decide)
  · exact ⟨q.2.2.2.2.2.1, q.2.2.2.2.2.2.1, q.2.2.2.2.2.2.2.2, q.2.2.2.2.2.2.2.1⟩
theorem fl_svb {p r e : Int32} {k s0 s1 f k1 s01 s11 : Nat → Int32} {su z0 z1 z01 z11 : Nat → Int64} (h : ¬ (¬ p < 0 ∧ p ≤ 1)) (q : q_sv p k s0 s1 f k1 s01 s11 su z0 z1 z01 z11 r e) : z01 = z0 ∧ z11 = z1 ∧ e = 1 := by
  rcases q with q | q | q
  · exact q.2.2.2.2
  · exact absurd (by rw [q.1]; decide) h
  · exact absurd (by rw [q.1]; decide) h
theorem fl_rs0 {r e : Int32} {k s0 s1 f f1 : Nat → Int32} {su su1 z0 z1 : Nat → Int64} (q : q_rs 0 k s0 s1 f f1 z0 z1 su su1 r e) : e = 0 ∧ (k 0 = 0 → su1 = su ∧ r = -1) ∧ (¬ k 0 = 0 → q_cs z0 su1 ∧ r = f1 8) := by
  rcases q with q | q | q
  · exact absurd (Or.inl rfl) q.1
  · rcases q.2.2 with n | n
    · exact ⟨q.2.1, fun _ => n.2.2, fun z => absurd n.1 z⟩
    · exact ⟨q.2.1, fun z => absurd z n.1, fun _ => n.2.2⟩
  · exact absurd q.1 (by decide)
theorem fl_rs1 {r e : Int32} {k s0 s1 f f1 : Nat → Int32} {su su1 z0 z1 : Nat → Int64} (q : q_rs 1 k s0 s1 f f1 z0 z1 su su1 r e) : e = 0 ∧ (k 1 = 0 → su1 = su ∧ r = -1) ∧ (¬ k 1 = 0 → q_cs z1 su1 ∧ r = f1 8) := by
  rcases q with q | q | q
  · exact absurd (Or.inr rfl) q.1
  · exact absurd q.1 (by decide)
  · rcases q.2.2 with n | n
    · exact ⟨q.2.1, fun _ => n.2.2, fun z => absurd n.1 z⟩
    · exact ⟨q.2.1, fun z => absurd z n.1, fun _ => n.2.2⟩
theorem fl_rsb {p r e : Int32} {k s0 s1 f f1 : Nat → Int32} {su su1 z0 z1 : Nat → Int64} (h : ¬ (¬ p < 0 ∧ p ≤ 1)) (q : q_rs p k s0 s1 f f1 z0 z1 su su1 r e) : su1 = su ∧ e = 1 := by
  rcases q with q | q | q
  · exact q.2.2
  · exact absurd (by rw [q.1]; decide) h
  · exact absurd (by rw [q.1]; decide) h
theorem fl_cc {p w g f9 : Int32} (h1 : f9 = w) (h2 : f9 = g) : (¬ p < 0 ∧ p < w) ↔ (0 ≤ p.toInt ∧ p.toInt < g.toInt) := by
  rw [← h1, ← h2]
  refine ⟨fl_in, fun h => ?_⟩
  rw [Int32.lt_iff_toInt_lt, Int32.lt_iff_toInt_lt, show (0 : Int32).toInt = 0 from by decide]
  omega
/-- a channel is named, and nothing else can be wrong -/
theorem cp_A {V V' M : Prop} {T : Int32 → Prop} {r th re : Int32} {o o1 : Nat → Int64} (e : V ↔ V') (c : (V ∧ ∃ r1 : Int32, T r1 ∧ (r = 0 ∧ o1 = vp_updL o (0 : Int32).toNatClampNeg r1.toInt64)) ∨ (¬ V ∧ (r = 1 ∧ o1 = o))) (m : ∃ t4 : Int32, True ∧ (((V' ∧ t4 = 0) ∧ M) ∨ ((¬ V' ∧ t4 = 1) ∧ (re = 0 ∧ th = 1)))) (k : V' → ∀ r1 : Int32, T r1 → M → th = 0 ∧ r1 = re) : cp_R r th re o1 := by
  obtain ⟨_, _, m⟩ := m
  rcases c with ⟨v, r1, t, c1, c2⟩ | ⟨v, c1, _⟩
  · obtain ⟨⟨v1, _⟩, m⟩ := m.resolve_right (fun z => z.1.1 (e.mp v))
    obtain ⟨k1, k2⟩ := k v1 r1 t m
    exact Or.inr ⟨c1, by rw [k1, c1], by rw [c2, fl_ovl, k2]⟩
  · obtain ⟨_, _, m2⟩ := m.resolve_left (fun z => v (e.mpr z.1.1))
    exact Or.inl ⟨by rw [c1]; decide, by rw [m2, c1]⟩
/-- a channel is named, and a number that can be out of its range -/
theorem cp_B {V V' B Q M : Prop} {T : Int32 → Prop} {r th re : Int32} {o o1 : Nat → Int64} (e : V ↔ V') (c : (V ∧ ((True ∧ ∃ r1 : Int32, T r1 ∧ (r = 0 ∧ o1 = vp_updL o (0 : Int32).toNatClampNeg r1.toInt64)) ∨ (B ∧ (r = 2 ∧ o1 = o)))) ∨ (¬ V ∧ (r = 1 ∧ o1 = o))) (m : ∃ t4 : Int32, True ∧ (((V' ∧ t4 = 0) ∧ ((¬ Q ∧ ∃ t16 : Int32, True ∧ (((0 : Int32) = 0 ∧ t16 = 0) ∧ M)) ∨ (Q ∧ ∃ t27 : Int32, True ∧ ((¬ (1 : Int32) = 0 ∧ t27 = (2 : Int32)) ∧ (re = 0 ∧ th = 2))))) ∨ ((¬ V' ∧ t4 = 1) ∧ (re = 0 ∧ th = 1)))) (b : B → ¬ Q → False) (n : ∀ r1 : Int32, T r1 → Q → False) (k : V' → ∀ r1 : Int32, T r1 → M → th = 0 ∧ r1 = re) : cp_R r th re o1 := by
  obtain ⟨_, _, m⟩ := m
  rcases c with ⟨v, ⟨_, r1, t, c1, c2⟩ | ⟨b1, c1, c2⟩⟩ | ⟨v, c1, _⟩
  · obtain ⟨⟨v1, _⟩, m⟩ := m.resolve_right (fun z => z.1.1 (e.mp v))
    obtain ⟨q, _, _, _, m⟩ := m.resolve_right (fun z => n r1 t z.1)
    obtain ⟨k1, k2⟩ := k v1 r1 t m
    exact Or.inr ⟨c1, by rw [k1, c1], by rw [c2, fl_ovl, k2]⟩
  · obtain ⟨_, m⟩ := m.resolve_right (fun z => z.1.1 (e.mp v))
    obtain ⟨_, _, _, _, _, m2⟩ := m.resolve_left (fun z => b b1 z.1)
    exact Or.inl ⟨by rw [c1]; decide, by rw [m2, c1]⟩
  · obtain ⟨_, _, m2⟩ := m.resolve_left (fun z => v (e.mpr z.1.1))
    exact Or.inl ⟨by rw [c1]; decide, by rw [m2, c1]⟩
/-- the same, where a long is answered -/
theorem cp_BL {V V' B Q M : Prop} {T : Int64 → Prop} {r th : Int32} {re : Int64} {o o1 : Nat → Int64} (e : V ↔ V') (c : (V ∧ ((True ∧ ∃ r1 : Int64, T r1 ∧ (r = 0 ∧ o1 = vp_updL o (0 : Int32).toNatClampNeg r1)) ∨ (B ∧ (r = 2 ∧ o1 = o)))) ∨ (¬ V ∧ (r = 1 ∧ o1 = o))) (m : ∃ t4 : Int32, True ∧ (((V' ∧ t4 = 0) ∧ ((¬ Q ∧ ∃ t16 : Int32, True ∧ (((0 : Int32) = 0 ∧ t16 = 0) ∧ M)) ∨ (Q ∧ ∃ t27 : Int32, True ∧ ((¬ (1 : Int32) = 0 ∧ t27 = (2 : Int32)) ∧ (re = 0 ∧ th = 2))))) ∨ ((¬ V' ∧ t4 = 1) ∧ (re = 0 ∧ th = 1)))) (b : B → ¬ Q → False) (n : ∀ r1 : Int64, T r1 → Q → False) (k : V' → ∀ r1 : Int64, T r1 → M → th = 0 ∧ r1 = re) : cp_L r th re o1 := by
  obtain ⟨_, _, m⟩ := m
  rcases c with ⟨v, ⟨_, r1, t, c1, c2⟩ | ⟨b1, c1, c2⟩⟩ | ⟨v, c1, _⟩
  · obtain ⟨⟨v1, _⟩, m⟩ := m.resolve_right (fun z => z.1.1 (e.mp v))
    obtain ⟨q, _, _, _, m⟩ := m.resolve_right (fun z => n r1 t z.1)
    obtain ⟨k1, k2⟩ := k v1 r1 t m
    exact Or.inr ⟨c1, by rw [k1, c1], by rw [c2, fl_ovl, k2]⟩
  · obtain ⟨_, m⟩ := m.resolve_right (fun z => z.1.1 (e.mp v))
    obtain ⟨_, _, _, _, _, m2⟩ := m.resolve_left (fun z => b b1 z.1)
    exact Or.inl ⟨by rw [c1]; decide, by rw [m2, c1]⟩
  · obtain ⟨_, _, m2⟩ := m.resolve_left (fun z => v (e.mpr z.1.1))
    exact Or.inl ⟨by rw [c1]; decide, by rw [m2, c1]⟩
/-- what is known of a channel that is named -/
theorem fl_fe {f G : Nat → Int32} {su : Nat → Int64} {p : Int32} {W : fw_W} {x : Nat → fw_C} (Z : fl_Z True f su W x) (hG : f 9 = G 9 ∧ f 10 = G 10) (v : 0 ≤ p.toInt ∧ p.toInt < (G 9).toInt) :
    (∀ J : Nat, fl_e J → rf_of f p J = (x p.toNatClampNeg).1 J) ∧
    fl_U f su p ((x p.toNatClampNeg).1 0) ((x p.toNatClampNeg).1 1) ((x p.toNatClampNeg).1 2) ((x p.toNatClampNeg).1 3) ((x p.toNatClampNeg).1 39) ((x p.toNatClampNeg).1 21) ((x p.toNatClampNeg).2.1 4) ((x p.toNatClampNeg).2.1 5) ((x p.toNatClampNeg).2.1 6) ((x p.toNatClampNeg).2.1 0) ((x p.toNatClampNeg).2.1 1) ((x p.toNatClampNeg).2.2 0) ((x p.toNatClampNeg).2.2 1) ∧
    (∀ j : Nat, j < 10 → rf_of f p (44 + j) = (x p.toNatClampNeg).2.2 3 j) ∧ (su (7 * p.toInt.toNat + 2) = (x p.toNatClampNeg).2.1 2 ∧ su (7 * p.toInt.toNat + 3) = (x p.toNatClampNeg).2.1 3) ∧ fl_nu (x p.toNatClampNeg) ∧ fl_PA W (x p.toNatClampNeg) ∧ p.toInt < 6 ∧ Int32.ofNat p.toNatClampNeg = p ∧ ((p.toNatClampNeg : Nat) : Int) < (f 9).toInt ∧ fl_C f su p.toNatClampNeg (x p.toNatClampNeg) := by
  rw [← hG.1] at v
  obtain ⟨k0, k1, ⟨C, N, A⟩, h9, h10, b9, b10⟩ := fl_ch Z v
  obtain ⟨U, e, c2, c3, cb⟩ := id C
  rw [k0] at U e c2 c3 cb
  exact ⟨e, U, cb, ⟨c2, c3⟩, N, A, by omega, k0, k1, C⟩
theorem fl_pn {p : Int32} {A : Int32} {a : Nat} (ha : A.toInt = a) (h : 0 ≤ p.toInt ∧ p.toInt < 1000) (h2 : a < 1000) : (A + p).toInt.toNat = a + p.toNatClampNeg := by
  have e : p.toNatClampNeg = p.toInt.toNat := rfl
  rw [Jvm.Kit.i32_add (by rw [ha]; omega) (by rw [ha]; omega), ha, e]
  omega
theorem cp_measuredRest {f G : Nat → Int32} {su : Nat → Int64} {p r th re : Int32} {o o1 : Nat → Int64} {W : fw_W} {x : Nat → fw_C} (Z : fl_Z True f su W x) (hG : f 9 = G 9 ∧ f 10 = G 10) (c : t_L_measuredRest p o W x r o1) (m : q_X11_measuredRest f G p re th) : cp_R r th re o1 := by
  refine cp_A (fl_cc Z.1.1.2.2.1 hG.1) c m (fun v r1 t m => ?_)
  obtain ⟨e, U, cb, cs, N, A, b6, k0, k1, C⟩ := fl_fe Z hG v
  have t2 : r1 = (x p.toNatClampNeg).1 19 := t
  exact ⟨m.2, by rw [t2, m.1, e 19 (by unfold fl_e; omega)]⟩
theorem cp_capacityByRule {f G : Nat → Int32} {su : Nat → Int64} {p r th re : Int32} {o o1 : Nat → Int64} {W : fw_W} {x : Nat → fw_C} (Z : fl_Z True f su W x) (hG : f 9 = G 9 ∧ f 10 = G 10) (c : t_L_capacityByRule p o W x r o1) (m : q_X11_capacityByRule f G p re th) : cp_R r th re o1 := by
  refine cp_A (fl_cc Z.1.1.2.2.1 hG.1) c m (fun v r1 t m => ?_)
  obtain ⟨e, U, cb, cs, N, A, b6, k0, k1, C⟩ := fl_fe Z hG v
  have t2 : r1 = (x p.toNatClampNeg).1 20 := t
  exact ⟨m.2, by rw [t2, m.1, e 20 (by unfold fl_e; omega)]⟩
theorem cp_internalResistance {f G : Nat → Int32} {su : Nat → Int64} {p r th re : Int32} {o o1 : Nat → Int64} {W : fw_W} {x : Nat → fw_C} (Z : fl_Z True f su W x) (hG : f 9 = G 9 ∧ f 10 = G 10) (c : t_L_internalResistance p o W x r o1) (m : q_X11_internalResistance f G p re th) : cp_R r th re o1 := by
  refine cp_A (fl_cc Z.1.1.2.2.1 hG.1) c m (fun v r1 t m => ?_)
  obtain ⟨e, U, cb, cs, N, A, b6, k0, k1, C⟩ := fl_fe Z hG v
  have t2 : r1 = (x p.toNatClampNeg).1 38 := t
  exact ⟨m.2, by rw [t2, m.1, e 38 (by unfold fl_e; omega)]⟩
theorem cp_warnings {f G : Nat → Int32} {su : Nat → Int64} {p r th re : Int32} {o o1 : Nat → Int64} {W : fw_W} {x : Nat → fw_C} (Z : fl_Z True f su W x) (hG : f 9 = G 9 ∧ f 10 = G 10) (c : t_L_warnings p o W x r o1) (m : q_X11_warnings f G p re th) : cp_R r th re o1 := by
  refine cp_A (fl_cc Z.1.1.2.2.1 hG.1) c m (fun v r1 t m => ?_)
  obtain ⟨e, U, cb, cs, N, A, b6, k0, k1, C⟩ := fl_fe Z hG v
  have t2 : r1 = (x p.toNatClampNeg).1 36 := t
  exact ⟨m.2, by rw [t2, m.1, e 36 (by unfold fl_e; omega)]⟩
theorem cp_warned {f G : Nat → Int32} {su : Nat → Int64} {p r th re : Int32} {o o1 : Nat → Int64} {W : fw_W} {x : Nat → fw_C} (Z : fl_Z True f su W x) (hG : f 9 = G 9 ∧ f 10 = G 10) (c : t_L_warned p o W x r o1) (m : q_X11_warned f G p re th) : cp_R r th re o1 := by
  refine cp_A (fl_cc Z.1.1.2.2.1 hG.1) c m (fun v r1 t m => ?_)
  obtain ⟨e, U, cb, cs, N, A, b6, k0, k1, C⟩ := fl_fe Z hG v
  have t2 : r1 = (x p.toNatClampNeg).1 37 := t
  exact ⟨m.2, by rw [t2, m.1, e 37 (by unfold fl_e; omega)]⟩
theorem cp_queueSize {f G : Nat → Int32} {su : Nat → Int64} {p r th re : Int32} {o o1 : Nat → Int64} {W : fw_W} {x : Nat → fw_C} (Z : fl_Z True f su W x) (hG : f 9 = G 9 ∧ f 10 = G 10) (c : t_L_queueSize p o W x r o1) (m : q_X11_queueSize f G p re th) : cp_R r th re o1 := by
  refine cp_A (fl_cc Z.1.1.2.2.1 hG.1) c m (fun v r1 t m => ?_)
  obtain ⟨e, U, cb, cs, N, A, b6, k0, k1, C⟩ := fl_fe Z hG v
  have t2 : r1 = (x p.toNatClampNeg).1 39 := t
  exact ⟨m.2, by rw [t2, m.1, U.1.2.2.1]⟩
theorem cp_power {f G : Nat → Int32} {su : Nat → Int64} {p r th re : Int32} {o o1 : Nat → Int64} {W : fw_W} {x : Nat → fw_C} (Z : fl_Z True f su W x) (hG : f 9 = G 9 ∧ f 10 = G 10) (c : t_L_power p o W x r o1) (m : q_X11_power f G p re th) : cp_R r th re o1 := by
  refine cp_A (fl_cc Z.1.1.2.2.1 hG.1) c m (fun v r1 t m => ?_)
  obtain ⟨e, U, cb, cs, N, A, b6, k0, k1, C⟩ := fl_fe Z hG v
  have t2 : r1 = ((((x p.toNatClampNeg).1 4).toInt64 * ((x p.toNatClampNeg).1 5).toInt64) / 1000).toInt32 := t
  exact ⟨m.2, by rw [t2, m.1, e 4 (by unfold fl_e; omega), e 5 (by unfold fl_e; omega)]⟩
