theorem cp_settledIn {f f1 G fa fa1 : Nat → Int32} {su su1 sv sv1 : Nat → Int64} {men men1 p r th re : Int32} {o o1 : Nat → Int64} {vb va vb1 : fw_W} {xb xa xb1 : Nat → fw_C} (Z : fl_Z True f su va xa) (hG : f 9 = G 9 ∧ f 10 = G 10) (c : t_L_settledIn p o vb va xb xa r vb1 xb1 o1) (m : q_X11_settledIn men f G fa su sv p re men1 th f1 fa1 su1 sv1) : cp_R r th re o1 := by
  refine cp_P (fl_cc Z.1.1.2.2.1 hG.1) c m (fun v r1 t m => ?_)
  obtain ⟨v4, x5, ht, t⟩ := t
  obtain ⟨Z1, hk, ek, hs⟩ := fl_tri Z hG v ht
  rw [hs] at m
  rcases t with ⟨n1, y1, W2, c3, ⟨⟨b1, b2⟩, hch⟩, t⟩ | ⟨n1, e9⟩
  · obtain ⟨_, a4, s5, _, y, ee, f3, s3, ⟨⟨d1, d2⟩, hqc⟩, q⟩ := m.resolve_right (fun z => n1 z.1)
    obtain ⟨C, V, c0, v0, cn, vn, hc⟩ := fl_tjc _ hch
    obtain ⟨E, F, S, e0, f0, s0, en, fn, sn, hq⟩ := fl_tjq _ hqc
    obtain ⟨N, hN⟩ : ∃ N : Nat, y1.toInt = N := ⟨y1.toInt.toNat, by omega⟩
    obtain ⟨M, hM⟩ : ∃ M : Nat, y.toInt = M := ⟨y.toInt.toNat, by omega⟩
    rw [show y1.toInt.toNat = N from by omega] at cn vn hc
    rw [show y.toInt.toNat = M from by omega] at en fn sn hq
    have t10 : (10000 : Int32).toInt = 10000 := by decide
    rw [t10] at b2
    have Z0 : fl_Z False (F 0) (S 0) (V 0) (fw_sx x5 p.toNatClampNeg (C 0)) := by
      rw [f0, s0, v0, c0]
      exact Z1
    have hk0 : ((p.toNatClampNeg : Nat) : Int) < (F 0 9).toInt := by
      rw [f0]
      exact hk
    have Zi : ∀ i : Nat, i ≤ N → i ≤ M → fl_Z False (F i) (S i) (V i) (fw_sx x5 p.toNatClampNeg (C i)) ∧ F i 9 = F 0 9 := fun i hi hj => fl_tj ek hk0 Z0 i (fun j hj2 => by
      obtain ⟨r, _, h⟩ := hc j (by omega)
      exact ⟨r, h⟩) (fun j hj2 => (hq j (by omega)).2)
    have st : ∀ i : Nat, i ≤ N → i ≤ M → rf_of (F i) p 8 = (C i).1 8 := fun i hi hj => (fl_zst (Zi i hi hj).1 (by rw [(Zi i hi hj).2]; exact hk0) ek).2.2 8 (by unfold fl_e; omega)
    have cs : ∀ i : Nat, i < N → ¬ (C i).1 8 = 0 := fun i hi => by
      obtain ⟨r, h, _⟩ := hc i hi
      exact h
    have qs : ∀ i : Nat, i < M → ¬ rf_of (F i) p 8 = 0 := fun i hi => (hq i hi).1
    rw [← fn] at q
    rw [← cn] at t
    have big : ¬ rf_of (F M) p 8 = 0 → 10000 < M := fun h => by
      rcases q with ⟨q1, _⟩ | ⟨_, q2, _⟩
      · exact absurd q1 h
      · rw [Int32.lt_iff_toInt_lt, t10, hM] at q2
        omega
    have ans : th = 0 ∧ ((M ≤ 10000 ∧ re = y) ∨ (10000 < M ∧ re = -1)) := by
      rcases q with ⟨_, _, _, _, ⟨q2, q3, _, q4, _⟩ | ⟨q2, q3, _, q4, _⟩⟩ | ⟨_, _, _, _, _, ⟨q2, q3, _, q4, _⟩ | ⟨q2, q3, _, q4, _⟩⟩
      · rw [Int32.le_iff_toInt_le, t10, hM] at q2
        exact ⟨q4, Or.inl ⟨by omega, q3⟩⟩
      · rw [Int32.le_iff_toInt_le, t10, hM] at q2
        exact ⟨q4, Or.inr ⟨by omega, q3⟩⟩
      · rw [Int32.le_iff_toInt_le, t10, hM] at q2
        exact ⟨q4, Or.inl ⟨by omega, q3⟩⟩
      · rw [Int32.le_iff_toInt_le, t10, hM] at q2
        exact ⟨q4, Or.inr ⟨by omega, q3⟩⟩
    refine ⟨ans.1, ?_⟩
    have same : (C N).1 8 = 0 → M = N := fun h => by
      by_cases z1 : M < N
      · have h2 := big (by rw [st M (by omega) (Nat.le_refl M)]; exact cs M z1)
        omega
      · by_cases z2 : N < M
        · exact absurd ((st N (Nat.le_refl N) (by omega)).trans h) (qs N z2)
        · omega
    rcases t with ⟨h10, ⟨h8, hr⟩ | ⟨h8, hr⟩⟩ | ⟨h10, h8, hr⟩
    · rw [Int32.le_iff_toInt_le, t10, hN] at h10
      have hM1 : 10000 < M := by
        by_cases z : M ≤ N
        · have h2 := big (by
            rw [st M z (Nat.le_refl M)]
            by_cases z1 : M < N
            · exact cs M z1
            · rw [show M = N from by omega]
              exact h8)
          omega
        · omega
      rcases ans.2 with ⟨a, _⟩ | ⟨_, a⟩
      · omega
      · exact hr.trans a.symm
    · rw [Int32.le_iff_toInt_le, t10, hN] at h10
      have e := same h8
      rcases ans.2 with ⟨_, a⟩ | ⟨a, _⟩
      · rw [hr, a]
        exact Int32.toInt_inj.mp (by rw [hM, t10]; omega)
      · omega
    · rw [Int32.le_iff_toInt_le, t10, hN] at h10
      have e := same h8
      rcases ans.2 with ⟨_, a⟩ | ⟨a, _⟩
      · rw [hr, a]
        exact Int32.toInt_inj.mp (by rw [hM, hN]; omega)
      · omega
  · obtain ⟨_, m1, _, m2, _⟩ := m.resolve_left (fun z => z.1 n1)
    exact ⟨m2, by rw [e9, m1]⟩
/-- what is warmest on the way -/
theorem fl_pk3 {G : Nat → Int32} {k : Nat} {p : Int32} {x : Nat → fw_C} (ek : Int32.ofNat k = p) : ∀ (n : Nat) {c c1 : fw_C} {W W1 : fw_W} {m m0 m2 e e1 : Int32} {f f1 : Nat → Int32} {s s1 : Nat → Int64}, (k : Int) < (f 9).toInt → fl_Z False f s W (fw_sx x k c) → fw_pk k n c W c1 W1 m → q_pk G p n m0 e f s m2 e1 f1 s1 → m0 = c.1 9 → m = m2 ∧ fl_Z False f1 s1 W1 (fw_sx x k c1) ∧ f1 9 = f 9
  | 0, c, c1, W, W1, m, m0, m2, e, e1, f, f1, s, s1, hk, Z, h, q, h0 => by
    obtain ⟨h1, h2, h3⟩ := h
    obtain ⟨q1, q2, q3, q4⟩ := q
    rw [h1, h2, q3, q4]
    exact ⟨by rw [h3, q1, h0], Z, rfl⟩
  | n + 1, c, c1, W, W1, m, m0, m2, e, e1, f, f1, s, s1, hk, Z, h, q, h0 => by
    obtain ⟨c2, W2, mm, r, h1, h2, h3⟩ := h
    obtain ⟨m3, e2, f2, s2, q1, q2, q3⟩ := q
    obtain ⟨i1, Z2, i3⟩ := fl_pk3 ek n hk Z h1 q1 h0
    obtain ⟨Z3, _, i4⟩ := fl_zp Z2 (by rw [i3]; exact hk) ek q2 h2
    have u9 := (fl_zst Z3 (by rw [i4, i3]; exact hk) ek).2.2 9 (by unfold fl_e; omega)
    refine ⟨?_, Z3, i4.trans i3⟩
    rw [h3, q3, i1, u9]
/-- one number can be out of its range; the spare world changes -/
theorem cp_Q {V V' B Q M X Y X2 Y2 : Prop} {T : Int32 → Prop} {r th re : Int32} {o o1 : Nat → Int64} {vb1 : fw_W} {xb1 : Nat → fw_C} (e : V ↔ V') (c : (V ∧ ((True ∧ ∃ (r1 : Int32) (v4 : fw_W) (x5 : Nat → fw_C), T r1 ∧ (r = 0 ∧ vb1 = v4 ∧ xb1 = x5 ∧ o1 = vp_updL o (0 : Int32).toNatClampNeg r1.toInt64)) ∨ (B ∧ (r = 2 ∧ vb1 = vb1 ∧ xb1 = xb1 ∧ o1 = o)))) ∨ (¬ V ∧ (r = 1 ∧ vb1 = vb1 ∧ xb1 = xb1 ∧ o1 = o))) (m : ∃ t4 : Int32, True ∧ (((V' ∧ t4 = 0) ∧ ((¬ Q ∧ ∃ t16 : Int32, True ∧ (((0 : Int32) = 0 ∧ t16 = 0) ∧ M)) ∨ (Q ∧ ∃ t27 : Int32, True ∧ ((¬ (1 : Int32) = 0 ∧ t27 = (2 : Int32)) ∧ (re = 0 ∧ X2 ∧ th = 2 ∧ Y2))))) ∨ ((¬ V' ∧ t4 = 1) ∧ (re = 0 ∧ X ∧ th = 1 ∧ Y)))) (b : B → ¬ Q → False) (n : ∀ r1 : Int32, T r1 → Q → False) (k : V' → ∀ r1 : Int32, T r1 → M → th = 0 ∧ r1 = re) : cp_R r th re o1 := by
  obtain ⟨_, _, m⟩ := m
  rcases c with ⟨v, ⟨_, r1, _, _, t, c1, _, _, c2⟩ | ⟨b1, c1, _⟩⟩ | ⟨v, c1, _⟩
  · obtain ⟨⟨v1, _⟩, m⟩ := m.resolve_right (fun z => z.1.1 (e.mp v))
    obtain ⟨q, _, _, _, m⟩ := m.resolve_right (fun z => n r1 t z.1)
    obtain ⟨k1, k2⟩ := k v1 r1 t m
    exact Or.inr ⟨c1, by rw [k1, c1], by rw [c2, fl_ovl, k2]⟩
  · obtain ⟨_, m⟩ := m.resolve_right (fun z => z.1.1 (e.mp v))
    obtain ⟨_, _, _, _, _, _, m2, _⟩ := m.resolve_left (fun z => b b1 z.1)
    exact Or.inl ⟨by rw [c1]; decide, by rw [m2, c1]⟩
  · obtain ⟨_, _, _, m2, _⟩ := m.resolve_left (fun z => v (e.mpr z.1.1))
    exact Or.inl ⟨by rw [c1]; decide, by rw [m2, c1]⟩
theorem cp_peakTemperature {f f1 G fa fa1 : Nat → Int32} {su su1 sv sv1 : Nat → Int64} {men men1 p p2 r th re : Int32} {o o1 : Nat → Int64} {vb va vb1 : fw_W} {xb xa xb1 : Nat → fw_C} (Z : fl_Z True f su va xa) (hG : f 9 = G 9 ∧ f 10 = G 10) (c : t_L_peakTemperature p p2 o vb va xb xa r vb1 xb1 o1) (m : q_X11_peakTemperature men f G fa su sv p p2 re men1 th f1 fa1 su1 sv1) : cp_R r th re o1 := by
  refine cp_Q (fl_cc Z.1.1.2.2.1 hG.1) c m (fun b z => by exact lw_rn2 b z) (fun r1 t z => by obtain ⟨_, _, _, t, _⟩ := t; exact lw_rg t z) (fun v r1 t m => ?_)
  obtain ⟨v4, x5, ht, nr, y1, y2, W2, c3, ⟨⟨b1, b2⟩, hch⟩, b3, hr⟩ := t
  obtain ⟨Z1, hk, ek, hs⟩ := fl_tri Z hG v ht
  obtain ⟨a4, s5, _, i1, i2, i3, f3, s3, ⟨⟨d1, d2⟩, hq⟩, d3, _, _, _, m1, _, m2, _⟩ := m
  have u9 := (fl_zst Z1 hk ek).2.2 9 (by unfold fl_e; omega)
  rw [fl_lp rfl b2 b3] at hch
  rw [fl_lp rfl d2 d3] at hq
  exact ⟨m2, by rw [hr, m1]; exact (fl_pk3 ek _ hk Z1 hch hq u9).1⟩
