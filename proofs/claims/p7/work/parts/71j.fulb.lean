/-- a channel is named; the spare world changes -/
theorem cp_P {V V' M X Y : Prop} {T : Int32 → Prop} {r th re : Int32} {o o1 : Nat → Int64} {vb1 : fw_W} {xb1 : Nat → fw_C} (e : V ↔ V') (c : (V ∧ ∃ (r1 : Int32) (v4 : fw_W) (x5 : Nat → fw_C), T r1 ∧ (r = 0 ∧ vb1 = v4 ∧ xb1 = x5 ∧ o1 = vp_updL o (0 : Int32).toNatClampNeg r1.toInt64)) ∨ (¬ V ∧ (r = 1 ∧ vb1 = vb1 ∧ xb1 = xb1 ∧ o1 = o))) (m : ∃ t4 : Int32, True ∧ (((V' ∧ t4 = 0) ∧ M) ∨ ((¬ V' ∧ t4 = 1) ∧ (re = 0 ∧ X ∧ th = 1 ∧ Y)))) (k : V' → ∀ r1 : Int32, T r1 → M → th = 0 ∧ r1 = re) : cp_R r th re o1 := by
  obtain ⟨_, _, m⟩ := m
  rcases c with ⟨v, r1, _, _, t, c1, _, _, c2⟩ | ⟨v, c1, _⟩
  · obtain ⟨⟨v1, _⟩, m⟩ := m.resolve_right (fun z => z.1.1 (e.mp v))
    obtain ⟨k1, k2⟩ := k v1 r1 t m
    exact Or.inr ⟨c1, by rw [k1, c1], by rw [c2, fl_ovl, k2]⟩
  · obtain ⟨_, _, _, m2, _⟩ := m.resolve_left (fun z => v (e.mpr z.1.1))
    exact Or.inl ⟨by rw [c1]; decide, by rw [m2, c1]⟩
/-- the spare world is a copy -/
theorem fl_tri {f G : Nat → Int32} {su : Nat → Int64} {p : Int32} {vb va vb1 : fw_W} {xb xa xb1 : Nat → fw_C} (Z : fl_Z True f su va xa) (hG : f 9 = G 9 ∧ f 10 = G 10) (v : 0 ≤ p.toInt ∧ p.toInt < (G 9).toInt) (t : t_trial vb va xb xa vb1 xb1) : fl_Z False f su vb1 (fw_sx xb1 p.toNatClampNeg (xb1 p.toNatClampNeg)) ∧ ((p.toNatClampNeg : Nat) : Int) < (f 9).toInt ∧ Int32.ofNat p.toNatClampNeg = p ∧ rf_of f p 0 = (xb1 p.toNatClampNeg).1 0 := by
  obtain ⟨v4, x5, h, e1, e2⟩ := t
  have Z1 := fl_Zw (fl_Zy Z h)
  rw [← e1, ← e2] at Z1
  rw [← hG.1] at v
  obtain ⟨k0, k1, _⟩ := fl_ch Z v
  have Z2 : fl_Z False f su vb1 (fw_sx xb1 p.toNatClampNeg (xb1 p.toNatClampNeg)) := by
    rw [fl_Wid]
    exact Z1
  exact ⟨Z2, k1, k0, (fl_zst Z2 k1 k0).2.1⟩
theorem cp_tripsIn {f f1 G fa fa1 : Nat → Int32} {su su1 sv sv1 : Nat → Int64} {men men1 p r th re : Int32} {o o1 : Nat → Int64} {vb va vb1 : fw_W} {xb xa xb1 : Nat → fw_C} (Z : fl_Z True f su va xa) (hG : f 9 = G 9 ∧ f 10 = G 10) (c : t_L_tripsIn p o vb va xb xa r vb1 xb1 o1) (m : q_X11_tripsIn men f G fa su sv p re men1 th f1 fa1 su1 sv1) : cp_R r th re o1 := by
  refine cp_P (fl_cc Z.1.1.2.2.1 hG.1) c m (fun v r1 t m => ?_)
  obtain ⟨v4, x5, ht, r9, _, q13, hu, e9⟩ := t
  obtain ⟨Z1, hk, ek, hs⟩ := fl_tri Z hG v ht
  rcases m with ⟨n1, m1, _, m2, _⟩ | ⟨n1, r15, _, _, _, _, _, ⟨a4, s5, _, r7, m10, f11, s12, hq, _, _, _, e15, _⟩, m1, _, m2, _⟩
  · refine ⟨m2, ?_⟩
    rw [e9, m1]
    obtain ⟨y1, W2, c3, ⟨⟨b1, b2⟩, hch⟩, h⟩ := hu
    rw [hs] at n1
    have o1 : (1 : Int32).toInt = 1 := by decide
    have t30 : (30000 : Int32).toInt = 30000 := by decide
    obtain ⟨C, V, c0, _, cn, _, hc⟩ := fl_tjc _ hch
    have y0 : ¬ 0 < y1.toInt.toNat - 1 := fun z => by
      obtain ⟨_, h, _⟩ := hc 0 z
      have h2 : (C 0).1 0 = 1 := h.1
      rw [c0] at h2
      exact n1 h2
    rw [show y1.toInt.toNat - 1 = 0 from by omega] at cn
    have e3 : c3 = x5 p.toNatClampNeg := cn.symm.trans c0
    rcases h with ⟨h, _⟩ | ⟨_, ⟨_, h, _⟩ | ⟨h, _⟩⟩
    · rw [Int32.lt_iff_toInt_lt, t30] at h
      omega
    · exact h
    · rw [e3] at h
      exact absurd h n1
  · have k := (fl_un2 Z1 hk ek (by decide) (hs.symm.trans n1) hu hq).1
    exact ⟨m2, by rw [e9, k, m1, e15]⟩
theorem cp_doneIn {f f1 G fa fa1 : Nat → Int32} {su su1 sv sv1 : Nat → Int64} {men men1 p r th re : Int32} {o o1 : Nat → Int64} {vb va vb1 : fw_W} {xb xa xb1 : Nat → fw_C} (Z : fl_Z True f su va xa) (hG : f 9 = G 9 ∧ f 10 = G 10) (c : t_L_doneIn p o vb va xb xa r vb1 xb1 o1) (m : q_X11_doneIn men f G fa su sv p re men1 th f1 fa1 su1 sv1) : cp_R r th re o1 := by
  refine cp_P (fl_cc Z.1.1.2.2.1 hG.1) c m (fun v r1 t m => ?_)
  obtain ⟨v4, x5, ht, t⟩ := t
  obtain ⟨Z1, hk, ek, hs⟩ := fl_tri Z hG v ht
  rw [hs] at m
  rcases t with ⟨n3, r10, _, q14, hu, e9⟩ | ⟨n3, e9⟩
  · obtain ⟨_, m⟩ := m.resolve_right (fun z => n3 z.1)
    rcases m with ⟨n1, m1, _, m2, _⟩ | ⟨n1, r15, _, _, _, _, _, ⟨a4, s5, _, r7, m10, f11, s12, hq, _, _, _, e15, _⟩, m1, _, m2, _⟩
    · refine ⟨m2, ?_⟩
      rw [e9, m1]
      obtain ⟨y1, W2, c3, ⟨⟨b1, b2⟩, hch⟩, h⟩ := hu
      have t30 : (30000 : Int32).toInt = 30000 := by decide
      obtain ⟨C, V, c0, _, cn, _, hc⟩ := fl_tjc _ hch
      have y0 : ¬ 0 < y1.toInt.toNat - 1 := fun z => by
        obtain ⟨_, h, _⟩ := hc 0 z
        have h2 : (C 0).1 0 = 1 := h.1
        rw [c0] at h2
        exact n1 h2
      rw [show y1.toInt.toNat - 1 = 0 from by omega] at cn
      have e3 : c3 = x5 p.toNatClampNeg := cn.symm.trans c0
      rcases h with ⟨h, _⟩ | ⟨_, ⟨_, h, _⟩ | ⟨h, _⟩⟩
      · rw [Int32.lt_iff_toInt_lt, t30] at h
        omega
      · exact h
      · rw [e3] at h
        exact absurd h n1
    · have k := (fl_un2 Z1 hk ek (by decide) n1 hu hq).1
      exact ⟨m2, by rw [e9, k, m1, e15]⟩
  · obtain ⟨_, m1, _, m2, _⟩ := m.resolve_left (fun z => z.1 n3)
    exact ⟨m2, by rw [e9, m1]⟩
theorem fl_tje {G : Nat → Int32} {k : Nat} {p : Int32} {C : Nat → fw_C} {V : Nat → fw_W} {E : Nat → Int32} {F : Nat → Nat → Int32} {S : Nat → Nat → Int64} {x : Nat → fw_C} (ek : Int32.ofNat k = p) (hk : (k : Int) < (F 0 9).toInt) (Z : fl_Z False (F 0) (S 0) (V 0) (fw_sx x k (C 0))) : ∀ n : Nat, (∀ i : Nat, i < n → t_tick k (C i) (V i) 0 (C (i + 1)) (V (i + 1))) → (∀ i : Nat, i < n → q_X11_alone (E i) (F i) G (S i) p (E (i + 1)) (F (i + 1)) (S (i + 1))) → E n = E 0
  | 0, _, _ => rfl
  | n + 1, hc, hq => by
    have I := fl_tje ek hk Z n (fun i hi => hc i (by omega)) (fun i hi => hq i (by omega))
    obtain ⟨Z1, n9⟩ := fl_tj ek hk Z n (fun i hi => ⟨0, hc i (by omega)⟩) (fun i hi => hq i (by omega))
    obtain ⟨_, e1, _⟩ := fl_zp Z1 (by rw [n9]; exact hk) ek (hq n (by omega)) (hc n (by omega))
    rw [e1, if_pos rfl, I]
theorem cp_stepEndsIn {f f1 G fa fa1 : Nat → Int32} {su su1 sv sv1 : Nat → Int64} {men men1 p r th re : Int32} {o o1 : Nat → Int64} {vb va vb1 : fw_W} {xb xa xb1 : Nat → fw_C} (Z : fl_Z True f su va xa) (hG : f 9 = G 9 ∧ f 10 = G 10) (c : t_L_stepEndsIn p o vb va xb xa r vb1 xb1 o1) (m : q_X11_stepEndsIn men f G fa su sv p re men1 th f1 fa1 su1 sv1) : cp_R r th re o1 := by
  refine cp_P (fl_cc Z.1.1.2.2.1 hG.1) c m (fun v r1 t m => ?_)
  obtain ⟨v4, x5, ht, y1, W2, c3, ⟨⟨b1, b2⟩, hch⟩, t⟩ := t
  obtain ⟨Z1, hk, ek, hs⟩ := fl_tri Z hG v ht
  obtain ⟨C, V, c0, v0, cn, vn, hc⟩ := fl_tjc _ hch
  obtain ⟨N, hN⟩ : ∃ N : Nat, y1.toInt = N + 1 := ⟨y1.toInt.toNat - 1, by omega⟩
  rw [show y1.toInt.toNat - 1 = N from by omega] at cn vn hc
  have t20 : (20000 : Int32).toInt = 20000 := by decide
  have z0 : (0 : Int32).toInt = 0 := by decide
  have cs : ∀ i : Nat, i < N → (C i).1 0 = 1 ∧ t_tick p.toNatClampNeg (C i) (V i) 0 (C (i + 1)) (V (i + 1)) := fun i hi => by
    obtain ⟨r, h, h2⟩ := hc i hi
    have h3 : (C i).1 0 = 1 ∧ r = 0 := h
    rw [h3.2] at h2
    exact ⟨h3.1, h2⟩
  rw [hs] at m
  rcases m with ⟨n1, m1, _, m2, _⟩ | ⟨n1, a4, s5, _, y, ee, f3, s3, ⟨⟨d1, d2⟩, hqc⟩, q⟩
  · refine ⟨m2, ?_⟩
    rw [m1]
    have y0 : ¬ 0 < N := fun z => by
      have h2 := (cs 0 z).1
      rw [c0] at h2
      exact n1 h2
    rw [show N = 0 from by omega] at cn
    have e3 : c3 = x5 p.toNatClampNeg := cn.symm.trans c0
    rcases t with ⟨h, _⟩ | ⟨_, ⟨_, h⟩ | ⟨h, _⟩⟩
    · rw [Int32.lt_iff_toInt_lt, t20] at h
      omega
    · exact h
    · rw [e3] at h
      exact absurd h n1
  · obtain ⟨E, F, S, e0, f0, s0, en, fn, sn, hq⟩ := fl_tjq _ hqc
    obtain ⟨M, hM⟩ : ∃ M : Nat, y.toInt = M := ⟨y.toInt.toNat, by omega⟩
    rw [show y.toInt.toNat = M from by omega] at en fn sn hq
    have Z0 : fl_Z False (F 0) (S 0) (V 0) (fw_sx x5 p.toNatClampNeg (C 0)) := by
      rw [f0, s0, v0, c0]
      exact Z1
    have hk0 : ((p.toNatClampNeg : Nat) : Int) < (F 0 9).toInt := by
      rw [f0]
      exact hk
    have Zi : ∀ i : Nat, i ≤ N → i ≤ M → fl_Z False (F i) (S i) (V i) (fw_sx x5 p.toNatClampNeg (C i)) ∧ F i 9 = F 0 9 := fun i hi hj => fl_tj ek hk0 Z0 i (fun j hj2 => ⟨0, (cs j (by omega)).2⟩) (fun j hj2 => (hq j (by omega)).2)
    have Ei : ∀ i : Nat, i ≤ N → i ≤ M → E i = 0 := fun i hi hj => (fl_tje ek hk0 Z0 i (fun j hj2 => (cs j (by omega)).2) (fun j hj2 => (hq j (by omega)).2)).trans e0
    have st : ∀ i : Nat, i ≤ N → i ≤ M → rf_of (F i) p 0 = (C i).1 0 := fun i hi hj => (fl_zst (Zi i hi hj).1 (by rw [(Zi i hi hj).2]; exact hk0) ek).2.1
    have qs : ∀ i : Nat, i < M → E i = 0 ∧ rf_of (F i) p 0 = 1 := fun i hi => (hq i hi).1
    rw [← fn, ← en] at q
    have le0 : ∀ u : Int32, u = 0 → u ≤ 0 := fun u h => by
      rw [h]
      decide
    have r20 : E M = 0 → rf_of (F M) p 0 = 1 → 20000 ≤ M := fun h1 h2 => by
      rcases q with ⟨q1, _⟩ | ⟨_, ⟨q1, _⟩ | ⟨_, q2, _⟩⟩
      · exact absurd h1 q1
      · exact absurd h2 q1
      · rw [Int32.le_iff_toInt_le, t20, hM] at q2
        omega
    have rm : E M = 0 → re = -1 ∧ th = 0 := fun h1 => by
      rcases q with ⟨q1, _⟩ | ⟨_, ⟨_, ⟨_, _, _, _, q3, _, q4, _⟩ | ⟨q2, _⟩⟩ | ⟨_, _, ⟨_, _, _, _, q3, _, q4, _⟩ | ⟨q2, _⟩⟩⟩
      · exact absurd h1 q1
      · exact ⟨q3, q4⟩
      · exact absurd (le0 _ h1) q2
      · exact ⟨q3, q4⟩
      · exact absurd (le0 _ h1) q2
    rcases t with ⟨h20, hr⟩ | ⟨h20, ⟨hs3, hr⟩ | ⟨hs3, r6, c51, W53, htk, hp2, hr⟩⟩
    · rw [Int32.lt_iff_toInt_lt, t20, hN] at h20
      obtain ⟨k1, k2⟩ := rm (Ei M (by omega) (Nat.le_refl M))
      exact ⟨k2, hr.trans k1.symm⟩
    · rw [Int32.lt_iff_toInt_lt, t20, hN] at h20
      rw [← cn] at hs3
      have hMN : M ≤ N := by
        by_cases z2 : N < M
        · exact absurd ((st N (Nat.le_refl N) (by omega)).symm.trans (qs N z2).2) hs3
        · omega
      obtain ⟨k1, k2⟩ := rm (Ei M hMN (Nat.le_refl M))
      exact ⟨k2, hr.trans k1.symm⟩
    · rw [Int32.lt_iff_toInt_lt, t20, hN] at h20
      rw [← cn] at hs3 htk
      rw [← vn] at htk
      have hNM : N < M := by
        by_cases z1 : M < N
        · have h := r20 (Ei M (by omega) (Nat.le_refl M)) ((st M (by omega) (Nat.le_refl M)).trans (cs M z1).1)
          omega
        · by_cases z2 : M = N
          · have h := r20 (Ei M (by omega) (Nat.le_refl M)) ((st M (by omega) (Nat.le_refl M)).trans (by rw [z2]; exact hs3))
            omega
          · omega
      obtain ⟨ZN, n9⟩ := Zi N (Nat.le_refl N) (by omega)
      obtain ⟨_, e1, _⟩ := fl_zp ZN (by rw [n9]; exact hk0) ek (hq N hNM).2 htk
      rw [if_neg hp2, Ei N (Nat.le_refl N) (by omega)] at e1
      have hM1 : M = N + 1 := by
        by_cases z : N + 1 < M
        · exact absurd (e1.symm.trans (qs (N + 1) z).1) (by decide)
        · omega
      rw [hM1, e1] at q
      rcases q with ⟨_, ⟨q2, _⟩ | ⟨_, _, _, _, q3, _, q4, _⟩⟩ | ⟨q1, _⟩
      · exact absurd q2 (by decide)
      · refine ⟨q4, ?_⟩
        rw [hr, q3]
        exact Int32.toInt_inj.mp (by rw [hN, hM, hM1]; omega)
      · exact absurd q1 (by decide)
