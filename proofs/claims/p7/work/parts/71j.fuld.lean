theorem fl_ch3 {G : Nat → Int32} {k : Nat} {p : Int32} {x : Nat → fw_C} {P : fw_C → Int32 → fw_C → Prop} {Q : Int32 → (Nat → Int32) → Prop} {n : Nat} {c c1 : fw_C} {W W1 : fw_W} {e e1 : Int32} {f f1 : Nat → Int32} {s s1 : Nat → Int64} (ek : Int32.ofNat k = p) (hk : (k : Int) < (f 9).toInt) (Z : fl_Z False f s W (fw_sx x k c)) (h : fw_ch9 k P n c W c1 W1) (q : q_ch G p Q n e f s e1 f1 s1) : fl_Z False f1 s1 W1 (fw_sx x k c1) ∧ f1 9 = f 9 := by
  obtain ⟨C, V, c0, v0, cn, vn, hc⟩ := fl_tjc _ h
  obtain ⟨E, F, S, e0, f0, s0, en, fn, sn, hq⟩ := fl_tjq _ q
  have Z0 : fl_Z False (F 0) (S 0) (V 0) (fw_sx x k (C 0)) := by
    rw [f0, s0, v0, c0]
    exact Z
  have r := fl_tj ek (by rw [f0]; exact hk) Z0 n (fun j hj2 => by
    obtain ⟨r, _, h⟩ := hc j hj2
    exact ⟨r, h⟩) (fun j hj2 => (hq j hj2).2)
  rw [fn, sn, vn, cn, f0] at r
  exact r
theorem cp_valueAfter {f f1 G fa fa1 : Nat → Int32} {su su1 sv sv1 : Nat → Int64} {men men1 p p2 p3 r th re : Int32} {o o1 : Nat → Int64} {vb va vb1 : fw_W} {xb xa xb1 : Nat → fw_C} (Z : fl_Z True f su va xa) (hG : f 9 = G 9 ∧ f 10 = G 10) (c : t_L_valueAfter p p2 p3 o vb va xb xa r vb1 xb1 o1) (m : q_X11_valueAfter men f G fa su sv p p2 p3 re men1 th f1 fa1 su1 sv1) : cp_R r th re o1 := by
  have e := fl_cc (p := p) Z.1.1.2.2.1 hG.1
  obtain ⟨_, _, m⟩ := m
  rcases c with ⟨v, ⟨_, r1, _, _, t, c1, _, _, c2⟩ | ⟨b1, c1, _⟩⟩ | ⟨v, c1, _⟩
  · obtain ⟨⟨v1, _⟩, m⟩ := m.resolve_right (fun z => z.1.1 (e.mp v))
    obtain ⟨v4, x5, ht, nr, nr3, y1, W2, c3, ⟨⟨b1, b2⟩, hch⟩, b3, r25, hn, hr⟩ := t
    obtain ⟨_, m⟩ := m.resolve_left (fun z => lw_rg nr z.1)
    obtain ⟨_, _, _, _, a4, s5, _, y, ee, f3, s3, ⟨⟨d1, d2⟩, hq⟩, d3, _, _, _, m1, _, m2, _⟩ := m.resolve_right (fun z => lw_rg nr3 z.1)
    obtain ⟨Z1, hk, ek, hs⟩ := fl_tri Z hG v1 ht
    rw [fl_lp rfl b2 b3] at hch
    rw [fl_lp rfl d2 d3] at hq
    obtain ⟨Z2, n9⟩ := fl_ch3 ek hk Z1 hch hq
    obtain ⟨C, _, e9⟩ := fl_zst Z2 (by rw [n9]; exact hk) ek
    have U := C.1
    rw [ek] at U
    have b := fl_rb nr
    rw [show (0 : Int32).toInt = 0 from by decide, show (10 : Int32).toInt = 10 from by decide] at b
    exact Or.inr ⟨c1, by rw [m2, c1], by rw [c2, fl_ovl, hr, m1]; exact congrArg Int32.toInt64 (fl_nbv U e9 b hn)⟩
  · obtain ⟨_, m⟩ := m.resolve_right (fun z => z.1.1 (e.mp v))
    have h2 : th = 2 := by
      rcases m with ⟨_, _, _, _, _, _, m2, _⟩ | ⟨n1, ⟨n2, _⟩ | ⟨_, _, _, _, _, _, m2, _⟩⟩
      · exact m2
      · rcases b1 with b1 | b1
        · exact absurd (lw_rn2 b1 n1) (fun z => z)
        · exact absurd (lw_rn2 b1 n2) (fun z => z)
      · exact m2
    exact Or.inl ⟨by rw [c1]; decide, by rw [h2, c1]⟩
  · obtain ⟨_, _, _, m2, _⟩ := m.resolve_left (fun z => v (e.mpr z.1.1))
    exact Or.inl ⟨by rw [c1]; decide, by rw [m2, c1]⟩
/-! a program that is begun aside -/
theorem fl_sic {c : fw_C} {i j : Nat} {v w : Int32} (h : i ≠ j) : fw_si (fw_si c i v) j w = fw_si (fw_si c j w) i v := by
  have e : (fun n => if n = j then w else (if n = i then v else c.1 n)) = (fun n => if n = i then v else (if n = j then w else c.1 n)) := by
    funext n
    by_cases z : n = j
    · rw [if_pos z, if_neg (by omega), if_pos z]
    · rw [if_neg z]
      by_cases y : n = i
      · rw [if_pos y, if_pos y]
      · rw [if_neg y, if_neg y, if_neg z]
  show ((fun n => if n = j then w else (if n = i then v else c.1 n)), c.2) = ((fun n => if n = i then v else (if n = j then w else c.1 n)), c.2)
  rw [e]
theorem fl_q0 {tt : Prop} {f : Nat → Int32} {su : Nat → Int64} {W : fw_W} {x : Nat → fw_C} {k : Nat} {p : Int32} (Z : fl_Z tt f su W x) (k1 : (k : Int) < (f 9).toInt) (k0 : Int32.ofNat k = p) : fl_Z tt (upd f (244 + 54 * p.toInt.toNat + 39) 0) su W (fw_sx x k (fw_si (x k) 39 0)) := by
  obtain ⟨C, N, A⟩ := Z.2.2.2.2 k k1
  have b := Z.1.2.1
  unfold sd_bds at b
  have z0 : (0 : Int32).toInt = 0 := by decide
  have hp5 : 0 ≤ p.toInt ∧ p.toInt < 6 := by rw [← k0, fl_on (by omega)]; omega
  have rr : rf_of (upd f (244 + 54 * p.toInt.toNat + 39) 0) (Int32.ofNat k) = upd (rf_of f (Int32.ofNat k)) 39 0 := by rw [k0, fl_ofu]
  have kk : ∀ J : Nat, J ≠ 39 → rf_of (upd f (244 + 54 * p.toInt.toNat + 39) 0) (Int32.ofNat k) J = rf_of f (Int32.ofNat k) J := fun J hJ => by rw [rr, rf_upd_ne hJ]
  obtain ⟨⟨⟨v0, v1, _, v21⟩, vt, vq, vs, va, vn⟩, e, d2, d3, db⟩ := C
  have C1 : fl_C (upd f (244 + 54 * p.toInt.toNat + 39) 0) su k (fw_si (x k) 39 0) := ⟨⟨⟨(kk 0 (by omega)).trans v0, (kk 1 (by omega)).trans v1, by rw [rr]; exact rf_upd_eq, (kk 21 (by omega)).trans v21⟩, fun j hj => (kk _ (by omega)).trans (vt j hj), fun j hj => by
      have h : (j : Int) < (0 : Int32).toInt := hj
      rw [z0] at h
      omega, vs, fun z => ⟨(kk 2 (by omega)).trans (va z).1, (kk 3 (by omega)).trans (va z).2.1, (va z).2.2⟩, fun z => ⟨(kk 2 (by omega)).trans (vn z).1, (kk 3 (by omega)).trans (vn z).2⟩⟩,
    fun J hJ => by
      rw [kk J (by unfold fl_e at hJ; omega), e J hJ]
      exact (if_neg (by unfold fl_e at hJ; omega)).symm, d2, d3, fun j hj => (kk _ (by omega)).trans (db j hj)⟩
  have N1 : fl_nu (fw_si (x k) 39 0) := ⟨N.1, N.2.1, N.2.2.1, N.2.2.2.1, by show 0 ≤ (0 : Int32).toInt ∧ (0 : Int32).toInt ≤ 4; decide⟩
  have A1 : fl_PA W (fw_si (x k) 39 0) := ⟨A.1, fun j hj => by
      have h : (j : Int) < (0 : Int32).toInt := hj
      rw [z0] at h
      omega, A.2.2⟩
  exact (fl_Zc (qa1 := fw_si (x k) 39 0) Z k1 (by rw [k0]; exact fl_outu (by omega)) (fun _ _ => rfl) (fun J h1 _ => kk J (by omega)) sd_Wr (sd_Csi sd_Cr (by decide)) rfl (fl_Rw Z.2.2.2.1 (fl_recu hp5 (by omega)) rfl rfl rfl) C1 N1 A1).1
theorem fl_tro {f f2 G : Nat → Int32} {su su2 : Nat → Int64} {p p2 : Int32} {vb va vb1 : fw_W} {xb xa xb1 : Nat → fw_C} (Z : fl_Z True f su va xa) (hG : f 9 = G 9 ∧ f 10 = G 10) (v : 0 ≤ p.toInt ∧ p.toInt < (G 9).toInt) (hp : 0 ≤ p2.toInt ∧ p2.toInt < (G 10).toInt) (t : t_trialOf p p2 vb va xb xa vb1 xb1) (q : q_X11_startsOn (upd f (244 + 54 * p.toInt.toNat + 39) 0) su p p2 f2 su2) : ∃ x : Nat → fw_C, fl_Z False f2 su2 vb1 (fw_sx x p.toNatClampNeg (xb1 p.toNatClampNeg)) ∧ ((p.toNatClampNeg : Nat) : Int) < (f2 9).toInt ∧ Int32.ofNat p.toNatClampNeg = p ∧ (xb1 p.toNatClampNeg).1 0 = 1 := by
  obtain ⟨v4, x5, ht, sta, prg, stp, las, bin, bou, hel, sbo, ftb, lo, lz, fl, hb, c28, hc, W3, hW, e1, e2⟩ := t
  obtain ⟨Z1, hk, ek, _⟩ := fl_tri Z hG v ht
  rw [fl_Wid] at Z1
  have Zq := fl_q0 Z1 hk ek
  have n9 : upd f (244 + 54 * p.toInt.toNat + 39) 0 9 = f 9 := rf_upd_ne (by omega)
  have n10 : upd f (244 + 54 * p.toInt.toNat + 39) 0 10 = f 10 := rf_upd_ne (by omega)
  have hx : fw_sx x5 p.toNatClampNeg (fw_si (x5 p.toNatClampNeg) 39 0) p.toNatClampNeg = fw_si (x5 p.toNatClampNeg) 39 0 := if_pos rfl
  obtain ⟨Z2, m9, s1, _⟩ := fl_bz (u := c28) (W1 := W3) Zq (by rw [n9]; exact hk) ek (by rw [n10, hG.2]; exact hp) q (by rw [hx]; exact hb) (by
      rw [hx, hc, fl_sic (i := 3) (j := 39) (by omega), fl_sic (i := 2) (j := 39) (by omega), fl_sic (i := 1) (j := 39) (by omega), fl_sic (i := 0) (j := 39) (by omega)])
    (by rw [hW]; exact sd_Wwr (sd_Wsi (sd_Wsi sd_Wr (by decide)) (by decide)) (by decide)) (by rw [hW]; rfl) (by rw [hW]; rfl) (by rw [hW]; rfl) (by rw [hW]; rfl)
  rw [fl_sxx] at Z2
  have e3 : xb1 p.toNatClampNeg = c28 := by
    rw [e2]
    exact if_pos rfl
  refine ⟨x5, ?_, by rw [m9, n9]; exact hk, ek, by rw [e3]; exact s1⟩
  rw [e3, e1]
  exact Z2
/-- a channel and a program are named -/
theorem cp_D {V V' U U' M X Y Y1 Y2 : Prop} {T : Int32 → Prop} {r th re : Int32} {o o1 : Nat → Int64} {vb1 : fw_W} {xb1 : Nat → fw_C} (e : V ↔ V') (e2 : U ↔ U') (c : (V ∧ ((U ∧ ∃ (r1 : Int32) (v4 : fw_W) (x5 : Nat → fw_C), T r1 ∧ (r = 0 ∧ vb1 = v4 ∧ xb1 = x5 ∧ o1 = vp_updL o (0 : Int32).toNatClampNeg r1.toInt64)) ∨ (¬ U ∧ (r = 1 ∧ Y1)))) ∨ (¬ V ∧ (r = 1 ∧ Y2))) (m : ∃ t4 : Int32, True ∧ ((((V' ∧ U') ∧ t4 = 0) ∧ M) ∨ ((¬ (V' ∧ U') ∧ t4 = 1) ∧ (re = 0 ∧ X ∧ th = 1 ∧ Y)))) (k : V' → U' → ∀ r1 : Int32, T r1 → M → th = 0 ∧ r1 = re) : cp_R r th re o1 := by
  obtain ⟨_, _, m⟩ := m
  rcases c with ⟨v, ⟨u, r1, _, _, t, c1, _, _, c2⟩ | ⟨u, c1, _⟩⟩ | ⟨v, c1, _⟩
  · obtain ⟨⟨⟨v1, u1⟩, _⟩, m⟩ := m.resolve_right (fun z => z.1.1 ⟨e.mp v, e2.mp u⟩)
    obtain ⟨k1, k2⟩ := k v1 u1 r1 t m
    exact Or.inr ⟨c1, by rw [k1, c1], by rw [c2, fl_ovl, k2]⟩
  · obtain ⟨_, _, _, m2, _⟩ := m.resolve_left (fun z => u (e2.mpr z.1.1.2))
    exact Or.inl ⟨by rw [c1]; decide, by rw [m2, c1]⟩
  · obtain ⟨_, _, _, m2, _⟩ := m.resolve_left (fun z => v (e.mpr z.1.1.1))
    exact Or.inl ⟨by rw [c1]; decide, by rw [m2, c1]⟩
/-- how long a program takes -/
theorem fl_dur {f f1 G fa1 : Nat → Int32} {su su1 sv1 : Nat → Int64} {p p2 r re m1 : Int32} {va : fw_W} {xa : Nat → fw_C} (Z : fl_Z True f su va xa) (hG : f 9 = G 9 ∧ f 10 = G 10) (v : 0 ≤ p.toInt ∧ p.toInt < (G 9).toInt) (hp : 0 ≤ p2.toInt ∧ p2.toInt < (G 10).toInt) (t : t_dur p p2 va xa r) (q : q_X11_durationOf f G su p p2 re m1 f1 fa1 su1 sv1) : r = re := by
  obtain ⟨vb, xb, v1, x1, _, q1, ht, hu⟩ := t
  obtain ⟨_, _, _, g, hg, f2, su2, hs, r3, _, f3, s3, hq, _, _, _, m, _⟩ := q
  rw [hg] at hs
  obtain ⟨x, Z1, hk, ek, s1⟩ := fl_tro Z hG v hp ht hs
  rw [m]
  exact (fl_un2 Z1 hk ek (by decide) s1 hu hq).1
theorem cp_duration {f f1 G fa fa1 : Nat → Int32} {su su1 sv sv1 : Nat → Int64} {men men1 p p2 r th re : Int32} {o o1 : Nat → Int64} {vb va vb1 : fw_W} {xb xa xb1 : Nat → fw_C} (Z : fl_Z True f su va xa) (hG : f 9 = G 9 ∧ f 10 = G 10) (c : t_L_duration p p2 o vb va xb xa r vb1 xb1 o1) (m : q_X11_duration men f G fa su sv p p2 re men1 th f1 fa1 su1 sv1) : cp_R r th re o1 := by
  refine cp_D (fl_cc Z.1.1.2.2.1 hG.1) (fl_cc Z.1.1.2.2.2.1 hG.2) c m (fun v hp r1 t m => ?_)
  obtain ⟨v1, x1, ht, r17, v20, q21, hu, hr⟩ := t
  obtain ⟨r9, _, _, _, _, _, hq, m1, _, m2, _⟩ := m
  exact ⟨m2, by rw [hr, m1]; exact fl_dur Z hG v hp ⟨vb, xb, v1, x1, v20, q21, ht, hu⟩ hq⟩
theorem cp_capacityIf {f f1 G fa fa1 : Nat → Int32} {su su1 sv sv1 : Nat → Int64} {men men1 p p2 r th re : Int32} {o o1 : Nat → Int64} {vb va vb1 : fw_W} {xb xa xb1 : Nat → fw_C} (Z : fl_Z True f su va xa) (hG : f 9 = G 9 ∧ f 10 = G 10) (c : t_L_capacityIf p p2 o vb va xb xa r vb1 xb1 o1) (m : q_X11_capacityIf men f G fa su sv p p2 re men1 th f1 fa1 su1 sv1) : cp_R r th re o1 := by
  refine cp_D (fl_cc Z.1.1.2.2.1 hG.1) (fl_cc Z.1.1.2.2.2.1 hG.2) c m (fun v hp r1 t m => ?_)
  obtain ⟨v1, x1, ht, r17, v20, q21, hu, t⟩ := t
  obtain ⟨_, _, _, g, hg, f2, su2, hs, r38, _, f42, s43, hq, m⟩ := m
  rw [hg] at hs
  obtain ⟨x, Z1, hk, ek, s1⟩ := fl_tro Z hG v hp ht hs
  obtain ⟨e1, e2⟩ := fl_un2 Z1 hk ek (by decide) s1 hu hq
  rcases t with ⟨n1, hr⟩ | ⟨n1, hr⟩
  · obtain ⟨_, _, _, _, m1, _, m2, _⟩ := m.resolve_right (fun z => n1 (e1.trans z.1))
    obtain ⟨V, Z2, n9⟩ := e2 n1
    refine ⟨m2, ?_⟩
    rw [hr, m1, (fl_zst Z2 (by rw [n9]; exact hk) ek).2.2 20 (by unfold fl_e; omega)]
  · obtain ⟨_, _, _, _, m1, _, m2, _⟩ := m.resolve_left (fun z => z.1 (e1.symm.trans n1))
    exact ⟨m2, by rw [hr, m1]⟩
