/-- the class's channel behind a tick, place by place -/
theorem fl_q1 {qa qa1 : fw_C} {sta1_ prg1_ stp1_ las1_ wai1_ hel1_ chg1_ lft1_ cap1_ thr1_ pz1_ tmp1_ het1_ cun1_ vol1_ res1_ mca1_ mre1_ trr1_ wfo1_ wct1_ : Int32} {bin1_ bou1_ sbo1_ cin1_ cou1_ ein1_ eou1_ : Int64} {fbd1_ ftb1_ fqu1_ : Nat → Int32} (h : qa1 = (fw_sr (fw_sl (fw_sl (fw_sl (fw_sl (fw_sr (fw_sr (fw_si (fw_si (fw_si (fw_si (fw_si (fw_si (fw_si (fw_si (fw_si (fw_si (fw_si (fw_si (fw_si (fw_si (fw_si (fw_sl (fw_si (fw_sl (fw_sl (fw_si (fw_si (fw_si (fw_si (fw_si qa 0 sta1_) 1 prg1_) 2 stp1_) 3 las1_) 39 wai1_) 4 bin1_) 5 bou1_) 21 hel1_) 6 sbo1_) 6 chg1_) 16 lft1_) 7 cap1_) 18 thr1_) 8 pz1_) 9 tmp1_) 17 het1_) 4 cun1_) 5 vol1_) 19 res1_) 20 mca1_) 38 mre1_) 10 trr1_) 37 wfo1_) 36 wct1_) 0 ftb1_) 1 fqu1_) 0 cin1_) 1 cou1_) 2 ein1_) 3 eou1_) 3 fbd1_)) :
    (qa1.1 0 = sta1_ ∧ qa1.1 1 = prg1_ ∧ qa1.1 2 = stp1_ ∧ qa1.1 3 = las1_ ∧ qa1.1 39 = wai1_ ∧ qa1.1 21 = hel1_ ∧ qa1.2.1 4 = bin1_ ∧ qa1.2.1 5 = bou1_ ∧ qa1.2.1 6 = sbo1_) ∧ (qa1.1 6 = chg1_ ∧ qa1.1 16 = lft1_ ∧ qa1.1 7 = cap1_ ∧ qa1.1 18 = thr1_ ∧ qa1.1 8 = pz1_ ∧ qa1.1 9 = tmp1_ ∧ qa1.1 17 = het1_ ∧ qa1.1 4 = cun1_ ∧ qa1.1 5 = vol1_) ∧ (qa1.2.1 0 = cin1_ ∧ qa1.2.1 1 = cou1_ ∧ qa1.2.1 2 = ein1_ ∧ qa1.2.1 3 = eou1_) ∧ (qa1.1 19 = res1_ ∧ qa1.1 20 = mca1_ ∧ qa1.1 38 = mre1_ ∧ qa1.1 10 = trr1_ ∧ qa1.1 37 = wfo1_ ∧ qa1.1 36 = wct1_) ∧ (qa1.2.2 3 = fbd1_ ∧ qa1.2.2 0 = ftb1_ ∧ qa1.2.2 1 = fqu1_) := by
  subst h
  exact ⟨⟨rfl, rfl, rfl, rfl, rfl, rfl, rfl, rfl, rfl⟩, ⟨rfl, rfl, rfl, rfl, rfl, rfl, rfl, rfl, rfl⟩, ⟨rfl, rfl, rfl, rfl⟩, ⟨rfl, rfl, rfl, rfl, rfl, rfl⟩, ⟨rfl, rfl, rfl⟩⟩
theorem fl_v1 {va va1 : fw_W} {rold1_ rsiz1_ lold1_ lsiz1_ : Int32} {frn1_ fln1_ : Nat → Int32} (h : va1 = (fw_wr (fw_si (fw_si (fw_wr (fw_si (fw_si va 18 rold1_) 12 rsiz1_) 6 frn1_) 19 lold1_) 17 lsiz1_) 7 fln1_)) : va1.1 12 = rsiz1_ ∧ va1.1 18 = rold1_ ∧ va1.2.1 6 = frn1_ ∧ va1.1 8 = va.1 8 := by
  subst h
  exact ⟨rfl, rfl, rfl, rfl⟩
theorem fl_rq {d e : Int32} {q : Int64} (hd : -600000 ≤ d.toInt ∧ d.toInt ≤ 600000) (he : ¬ e = 0) (h : a_X10_quotient (1000 * d.toInt64) e.toInt64 q) : q.toInt32 = (d * 1000) / e := by
  have tk : (1000 : Int64).toInt = 1000 := by decide
  have tk2 : (1000 : Int32).toInt = 1000 := by decide
  have e0 := fl_i0 he
  have e1 := fl_q h (by rw [Jvm.Kit.i64_of_i32]; exact e0)
  have m64 : (1000 * d.toInt64).toInt = d.toInt * 1000 := by
    rw [Jvm.Kit.i64_mul (by rw [tk, Jvm.Kit.i64_of_i32]; omega) (by rw [tk, Jvm.Kit.i64_of_i32]; omega), tk, Jvm.Kit.i64_of_i32, Int.mul_comm]
  have m32 : (d * 1000).toInt = d.toInt * 1000 := by rw [Jvm.Kit.i32_mul (by rw [tk2]; omega) (by rw [tk2]; omega), tk2]
  have q64 : q.toInt = (d.toInt * 1000).tdiv e.toInt := by
    rw [e1, Jvm.Kit.i64_div (by rw [m64]; omega), m64, Jvm.Kit.i64_of_i32]
  have q32 : ((d * 1000) / e).toInt = (d.toInt * 1000).tdiv e.toInt := by rw [Jvm.Kit.i32_div (by rw [m32]; omega), m32]
  have b : -600000000 ≤ (d.toInt * 1000).tdiv e.toInt ∧ (d.toInt * 1000).tdiv e.toInt ≤ 600000000 := by
    by_cases w : 1 ≤ e.toInt
    · have t := fl_td (x := d.toInt * 1000) w
      split at t <;> omega
    · have t := fl_td (x := d.toInt * 1000) (s := -e.toInt) (by omega)
      rw [Int.tdiv_neg] at t
      split at t <;> omega
  refine Int32.toInt.inj ?_
  rw [Jvm.Kit.i32_of_i64 (by rw [q64]; omega) (by rw [q64]; omega), q64, q32]
theorem fl_Ug {f f1 : Nat → Int32} {su t : Nat → Int64} {c sta prg stp las wai hel : Int32} {bin bou sbo cin cou cin1 cou1 : Int64} {ftb fqu : Nat → Int32} (hw : wai.toInt ≤ 4) (U : fl_U f su c sta prg stp las wai hel bin bou sbo cin cou ftb fqu) (k : ∀ J : Nat, (J < 4 ∨ (20 < J ∧ J < 36) ∨ (38 < J ∧ J < 44)) → rf_of f1 c J = rf_of f c J)
    (s0 : t (7 * c.toInt.toNat + 0) = cin1) (s1 : t (7 * c.toInt.toNat + 1) = cou1) (s4 : t (7 * c.toInt.toNat + 4) = cin1 - bin) (s5 : t (7 * c.toInt.toNat + 5) = cou1 - bou) (s6 : t (7 * c.toInt.toNat + 6) = su (7 * c.toInt.toNat + 6)) : fl_U f1 t c sta prg stp las wai hel bin bou sbo cin1 cou1 ftb fqu := by
  obtain ⟨⟨u0, u1, u39, u21⟩, ut, uq, us, ua, un⟩ := U
  exact ⟨⟨(k 0 (by omega)).trans u0, (k 1 (by omega)).trans u1, (k 39 (by omega)).trans u39, (k 21 (by omega)).trans u21⟩, fun j hj => (k _ (by omega)).trans (ut j hj), fun j hj => (k _ (by omega)).trans (uq j hj), ⟨s0, s1, s4, s5⟩, fun z => ⟨(k 2 (by omega)).trans (ua z).1, (k 3 (by omega)).trans (ua z).2.1, s6.trans (ua z).2.2⟩, fun z => ⟨(k 2 (by omega)).trans (un z).1, (k 3 (by omega)).trans (un z).2⟩⟩
theorem fl_Pgo {f g fsps fk ff fs : Nat → Int32} {P n : Nat} {c : Int32} (hP : P < 4) (o : fl_out c f g) (pg : fl_Pg f fsps fk ff fs P n) : fl_Pg g fsps fk ff fs P n := by
  have hn := pg.2.2.2.1
  exact ⟨pg.1, (o _ (by omega) (by omega) (by omega) (by omega)).trans pg.2.1, fun j hj => ⟨(o _ (by omega) (by omega) (by omega) (by omega)).trans (pg.2.2.1 j hj).1, (o _ (by omega) (by omega) (by omega) (by omega)).trans (pg.2.2.1 j hj).2.1, (o _ (by omega) (by omega) (by omega) (by omega)).trans (pg.2.2.1 j hj).2.2⟩, pg.2.2.2⟩
/-- who runs what behind a tick -/
theorem fl_nxA {f : Nat → Int32} {va : fw_W} {x : Nat → fw_C} {q qa1 : fw_C} {P n : Nat} {sta9 prg9 stp9 wai9 : Int32} {ftb9 fqu9 : Nat → Int32} (s : sd f va x) (D : fl_D f) (A : fl_PA va q) (ac : fl_ac (q.1 0)) (p1 : (q.1 1).toInt = P) (p2 : (P : Int) < (va.1 10).toInt) (p3 : va.2.1 2 P = Int32.ofNat n) (p12 : n ≤ 12)
    (nx : fl_nx (va.2.1 3) P n (q.1 1) (q.1 39) (q.2.2 0) (q.2.2 1) sta9 prg9 stp9 wai9 ftb9 fqu9) (Q0 : qa1.1 0 = sta9) (Q1 : qa1.1 1 = prg9) (Q2 : qa1.1 2 = stp9) (Q39 : qa1.1 39 = wai9) (Qf0 : qa1.2.2 0 = ftb9) (Qf1 : qa1.2.2 1 = fqu9) : fl_PA va qa1 := by
  have g10 := s.1.2.2.2.1
  have tail : ∀ j : Nat, n ≤ j → j < 12 → q.2.2 0 j = 0 := by
    rcases A.2.2 with ⟨z, h⟩ | ⟨P2, n2, z1, z2, z3, z4, h⟩
    · rw [z] at p1
      have : (-1 : Int32).toInt = -1 := by decide
      omega
    · have eP : P2 = P := by omega
      subst eP
      have h9 := congrArg Int32.toInt (p3.symm.trans z3)
      rw [fl_on (by omega), fl_on (by omega)] at h9
      intro j h1 h2
      exact h j (by omega) h2
  unfold fl_PA
  rw [Q0, Q1, Q2, Q39, Qf0, Qf1]
  rcases nx with ⟨z0, z1, ⟨S1, z2, z3, z4, z5⟩, z6, z7, z8⟩ | ⟨z0, z1, z6, z7, z8⟩ | ⟨z1, z2, z3, z4, z5, z6, z7⟩
  · rw [z1, z6, z7]
    exact ⟨fun _ => ⟨P, n, S1, p1, p2, p3, p12, z2, z3, z4, z5⟩, A.2.1, Or.inr ⟨P, n, p1, p2, p3, p12, fun j h1 h2 => (z8 j h1 h2).trans (tail j h1 h2)⟩⟩
  · rw [z0, z1, z6, z7]
    exact ⟨fun z => absurd z (by unfold fl_ac; decide), A.2.1, Or.inr ⟨P, n, p1, p2, p3, p12, fun j h1 h2 => (z8 j h1 h2).trans (tail j h1 h2)⟩⟩
  · obtain ⟨a1, a2⟩ := A.2.1 0 (by omega)
    obtain ⟨m, m1, m12, pg, _⟩ := fl_pgo (P := (q.2.2 1 0).toInt.toNat) s D (by rw [g10]; omega)
    have z0 : (0 : Int32).toInt = 0 := by decide
    rw [z3, z4]
    refine ⟨fun _ => ⟨(q.2.2 1 0).toInt.toNat, m, 0, by omega, by omega, pg.1, m12, z0, by omega, fun j hj => absurd hj (Nat.not_lt_zero j), fun h4 => ?_⟩, fun j hj => ?_, Or.inr ⟨(q.2.2 1 0).toInt.toNat, m, by omega, by omega, pg.1, m12, fun j _ h2 => z7 j h2⟩⟩
    · have := pg.2.2.2.2 0 (by omega) h4
      omega
    · rw [z6 j hj]
      exact A.2.1 (j + 1) (by omega)
/-- a tick of a channel that isn't running -/
theorem fl_tk0 {tt : Prop} {f f1 G : Nat → Int32} {su t : Nat → Int64} {men men1 r : Int32} {k : Nat} {qa1 : fw_C} {va va1 : fw_W} {x : Nat → fw_C} (s : sd f va x) (D : fl_D f) (hk : (k : Int) < (f 9).toInt) (C : fl_C f su k (x k)) (N : fl_nu (x k)) (A : fl_PA va (x k)) (R : fl_R tt f va) (e8 : tt → f 8 = va.1 8) (n1 : ¬ (x k).1 0 = 1) (hr : q_X11_goes men f G su (Int32.ofNat k) men1 f1 t) (hb : t_tick k (x k) va r qa1 va1) : fl_C f1 t k qa1 ∧ fl_nu qa1 ∧ fl_PA va qa1 ∧ fl_R tt f1 va1 ∧ fl_out (Int32.ofNat k) f f1 ∧ (∀ j : Nat, (j < 7 * (Int32.ofNat k).toInt.toNat ∨ 7 * (Int32.ofNat k).toInt.toNat + 7 ≤ j) → t j = su j) ∧ men1 = (if r = 0 then men else men + 1) ∧ (∀ J : Nat, 11 ≤ J → J ≤ 15 → rf_of f1 (Int32.ofNat k) J = rf_of f (Int32.ofNat k) J) := by
  have hk6 : k < 6 := by have h := s.2.1; unfold sd_bds at h; omega
  have hc : 0 ≤ (Int32.ofNat k).toInt ∧ (Int32.ofNat k).toInt < 6 := by rw [fl_on (by omega)]; omega
  have g0 := s.1.1 0 (by omega)
  have g1 := s.1.1 1 (by omega)
  have g2 := s.1.1 2 (by omega)
  have g3 := s.1.1 3 (by omega)
  have g4 := s.1.1 4 (by omega)
  have g5 := s.1.1 5 (by omega)
  have g6 := s.1.1 6 (by omega)
  have g7 := s.1.1 7 (by omega)
  have g13 := s.1.2.1 13 (by omega) (by omega)
  have g14 := s.1.2.1 14 (by omega) (by omega)
  have g15 := s.1.2.1 15 (by omega) (by omega)
  have g16 := s.1.2.1 16 (by omega) (by omega)
  have g10 := s.1.2.2.2.1
  obtain ⟨n, v, ok, hp, hcv⟩ := fl_oko s D hk C N
  have CC := C
  obtain ⟨U, e, c2, c3, cb⟩ := CC
  obtain ⟨N1, N2, ⟨N4, N5⟩, Nh, Nw⟩ := N
  have D1 := D.1
  have sc := (d_tick hb).2
  obtain ⟨i, hcur, f2, t2, hfl, pm, hpm, f3, hf3, hr⟩ := hr
  obtain ⟨sta9, prg9, stp9, las9, wai9, bin9, bou9, hel9, sbo9, chg9, lft9, cap9, thr9, pz9, tmp9, het9, cun9, vol9, cin9, cou9, ein9, eou9, res9, mca9, mre9, trr9, wfo9, wct9, fbd9, ftb9, fqu9, rold9, rsiz9, frn9, lold9, lsiz9, fln9, hb, eq1, ev1⟩ := hb
  obtain ⟨w, hw, i2, hi2, chg1, lft1, cap1, thr1, pz1, tmp1, het1, cun1, vol1, cin1, cou1, ein1, eou1, hpc, pm2, hpm2, fbd1, hcf, hb⟩ := hb
  have z : (0 : Int32).toInt = 0 := by decide
  have w0 := fl_w0 n1 hw
  rw [w0] at hi2
  have k6 := ok.2.2.1.1
  have e6 := e 6 (by unfold fl_e; omega)
  rw [e6] at k6
  rw [← g6, ← g16] at hi2
  have i0 : i2 = 0 := (fl_Ac (w := 0) (by decide) D1.2.2.2.2 D1.2.2.2.1 k6.1 hi2).trans (fl_A0 D1.2.2.2.2.1 k6.1)
  have i1 : i = 0 := (hcur.resolve_left (fun y => n1 (U.1.1.symm.trans y.1))).2
  rw [i0] at hpc
  rw [i1] at hfl
  obtain ⟨a1, ⟨a4, a5, a6, a7, a8, a9, a16, a17, a18⟩, ab, ⟨t0, t1, tt2, t3, t4, t5, t6⟩, to, ao, ar, nb, n4, n5⟩ := fl_md ok hp hcv g0 g1 g2 g3 g7 C (by decide) (by rw [z, e6]; omega) hfl hpm hf3 hpc hpm2 hcf
  obtain ⟨_, f4, h4, m1, q1, q2⟩ := hr.resolve_left (fun y => n1 ((U.1.1.symm.trans (a1 0 (by omega)).symm).trans y.1))
  obtain ⟨_, b_r, b_sta9, b_prg9, b_stp9, b_las9, b_wai9, b_bin9, b_bou9, b_hel9, b_sbo9, b_chg9, b_lft9, b_cap9, b_thr9, b_pz9, b_tmp9, b_het9, b_cun9, b_vol9, b_cin9, b_cou9, b_ein9, b_eou9, b_res9, b_mca9, b_mre9, b_trr9, b_wfo9, b_wct9, b_fbd9, b_ftb9, b_fqu9, b_rold9, b_rsiz9, b_frn9⟩ := hb.resolve_left (fun y => n1 y.1)
  obtain ⟨⟨Q0, Q1, Q2, Q3, Q39, Q21, Qb4, Qb5, Qb6⟩, ⟨Q6, Q16, Q7, Q18, Q8, Q9, Q17, Q4, Q5⟩, ⟨Qc0, Qc1, Qc2, Qc3⟩, ⟨Q19, Q20, Q38, Q10, Q37, Q36⟩, Qf3, Qf0, Qf1⟩ := fl_q1 eq1
  obtain ⟨V1, V2, V3, _⟩ := fl_v1 ev1
  have r4 : ∀ J : Nat, J ≠ 37 → rf_of f4 (Int32.ofNat k) J = rf_of f3 (Int32.ofNat k) J := fun J hJ => by
    rw [h4, fl_ofu]
    exact rf_upd_ne hJ
  have r37 : rf_of f4 (Int32.ofNat k) 37 = 0 := by
    rw [h4, fl_ofu]
    exact rf_upd_eq
  rw [q1, q2, m1]
  refine ⟨⟨?_, fun J hJ => ?_, ?_, ?_, fun j hj => ?_⟩, ⟨?_, ?_, ⟨?_, ?_⟩, ?_, ?_⟩, ?_, ?_, ?_, to, ?_, fun J h1 h2 => (r4 J (by omega)).trans (a1 J (by omega))⟩
  · rw [Q0, Q1, Q2, Q3, Q39, Q21, Qb4, Qb5, Qb6, Qc0, Qc1, Qf0, Qf1, b_sta9, b_prg9, b_stp9, b_las9, b_wai9, b_hel9, b_bin9, b_bou9, b_sbo9, b_cin9, b_cou9, b_ftb9, b_fqu9]
    exact fl_Ug Nw.2 U (fun J hJ => (r4 J (by omega)).trans (a1 J (by omega))) t0 t1 t4 t5 t6
  · rcases (by unfold fl_e at hJ; omega : J = 4 ∨ J = 5 ∨ J = 6 ∨ J = 7 ∨ J = 8 ∨ J = 9 ∨ J = 10 ∨ J = 12 ∨ J = 13 ∨ J = 14 ∨ J = 15 ∨ J = 16 ∨ J = 17 ∨ J = 18 ∨ J = 19 ∨ J = 20 ∨ J = 36 ∨ J = 37 ∨ J = 38) with z | z | z | z | z | z | z | z | z | z | z | z | z | z | z | z | z | z | z
    · subst z; rw [Q4, b_cun9]; exact (r4 4 (by omega)).trans a4
    · subst z; rw [Q5, b_vol9]; exact (r4 5 (by omega)).trans a5
    · subst z; rw [Q6, b_chg9]; exact (r4 6 (by omega)).trans a6
    · subst z; rw [Q7, b_cap9]; exact (r4 7 (by omega)).trans a7
    · subst z; rw [Q8, b_pz9]; exact (r4 8 (by omega)).trans a8
    · subst z; rw [Q9, b_tmp9]; exact (r4 9 (by omega)).trans a9
    · subst z; rw [Q10, b_trr9]; exact ((r4 10 (by omega)).trans (a1 10 (by omega))).trans (e 10 (by unfold fl_e; omega))
    · subst z; rw [sc.1 12 (by omega) (by omega)]; exact ((r4 12 (by omega)).trans (a1 12 (by omega))).trans (e 12 (by unfold fl_e; omega))
    · subst z; rw [sc.1 13 (by omega) (by omega)]; exact ((r4 13 (by omega)).trans (a1 13 (by omega))).trans (e 13 (by unfold fl_e; omega))
    · subst z; rw [sc.1 14 (by omega) (by omega)]; exact ((r4 14 (by omega)).trans (a1 14 (by omega))).trans (e 14 (by unfold fl_e; omega))
    · subst z; rw [sc.1 15 (by omega) (by omega)]; exact ((r4 15 (by omega)).trans (a1 15 (by omega))).trans (e 15 (by unfold fl_e; omega))
    · subst z; rw [Q16, b_lft9]; exact (r4 16 (by omega)).trans a16
    · subst z; rw [Q17, b_het9]; exact (r4 17 (by omega)).trans a17
    · subst z; rw [Q18, b_thr9]; exact (r4 18 (by omega)).trans a18
    · subst z; rw [Q19, b_res9]; exact ((r4 19 (by omega)).trans (a1 19 (by omega))).trans (e 19 (by unfold fl_e; omega))
    · subst z; rw [Q20, b_mca9]; exact ((r4 20 (by omega)).trans (a1 20 (by omega))).trans (e 20 (by unfold fl_e; omega))
    · subst z; rw [Q36, b_wct9]; exact ((r4 36 (by omega)).trans (a1 36 (by omega))).trans (e 36 (by unfold fl_e; omega))
    · subst z; rw [Q37, b_wfo9]; exact r37
    · subst z; rw [Q38, b_mre9]; exact ((r4 38 (by omega)).trans (a1 38 (by omega))).trans (e 38 (by unfold fl_e; omega))
  · rw [Qc2, b_ein9]; exact tt2
  · rw [Qc3, b_eou9]; exact t3
  · rw [Qf3, b_fbd9]; exact (r4 _ (by omega)).trans (ab j hj)
  · rw [sc.1 12 (by omega) (by omega), sc.1 13 (by omega) (by omega), sc.1 14 (by omega) (by omega), sc.1 15 (by omega) (by omega)]; exact N1
  · rw [sc.1 12 (by omega) (by omega), Q6, Q7, Q16, Q18, Q8, b_chg9, b_cap9, b_lft9, b_thr9, b_pz9]; exact nb
  · rw [Q4, b_cun9]; exact n4
  · rw [Q5, b_vol9]; exact n5
  · rw [Q21, b_hel9]; exact Nh
  · rw [Q39, b_wai9]; exact Nw
  · unfold fl_PA
    rw [Q0, Q1, Q2, Q39, Qf0, Qf1, b_sta9, b_prg9, b_stp9, b_wai9, b_ftb9, b_fqu9]
    exact A
  · refine fl_Rw R (fun j hj => ?_) (V1.trans b_rsiz9) (V2.trans b_rold9) (V3.trans b_frn9)
    rw [h4]
    exact (rf_upd_ne (by omega)).trans (ar j (by omega))
  · rw [h4]
    exact fl_outt ao (fl_outu (by omega))
  · rw [b_r, if_pos rfl]
