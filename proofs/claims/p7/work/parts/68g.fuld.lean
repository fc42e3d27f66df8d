/-- a tick of a channel that runs: warnings, then the end -/
theorem fl_tk1 {tt : Prop} {f f1 G : Nat → Int32} {su t : Nat → Int64} {men men1 r : Int32} {k : Nat} {qa1 : fw_C} {va va1 : fw_W} {x : Nat → fw_C} (s : sd f va x) (D : fl_D f) (hk : (k : Int) < (f 9).toInt) (C : fl_C f su k (x k)) (N : fl_nu (x k)) (A : fl_PA va (x k)) (R : fl_R tt f va) (e8 : tt → f 8 = va.1 8) (n1 : (x k).1 0 = 1) (hr : q_X11_goes men f G su (Int32.ofNat k) men1 f1 t) (hb : t_tick k (x k) va r qa1 va1) : fl_C f1 t k qa1 ∧ fl_nu qa1 ∧ fl_PA va qa1 ∧ fl_R tt f1 va1 ∧ fl_out (Int32.ofNat k) f f1 ∧ (∀ j : Nat, (j < 7 * (Int32.ofNat k).toInt.toNat ∨ 7 * (Int32.ofNat k).toInt.toNat + 7 ≤ j) → t j = su j) ∧ men1 = (if r = 0 then men else men + 1) ∧ (∀ J : Nat, 11 ≤ J → J ≤ 15 → rf_of f1 (Int32.ofNat k) J = rf_of f (Int32.ofNat k) J) := by
  have hk6 : k < 6 := by have h := s.2.1; unfold sd_bds at h; omega
  have hc : 0 ≤ (Int32.ofNat k).toInt ∧ (Int32.ofNat k).toInt < 6 := by rw [fl_on (by omega)]; omega
  have g0 := s.1.1 0 (by omega)
  have g1 := s.1.1 1 (by omega)
  have g2 := s.1.1 2 (by omega)
  have g3 := s.1.1 3 (by omega)
  have g4 := s.1.1 4 (by omega)
  have g5 := s.1.1 5 (by omega)
  have g6 := s.1.1 6 (by omega)
  have g7 := s.1.1 7 (by omega)
  have g13 := s.1.2.1 13 (by omega) (by omega)
  have g14 := s.1.2.1 14 (by omega) (by omega)
  have g15 := s.1.2.1 15 (by omega) (by omega)
  have g16 := s.1.2.1 16 (by omega) (by omega)
  have g10 := s.1.2.2.2.1
  obtain ⟨n, v, ok, hp, hcv⟩ := fl_oko s D hk C N
  have CC := C
  obtain ⟨U, e, c2, c3, cb⟩ := CC
  obtain ⟨N1, N2, ⟨N4, N5⟩, Nh, Nw⟩ := N
  have D1 := D.1
  have sc := (d_tick hb).2
  have ac : fl_ac ((x k).1 0) := Or.inl n1
  obtain ⟨P, np, S, p1, p2, p3, p12, p4, p5, p6, p7⟩ := A.1 ac
  have b10 : (f 10).toInt ≤ 4 := by have h := s.2.1; unfold sd_bds at h; omega
  have hP4 : P < 4 := by rw [← g10] at p2; omega
  obtain ⟨mp, m1, m12, pg, hst⟩ := fl_pgo (P := P) s D (by rw [g10]; exact p2)
  have emp : np = mp := by
    have h := congrArg Int32.toInt (p3.symm.trans pg.1)
    rw [fl_on (by omega), fl_on (by omega)] at h
    omega
  subst emp
  obtain ⟨hs1, hs2⟩ := hst S p5
  obtain ⟨i, hcur, f2, t2, hfl, pm, hpm, f3, hf3, hr⟩ := hr
  obtain ⟨sta9, prg9, stp9, las9, wai9, bin9, bou9, hel9, sbo9, chg9, lft9, cap9, thr9, pz9, tmp9, het9, cun9, vol9, cin9, cou9, ein9, eou9, res9, mca9, mre9, trr9, wfo9, wct9, fbd9, ftb9, fqu9, rold9, rsiz9, frn9, lold9, lsiz9, fln9, hb, eq1, ev1⟩ := hb
  rw [n1] at hb
  obtain ⟨w2, hwc, i2, hi2, chg1, lft1, cap1, thr1, pz1, tmp1, het1, cun1, vol1, cin1, cou1, ein1, eou1, hpc, pm2, hpm2, fbd1, hcf, mm, hmm, ⟨lo, ls, fl, htl⟩, hwa, b_chg9, b_lft9, b_cap9, b_thr9, b_pz9, b_tmp9, b_het9, b_cun9, b_vol9, b_cin9, b_cou9, b_ein9, b_eou9, b_mre9, b_fbd9⟩ := fl_pt hb
  have ua := U.2.2.2.2.1 ac
  have st : ∀ y : Nat, rf_st3 f (Int32.ofNat k) y = f (97 + 37 * P + 3 * S + y) := fun y => by
    unfold rf_st3
    rw [U.1.2.1, ua.1, show ((x k).1 1).toInt.toNat = P from by omega, show ((x k).1 2).toInt.toNat = S from by omega]
  have st0 : rf_st3 f (Int32.ofNat k) 0 = va.2.1 3 (12 * P + S) := by rw [st]; exact (pg.2.2.1 S p5).1
  have st1 : rf_st3 f (Int32.ofNat k) 1 = va.2.1 4 (12 * P + S) := by rw [st, show 97 + 37 * P + 3 * S + 1 = 98 + 37 * P + 3 * S from by omega]; exact (pg.2.2.1 S p5).2.1
  have e6 := e 6 (by unfold fl_e; omega)
  have e7 := e 7 (by unfold fl_e; omega)
  have e8' := e 8 (by unfold fl_e; omega)
  have e9 := e 9 (by unfold fl_e; omega)
  have e13 := e 13 (by unfold fl_e; omega)
  have cC := fl_okC ok
  rw [e6, e7] at cC
  have k6 := ok.2.2.1.1
  rw [e6] at k6
  have cv0 : ∀ j : Nat, j < n → 0 ≤ ((x k).2.2 2 j).toInt ∧ ((x k).2.2 2 j).toInt ≤ 5000 := fun j hj => by
    rw [← hcv j hj]
    exact ok.2.2.2.2 j hj
  have hk4 : rf_st3 f (Int32.ofNat k) 0 = 0 ∨ rf_st3 f (Int32.ofNat k) 0 = 1 ∨ rf_st3 f (Int32.ofNat k) 0 = 2 ∨ rf_st3 f (Int32.ofNat k) 0 = 3 := by
    rw [st0]
    exact hs2 p7
  have W2 := fl_wcc p1 p4 hP4 (by omega) rfl hp ok.1.2.2.2 ⟨cC.1, cC.2.1⟩ ⟨k6.1, cC.2.2⟩ N2.2.2.2.2 N1.2.1.1 cv0 hs1 hwc
  obtain ⟨_, w1, hw1, hcr⟩ := hcur.resolve_right (fun y => y.1 (U.1.1.trans n1))
  have W1 := fl_wmm ok hk4 hw1
  have ew : w1 = w2 := by rw [W1, W2, st0, st1, e6, e7, e8', e13, hp, fl_Vx ok.1.2.2.2 (by omega) (by omega) hcv]
  have I1 := fl_Am (U.1.1.trans n1) hw1 (fun y hy => (fl_wmm ok hk4 hy).trans W1.symm) hcur
  have wb : -5000 ≤ w2.toInt ∧ w2.toInt ≤ 5000 := by rw [W2]; exact fl_wb hs1
  rw [← g6, ← g16] at hi2
  have I2 := fl_Ac wb D1.2.2.2.2 D1.2.2.2.1 k6.1 hi2
  have ei : i2 = i := by rw [I1, I2, e9, e6, ew]
  have ib := fl_Ab (spa := f 16) (hot := f 6) (tmp := (x k).1 9) (chg := (x k).1 6) wb D1.2.2.2.2 D1.2.2.2.1 k6.1
  rw [← I2, ei] at ib
  rw [ei] at hpc
  obtain ⟨a1, ⟨a4, a5, a6, a7, a8, a9, a16, a17, a18⟩, ab, ⟨t0, t1, tt2, t3, t4, t5, t6⟩, to, ao, ar, nb, n4, n5⟩ := fl_md ok hp hcv g0 g1 g2 g3 g7 C ⟨ib.1, ib.2.1⟩ (by rw [e6]; exact ib.2.2) hfl hpm hf3 hpc hpm2 hcf
  have e4 := e 4 (by unfold fl_e; omega)
  have e5 := e 5 (by unfold fl_e; omega)
  have e38 := e 38 (by unfold fl_e; omega)
  have l3 : rf_of f3 (Int32.ofNat k) 3 = (x k).1 3 := (a1 3 (by omega)).trans ua.2.1
  have one : (1 : Int32).toInt = 1 := by decide
  have ec0 : ∀ {a b : Int32}, a - b = 0 → a = b := fun {a b} h => by rw [← Int32.sub_add_cancel a b, h, Int32.zero_add]
  have key : ∃ f4 : Nat → Int32, (∀ J : Nat, J ≠ 38 → rf_of f4 (Int32.ofNat k) J = rf_of f3 (Int32.ofNat k) J) ∧ rf_of f4 (Int32.ofNat k) 38 = mm ∧ fl_out (Int32.ofNat k) f3 f4 ∧ fl_rec f3 f4 ∧ ∃ f5 : Nat → Int32, q_X11_warns f4 (Int32.ofNat k) f5 ∧ ∃ (me6 : Int32) (f6 : Nat → Int32) (t6 : Nat → Int64), q_X11_watches men f5 G t2 (Int32.ofNat k) me6 f6 t6 ∧ men1 = me6 ∧ f1 = f6 ∧ t = t6 := by
    rcases (hr.resolve_right (fun y => y.1 ((a1 0 (by omega)).trans (U.1.1.trans n1)))).2 with ⟨z1, hr⟩ | ⟨z1, ⟨z2, hr⟩ | ⟨z2, f4, h4, hr⟩⟩
    · refine ⟨f3, fun _ _ => rfl, ?_, fl_outr, fl_recr, hr⟩
      rcases hmm with ⟨q1, _⟩ | ⟨q1, _⟩
      · rw [q1, a1 38 (by omega)]; exact e38
      · exact absurd (l3.trans q1) z1
    · refine ⟨f3, fun _ _ => rfl, ?_, fl_outr, fl_recr, hr⟩
      rw [a4, e4] at z2
      rcases hmm with ⟨q1, _⟩ | ⟨_, q1, _⟩
      · rw [q1, a1 38 (by omega)]; exact e38
      · exact absurd (ec0 z2) q1
    · have r4 : rf_of f4 (Int32.ofNat k) = upd (rf_of f3 (Int32.ofNat k)) 38 (((rf_of f3 (Int32.ofNat k) 5 - rf_of f (Int32.ofNat k) 5) * 1000) / (rf_of f3 (Int32.ofNat k) 4 - rf_of f (Int32.ofNat k) 4)) := by rw [h4, fl_ofu]
      refine ⟨f4, fun J hJ => ?_, ?_, ?_, ?_, hr⟩
      · rw [r4]; exact rf_upd_ne hJ
      · rw [r4, rf_upd_eq, a4, a5, e4, e5]
        rw [a4, e4] at z2
        rcases hmm with ⟨_, q1 | q1⟩ | ⟨_, _, q, q1, q2⟩
        · exact absurd (l3.symm.trans z1) q1
        · rw [q1, Int32.sub_self] at z2; exact absurd rfl z2
        · have e5s : (vol1 - (x k).1 5).toInt = vol1.toInt - ((x k).1 5).toInt := Jvm.Kit.i32_sub (by omega) (by omega)
          rw [q2]
          exact (fl_rq (by omega) z2 q1).symm
      · rw [h4]; exact fl_outu (by omega)
      · rw [h4]; exact fl_recu hc (by omega)
  obtain ⟨f4, k4, k38, o4, c4, f5, hwn, me6, f6, t9, hwt, y1, y2, y3⟩ := key
  obtain ⟨w5, o5, c5⟩ := fl_ws hc hwn
  obtain ⟨x37, x36⟩ := fl_wa hwa
  have k5 : ∀ J : Nat, J < 54 → J ≠ 36 → J ≠ 37 → rf_of f5 (Int32.ofNat k) J = rf_of f4 (Int32.ofNat k) J := fun J hJ j1 j2 => by
    rw [w5 J hJ, rf_upd_ne j2, rf_upd_ne j1]
  have k53 : ∀ J : Nat, J < 54 → J ≠ 36 → J ≠ 37 → J ≠ 38 → rf_of f5 (Int32.ofNat k) J = rf_of f3 (Int32.ofNat k) J := fun J hJ j1 j2 j3 => (k5 J hJ j1 j2).trans (k4 J j3)
  have o45 : fl_out (Int32.ofNat k) f f4 := fl_outt ao o4
  have of5 : fl_out (Int32.ofNat k) f f5 := fl_outt o45 o5
  have rc5 : fl_rec f f5 := fl_rect (fun j hj => ar j (by omega)) (fl_rect c4 c5)
  have sv : ∀ j : Nat, j < 244 → j ≠ 12 → j ≠ 17 → f4 j = f j := fl_outs o45
  have sv5 : ∀ j : Nat, j < 244 → j ≠ 12 → j ≠ 17 → f5 j = f j := fl_outs of5
  have e36 := e 36 (by unfold fl_e; omega)
  have e37 := e 37 (by unfold fl_e; omega)
  have fl_w36 : rf_of f5 (Int32.ofNat k) 36 = wct9 := by
    rw [w5 36 (by omega), rf_upd_ne (by omega), rf_upd_eq, k4 5 (by omega), k4 9 (by omega), k4 37 (by omega), k4 36 (by omega), a1 37 (by omega), a1 36 (by omega), e36, e37, a5, a9, sv 13 (by omega) (by omega) (by omega), sv 14 (by omega) (by omega) (by omega), sv 15 (by omega) (by omega) (by omega), g13, g14, g15]
    exact x36.symm
  have fl_w37 : rf_of f5 (Int32.ofNat k) 37 = wfo9 := by
    rw [w5 37 (by omega), rf_upd_eq, k4 5 (by omega), k4 9 (by omega), a5, a9, sv 13 (by omega) (by omega) (by omega), sv 14 (by omega) (by omega) (by omega), sv 15 (by omega) (by omega) (by omega), g13, g14, g15]
    exact x37.symm
  rw [n1] at U
  have U5 : fl_U f5 t2 (Int32.ofNat k) 1 ((x k).1 1) ((x k).1 2) ((x k).1 3) ((x k).1 39) ((x k).1 21) ((x k).2.1 4) ((x k).2.1 5) ((x k).2.1 6) cin1 cou1 ((x k).2.2 0) ((x k).2.2 1) := fl_Ug Nw.2 U (fun J hJ => (k53 J (by omega) (by omega) (by omega) (by omega)).trans (a1 J (by omega))) t0 t1 t4 t5 t6
  have R5 : fl_R tt f5 va := fl_Rw R rc5 rfl rfl rfl
  obtain ⟨u, ⟨r10, r19, r20⟩, sw, ow, tw, h01, RX, mE, nx⟩ := fl_wt hc p1 hP4 (fl_Pgo hP4 of5 pg) p4 p5 p6 p7 Nw Nh ((k53 4 (by omega) (by omega) (by omega) (by omega)).trans a4) ((k53 5 (by omega) (by omega) (by omega) (by omega)).trans a5) ((k53 6 (by omega) (by omega) (by omega) (by omega)).trans a6) ((k53 9 (by omega) (by omega) (by omega) (by omega)).trans a9)
    (((k53 10 (by omega) (by omega) (by omega) (by omega)).trans (a1 10 (by omega))).trans (e 10 (by unfold fl_e; omega))) (((k53 19 (by omega) (by omega) (by omega) (by omega)).trans (a1 19 (by omega))).trans (e 19 (by unfold fl_e; omega))) (((k53 20 (by omega) (by omega) (by omega) (by omega)).trans (a1 20 (by omega))).trans (e 20 (by unfold fl_e; omega)))
    ((sv5 4 (by omega) (by omega) (by omega)).trans g4) ((sv5 5 (by omega) (by omega) (by omega)).trans g5) ((sv5 6 (by omega) (by omega) (by omega)).trans g6) (fun y => (sv5 8 (by omega) (by omega) (by omega)).trans (e8 y)) R5 rfl rfl rfl U5 hwt htl
  obtain ⟨⟨Q0, Q1, Q2, Q3, Q39, Q21, Qb4, Qb5, Qb6⟩, ⟨Q6, Q16, Q7, Q18, Q8, Q9, Q17, Q4, Q5⟩, ⟨Qc0, Qc1, Qc2, Qc3⟩, ⟨Q19, Q20, Q38, Q10, Q37, Q36⟩, Qf3, Qf0, Qf1⟩ := fl_q1 eq1
  obtain ⟨V1, V2, V3, _⟩ := fl_v1 ev1
  rw [y1, y2, y3]
  refine ⟨⟨?_, fun J hJ => ?_, ?_, ?_, fun j hj => ?_⟩, ⟨?_, ?_, ⟨?_, ?_⟩, ?_, ?_⟩, ?_, RX _ V1 V2 V3, fl_outt of5 ow, fun j hj => (tw.1 j hj).trans (to j hj), mE, fun J h1 h2 => ((sw J (by unfold fl_sw; omega)).trans (k53 J (by omega) (by omega) (by omega) (by omega))).trans (a1 J (by omega))⟩
  · rw [Q0, Q1, Q2, Q3, Q39, Q21, Qb4, Qb5, Qb6, Qc0, Qc1, Qf0, Qf1, b_cin9, b_cou9]
    exact u
  · rcases (by unfold fl_e at hJ; omega : J = 4 ∨ J = 5 ∨ J = 6 ∨ J = 7 ∨ J = 8 ∨ J = 9 ∨ J = 10 ∨ J = 12 ∨ J = 13 ∨ J = 14 ∨ J = 15 ∨ J = 16 ∨ J = 17 ∨ J = 18 ∨ J = 19 ∨ J = 20 ∨ J = 36 ∨ J = 37 ∨ J = 38) with z | z | z | z | z | z | z | z | z | z | z | z | z | z | z | z | z | z | z
    · subst z; rw [Q4, b_cun9]; exact ((sw 4 (by unfold fl_sw; omega)).trans (k53 4 (by omega) (by omega) (by omega) (by omega))).trans a4
    · subst z; rw [Q5, b_vol9]; exact ((sw 5 (by unfold fl_sw; omega)).trans (k53 5 (by omega) (by omega) (by omega) (by omega))).trans a5
    · subst z; rw [Q6, b_chg9]; exact ((sw 6 (by unfold fl_sw; omega)).trans (k53 6 (by omega) (by omega) (by omega) (by omega))).trans a6
    · subst z; rw [Q7, b_cap9]; exact ((sw 7 (by unfold fl_sw; omega)).trans (k53 7 (by omega) (by omega) (by omega) (by omega))).trans a7
    · subst z; rw [Q8, b_pz9]; exact ((sw 8 (by unfold fl_sw; omega)).trans (k53 8 (by omega) (by omega) (by omega) (by omega))).trans a8
    · subst z; rw [Q9, b_tmp9]; exact ((sw 9 (by unfold fl_sw; omega)).trans (k53 9 (by omega) (by omega) (by omega) (by omega))).trans a9
    · subst z; rw [Q10]; exact r10
    · subst z; rw [sc.1 12 (by omega) (by omega)]; exact (((sw 12 (by unfold fl_sw; omega)).trans (k53 12 (by omega) (by omega) (by omega) (by omega))).trans (a1 12 (by omega))).trans (e 12 (by unfold fl_e; omega))
    · subst z; rw [sc.1 13 (by omega) (by omega)]; exact (((sw 13 (by unfold fl_sw; omega)).trans (k53 13 (by omega) (by omega) (by omega) (by omega))).trans (a1 13 (by omega))).trans (e 13 (by unfold fl_e; omega))
    · subst z; rw [sc.1 14 (by omega) (by omega)]; exact (((sw 14 (by unfold fl_sw; omega)).trans (k53 14 (by omega) (by omega) (by omega) (by omega))).trans (a1 14 (by omega))).trans (e 14 (by unfold fl_e; omega))
    · subst z; rw [sc.1 15 (by omega) (by omega)]; exact (((sw 15 (by unfold fl_sw; omega)).trans (k53 15 (by omega) (by omega) (by omega) (by omega))).trans (a1 15 (by omega))).trans (e 15 (by unfold fl_e; omega))
    · subst z; rw [Q16, b_lft9]; exact ((sw 16 (by unfold fl_sw; omega)).trans (k53 16 (by omega) (by omega) (by omega) (by omega))).trans a16
    · subst z; rw [Q17, b_het9]; exact ((sw 17 (by unfold fl_sw; omega)).trans (k53 17 (by omega) (by omega) (by omega) (by omega))).trans a17
    · subst z; rw [Q18, b_thr9]; exact ((sw 18 (by unfold fl_sw; omega)).trans (k53 18 (by omega) (by omega) (by omega) (by omega))).trans a18
    · subst z; rw [Q19]; exact r19
    · subst z; rw [Q20]; exact r20
    · subst z; rw [Q36]; exact (sw 36 (by unfold fl_sw; omega)).trans fl_w36
    · subst z; rw [Q37]; exact (sw 37 (by unfold fl_sw; omega)).trans fl_w37
    · subst z; rw [Q38, b_mre9]; exact ((sw 38 (by unfold fl_sw; omega)).trans (k5 38 (by omega) (by omega) (by omega))).trans k38
  · rw [Qc2, b_ein9]; exact (tw.2 2 (by omega)).trans tt2
  · rw [Qc3, b_eou9]; exact (tw.2 3 (by omega)).trans t3
  · rw [Qf3, b_fbd9]; exact ((sw _ (by unfold fl_sw; omega)).trans (k53 _ (by omega) (by omega) (by omega) (by omega))).trans (ab j hj)
  · rw [sc.1 12 (by omega) (by omega), sc.1 13 (by omega) (by omega), sc.1 14 (by omega) (by omega), sc.1 15 (by omega) (by omega)]; exact N1
  · rw [sc.1 12 (by omega) (by omega), Q6, Q7, Q16, Q18, Q8, b_chg9, b_cap9, b_lft9, b_thr9, b_pz9]; exact nb
  · rw [Q4, b_cun9]; exact n4
  · rw [Q5, b_vol9]; exact n5
  · rw [Q21]; exact h01
  · rw [Q39]
    rcases nx with ⟨_, _, _, z, _⟩ | ⟨_, _, z, _⟩ | ⟨z1, _, _, _, z, _⟩
    · rw [z]; exact Nw
    · rw [z]; exact Nw
    · omega
  · exact fl_nxA s D A ac p1 p2 p3 p12 (nx := nx) Q0 Q1 Q2 Q39 Qf0 Qf1
