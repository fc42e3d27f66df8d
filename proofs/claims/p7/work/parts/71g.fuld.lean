/-- a new object -/
theorem fl_Z0 {g0 : Nat → Int32} {su : Nat → Int64} (e : q_eq 958 rq_W0 g0) : fl_Z True g0 su fw_W0 fw_X0 := by
  obtain ⟨q1, q10, q11, q9, q8, q12, q0, q2, q6, q16⟩ := fl_rq0
  have z : (0 : Int32).toInt = 0 := by decide
  have w8 : fw_W0.1 8 = 0 := rfl
  have w12 : fw_W0.1 12 = 0 := rfl
  have w18 : fw_W0.1 18 = 0 := rfl
  refine ⟨(sd_00 e).1, ⟨⟨by rw [e 0 (by omega), q0]; decide, by rw [e 1 (by omega), q1]; decide, by rw [e 2 (by omega), q2]; decide, by rw [e 6 (by omega), q6]; decide, by rw [e 16 (by omega), q16]; decide⟩, fun v hv => ?_, fun p hp => ?_⟩, fun _ => by rw [e 8 (by omega), q8, w8], ?_, fun k hk => ?_⟩
  · rw [e 11 (by omega), q11, z] at hv
    omega
  · rw [e 10 (by omega), q10, z] at hp
    omega
  · refine ⟨by rw [e 12 (by omega), q12, w12], by rw [e 12 (by omega), q12, z]; omega, by rw [w18, z]; omega, fun _ => by rw [w18, z], fun i m hi => ?_⟩
    rw [e 12 (by omega), q12, z] at hi
    omega
  · rw [e 9 (by omega), q9, z] at hk
    omega
/-- a cell as it is behind insertCell() -/
theorem fl_inC {qa u : fw_C} {chg amb : Int32} {sta prg stp las wai hel chg1 lft cap thr pz tmp het cun vol res mca mre trr wfo wct : Int32} {bin bou sbo cin cou ein eou : Int64} {fbd ftb : Nat → Int32} (h : a_X1_insertCell (qa.1 12) (qa.2.2 3) (qa.2.2 0) chg amb sta prg stp las wai bin bou hel sbo chg1 lft cap thr pz tmp het cun vol cin cou ein eou res mca mre trr wfo wct fbd ftb)
    (hu : u = (fw_sr (fw_sl (fw_sl (fw_sl (fw_sl (fw_sr (fw_si (fw_si (fw_si (fw_si (fw_si (fw_si (fw_si (fw_si (fw_si (fw_si (fw_si (fw_si (fw_si (fw_si (fw_si (fw_sl (fw_si (fw_sl (fw_sl (fw_si (fw_si (fw_si (fw_si (fw_si qa 0 sta) 1 prg) 2 stp) 3 las) 39 wai) 4 bin) 5 bou) 21 hel) 6 sbo) 6 chg1) 16 lft) 7 cap) 18 thr) 8 pz) 9 tmp) 17 het) 4 cun) 5 vol) 19 res) 20 mca) 38 mre) 10 trr) 37 wfo) 36 wct) 0 ftb) 0 cin) 1 cou) 2 ein) 3 eou) 3 fbd)) :
    (∀ J : Nat, (J ≤ 1 ∨ J = 3 ∨ (4 ≤ J ∧ J ≤ 10) ∨ (16 ≤ J ∧ J ≤ 21) ∨ (36 ≤ J ∧ J ≤ 39)) → u.1 J = if J = 9 then amb else if J = 38 then -1 else if J = 20 then -1 else if J = 19 then -1 else if J = 7 then qa.1 12 else if J = 6 then chg else if J = 1 then -1 else 0) ∧ (∀ j : Nat, j < 7 → u.2.1 j = 0) ∧ (∀ j : Nat, j < 12 → u.2.2 0 j = 0) ∧ (∀ j : Nat, j < 10 → u.2.2 3 j = 0) ∧ sd_C qa u := by
  obtain ⟨re8, mc8, mr8, tr8, wf8, wc8, fb8, ⟨fb9, hf9, f1', f2', f3', f4', f5', f6', f7'⟩, tb8, ht8, i1, i2, i3, i4, i5, i6, i7, i8, i9, i10, i11, i12, i13, i14, i15, i16, i17, i18, i19, i20, i21, i22, i23, i24, i25, i26, i27, i28, i29, i30⟩ := h
  refine ⟨fun J hJ => ?_, fun j hj => ?_, fun j hj => ?_, fun j hj => ?_, ?_⟩
  · subst hu
    rcases fl_Jx hJ with z | z | z | z | z | z | z | z | z | z | z | z | z | z | z | z | z | z | z | z <;> subst z <;> first | exact i1 | exact i2 | exact i4 | exact i5 | exact i8 | exact i10 | exact i11 | exact i12 | exact i13 | exact i14 | exact i15 | exact i16 | exact i17 | exact i18 | exact i23.trans f1' | exact i24.trans f2' | exact i25.trans f3' | exact i26.trans f4' | exact i27.trans f5' | exact i28.trans f6'
  · subst hu
    rcases (by omega : j = 0 ∨ j = 1 ∨ j = 2 ∨ j = 3 ∨ j = 4 ∨ j = 5 ∨ j = 6) with z | z | z | z | z | z | z <;> subst z <;> first | exact i19 | exact i20 | exact i21 | exact i22 | exact i6 | exact i7 | exact i9
  · subst hu
    show ftb j = 0
    rw [i30, ht8 j, if_pos hj]
  · subst hu
    show fbd j = 0
    rw [i29, f7', hf9 j, if_pos hj]
  · subst hu
    exact sd_Csr (sd_Csl (sd_Csl (sd_Csl (sd_Csl (sd_Csr (fl_Ci sd_Cr) (by decide)))))) (by decide)
/-- the cells' curves never fall -/
def fl_mx (x : Nat → fw_C) (N : Int) : Prop := ∀ k : Nat, (k : Int) < N → ∀ n : Nat, (x k).1 11 = Int32.ofNat n → n ≤ 11 → ∀ j : Nat, j + 1 < n → ((x k).2.2 2 j).toInt ≤ ((x k).2.2 2 (j + 1)).toInt
theorem fl_mxn {W V : fw_W} {x : Nat → fw_C} (h : fl_mx x (W.1 9).toInt) (e : V.1 9 = W.1 9) : fl_mx x (V.1 9).toInt := by
  rw [e]
  exact h
theorem fl_mxs {x y : Nat → fw_C} {N : Int} (h : fl_mx x N) (s : sd_X N.toNat x y) : fl_mx y N := by
  intro k hk n hn n11 j hj
  obtain ⟨s1, s2⟩ := s k (by omega)
  rw [s1 11 (by omega) (by omega)] at hn
  rw [s2 j (by omega), s2 (j + 1) (by omega)]
  exact h k hk n hn n11 j hj
theorem fl_mxt {W V : fw_W} {x y : Nat → fw_C} (h : fl_mx x (W.1 9).toInt) (w : sd_W W V) (s : sd_X (W.1 9).toInt.toNat x y) : fl_mx y (V.1 9).toInt := fl_mxn (fl_mxs h s) (w.1 9 (by omega))
theorem fl_mxE {f : Nat → Int32} {W : fw_W} {x : Nat → fw_C} (E : fl_E f) (s : sd f W x) : fl_mx x (W.1 9).toInt := by
  obtain ⟨s1, b, c, _, o⟩ := s
  unfold sd_bds at b
  have h9 : f 9 = W.1 9 := s1.2.2.1
  intro k hk m hm m11 j hj
  obtain ⟨v, v1, v2, v3, v4, v5⟩ := o k (by rw [h9]; omega)
  obtain ⟨n, n1, n2, n3, n4, n5⟩ := c v v1
  have en := congrArg Int32.toInt (hm.symm.trans (v3.trans n4))
  rw [fl_on (by omega), fl_on (by omega)] at en
  have emn : m = n := by omega
  subst emn
  have e := (E.2.1 v (by omega) m n3 (by omega)).2 j hj
  rw [n5 j (by omega), n5 (j + 1) (by omega)] at e
  rw [n4, fl_on (by omega)] at v5
  rw [v5 j (by omega), v5 (j + 1) (by omega)]
  exact e
theorem fl_9_setAmbient {p r : Int32} {o o1 : Nat → Int64} {W V : fw_W} (c : t_L_setAmbient p o W r V o1) : V.1 9 = W.1 9 := by
  rcases c with ⟨_, rc, vc, ⟨c1, d, hd, c2, c3⟩, c4, c5, c6⟩ | ⟨c1, c2, c3, c4⟩
  · rw [c5, c3, hd]
    rfl
  · rw [c3]
theorem fl_9_setDerate {p r : Int32} {o o1 : Nat → Int64} {W V : fw_W} (c : t_L_setDerate p o W r V o1) : V.1 9 = W.1 9 := by
  rcases c with ⟨_, rc, vc, ⟨c1, d, hd, c2, c3⟩, c4, c5, c6⟩ | ⟨c1, c2, c3, c4⟩
  · rw [c5, c3, hd]
    rfl
  · rw [c3]
theorem fl_9_setLimits {p p2 r : Int32} {o o1 : Nat → Int64} {W V : fw_W} {x : Nat → fw_C} (c : t_L_setLimits p p2 o W x r V o1) : V.1 9 = W.1 9 := by
  rcases c with ⟨_, rc, vc, ⟨c1, c2, W3, hW, y1, y2, ⟨⟨b1, b2⟩, b3⟩, b4, b5, b6⟩, c4, c5, c6⟩ | ⟨c1, c2, c3, c4⟩
  · rw [c5, b6, hW]
    rfl
  · rw [c3]
theorem fl_mxc {tt : Prop} {f : Nat → Int32} {su : Nat → Int64} {W W0 V : fw_W} {x x0 y : Nat → fw_C} (Z : fl_Z tt f su W x) (h : fl_mx x (W.1 9).toInt) (c : t_copyFrom W0 W x0 x V y) : fl_mx y (V.1 9).toInt := by
  obtain ⟨d1, d2⟩ := sd_copy c
  have b := Z.1.2.1
  unfold sd_bds at b
  rw [Z.1.1.2.2.1] at b
  exact fl_mxt h d1 (d2 _ (by omega))
theorem fl_mx0 : fl_mx fw_X0 (fw_W0.1 9).toInt := fun k hk => absurd hk (by
  rw [show (fw_W0.1 9).toInt = 0 from by decide]
  omega)
/-- a slot's -/
def lw_sM (o : Option ((Nat → Nat) × fw_W × (Nat → fw_C))) : Prop := match o with
  | none => True
  | some q => fl_mx q.2.2 (q.2.1.1 9).toInt
theorem zl_load {f f1 : Nat → Int32} {b : Nat → Int32} {n r le1 : Int32} {va vb va1 vb1 : fw_W} {xa xb xa1 xb1 : Nat → fw_C} {su su1 : Nat → Int64} (hn : 0 ≤ n.toInt ∧ n.toInt ≤ 800) (Z : fl_Z True f su va xa) (c : t_load n b va vb xb xa r va1 vb1 xb1 xa1 le1) (m : (¬ rp_K b n = 0 → f1 = f ∧ su1 = su) ∧ (rp_K b n = 0 → rq_L b n f1 su1)) : fl_Z True f1 su1 va1 xa1 ∧ (fl_mx xa (va.1 9).toInt → fl_mx xa1 (va1.1 9).toInt) := by
  obtain ⟨W0, hc, W, x, pl, ws, er, ep, ⟨hT, hx⟩, h⟩ := c
  rcases h with ⟨e0, x2, hi, V, y, hp, e1, e2, e3, e4, e5, e7⟩ | ⟨e0, e1, e2, e3, e4, e5, e7⟩
  · have k := (hT.1 e0).1
    have hr := hx e0
    obtain ⟨g0, g, q0, hg, hl, hf, hs⟩ := m.2 k
    obtain ⟨s0, n0, m0, e9, e10⟩ := sd_0 (x := xb) q0 hc
    have z : (0 : Int32).toInt = 0 := by decide
    obtain ⟨N1, a1, a2, a3, a4⟩ := sd_x hn.2 802 [] 0 0 0 g0 W0 xb (by rw [z]; omega) s0 n0 List.nodup_nil m0 (by rw [e9]; exact z) (by rw [e10]; exact z) k
    have E := fl_Ex hn.2 802 [] 0 0 0 g0 W0 xb (by rw [z]; omega) s0 n0 List.nodup_nil (by rw [e9]; exact z) (by rw [e10]; exact z) k (fl_E0 q0)
    have w3 : ∀ j : Nat, fl_j3 j → W.1 j = W0.1 j := fun j hj => by
      have h := fl_rdx (b := b) (n := n) hj 802 [] 0 0 0 W0 xb
      rw [← hr] at h
      exact h
    rw [← hr, ← hg] at a1
    rw [← hg] at E
    have D := fl_DE a1 hl E
    obtain ⟨V0, hV0, e8⟩ := hc
    subst e8 hV0
    have w8 : W.1 8 = 0 := (w3 8 (Or.inl rfl)).trans rfl
    have w12 : W.1 12 = 0 := (w3 12 (Or.inr (Or.inl rfl))).trans rfl
    have w18 : W.1 18 = 0 := (w3 18 (Or.inr (Or.inr rfl))).trans rfl
    have gb := a1.2.1
    unfold sd_bds at gb
    have c9 : (g 9).toInt = (W.1 9).toInt := by rw [a1.1.2.2.1]
    have fj : ∀ j : Nat, j < 244 → f1 j = g j := fun j hj => (hf j (by omega)).trans (rq_ldF (Or.inl hj) _)
    have ff : sd_f g f1 := ⟨fun j j1 _ _ _ => fj j j1, fun k j k6 j1 j2 => (hf j (by omega)).trans (rq_ldF (Or.inr ⟨k, j1, j2⟩) _)⟩
    obtain ⟨⟨_, _, _, _, _, _, _, _, st9, _⟩, _, l3, l12, _, l8⟩ := hl
    have sd2 : sd f1 W x2 := sd_to a1 ff sd_Wr (sd_ins hi _ (by omega))
    have f9 : f1 9 = g 9 := fj 9 (by omega)
    have Zb : fl_Z True f1 su1 W x2 := by
      refine ⟨sd2, fl_Dk a1 (fun j hj _ _ => fj j hj) D, fun _ => by rw [fj 8 (by omega), l8, w8], ?_, fun i hik => ?_⟩
      · refine ⟨by rw [fj 12 (by omega), l12, w12], by rw [fj 12 (by omega), l12, z]; omega, by rw [w18, z]; omega, fun _ => by rw [w18, z], fun i m hi => ?_⟩
        rw [fj 12 (by omega), l12, z] at hi
        omega
      · rw [f9] at hik
        obtain ⟨y2, x3, ⟨⟨y0, y1⟩, hc3, _⟩, hy3, e3'⟩ := hi
        subst e3'
        have hy4 : (W.1 9).toInt ≤ y2.toInt := Int32.le_iff_toInt_le.mp hy3
        obtain ⟨sta, prg, stp, las, wai, bin, bou, hel, sbo, chg1, lft, cap, thr, pz, tmp, het, cun, vol, cin, cou, ein, eou, res, mca, mre, trr, wfo, wct, fbd, ftb, hin, hu⟩ := hc3.1 i (by omega)
        obtain ⟨v1, v2, v3, v4, v5⟩ := fl_inC hin hu
        obtain ⟨cv, _, _, _, q4, _⟩ := a1.2.2.2.2 i (by omega)
        have q4 : ∀ J : Nat, 12 ≤ J → J ≤ 15 → (x i).1 J = g (244 + 54 * i + J) := q4
        obtain ⟨_, r12, r13, r14, r15⟩ := st9 i hik
        have ld : ∀ J : Nat, 12 ≤ J → J ≤ 15 → rq_ld g i (244 + 54 * i + J) = (x i).1 J := fun J j1 j2 => (rq_ldF (Or.inr ⟨i, by omega, by omega⟩) i).trans (q4 J j1 j2).symm
        have t2 : (2 : Int32).toInt = 2 := by decide
        rw [← q4 12 (by omega) (by omega)] at r12
        have ed : ((x i).1 12 / 2).toInt = ((x i).1 12).toInt / 2 := by rw [Jvm.Kit.i32_div (by omega), t2, Int.tdiv_eq_ediv_of_nonneg (by omega)]
        obtain ⟨mm, em⟩ : ∃ mm : Nat, (g 9).toInt.toNat = i + 1 + mm := ⟨(g 9).toInt.toNat - (i + 1), by omega⟩
        exact fl_ins (f := rq_ld g i) (g := f1) (t := su1) (k := i) (chg := (x i).1 12 / 2) (amb := W.1 7) (nom := (x i).1 12) (W := W) (u := x2 i) (by omega) ((rq_ldF (Or.inl (by omega)) i).trans (a1.1.1 7 (by omega))) (fun J hJ => by
            rw [hf _ (by omega), em, fl_ldN (by omega) mm]
            show rq_beg (rq_ld g i) (244 + 54 * i) (rq_ld g i (244 + 54 * i + 12) / 2) _ = _
            rw [ld 12 (by omega) (by omega)]) (fun j hj => hs _ (by omega)) (ld 12 (by omega) (by omega)) (fun J j1 j2 => (v5.1 J (by omega) j2).trans (ld J j1 j2).symm) v1 v2 v3 v4
          (by rw [v5.1 12 (by omega) (by omega), v5.1 13 (by omega) (by omega), v5.1 14 (by omega) (by omega), v5.1 15 (by omega) (by omega), q4 13 (by omega) (by omega), q4 14 (by omega) (by omega), q4 15 (by omega) (by omega)]; exact ⟨r12, r13, r14, r15⟩) (by rw [ed]; omega)
    have Zn := fl_Zy Zb hp
    have E1 : fl_E f1 := fl_Eo E (by omega) (by omega) (fun j hj _ _ _ _ => fj j hj)
    rw [e2, e5]
    exact ⟨Zn, fun _ => fl_mxE E1 Zn.1⟩
  · have k := hT.2 e0
    have kn : ¬ rp_K b n = 0 := by rw [k.1]; exact e0
    obtain ⟨m1, m2⟩ := m.1 kn
    rw [e2, e5, m1, m2]
    exact ⟨Z, fun h => h⟩
