theorem zl_startNext {f f1 G : Nat → Int32} {su su1 : Nat → Int64} {p p2 r th re : Int32} {o o1 : Nat → Int64} {W V : fw_W} {x y : Nat → fw_C} (Z : fl_Z True f su W x) (hG : f 9 = G 9 ∧ f 10 = G 10) (c : t_L_startNext p o W x r V y o1) (m : q_X11_startNext f G su p re th f1 su1) : fl_Z True f1 su1 V y ∧ cp_R r th re o1 := by
  obtain ⟨_, _, m⟩ := m
  rcases c with ⟨hc, rc, V1, q, ⟨fr, hfr, c1⟩, c2, c3, c4, c5⟩ | ⟨hc, c2, c3, c4, c5⟩
  · have hin := fl_in hc
    rw [← Z.1.1.2.2.1] at hin
    obtain ⟨k0, k1, ⟨C, N, A⟩, h9, h10, b9, b10⟩ := fl_ch Z hin
    have hp5 : 0 ≤ p.toInt ∧ p.toInt < 6 := by omega
    rw [hG.1] at hin
    obtain ⟨_, m⟩ := m.resolve_right (fun z => z.1.1 hin)
    have U := C.1
    rw [k0] at U
    have u0 : rf_of f p 0 = (x p.toNatClampNeg).1 0 := U.1.1
    have u39 : rf_of f p 39 = (x p.toNatClampNeg).1 39 := U.1.2.2.1
    obtain ⟨f1a, f1b⟩ := fl_fr hfr
    rcases c1 with ⟨c1, c1b⟩ | ⟨c1, c6, c7, c8⟩
    · have key : (¬ rf_of f p 39 = 0 ∧ ∃ (r2 : Int32) (g : Nat → Int32), q_X11_leavesQueue f p r2 g ∧ ∃ (g2 : Nat → Int32) (t : Nat → Int64), q_X11_startsOn g su p r2 g2 t ∧ (re = r2 ∧ th = 0 ∧ f1 = g2 ∧ su1 = t)) ∨ (rf_of f p 39 = 0 ∧ (re = -1 ∧ th = 0 ∧ f1 = f ∧ su1 = su)) := by
        rcases m with ⟨m1, ⟨m2, _⟩ | ⟨_, m2⟩⟩ | ⟨_, m2⟩
        · rw [u0] at m1 m2
          rcases f1a c1 with z | z
          · exact absurd z m1
          · exact absurd z m2
        · exact m2
        · exact m2
      rcases c1b with ⟨w0, r2, wa, qu, htk, st, pg, sp, ls, bi, bo, he, sb, tb, lo, lz, fl, hbg, Wn, hW, u, hu, e1, e2, e3⟩ | ⟨w0, e1, e2, e3⟩
      · obtain ⟨_, r3, g, hlq, g2, t, hso, m3, m4, m5, m6⟩ := key.resolve_right (fun z => w0 (u39.symm.trans z.1))
        have w1 : 1 ≤ ((x p.toNatClampNeg).1 39).toInt ∧ ((x p.toNatClampNeg).1 39).toInt ≤ 4 := by
          have := fl_i0 w0
          have := N.2.2.2.2
          omega
        obtain ⟨l1, l2, l3, l4, l5, l6, l7, l8, l9⟩ := fl_ql hp5 w1 u39 U.2.2.1 hlq htk
        rw [l1] at hso
        rw [l2] at hbg
        have U4 : fl_U g su p ((x p.toNatClampNeg).1 0) ((x p.toNatClampNeg).1 1) ((x p.toNatClampNeg).1 2) ((x p.toNatClampNeg).1 3) wa ((x p.toNatClampNeg).1 21) ((x p.toNatClampNeg).2.1 4) ((x p.toNatClampNeg).2.1 5) ((x p.toNatClampNeg).2.1 6) ((x p.toNatClampNeg).2.1 0) ((x p.toNatClampNeg).2.1 1) ((x p.toNatClampNeg).2.2 0) qu := by
          obtain ⟨⟨v0, v1, v39, v21⟩, vt, vq, vs, va, vn⟩ := U
          refine ⟨⟨by rw [l7 0 (by omega)]; exact v0, by rw [l7 1 (by omega)]; exact v1, l4, by rw [l7 21 (by omega)]; exact v21⟩, fun j hj => ?_, l5, vs, fun z => ⟨by rw [l7 2 (by omega)]; exact (va z).1, by rw [l7 3 (by omega)]; exact (va z).2.1, (va z).2.2⟩, fun z => ⟨by rw [l7 2 (by omega)]; exact (vn z).1, by rw [l7 3 (by omega)]; exact (vn z).2⟩⟩
          rw [l7 (24 + j) (by omega)]; exact vt j hj
        obtain ⟨d1, d2, d3, d4, d5, d6, d7, d8, d9, d10⟩ := fl_bg hp5 (by omega) U4 hso hbg
        obtain ⟨q1, q2⟩ := A.2.1 0 (by omega)
        obtain ⟨n, n1, n12, pgo, _⟩ := fl_pgo (P := ((x p.toNatClampNeg).2.2 1 0).toInt.toNat) Z.1 Z.2.1 (by rw [h10]; omega)
        have kk : ∀ J : Nat, (4 ≤ J ∧ J ≤ 20) ∨ (36 ≤ J ∧ J < 39) ∨ (44 ≤ J ∧ J < 54) → rf_of g2 p J = rf_of f p J := fun J hJ => (d2 J (by unfold fl_st; omega)).trans (l7 J (by omega))
        have C1 : fl_C g2 t p.toNatClampNeg u := by
          subst hu
          exact fl_un k0 C d1 kk d5 rfl rfl rfl rfl rfl rfl rfl rfl rfl rfl rfl (fun J hJ => (if_neg (by unfold fl_e at hJ; omega)).trans ((if_neg (by unfold fl_e at hJ; omega)).trans ((if_neg (by unfold fl_e at hJ; omega)).trans ((if_neg (by unfold fl_e at hJ; omega)).trans ((if_neg (by unfold fl_e at hJ; omega)).trans (if_neg (by unfold fl_e at hJ; omega))))))) (fun j hj => (if_neg (by omega)).trans ((if_neg (by omega)).trans (if_neg (by omega)))) rfl
        have N1 : fl_nu u := by
          subst hu
          refine ⟨N.1, N.2.1, N.2.2.1, Or.inl d9, ?_⟩
          show 0 ≤ wa.toInt ∧ wa.toInt ≤ 4
          omega
        have A1 : fl_PA W u := by
          subst hu
          have z0 : (0 : Int32).toInt = 0 := by decide
          refine ⟨fun _ => ⟨((x p.toNatClampNeg).2.2 1 0).toInt.toNat, n, 0, ?_, by omega, pgo.1, n12, ?_, by omega, fun j hj => absurd hj (Nat.not_lt_zero j), fun h4 => ?_⟩, fun j hj => ?_, Or.inr ⟨((x p.toNatClampNeg).2.2 1 0).toInt.toNat, n, ?_, by omega, pgo.1, n12, fun j _ h2 => d10 j h2⟩⟩
          · show pg.toInt = _
            rw [d7]; omega
          · show sp.toInt = _
            rw [d8]; exact z0
          · have := pgo.2.2.2.2 0 (by omega) h4
            omega
          · have hj2 : (j : Int) < wa.toInt := hj
            show 0 ≤ (qu j).toInt ∧ (qu j).toInt < _
            rw [l6 j hj2]
            exact A.2.1 (j + 1) (by omega)
          · show pg.toInt = _
            rw [d7]; omega
        have dC : sd_C (x p.toNatClampNeg) u := by
          subst hu
          exact sd_Csr (sd_Csr (sd_Csl (sd_Csi (sd_Csl (sd_Csl (sd_Csi (sd_Csi (sd_Csi (sd_Csi (sd_Csi sd_Cr (by decide)) (by decide)) (by decide)) (by decide)) (by decide)))) (by decide))) (by decide)) (by decide)
        have dW : sd_W W Wn := by
          subst hW
          exact sd_Wwr (sd_Wsi (sd_Wsi sd_Wr (by decide)) (by decide)) (by decide)
        have R1 : fl_R True g2 Wn := by
          subst hW
          exact fl_Rw Z.2.2.2.1 (fl_rect l9 d4) rfl rfl rfl
        obtain ⟨Z1, _⟩ := fl_Zc Z k1 (by rw [k0]; exact fl_outt l8 d3) (by rw [k0]; exact d5.1) (fun J h1 h2 => by rw [k0]; exact kk J (Or.inl (by omega))) dW dC (by subst hW; rfl) R1 C1 N1 A1
        rw [c3, c4, e2, e3, m5, m6]
        exact ⟨Z1, Or.inr ⟨c2, by rw [m4, c2], by rw [c5, fl_ovl, e1, d7, m3, l1]⟩⟩
      · obtain ⟨_, m3, m4, m5, m6⟩ := key.resolve_left (fun z => z.1 (u39.trans w0))
        rw [c3, c4, e2, e3, m5, m6, fl_Wid]
        exact ⟨Z, Or.inr ⟨c2, by rw [m4, c2], by rw [c5, fl_ovl, e1, m3]⟩⟩
    · have n0 := f1b c1
      rw [← u0] at n0
      obtain ⟨_, m2⟩ := m.resolve_right (fun z => n0.1 z.1)
      obtain ⟨_, m3, m4, m5, m6⟩ := m2.resolve_right (fun z => n0.2 z.1)
      rw [c3, c4, c7, c8, m5, m6, fl_Wid]
      exact ⟨Z, Or.inr ⟨c2, by rw [m4, c2], by rw [c5, fl_ovl, c6, m3]⟩⟩
  · have hin := fl_nin hc
    rw [← Z.1.1.2.2.1, hG.1] at hin
    obtain ⟨_, m2, m3, m4, m5⟩ := m.resolve_left (fun z => hin z.1.1)
    rw [c3, c4, m4, m5]
    exact ⟨Z, Or.inl ⟨by rw [c2]; decide, by rw [m3, c2]⟩⟩
theorem zl_replace {f f1 G : Nat → Int32} {su su1 : Nat → Int64} {p p2 r th re : Int32} {o o1 : Nat → Int64} {W V : fw_W} {x y : Nat → fw_C} (Z : fl_Z True f su W x) (hG : f 9 = G 9 ∧ f 10 = G 10) (c : t_L_replace p p2 o W x r V y o1) (m : q_X11_replace f G su p p2 re th f1 su1) : fl_Z True f1 su1 V y ∧ cp_R r th re o1 := by
  obtain ⟨_, _, m⟩ := m
  rcases c with ⟨hc, c⟩ | ⟨hc, c2, c3, c4, c5⟩
  · have hin := fl_in hc
    rw [← Z.1.1.2.2.1] at hin
    obtain ⟨k0, k1, ⟨C, N, A⟩, h9, h10, b9, b10⟩ := fl_ch Z hin
    have hp5 : 0 ≤ p.toInt ∧ p.toInt < 6 := by omega
    rw [hG.1] at hin
    obtain ⟨_, m⟩ := m.resolve_right (fun z => z.1.1 hin)
    have U := C.1
    rw [k0] at U
    have u0 : rf_of f p 0 = (x p.toNatClampNeg).1 0 := U.1.1
    have u12 : rf_of f p 12 = (x p.toNatClampNeg).1 12 := by have h := C.2.1 12 (by unfold fl_e; omega); rw [k0] at h; exact h
    have u6 : rf_of f p 6 = (x p.toNatClampNeg).1 6 := by have h := C.2.1 6 (by unfold fl_e; omega); rw [k0] at h; exact h
    rw [u12] at m
    have ekn : (Int32.ofNat p.toNatClampNeg).toInt.toNat = p.toNatClampNeg := by rw [k0]; rfl
    have pe : p.toInt.toNat = p.toNatClampNeg := rfl
    rcases c with ⟨_, rc, V1, q, ⟨hr, c1⟩, c2, c3, c4, c5⟩ | ⟨c1, c2, c3, c4, c5⟩
    · obtain ⟨_, _, _, _, m⟩ := m.resolve_right (fun z => lw_rg hr z.1)
      rcases c1 with ⟨c1, e1, e2, e3⟩ | ⟨c1, ⟨c1b, sta, prg, stp, las, wai, bin, bou, hel, sbo, chg, lft, cap, thr, pz, tmp, het, cun, vol, cin, cou, ein, eou, res, mca, mre, trr, wfo, wct, fbd, ftb, hin2, lo, lz, fl, _, Wn, hW, u, hu, e1, e2, e3⟩ | ⟨c1b, e1, e2, e3⟩⟩
      · obtain ⟨_, m3, m4, m5, m6⟩ := m.resolve_left (fun z => z.1 (u0.trans c1))
        rw [c3, c4, e2, e3, m5, m6, fl_Wid]
        exact ⟨Z, Or.inr ⟨c2, by rw [m4, c2], by rw [c5, fl_ovl, e1, m3]⟩⟩
      · obtain ⟨_, m⟩ := m.resolve_right (fun z => c1 (u0.symm.trans z.1))
        obtain ⟨_, g, ⟨_, hg⟩, yy, t, ⟨y0, hz⟩, y7, g2, hk, m3, m4, m5, m6⟩ := m.resolve_right (fun z => c1b (u0.symm.trans z.1))
        have ey : yy.toInt.toNat = 7 := by
          rw [Int32.le_iff_toInt_le] at y7
          have s7 : (7 : Int32).toInt = 7 := by decide
          omega
        rw [ey] at hz
        have hp4 := fl_p244 hp5
        rw [hp4] at hg
        obtain ⟨re8, mc8, mr8, tr8, wf8, wc8, fb8, ⟨fb9, hf9, f1', f2', f3', f4', f5', f6', f7'⟩, tb8, ht8, i1, i2, i3, i4, i5, i6, i7, i8, i9, i10, i11, i12, i13, i14, i15, i16, i17, i18, i19, i20, i21, i22, i23, i24, i25, i26, i27, i28, i29, i30⟩ := hin2
        have b2 := fl_rb hr
        rw [show (0 : Int32).toInt = 0 from by decide] at b2
        have n12 : f (244 + 54 * p.toNatClampNeg + 12) = (x p.toNatClampNeg).1 12 := by have h := u12; unfold rf_of at h; rw [pe] at h; exact h
        have e5x : ∀ J : Nat, 12 ≤ J → J ≤ 15 → (x p.toNatClampNeg).1 J = f (244 + 54 * p.toNatClampNeg + J) := fun J j1 j2 => by
          have h := C.2.1 J (by unfold fl_e; omega)
          unfold rf_of at h
          rw [ekn] at h
          exact h.symm
        have row : ∀ j : Nat, j < 244 + 54 * p.toNatClampNeg ∨ 244 + 54 * p.toNatClampNeg + 54 ≤ j → rq_beg f (244 + 54 * p.toNatClampNeg) p2 j = f j := fun j hj => fl_bgo hj
        have ins := fl_ins (f := f) (g := g2) (t := t) (k := p.toNatClampNeg) (chg := p2) (amb := W.1 7) (nom := (x p.toNatClampNeg).1 12) (W := W) (u := u) (by rw [← pe]; omega) (Z.1.1.1 7 (by omega)) (fun J hJ => (hk _ (by rw [← pe]; omega) (by omega)).trans (by rw [hg])) (fun j hj => by rw [hz (7 * p.toNatClampNeg + j), if_pos (by rw [pe]; omega)]) n12
          (fun J j1 j2 => by
            subst hu
            rw [← e5x J j1 j2]
            exact (sd_Csr (sd_Csl (sd_Csl (sd_Csl (sd_Csl (sd_Csr (fl_Ci sd_Cr) (by decide)))))) (by decide) : sd_C (x p.toNatClampNeg) _).1 J (by omega) j2)
          (fun J hJ => by
            subst hu
            rcases fl_Jx hJ with z | z | z | z | z | z | z | z | z | z | z | z | z | z | z | z | z | z | z | z <;> subst z <;> first | exact i1 | exact i2 | exact i4 | exact i5 | exact i8 | exact i10 | exact i11 | exact i12 | exact i13 | exact i14 | exact i15 | exact i16 | exact i17 | exact i18 | exact i23.trans f1' | exact i24.trans f2' | exact i25.trans f3' | exact i26.trans f4' | exact i27.trans f5' | exact i28.trans f6')
          (fun j hj => by
            subst hu
            rcases (by omega : j = 0 ∨ j = 1 ∨ j = 2 ∨ j = 3 ∨ j = 4 ∨ j = 5 ∨ j = 6) with z | z | z | z | z | z | z <;> subst z <;> first | exact i19 | exact i20 | exact i21 | exact i22 | exact i6 | exact i7 | exact i9)
          (fun j hj => by subst hu; show ftb j = 0; rw [i30, ht8 j, if_pos hj]) (fun j hj => by subst hu; show fbd j = 0; rw [i29, f7', hf9 j, if_pos hj]) (by subst hu; exact N.1) ⟨by omega, b2.2⟩
        obtain ⟨C1, N1, A1⟩ := ins
        have dC : sd_C (x p.toNatClampNeg) u := by
          subst hu
          exact sd_Csr (sd_Csl (sd_Csl (sd_Csl (sd_Csl (sd_Csr (fl_Ci sd_Cr) (by decide)))))) (by decide)
        have dW : sd_W W Wn := by
          subst hW
          exact sd_Wwr (sd_Wsi (sd_Wsi sd_Wr (by decide)) (by decide)) (by decide)
        have og : fl_out (Int32.ofNat p.toNatClampNeg) f g2 := fun j j1 j2 j3 j4 => (hk j (by omega) j3).trans (by rw [hg]; exact row j (by rw [ekn] at j4; exact j4))
        have rg : fl_rec f g2 := fun j hj => (hk j (by omega) (by omega)).trans (by rw [hg]; exact row j (by rw [← pe]; omega))
        have R1 : fl_R True g2 Wn := by
          subst hW
          exact fl_Rw Z.2.2.2.1 rg rfl rfl rfl
        obtain ⟨Z1, _⟩ := fl_Zc Z k1 og (fun j hj => by rw [hz j, if_neg (by rw [ekn] at hj; rw [pe]; omega)]) (fun J h1 h2 => by
          by_cases z : J = 11
          · subst z
            unfold rf_of
            rw [ekn, hk _ (by rw [← pe]; omega) (by omega), hg, fl_bgn (by omega), if_neg (by omega), if_neg (by omega), if_neg (by omega), if_neg (by omega), if_neg (by omega), if_neg (by omega), if_neg (by omega), if_neg (by omega), if_neg (by omega)]
          · rw [C1.2.1 J (by unfold fl_e; omega), C.2.1 J (by unfold fl_e; omega)]
            exact dC.1 J h1 h2) dW dC (by subst hW; rfl) R1 C1 N1 A1
        rw [c3, c4, e2, e3, m5, m6]
        exact ⟨Z1, Or.inr ⟨c2, by rw [m4, c2], by rw [c5, fl_ovl, e1, m3, u6]⟩⟩
      · obtain ⟨_, m⟩ := m.resolve_right (fun z => c1 (u0.symm.trans z.1))
        obtain ⟨_, m3, m4, m5, m6⟩ := m.resolve_left (fun z => z.1 (u0.trans c1b))
        rw [c3, c4, e2, e3, m5, m6, fl_Wid]
        exact ⟨Z, Or.inr ⟨c2, by rw [m4, c2], by rw [c5, fl_ovl, e1, m3]⟩⟩
    · obtain ⟨_, _, _, _, _, m3, m4, m5⟩ := m.resolve_left (fun z => lw_rn2 c1 z.1)
      rw [c3, c4, m4, m5]
      exact ⟨Z, Or.inl ⟨by rw [c2]; decide, by rw [m3, c2]⟩⟩
  · have hin := fl_nin hc
    rw [← Z.1.1.2.2.1, hG.1] at hin
    obtain ⟨_, m2, m3, m4, m5⟩ := m.resolve_left (fun z => hin z.1.1)
    rw [c3, c4, m4, m5]
    exact ⟨Z, Or.inl ⟨by rw [c2]; decide, by rw [m3, c2]⟩⟩
