theorem zl_dequeue {f f1 G : Nat → Int32} {su su1 : Nat → Int64} {p p2 r th re : Int32} {o o1 : Nat → Int64} {W V : fw_W} {x y : Nat → fw_C} (Z : fl_Z True f su W x) (hG : f 9 = G 9 ∧ f 10 = G 10) (c : t_L_dequeue p o W x r y o1) (m : q_X11_dequeue f G p re th f1) : fl_Z True f1 su W y ∧ cp_R r th re o1 := by
  obtain ⟨_, _, m⟩ := m
  rcases c with ⟨hc, rc, q, c1, c2, c3, c4⟩ | ⟨hc, c2, c3, c4⟩
  · have hin := fl_in hc
    rw [← Z.1.1.2.2.1] at hin
    obtain ⟨k0, k1, ⟨C, N, A⟩, h9, h10, b9, b10⟩ := fl_ch Z hin
    have hp5 : 0 ≤ p.toInt ∧ p.toInt < 6 := by omega
    rw [hG.1] at hin
    obtain ⟨_, m⟩ := m.resolve_right (fun z => z.1.1 hin)
    have u39 : rf_of f p 39 = (x p.toNatClampNeg).1 39 := by have h := C.1.1.2.2.1; rw [k0] at h; exact h
    have one : (1 : Int32).toInt = 1 := by decide
    have z0 : (0 : Int32).toInt = 0 := by decide
    have wb := N.2.2.2.2
    unfold t_dequeue at c1
    generalize hw : (x p.toNatClampNeg).1 39 = w at u39 wb c1
    rcases c1 with ⟨c1, r6, h6, d, cd, c5, c6⟩ | ⟨c1, c5, c6⟩
    · obtain ⟨_, g1, m1, m3, m4, m5⟩ := m.resolve_right (fun z => c1 (u39.symm.trans z.1))
      have w1 : w.toInt ≠ 0 := fl_i0 c1
      have e1 : (w - 1).toInt = w.toInt - 1 := by rw [Jvm.Kit.i32_sub (by omega) (by omega), one]
      rw [u39] at m1
      have rr : rf_of g1 (Int32.ofNat p.toNatClampNeg) = upd (rf_of f (Int32.ofNat p.toNatClampNeg)) 39 (w - 1) := by rw [k0, m1, fl_ofu]
      have r2 : rf_of g1 p 39 = w - 1 := by have h := congrFun rr 39; rw [k0] at h; exact h
      have kk : ∀ J : Nat, J ≠ 39 → rf_of g1 (Int32.ofNat p.toNatClampNeg) J = rf_of f (Int32.ofNat p.toNatClampNeg) J := fun J hJ => by
        rw [rr, rf_upd_ne hJ]
      have ei : (40 + rf_of g1 p 39).toInt.toNat = 40 + (w.toInt.toNat - 1) := by
        have t40 : (40 : Int32).toInt = 40 := by decide
        rw [r2, Jvm.Kit.i32_add (by omega) (by omega), t40, e1]
        omega
      have h6 := fl_at4 (K := w.toInt.toNat - 1) (by omega) (by omega) h6
      have o : fl_out (Int32.ofNat p.toNatClampNeg) f g1 := by
        rw [k0, m1]
        exact fl_outu (by omega)
      obtain ⟨⟨⟨v0, v1, _, v21⟩, vt, vq, vs, va, vn⟩, e, d2, d3, db⟩ := C
      have rq : re = r6 := by
        rw [m3, ei, h6]
        have h := (kk (40 + (w.toInt.toNat - 1)) (by omega)).trans (vq (w.toInt.toNat - 1) (by rw [hw]; omega))
        rw [k0] at h
        exact h
      have C1 : fl_C g1 su p.toNatClampNeg (fw_si (x p.toNatClampNeg) 39 (w - 1)) := ⟨⟨⟨(kk 0 (by omega)).trans v0, (kk 1 (by omega)).trans v1, by rw [rr]; rfl, (kk 21 (by omega)).trans v21⟩, fun j hj => (kk _ (by omega)).trans (vt j hj), fun j hj => by
          have hj2 : (j : Int) < (w - 1).toInt := hj
          exact (kk _ (by omega)).trans (vq j (by rw [hw]; omega)), vs, fun z => ⟨(kk 2 (by omega)).trans (va z).1, (kk 3 (by omega)).trans (va z).2.1, (va z).2.2⟩, fun z => ⟨(kk 2 (by omega)).trans (vn z).1, (kk 3 (by omega)).trans (vn z).2⟩⟩,
        fun J hJ => by rw [kk J (by unfold fl_e at hJ; omega), e J hJ]; exact (if_neg (by unfold fl_e at hJ; omega)).symm, d2, d3, fun j hj => (kk _ (by omega)).trans (db j hj)⟩
      have N1 : fl_nu (fw_si (x p.toNatClampNeg) 39 (w - 1)) := ⟨N.1, N.2.1, N.2.2.1, N.2.2.2.1, by show 0 ≤ (w - 1).toInt ∧ (w - 1).toInt ≤ 4; omega⟩
      have A1 : fl_PA W (fw_si (x p.toNatClampNeg) 39 (w - 1)) := ⟨A.1, fun j hj => by
        have hj2 : (j : Int) < (w - 1).toInt := hj
        exact A.2.1 j (by rw [hw]; omega), A.2.2⟩
      have Z1 := (fl_Zc Z k1 o (fun _ _ => rfl) (fun J _ _ => kk J (by omega)) sd_Wr (sd_Csi sd_Cr (Or.inr (by omega))) rfl (fl_Rw Z.2.2.2.1 (by rw [m1]; exact fl_recu hp5 (by omega)) rfl rfl rfl) C1 N1 A1).1
      rw [c3, c6, cd, m5]
      exact ⟨Z1, Or.inr ⟨c2, by rw [m4, c2], by rw [c4, fl_ovl, c5, rq]⟩⟩
    · obtain ⟨_, m2, m3, m4⟩ := m.resolve_left (fun z => z.1 (u39.trans c1))
      rw [c3, c6, m4, fl_Wid]
      exact ⟨Z, Or.inr ⟨c2, by rw [m3, c2], by rw [c4, fl_ovl, c5, m2]⟩⟩
  · have hin := fl_nin hc
    rw [← Z.1.1.2.2.1, hG.1] at hin
    obtain ⟨_, m2, m3, m4⟩ := m.resolve_left (fun z => hin z.1.1)
    rw [c3, m4]
    exact ⟨Z, Or.inl ⟨by rw [c2]; decide, by rw [m3, c2]⟩⟩
/-- a program begins on a channel: the part that is the same for start, startNext and the predictions -/
theorem fl_bz {tt : Prop} {f f1 : Nat → Int32} {su t : Nat → Int64} {k : Nat} {c pr idx tim llim lwid lold lsiz sta1 prg1 stp1 las1 hel1 : Int32} {fln ftb1 : Nat → Int32} {bin1 bou1 sbo1 : Int64} {W W1 : fw_W} {x : Nat → fw_C} {u : fw_C} (Z : fl_Z tt f su W x) (hk : (k : Int) < (f 9).toInt) (ec : Int32.ofNat k = c) (hp : 0 ≤ pr.toInt ∧ pr.toInt < (f 10).toInt) (hr : q_X11_startsOn f su c pr f1 t) (hb : a_X1_begin idx ((x k).2.1 0) ((x k).2.1 1) ((x k).2.2 0) tim llim lwid lold lsiz fln pr sta1 prg1 stp1 las1 bin1 bou1 hel1 sbo1 ftb1)
    (hu : u = fw_sr (fw_sl (fw_si (fw_sl (fw_sl (fw_si (fw_si (fw_si (fw_si (x k) 0 sta1) 1 prg1) 2 stp1) 3 las1) 4 bin1) 5 bou1) 21 hel1) 6 sbo1) 0 ftb1) (w : sd_W W W1) (w8 : W1.1 8 = W.1 8) (w12 : W1.1 12 = W.1 12) (w18 : W1.1 18 = W.1 18) (w6 : W1.2.1 6 = W.2.1 6) : fl_Z tt f1 t W1 (fw_sx x k u) ∧ f1 9 = f 9 ∧ u.1 0 = 1 ∧ (prg1 = pr ∧ rf_of f1 c 1 = pr) := by
  obtain ⟨C, N, A⟩ := Z.2.2.2.2 k hk
  have b := Z.1.2.1
  unfold sd_bds at b
  have hc : 0 ≤ c.toInt ∧ c.toInt < 6 := by rw [← ec, fl_on (by omega)]; omega
  have U := C.1
  rw [ec] at U
  obtain ⟨d1, d2, d3, d4, d5, d6, d7, d8, d9, d10⟩ := fl_bg hc N.2.2.2.2.2 U hr hb
  have C1 : fl_C f1 t k u := by
    subst hu
    exact fl_un ec C d1 (fun J hJ => d2 J (by unfold fl_st; omega)) d5 rfl rfl rfl rfl rfl rfl rfl rfl rfl rfl rfl (fun J hJ => (if_neg (by unfold fl_e at hJ; omega)).trans ((if_neg (by unfold fl_e at hJ; omega)).trans ((if_neg (by unfold fl_e at hJ; omega)).trans ((if_neg (by unfold fl_e at hJ; omega)).trans (if_neg (by unfold fl_e at hJ; omega)))))) (fun j hj => (if_neg (by omega)).trans ((if_neg (by omega)).trans (if_neg (by omega)))) rfl
  have N1 : fl_nu u := by
    subst hu
    exact ⟨N.1, N.2.1, N.2.2.1, Or.inl d9, N.2.2.2.2⟩
  obtain ⟨n, n1, n12, pg, _⟩ := fl_pgo (P := pr.toInt.toNat) Z.1 Z.2.1 (by omega)
  have h10 := Z.1.1.2.2.2.1
  have A1 : fl_PA W u := by
    subst hu
    have z0 : (0 : Int32).toInt = 0 := by decide
    refine ⟨fun _ => ⟨pr.toInt.toNat, n, 0, ?_, by rw [← h10]; omega, pg.1, n12, ?_, by omega, fun j hj => absurd hj (Nat.not_lt_zero j), fun h4 => ?_⟩, A.2.1, Or.inr ⟨pr.toInt.toNat, n, ?_, by rw [← h10]; omega, pg.1, n12, fun j _ h2 => d10 j h2⟩⟩
    · show prg1.toInt = _
      rw [d7]; omega
    · show stp1.toInt = _
      rw [d8]; exact z0
    · have := pg.2.2.2.2 0 (by omega) h4
      omega
    · show prg1.toInt = _
      rw [d7]; omega
  have dC : sd_C (x k) u := by
    subst hu
    exact sd_Csr (sd_Csl (sd_Csi (sd_Csl (sd_Csl (sd_Csi (sd_Csi (sd_Csi (sd_Csi sd_Cr (Or.inl (by omega))) (Or.inl (by omega))) (Or.inl (by omega))) (Or.inl (by omega))))) (Or.inr (by omega)))) (by omega)
  have R1 : fl_R tt f1 W1 := fl_Rw Z.2.2.2.1 d4 w12 w18 w6
  obtain ⟨Z1, e9⟩ := fl_Zc Z hk (by rw [ec]; exact d3) (by rw [ec]; exact d5.1) (fun J h1 h2 => by rw [ec]; exact d2 J (Or.inl (by omega))) w dC w8 R1 C1 N1 A1
  refine ⟨Z1, e9, by subst hu; exact d6, d7, ?_⟩
  have h := d1.1.2.1
  rw [h, d7]
theorem fl_fr {s r : Int32} (h : a_X1_isFree s r) : (¬ r = 0 → s = 0 ∨ s = 3) ∧ (r = 0 → ¬ s = 0 ∧ ¬ s = 3) := by
  rcases h with ⟨h1, h2⟩ | ⟨h1, ⟨h2, h3⟩ | ⟨h2, h3⟩⟩
  · exact ⟨fun _ => Or.inl h1, fun z => absurd (h2.symm.trans z) (by decide)⟩
  · exact ⟨fun z => absurd h3 z, fun _ => ⟨h1, h2⟩⟩
  · exact ⟨fun _ => Or.inr h2, fun z => absurd (h3.symm.trans z) (by decide)⟩
theorem zl_start {f f1 G : Nat → Int32} {su su1 : Nat → Int64} {p p2 r th re : Int32} {o o1 : Nat → Int64} {W V : fw_W} {x y : Nat → fw_C} (Z : fl_Z True f su W x) (hG : f 9 = G 9 ∧ f 10 = G 10) (c : t_L_start p p2 o W x r V y o1) (m : q_X11_start f G su p p2 re th f1 su1) : fl_Z True f1 su1 V y ∧ (r = 0 → th = 0 ∧ ∃ v : Int32, o1 (0 : Int32).toNatClampNeg = v.toInt64 ∧ ((re = -3 ∧ v = -3) ∨ ∃ (z q : Int32), t_channelsIn 1 V y z ∧ a_J6_bitCount_0f7a4 z v ∧ (0 ≤ q.toInt ∧ q.toInt ≤ (f1 9).toInt) ∧ f1 9 ≤ q ∧ re = q_rn f1 q.toInt.toNat)) ∧ (¬ r = 0 → th = r) := by
  obtain ⟨_, _, m⟩ := m
  rcases c with ⟨hc, c⟩ | ⟨hc, c2, c3, c4, c5⟩
  · have hin := fl_in hc
    rw [← Z.1.1.2.2.1] at hin
    obtain ⟨k0, k1, ⟨C, N, A⟩, h9, h10, b9, b10⟩ := fl_ch Z hin
    rw [hG.1] at hin
    rcases c with ⟨hp, rc, V1, y1, ⟨fr, hfr, c1⟩, c2, c3, c4, c5⟩ | ⟨hp, c2, c3, c4, c5⟩
    · have hpr := fl_in hp
      rw [← h10] at hpr
      obtain ⟨_, m⟩ := m.resolve_right (fun z => z.1.1 ⟨hin, by rw [← hG.2]; exact hpr⟩)
      have u0 : rf_of f p 0 = (x p.toNatClampNeg).1 0 := by have h := C.1.1.1; rw [k0] at h; exact h
      obtain ⟨f1a, f1b⟩ := fl_fr hfr
      rcases c1 with ⟨c1, st, pg, sp, ls, bi, bo, he, sb, tb, lo, lz, fl, hbg, q, hq, Wn, hW, z1, hz1, z2, hz2, c6, c7, c8⟩ | ⟨c1, c6, c7, c8⟩
      · have key : ∃ (g : Nat → Int32) (t : Nat → Int64), q_X11_startsOn f su p p2 g t ∧ ∃ ya yb : Int32, ((0 ≤ yb.toInt ∧ yb.toInt ≤ (G 9).toInt) ∧ ya = q_rn g yb.toInt.toNat) ∧ (g 9 ≤ yb ∧ (re = ya ∧ th = 0 ∧ f1 = g ∧ su1 = t)) := by
          rcases m with ⟨m1, ⟨m2, _⟩ | ⟨_, m2⟩⟩ | ⟨_, m2⟩
          · rw [u0] at m1 m2
            rcases f1a c1 with z | z
            · exact absurd z m1
            · exact absurd z m2
          · exact m2
          · exact m2
        obtain ⟨g, t, hso, ya, yb, ⟨q1, q2⟩, q3, q4, q5, q6, q7⟩ := key
        subst hW
        obtain ⟨Z1, e9, _⟩ := fl_bz (W1 := fw_wr (fw_si (fw_si W 19 lo) 17 lz) 7 fl) Z k1 k0 hpr hso hbg hq (sd_Wwr (sd_Wsi (sd_Wsi sd_Wr (by decide)) (by decide)) (by decide)) rfl rfl rfl rfl
        rw [c3, c4, c7, c8, q6, q7]
        refine ⟨Z1, fun _ => ⟨q5, rc, by rw [c5, fl_ovl], Or.inr ⟨z1, yb, hz1, by rw [c6]; exact hz2, ⟨q1.1, ?_⟩, q3, by rw [q4, q2]⟩⟩, fun z => absurd c2 z⟩
        rw [e9, hG.1]; exact q1.2
      · have n0 := f1b c1
        rw [← u0] at n0
        obtain ⟨_, m2⟩ := m.resolve_right (fun z => n0.1 z.1)
        obtain ⟨_, m3, m4, m5, m6⟩ := m2.resolve_right (fun z => n0.2 z.1)
        rw [c3, c4, c7, c8, m5, m6]
        exact ⟨Z, fun _ => ⟨m4, rc, by rw [c5, fl_ovl], Or.inl ⟨m3, c6⟩⟩, fun z => absurd c2 z⟩
    · have hnp := fl_nin hp
      rw [← h10, hG.2] at hnp
      obtain ⟨_, m2, m3, m4, m5⟩ := m.resolve_left (fun z => hnp z.1.1.2)
      rw [c3, c4, m4, m5]
      exact ⟨Z, fun z => absurd (c2.symm.trans z) (by decide), fun _ => m3.trans c2.symm⟩
  · have hin := fl_nin hc
    rw [← Z.1.1.2.2.1, hG.1] at hin
    obtain ⟨_, m2, m3, m4, m5⟩ := m.resolve_left (fun z => hin z.1.1.1)
    rw [c3, c4, m4, m5]
    exact ⟨Z, fun z => absurd (c2.symm.trans z) (by decide), fun _ => m3.trans c2.symm⟩
