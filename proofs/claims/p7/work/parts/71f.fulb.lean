theorem zl_resume {f f1 G : Nat → Int32} {su su1 : Nat → Int64} {p p2 r th re : Int32} {o o1 : Nat → Int64} {W V : fw_W} {x y : Nat → fw_C} (Z : fl_Z True f su W x) (hG : f 9 = G 9 ∧ f 10 = G 10) (c : t_L_resume p o W x r y o1) (m : q_X11_resume f G p re th f1) : fl_Z True f1 su W y ∧ cp_R r th re o1 := by
  obtain ⟨re1, th1, g1, ⟨_, _, m⟩, e1, e2, e3⟩ := m
  rw [e1, e2, e3]
  rcases c with ⟨hc, rc, q, c1, c2, c3, c4⟩ | ⟨hc, c2, c3, c4⟩
  · have hin := fl_in hc
    rw [← Z.1.1.2.2.1] at hin
    obtain ⟨k0, k1, ⟨C, N, A⟩, h9, h10, b9, b10⟩ := fl_ch Z hin
    rw [hG.1] at hin
    obtain ⟨_, m⟩ := m.resolve_right (fun z => z.1.1 hin)
    have u0 : rf_of f p 0 = (x p.toNatClampNeg).1 0 := by have h := C.1.1.1; rw [k0] at h; exact h
    rcases m with ⟨m1, m2, m3, m4⟩ | ⟨m1, g, m2, m3, m4, m5⟩
    · rcases c1 with ⟨c1, _⟩ | ⟨c1, c5, c6⟩
      · exact absurd (u0.trans c1) m1
      · rw [c3, c6, m4, fl_Wid]
        exact ⟨Z, Or.inr ⟨c2, by rw [m3, c2], by rw [c4, fl_ovl, c5, m2]⟩⟩
    · rcases c1 with ⟨c1, d, c5, c6, c7⟩ | ⟨c1, _⟩
      · have hac : fl_ac ((x p.toNatClampNeg).1 0) := by rw [c1]; unfold fl_ac; decide
        have U := C.1
        have hp5 : 0 ≤ p.toInt ∧ p.toInt < 6 := by rw [← hG.1] at hin; omega
        have o : fl_out (Int32.ofNat p.toNatClampNeg) f g := by rw [k0, m2]; exact fl_outu (by omega)
        have kk : ∀ J : Nat, J ≠ 0 → rf_of g (Int32.ofNat p.toNatClampNeg) J = rf_of f (Int32.ofNat p.toNatClampNeg) J := fun J hJ => by
          rw [k0, m2, fl_ofu]
          exact rf_upd_ne hJ
        have g0 : rf_of g (Int32.ofNat p.toNatClampNeg) 0 = 1 := by
          rw [k0, m2, fl_ofu]
          exact rf_upd_eq
        obtain ⟨⟨⟨_, v1, v39, v21⟩, vt, vq, vs, va, _⟩, e, d2, d3, db⟩ := C
        have C1 : fl_C g su p.toNatClampNeg (fw_si (x p.toNatClampNeg) 0 1) := ⟨⟨⟨g0, (kk 1 (by omega)).trans v1, (kk 39 (by omega)).trans v39, (kk 21 (by omega)).trans v21⟩, fun j hj => (kk _ (by omega)).trans (vt j hj), fun j hj => (kk _ (by omega)).trans (vq j hj), vs, fun _ => ⟨(kk 2 (by omega)).trans (va hac).1, (kk 3 (by omega)).trans (va hac).2.1, (va hac).2.2⟩, fun z => absurd (show fl_ac 1 by unfold fl_ac; decide) z⟩,
          fun J hJ => by rw [kk J (by unfold fl_e at hJ; omega), e J hJ]; exact (if_neg (by unfold fl_e at hJ; omega)).symm, d2, d3, fun j hj => (kk _ (by omega)).trans (db j hj)⟩
        have Z1 := (fl_Zc (qa1 := fw_si (x p.toNatClampNeg) 0 1) Z k1 o (fun _ _ => rfl) (fun J h1 _ => kk J (by omega)) sd_Wr (sd_Csi sd_Cr (Or.inl (by omega))) rfl (fl_Rw Z.2.2.2.1 (by rw [m2]; exact fl_recu hp5 (by omega)) rfl rfl rfl) C1 N ⟨fun _ => A.1 hac, A.2⟩).1
        have r2 : rf_of g p 2 = (x p.toNatClampNeg).1 2 := by have h := (kk 2 (by omega)).trans (va hac).1; rw [k0] at h; exact h
        rw [c3, c7, c5, m5]
        exact ⟨Z1, Or.inr ⟨c2, by rw [m4, c2], by rw [c4, fl_ovl, c6, m3, r2]⟩⟩
      · exact absurd (u0.symm.trans m1) c1
  · have hin := fl_nin hc
    rw [← Z.1.1.2.2.1, hG.1] at hin
    obtain ⟨_, m2, m3, m4⟩ := m.resolve_left (fun z => hin z.1.1)
    rw [c3, m4]
    exact ⟨Z, Or.inl ⟨by rw [c2]; decide, by rw [m3, c2]⟩⟩
theorem zl_stop {f f1 G : Nat → Int32} {su su1 : Nat → Int64} {p p2 r th re : Int32} {o o1 : Nat → Int64} {W V : fw_W} {x y : Nat → fw_C} (Z : fl_Z True f su W x) (hG : f 9 = G 9 ∧ f 10 = G 10) (c : t_L_stop p o W x r y o1) (m : q_X11_stop f G p re th f1) : fl_Z True f1 su W y ∧ cp_R r th re o1 := by
  obtain ⟨_, _, m⟩ := m
  rcases c with ⟨hc, rc, q, ⟨d, c1, c5, c6⟩, c2, c3, c4⟩ | ⟨hc, c2, c3, c4⟩
  · have hin := fl_in hc
    rw [← Z.1.1.2.2.1] at hin
    obtain ⟨k0, k1, ⟨C, N, A⟩, h9, h10, b9, b10⟩ := fl_ch Z hin
    rw [hG.1] at hin
    obtain ⟨_, g1, m1, g2, m2, g3, m3, m4, m5, m6⟩ := m.resolve_right (fun z => z.1.1 hin)
    have u0 : rf_of f p 0 = (x p.toNatClampNeg).1 0 := by have h := C.1.1.1; rw [k0] at h; exact h
    have hp5 : 0 ≤ p.toInt ∧ p.toInt < 6 := by rw [← hG.1] at hin; omega
    have o : fl_out (Int32.ofNat p.toNatClampNeg) f g3 := by
      rw [k0, m3, m2, m1]
      exact fl_outt (fl_outu (by omega)) (fl_outt (fl_outu (by omega)) (fl_outu (by omega)))
    have rr : rf_of g3 (Int32.ofNat p.toNatClampNeg) = upd (upd (upd (rf_of f (Int32.ofNat p.toNatClampNeg)) 0 0) 2 (-1)) 3 0 := by rw [k0, m3, fl_ofu, m2, fl_ofu, m1, fl_ofu]
    have kk : ∀ J : Nat, J ≠ 0 → J ≠ 2 → J ≠ 3 → rf_of g3 (Int32.ofNat p.toNatClampNeg) J = rf_of f (Int32.ofNat p.toNatClampNeg) J := fun J j0 j2 j3 => by
      rw [rr, rf_upd_ne j3, rf_upd_ne j2, rf_upd_ne j0]
    have na : ¬ fl_ac 0 := by unfold fl_ac; decide
    obtain ⟨⟨⟨_, v1, v39, v21⟩, vt, vq, vs, va, _⟩, e, d2, d3, db⟩ := C
    have C1 : fl_C g3 su p.toNatClampNeg (fw_si (x p.toNatClampNeg) 0 0) := ⟨⟨⟨by rw [rr]; rfl, (kk 1 (by omega) (by omega) (by omega)).trans v1, (kk 39 (by omega) (by omega) (by omega)).trans v39, (kk 21 (by omega) (by omega) (by omega)).trans v21⟩, fun j hj => (kk _ (by omega) (by omega) (by omega)).trans (vt j hj), fun j hj => (kk _ (by omega) (by omega) (by omega)).trans (vq j hj), vs, fun z => absurd z na, fun _ => ⟨by rw [rr]; rfl, by rw [rr]; rfl⟩⟩,
      fun J hJ => by rw [kk J (by unfold fl_e at hJ; omega) (by unfold fl_e at hJ; omega) (by unfold fl_e at hJ; omega), e J hJ]; exact (if_neg (by unfold fl_e at hJ; omega)).symm, d2, d3, fun j hj => (kk _ (by omega) (by omega) (by omega)).trans (db j hj)⟩
    have Z1 := (fl_Zc (qa1 := fw_si (x p.toNatClampNeg) 0 0) Z k1 o (fun _ _ => rfl) (fun J h1 _ => kk J (by omega) (by omega) (by omega)) sd_Wr (sd_Csi sd_Cr (Or.inl (by omega))) rfl (fl_Rw Z.2.2.2.1 (by rw [m3, m2, m1]; exact fl_rect (fl_recu hp5 (by omega)) (fl_rect (fl_recu hp5 (by omega)) (fl_recu hp5 (by omega)))) rfl rfl rfl) C1 N ⟨fun z => absurd z na, A.2⟩).1
    rw [c3, c6, c1, m6]
    exact ⟨Z1, Or.inr ⟨c2, by rw [m5, c2], by rw [c4, fl_ovl, c5, m4, u0]⟩⟩
  · have hin := fl_nin hc
    rw [← Z.1.1.2.2.1, hG.1] at hin
    obtain ⟨_, m2, m3, m4⟩ := m.resolve_left (fun z => hin z.1.1)
    rw [c3, m4]
    exact ⟨Z, Or.inl ⟨by rw [c2]; decide, by rw [m3, c2]⟩⟩
theorem zl_enqueue {f f1 G : Nat → Int32} {su su1 : Nat → Int64} {p p2 r th re : Int32} {o o1 : Nat → Int64} {W V : fw_W} {x y : Nat → fw_C} (Z : fl_Z True f su W x) (hG : f 9 = G 9 ∧ f 10 = G 10) (c : t_L_enqueue p p2 o W x r y o1) (m : q_X11_enqueue f G p p2 re th f1) : fl_Z True f1 su W y ∧ cp_R r th re o1 := by
  obtain ⟨_, _, m⟩ := m
  rcases c with ⟨hc, c⟩ | ⟨hc, c2, c3, c4⟩
  · have hin := fl_in hc
    rw [← Z.1.1.2.2.1] at hin
    obtain ⟨k0, k1, ⟨C, N, A⟩, h9, h10, b9, b10⟩ := fl_ch Z hin
    have hp5 : 0 ≤ p.toInt ∧ p.toInt < 6 := by omega
    rw [hG.1] at hin
    rcases c with ⟨_, rc, q, ⟨c0, c1⟩, c2, c3, c4⟩ | ⟨c1, c2, c3, c4⟩
    · have hpr := fl_np c0
      have hpg : 0 ≤ p2.toInt ∧ p2.toInt < (G 10).toInt := by rw [← hG.2, h10]; exact hpr
      obtain ⟨_, m⟩ := m.resolve_right (fun z => z.1.1 ⟨hin, hpg⟩)
      have u39 : rf_of f p 39 = (x p.toNatClampNeg).1 39 := by have h := C.1.1.2.2.1; rw [k0] at h; exact h
      have t4 : (4 : Int32).toInt = 4 := by decide
      have one : (1 : Int32).toInt = 1 := by decide
      have wb := N.2.2.2.2
      generalize hw : (x p.toNatClampNeg).1 39 = w at u39 wb c1
      rcases c1 with ⟨c1, b1, hb, d, cd, c5, c6⟩ | ⟨c1, c5, c6⟩
      · rw [Int32.lt_iff_toInt_lt, t4] at c1
        obtain ⟨_, g1, m1, g2, m2, m3, m4, m5⟩ := m.resolve_right (fun z => by have := congrArg Int32.toInt (u39.symm.trans z.1); omega)
        have hb := fl_p4 (K := w.toInt.toNat) (by omega) (by omega) hb
        have ei : (40 + rf_of f p 39).toInt.toNat = 40 + w.toInt.toNat := by
          have t40 : (40 : Int32).toInt = 40 := by decide
          rw [u39, Jvm.Kit.i32_add (by omega) (by omega), t40]
          omega
        rw [ei] at m1
        have e1 : (w + 1).toInt = w.toInt + 1 := by rw [Jvm.Kit.i32_add (by omega) (by omega), one]
        have r1 : rf_of g1 p 39 = w := by rw [m1, fl_ofu, rf_upd_ne (by omega)]; exact u39
        rw [r1] at m2
        have rr : rf_of g2 (Int32.ofNat p.toNatClampNeg) = upd (upd (rf_of f (Int32.ofNat p.toNatClampNeg)) (40 + w.toInt.toNat) p2) 39 (w + 1) := by rw [k0, m2, fl_ofu, m1, fl_ofu]
        have r2 : rf_of g2 p 39 = w + 1 := by have h := congrFun rr 39; rw [k0] at h; exact h
        have o : fl_out (Int32.ofNat p.toNatClampNeg) f g2 := by
          rw [k0, m2, m1]
          exact fl_outt (fl_outu (by omega)) (fl_outu (by omega))
        have kk : ∀ J : Nat, J < 39 ∨ 44 ≤ J → rf_of g2 (Int32.ofNat p.toNatClampNeg) J = rf_of f (Int32.ofNat p.toNatClampNeg) J := fun J hJ => by
          rw [rr, rf_upd_ne (by omega), rf_upd_ne (by omega)]
        obtain ⟨⟨⟨v0, v1, _, v21⟩, vt, vq, vs, va, vn⟩, e, d2, d3, db⟩ := C
        have C1 : fl_C g2 su p.toNatClampNeg (fw_sr (fw_si (x p.toNatClampNeg) 39 (w + 1)) 1 b1) := ⟨⟨⟨(kk 0 (by omega)).trans v0, (kk 1 (by omega)).trans v1, by rw [rr]; rfl, (kk 21 (by omega)).trans v21⟩, fun j hj => (kk _ (by omega)).trans (vt j hj), fun j hj => by
            show rf_of g2 (Int32.ofNat p.toNatClampNeg) (40 + j) = b1 j
            have hj2 : (j : Int) < (w + 1).toInt := hj
            rw [e1] at hj2
            rw [rr, rf_upd_ne (by omega), hb]
            by_cases z : j = w.toInt.toNat
            · rw [z, rf_upd_eq, rf_upd_eq]
            · rw [rf_upd_ne (by omega), rf_upd_ne z]
              exact vq j (by rw [hw]; omega), vs, fun z => ⟨(kk 2 (by omega)).trans (va z).1, (kk 3 (by omega)).trans (va z).2.1, (va z).2.2⟩, fun z => ⟨(kk 2 (by omega)).trans (vn z).1, (kk 3 (by omega)).trans (vn z).2⟩⟩,
          fun J hJ => by rw [kk J (by unfold fl_e at hJ; omega), e J hJ]; exact (if_neg (by unfold fl_e at hJ; omega)).symm, d2, d3, fun j hj => (kk _ (by omega)).trans (db j hj)⟩
        have N1 : fl_nu (fw_sr (fw_si (x p.toNatClampNeg) 39 (w + 1)) 1 b1) := ⟨N.1, N.2.1, N.2.2.1, N.2.2.2.1, by show 0 ≤ (w + 1).toInt ∧ (w + 1).toInt ≤ 4; omega⟩
        have A1 : fl_PA W (fw_sr (fw_si (x p.toNatClampNeg) 39 (w + 1)) 1 b1) := ⟨A.1, fun j hj => by
          show 0 ≤ (b1 j).toInt ∧ (b1 j).toInt < (W.1 10).toInt
          have hj2 : (j : Int) < (w + 1).toInt := hj
          rw [hb]
          by_cases z : j = w.toInt.toNat
          · rw [z, rf_upd_eq]; exact hpr
          · rw [rf_upd_ne z]
            exact A.2.1 j (by rw [hw]; omega), A.2.2⟩
        have Z1 := (fl_Zc Z k1 o (fun _ _ => rfl) (fun J _ _ => kk J (by omega)) sd_Wr (sd_Csr (sd_Csi sd_Cr (Or.inr (by omega))) (by omega)) rfl (fl_Rw Z.2.2.2.1 (by rw [m2, m1]; exact fl_rect (fl_recu hp5 (by omega)) (fl_recu hp5 (by omega))) rfl rfl rfl) C1 N1 A1).1
        rw [c3, c6, cd, m5]
        exact ⟨Z1, Or.inr ⟨c2, by rw [m4, c2], by rw [c4, fl_ovl, c5, m3, r2]⟩⟩
      · have e4 : w = 4 := Int32.toInt_inj.mp (by rw [Int32.lt_iff_toInt_lt, t4] at c1; omega)
        obtain ⟨_, m2, m3, m4⟩ := m.resolve_left (fun z => z.1 (u39.trans e4))
        rw [c3, c6, m4, fl_Wid]
        exact ⟨Z, Or.inr ⟨c2, by rw [m3, c2], by rw [c4, fl_ovl, c5, m2]⟩⟩
    · have hnp := fl_nnp c1
      rw [← h10, hG.2] at hnp
      obtain ⟨_, m2, m3, m4⟩ := m.resolve_left (fun z => hnp z.1.1.2)
      rw [c3, m4]
      exact ⟨Z, Or.inl ⟨by rw [c2]; decide, by rw [m3, c2]⟩⟩
  · have hin := fl_nin hc
    rw [← Z.1.1.2.2.1, hG.1] at hin
    obtain ⟨_, m2, m3, m4⟩ := m.resolve_left (fun z => hin z.1.1.1)
    rw [c3, m4]
    exact ⟨Z, Or.inl ⟨by rw [c2]; decide, by rw [m3, c2]⟩⟩
