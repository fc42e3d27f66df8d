theorem zl_skip {f f1 G : Nat → Int32} {su su1 : Nat → Int64} {p p2 r th re : Int32} {o o1 : Nat → Int64} {W V : fw_W} {x y : Nat → fw_C} (Z : fl_Z True f su W x) (hG : f 9 = G 9 ∧ f 10 = G 10) (c : t_L_skip p o W x r V y o1) (m : q_X11_skip f G su p re th f1 su1) : fl_Z True f1 su1 V y ∧ cp_R r th re o1 := by
  obtain ⟨_, _, m⟩ := m
  rcases c with ⟨hc, rc, V1, q, c1, c2, c3, c4, c5⟩ | ⟨hc, c2, c3, c4, c5⟩
  · have hin := fl_in hc
    rw [← Z.1.1.2.2.1] at hin
    obtain ⟨k0, k1, ⟨C, N, A⟩, h9, h10, b9, b10⟩ := fl_ch Z hin
    have hp5 : 0 ≤ p.toInt ∧ p.toInt < 6 := by omega
    rw [hG.1] at hin
    obtain ⟨_, m⟩ := m.resolve_right (fun z => z.1.1 hin)
    have U := C.1
    rw [k0] at U
    rcases c1 with ⟨c1, st, pg, sp, ls, wa, bi, bo, he, sb, tb, qu, lo, lz, fl, hlv, hx⟩ | ⟨c1, c6, c7, c8⟩
    · obtain ⟨_, g, t, hco, m3, m4, m5, m6⟩ := m.resolve_left (fun z => z.1 (U.1.1.trans c1))
      have ac : fl_ac ((x p.toNatClampNeg).1 0) := Or.inl c1
      obtain ⟨P, n, S, p1, p2, p3, p12, p4, p5, p6, p7⟩ := A.1 ac
      obtain ⟨mp, n1, n12, pgo, _⟩ := fl_pgo (P := P) Z.1 Z.2.1 (by rw [h10]; exact p2)
      have emp : n = mp := by
        have h := congrArg Int32.toInt (p3.symm.trans pgo.1)
        rw [fl_on (by omega), fl_on (by omega)] at h
        omega
      subst emp
      have l1 : fl_lo (fun j => W.2.1 3 (12 * P + j)) (S + 1) ((x p.toNatClampNeg).2.2 0) := fun j hj hk => by
        by_cases z : j = S
        · subst z; exact absurd hk p7
        · exact p6 j (by omega) hk
      obtain ⟨d1, d2, d3, d4, d5, dh, d6⟩ := fl_lv hp5 p1 (by rw [← h10] at p2; omega) pgo p4 p5 l1 N.2.2.2.2 ac U (by rw [(U.2.2.2.2.1 ac).1]) hco hlv
      have key : (rc = if st = 3 then -1 else sp) ∧ ∃ (Wn : fw_W) (u : fw_C), Wn = fw_wr (fw_si (fw_si W 19 lo) 17 lz) 7 fl ∧ u = fw_sr (fw_sr (fw_sl (fw_si (fw_sl (fw_sl (fw_si (fw_si (fw_si (fw_si (fw_si (x p.toNatClampNeg) 0 st) 1 pg) 2 sp) 3 ls) 39 wa) 4 bi) 5 bo) 21 he) 6 sb) 0 tb) 1 qu ∧ V1 = Wn ∧ q = u := by
        rcases hx with ⟨z, Wn, hW, u, hu, e1, e2, e3⟩ | ⟨z, Wn, hW, u, hu, e1, e2, e3⟩
        · exact ⟨by rw [if_neg z]; exact e1, Wn, u, hW, hu, e2, e3⟩
        · exact ⟨by rw [if_pos z]; exact e1, Wn, u, hW, hu, e2, e3⟩
      obtain ⟨kr, Wn, u, hW, hu, e2, e3⟩ := key
      have C1 : fl_C g t p.toNatClampNeg u := by
        subst hu
        exact fl_un k0 C d1 (fun J hJ => d2 J (by unfold fl_sq; omega)) d5 rfl rfl rfl rfl rfl rfl rfl rfl rfl rfl rfl (fun J hJ => (if_neg (by unfold fl_e at hJ; omega)).trans ((if_neg (by unfold fl_e at hJ; omega)).trans ((if_neg (by unfold fl_e at hJ; omega)).trans ((if_neg (by unfold fl_e at hJ; omega)).trans ((if_neg (by unfold fl_e at hJ; omega)).trans (if_neg (by unfold fl_e at hJ; omega))))))) (fun j hj => (if_neg (by omega)).trans ((if_neg (by omega)).trans (if_neg (by omega)))) rfl
      have nxq : fl_nx (W.2.1 3) P n ((x p.toNatClampNeg).1 1) ((x p.toNatClampNeg).1 39) ((x p.toNatClampNeg).2.2 0) ((x p.toNatClampNeg).2.2 1) st pg sp wa tb qu := by
        rcases d6 with ⟨z1, z2, z3, _, z5, z6, z7⟩ | z1 | z1
        · exact Or.inl ⟨Or.inl (z1.trans c1), z2, z3, z5, z6, z7⟩
        · exact Or.inr (Or.inl z1)
        · exact Or.inr (Or.inr z1)
      have wb : 0 ≤ wa.toInt ∧ wa.toInt ≤ 4 := by
        have Nw := N.2.2.2.2
        rcases nxq with ⟨_, _, _, z, _⟩ | ⟨_, _, z, _⟩ | ⟨z1, _, _, _, z, _⟩
        · rw [z]; exact Nw
        · rw [z]; exact Nw
        · omega
      have N1 : fl_nu u := by
        subst hu
        refine ⟨N.1, N.2.1, N.2.2.1, ?_, wb⟩
        show he = 0 ∨ he = 1
        rcases dh with z | z
        · rw [z]; exact N.2.2.2.1
        · exact Or.inl z
      have A1 : fl_PA W u := by
        subst hu
        exact fl_nxA Z.1 Z.2.1 A ac p1 p2 p3 p12 nxq rfl rfl rfl rfl rfl rfl
      have dC : sd_C (x p.toNatClampNeg) u := by
        subst hu
        exact sd_Csr (sd_Csr (sd_Csl (sd_Csi (sd_Csl (sd_Csl (sd_Csi (sd_Csi (sd_Csi (sd_Csi (sd_Csi sd_Cr (by decide)) (by decide)) (by decide)) (by decide)) (by decide)))) (by decide))) (by decide)) (by decide)
      have dW : sd_W W Wn := by
        subst hW
        exact sd_Wwr (sd_Wsi (sd_Wsi sd_Wr (by decide)) (by decide)) (by decide)
      have R1 : fl_R True g Wn := by
        subst hW
        exact fl_Rw Z.2.2.2.1 d4 rfl rfl rfl
      obtain ⟨Z1, _⟩ := fl_Zc Z k1 (by rw [k0]; exact d3) (by rw [k0]; exact d5.1) (fun J h1 h2 => by rw [k0]; exact d2 J (Or.inl (by omega))) dW dC (by subst hW; rfl) R1 C1 N1 A1
      have er : re = rc := by
        rw [m3, kr]
        have a3 : ¬ fl_ac 3 := by unfold fl_ac; decide
        by_cases z : st = 3
        · rw [if_pos z]
          exact (d1.2.2.2.2.2 (by rw [z]; exact a3)).1
        · rw [if_neg z]
          refine (d1.2.2.2.2.1 ?_).1
          rcases d6 with ⟨z1, _⟩ | ⟨z1, _⟩ | ⟨_, z1, _⟩
          · rw [z1]; exact ac
          · exact absurd z1 z
          · exact Or.inl z1
      rw [c3, c4, e2, e3, m5, m6]
      exact ⟨Z1, Or.inr ⟨c2, by rw [m4, c2], by rw [c5, fl_ovl, er]⟩⟩
    · obtain ⟨_, m3, m4, m5, m6⟩ := m.resolve_right (fun z => c1 (U.1.1.symm.trans z.1))
      rw [c3, c4, c7, c8, m5, m6, fl_Wid]
      exact ⟨Z, Or.inr ⟨c2, by rw [m4, c2], by rw [c5, fl_ovl, c6, m3]⟩⟩
  · have hin := fl_nin hc
    rw [← Z.1.1.2.2.1, hG.1] at hin
    obtain ⟨_, m2, m3, m4, m5⟩ := m.resolve_left (fun z => hin z.1.1)
    rw [c3, c4, m4, m5]
    exact ⟨Z, Or.inl ⟨by rw [c2]; decide, by rw [m3, c2]⟩⟩
/-- a setting -/
theorem fl_Zs {tt : Prop} {f : Nat → Int32} {su : Nat → Int64} {W : fw_W} {x : Nat → fw_C} {j : Nat} {v : Int32} (Z : fl_Z tt f su W x) (hj : j = 4 ∨ j = 5 ∨ j = 7 ∨ (j = 16 ∧ 0 ≤ v.toInt ∧ v.toInt ≤ 200)) : fl_Z tt (upd f j v) su (fw_si W j v) x := by
  obtain ⟨s, D, e8, R, Q⟩ := Z
  have n : ∀ i : Nat, i ≠ j → upd f j v i = f i := fun i hi => rf_upd_ne hi
  have b := s.2.1
  unfold sd_bds at b
  refine ⟨sd_s s (by omega), ?_, fun y => ?_, fl_Rw R (fun i hi => n i (by omega)) (if_neg (by omega)) (if_neg (by omega)) rfl, fun k hk => ?_⟩
  · obtain ⟨⟨a0, a1, a2, a6, a16⟩, d2, d3⟩ := D
    refine ⟨⟨by rw [n 0 (by omega)]; exact a0, by rw [n 1 (by omega)]; exact a1, by rw [n 2 (by omega)]; exact a2, by rw [n 6 (by omega)]; exact a6, ?_⟩, fun v hv i hi => ?_, fun q hq => ?_⟩
    · by_cases z : j = 16
      · subst z
        rw [rf_upd_eq]; omega
      · rw [n 16 (by omega)]; exact a16
    · rw [n 11 (by omega)] at hv
      rw [n _ (by omega)] at hi
      rw [n _ (by omega)]
      exact d2 v hv i hi
    · rw [n 10 (by omega)] at hq
      rw [n _ (by omega)]
      refine ⟨(d3 q hq).1, fun i hi => ?_⟩
      rw [n _ (by omega), n _ (by omega), n _ (by omega)]
      exact (d3 q hq).2 i hi
  · rw [n 8 (by omega)]
    exact (e8 y).trans (if_neg (by omega)).symm
  · rw [n 9 (by omega)] at hk
    obtain ⟨C, N, A⟩ := Q k hk
    refine ⟨fl_Ck (fun J hJ => n _ (by omega)) (fun _ _ => rfl) N.2.2.2.2.2 C, N, ?_⟩
    have e : (fw_si W j v).1 10 = W.1 10 := if_neg (by omega)
    unfold fl_PA
    rw [e]
    exact A
theorem zl_advance {f f1 G : Nat → Int32} {su su1 : Nat → Int64} {p p2 r th re : Int32} {o o1 : Nat → Int64} {W V : fw_W} {x y : Nat → fw_C} {men men1 : Int32} (Z : fl_Z True f su W x) (hG : f 9 = G 9 ∧ f 10 = G 10) (c : t_L_advance p o W x r V y o1) (m : q_X11_advance men f G su p re men1 th f1 su1) : fl_Z True f1 su1 V y ∧ cp_R r th re o1 := by
  have e8 := Z.2.2.1 trivial
  rcases c with ⟨_, rc, V1, y1, ⟨hr, c1⟩, c2, c3, c4, c5⟩ | ⟨c1, c2, c3, c4, c5⟩
  · rcases m with ⟨_, _, _, _, m⟩ | ⟨z, _⟩
    · rcases c1 with ⟨c1, ya, yb, W1, x1, ⟨⟨b0, b1⟩, _, hs, _⟩, c6, c7, c8, c9⟩ | ⟨c1, c7, c8, c9⟩
      · rcases m with ⟨_, ma, mb, g, t, ⟨⟨d0, d1⟩, hq⟩, m6, m7, _, m8, m9, mA⟩ | ⟨m1, _⟩
        · rw [Int32.le_iff_toInt_le] at c6 m6
          have e1 : yb = p := Int32.toInt_inj.mp (by omega)
          have e2 : ma = p := Int32.toInt_inj.mp (by omega)
          rw [e1] at hs
          rw [e2] at hq
          obtain ⟨Z1, q1, _⟩ := fl_ta _ hG.1 Z rfl hq hs
          rw [c3, c4, c8, c9, m9, mA]
          exact ⟨Z1, Or.inr ⟨c2, by rw [m8, c2], by rw [c5, fl_ovl, c7, m7, q1]⟩⟩
        · rw [e8] at m1; exact absurd c1 m1
      · rcases m with ⟨m1, _⟩ | ⟨_, m7, _, m8, m9, mA⟩
        · rw [e8] at m1; exact absurd m1 c1
        · rw [c3, c4, c8, c9, m9, mA]
          exact ⟨Z, Or.inr ⟨c2, by rw [m8, c2], by rw [c5, fl_ovl, c7, m7]⟩⟩
    · exact absurd (lw_rg hr z) (fun z => z)
  · rcases m with ⟨z, _⟩ | ⟨_, _, _, _, m7, _, m8, m9, mA⟩
    · exact absurd (lw_rn2 c1 z) (fun z => z)
    · rw [c3, c4, m9, mA]
      exact ⟨Z, Or.inl ⟨by rw [c2]; decide, by rw [m8, c2]⟩⟩
