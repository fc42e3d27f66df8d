theorem lw_rg {p lo hi : Int32} (h : t_needRange p lo hi) (z : cm_rng p.toInt64 lo.toInt64 hi.toInt64 = 0) : False := by
  have r := rf_rngn (v := p) (L := lo.toInt) (U := hi.toInt) (Jvm.Kit.i64_of_i32 _) (Jvm.Kit.i64_of_i32 _) z
  obtain ⟨h1, h2, _⟩ := h
  rw [Int32.lt_iff_toInt_lt] at h1
  rw [Int32.le_iff_toInt_le] at h2
  exact r (by omega)
theorem lw_rn2 {p lo hi : Int32} (h : p < lo ∨ ¬ p ≤ hi) (z : ¬ cm_rng p.toInt64 lo.toInt64 hi.toInt64 = 0) : False := by
  have r := rf_rng z
  rw [Jvm.Kit.i64_of_i32, Jvm.Kit.i64_of_i32, Jvm.Kit.i64_of_i32] at r
  rcases h with h | h
  · rw [Int32.lt_iff_toInt_lt] at h; omega
  · rw [Int32.le_iff_toInt_le] at h; omega
def cp_R (r th re : Int32) (o1 : Nat → Int64) : Prop := (¬ r = 0 ∧ th = r) ∨ (r = 0 ∧ th = r ∧ o1 (0 : Int32).toNatClampNeg = re.toInt64)
/-! the calls, on both sides -/
theorem fl_pk {p : Int32} (h : 0 ≤ p.toInt) (h2 : p.toInt < 6) : Int32.ofNat p.toNatClampNeg = p := by
  refine Int32.toInt_inj.mp ?_
  have e : p.toNatClampNeg = p.toInt.toNat := rfl
  rw [e, fl_on (by omega)]
  omega
theorem fl_in {p n : Int32} (h : ¬ p < 0 ∧ p < n) : 0 ≤ p.toInt ∧ p.toInt < n.toInt := by
  obtain ⟨a, b⟩ := h
  rw [Int32.lt_iff_toInt_lt, show (0 : Int32).toInt = 0 from by decide] at a
  rw [Int32.lt_iff_toInt_lt] at b
  omega
theorem fl_nin {p n : Int32} (h : ¬ (¬ p < 0 ∧ p < n)) : ¬ (0 ≤ p.toInt ∧ p.toInt < n.toInt) := fun q => h (by
  rw [Int32.lt_iff_toInt_lt, Int32.lt_iff_toInt_lt, show (0 : Int32).toInt = 0 from by decide]
  omega)
theorem fl_ovl {o : Nat → Int64} {v : Int64} : vp_updL o (0 : Int32).toNatClampNeg v (0 : Int32).toNatClampNeg = v := rp_ov
section FLC
variable {f f1 G : Nat → Int32} {su su1 : Nat → Int64} {p p2 r th re : Int32} {o o1 : Nat → Int64} {W V : fw_W} {x y : Nat → fw_C}
/-- a channel of both sides -/
theorem fl_ch (Z : fl_Z True f su W x) (h : 0 ≤ p.toInt ∧ p.toInt < (f 9).toInt) : Int32.ofNat p.toNatClampNeg = p ∧ ((p.toNatClampNeg : Nat) : Int) < (f 9).toInt ∧ (fl_C f su p.toNatClampNeg (x p.toNatClampNeg) ∧ fl_nu (x p.toNatClampNeg) ∧ fl_PA W (x p.toNatClampNeg)) ∧ f 9 = W.1 9 ∧ f 10 = W.1 10 ∧ (f 9).toInt ≤ 6 ∧ (f 10).toInt ≤ 4 := by
  have b := Z.1.2.1
  unfold sd_bds at b
  have e : p.toNatClampNeg = p.toInt.toNat := rfl
  refine ⟨fl_pk h.1 (by omega), by omega, Z.2.2.2.2 _ (by omega), Z.1.1.2.2.1, Z.1.1.2.2.2.1, by omega, by omega⟩
theorem fl_un {u : fw_C} {k : Nat} {sta prg stp las wai hel : Int32} {bin bou sbo : Int64} {ftb fqu : Nat → Int32} {q : fw_C} {c : Int32} (ec : Int32.ofNat k = c) (C : fl_C f su k q)
    (U : fl_U f1 su1 c sta prg stp las wai hel bin bou sbo (q.2.1 0) (q.2.1 1) ftb fqu) (jj : ∀ J : Nat, (4 ≤ J ∧ J ≤ 20) ∨ (36 ≤ J ∧ J < 39) ∨ (44 ≤ J ∧ J < 54) → rf_of f1 c J = rf_of f c J) (s : fl_su c su su1)
    (v0 : u.1 0 = sta) (v1 : u.1 1 = prg) (v2 : u.1 2 = stp) (v3 : u.1 3 = las) (v39 : u.1 39 = wai) (v21 : u.1 21 = hel) (w4 : u.2.1 4 = bin) (w5 : u.2.1 5 = bou) (w6 : u.2.1 6 = sbo) (t0 : u.2.2 0 = ftb) (t1 : u.2.2 1 = fqu) (kk : ∀ J : Nat, fl_e J → u.1 J = q.1 J) (w : ∀ j : Nat, j < 4 → u.2.1 j = q.2.1 j) (t3 : u.2.2 3 = q.2.2 3) : fl_C f1 su1 k u := by
  obtain ⟨_, e, c2, c3, cb⟩ := C
  subst ec
  refine ⟨?_, fun J hJ => ?_, ?_, ?_, fun j hj => ?_⟩
  · rw [v0, v1, v2, v3, v39, v21, w4, w5, w6, t0, t1, w 0 (by omega), w 1 (by omega)]
    exact U
  · rw [kk J hJ]
    exact (jj J (by unfold fl_e at hJ; omega)).trans (e J hJ)
  · rw [w 2 (by omega)]
    exact (s.2 2 (by omega)).trans c2
  · rw [w 3 (by omega)]
    exact (s.2 3 (by omega)).trans c3
  · rw [t3]
    exact (jj _ (by omega)).trans (cb j hj)
end FLC
theorem fl_Wid {x : Nat → fw_C} {k : Nat} : fw_sx x k (x k) = x := by
  funext j
  unfold fw_sx
  by_cases h : j = k
  · rw [if_pos h, h]
  · rw [if_neg h]
theorem fl_p4 {b b1 : Nat → Int32} {i v : Int32} {K : Nat} (hi : i.toInt = K) (hK : K < 4) (h : a_X10_put_4 b i v b1) : b1 = upd b K v := by
  have t : (4 : Int32).toInt = 4 := by decide
  have z : (0 : Int32).toInt = 0 := by decide
  rcases h with ⟨n, _⟩ | ⟨_, ⟨n, _⟩ | ⟨_, h⟩⟩
  · rw [Int32.lt_iff_toInt_lt, z] at n; omega
  · rw [Int32.le_iff_toInt_le, t] at n; omega
  · rw [h, show i.toNatClampNeg = K from by show i.toInt.toNat = K; omega]
theorem fl_np {p : Int32} {W : fw_W} (h : t_needProgram p W) : 0 ≤ p.toInt ∧ p.toInt < (W.1 10).toInt := fl_in ⟨h.1, h.2.1⟩
theorem fl_nnp {p n : Int32} (h : p < 0 ∨ n ≤ p) : ¬ (0 ≤ p.toInt ∧ p.toInt < n.toInt) := by
  rcases h with h | h
  · rw [Int32.lt_iff_toInt_lt, show (0 : Int32).toInt = 0 from by decide] at h
    omega
  · rw [Int32.le_iff_toInt_le] at h
    omega
theorem fl_Ci {c d : fw_C} {v0 : Int32} {v1 : Int32} {v2 : Int32} {v3 : Int32} {v4 : Int32} {v5 : Int64} {v6 : Int64} {v7 : Int32} {v8 : Int64} {v9 : Int32} {v10 : Int32} {v11 : Int32} {v12 : Int32} {v13 : Int32} {v14 : Int32} {v15 : Int32} {v16 : Int32} {v17 : Int32} {v18 : Int32} {v19 : Int32} {v20 : Int32} {v21 : Int32} {v22 : Int32} {v23 : Int32} (h : sd_C c d) : sd_C c (fw_si (fw_si (fw_si (fw_si (fw_si (fw_si (fw_si (fw_si (fw_si (fw_si (fw_si (fw_si (fw_si (fw_si (fw_si (fw_sl (fw_si (fw_sl (fw_sl (fw_si (fw_si (fw_si (fw_si (fw_si d 0 v0) 1 v1) 2 v2) 3 v3) 39 v4) 4 v5) 5 v6) 21 v7) 6 v8) 6 v9) 16 v10) 7 v11) 18 v12) 8 v13) 9 v14) 17 v15) 4 v16) 5 v17) 19 v18) 20 v19) 38 v20) 10 v21) 37 v22) 36 v23) := (sd_Csi (sd_Csi (sd_Csi (sd_Csi (sd_Csi (sd_Csi (sd_Csi (sd_Csi (sd_Csi (sd_Csi (sd_Csi (sd_Csi (sd_Csi (sd_Csi (sd_Csi (sd_Csl (sd_Csi (sd_Csl (sd_Csl (sd_Csi (sd_Csi (sd_Csi (sd_Csi (sd_Csi h (by decide)) (by decide)) (by decide)) (by decide)) (by decide)))) (by decide))) (by decide)) (by decide)) (by decide)) (by decide)) (by decide)) (by decide)) (by decide)) (by decide)) (by decide)) (by decide)) (by decide)) (by decide)) (by decide)) (by decide)) (by decide))
theorem fl_rb {p a b : Int32} (h : t_needRange p a b) : a.toInt ≤ p.toInt ∧ p.toInt ≤ b.toInt := by
  obtain ⟨h1, h2, _⟩ := h
  rw [Int32.lt_iff_toInt_lt] at h1
  rw [Int32.le_iff_toInt_le] at h2
  omega
theorem fl_bgo {f : Nat → Int32} {P j : Nat} {q : Int32} (h : j < P ∨ P + 54 ≤ j) : rq_beg f P q j = f j := by
  unfold rq_beg
  rw [rf_upd_ne (by omega), rf_upd_ne (by omega), rf_upd_ne (by omega), rf_upd_ne (by omega), rf_upd_ne (by omega), rf_upd_ne (by omega), rf_upd_ne (by omega), rf_upd_ne (by omega)]
  unfold rf_bz
  rw [if_neg (by omega)]
theorem fl_Jx {J : Nat} (h : J ≤ 1 ∨ J = 3 ∨ (4 ≤ J ∧ J ≤ 10) ∨ (16 ≤ J ∧ J ≤ 21) ∨ (36 ≤ J ∧ J ≤ 39)) : J = 0 ∨ J = 1 ∨ J = 3 ∨ J = 4 ∨ J = 5 ∨ J = 6 ∨ J = 7 ∨ J = 8 ∨ J = 9 ∨ J = 10 ∨ J = 16 ∨ J = 17 ∨ J = 18 ∨ J = 19 ∨ J = 20 ∨ J = 21 ∨ J = 36 ∨ J = 37 ∨ J = 38 ∨ J = 39 := by omega
theorem fl_p244 {p : Int32} (h : 0 ≤ p.toInt ∧ p.toInt < 6) : (244 + (54 * p)).toInt.toNat = 244 + 54 * p.toNatClampNeg := by
  have t54 : (54 : Int32).toInt = 54 := by decide
  have t244 : (244 : Int32).toInt = 244 := by decide
  have a1 : (54 * p).toInt = 54 * p.toInt := by rw [Jvm.Kit.i32_mul (by rw [t54]; omega) (by rw [t54]; omega), t54]
  have a2 : (244 + (54 * p)).toInt = 244 + 54 * p.toInt := by rw [Jvm.Kit.i32_add (by rw [a1, t244]; omega) (by rw [a1, t244]; omega), a1, t244]
  have pe : p.toNatClampNeg = p.toInt.toNat := rfl
  rw [a2, pe]
  omega
theorem zl_pause {f f1 G : Nat → Int32} {su : Nat → Int64} {p r th re : Int32} {o o1 : Nat → Int64} {W : fw_W} {x y : Nat → fw_C} (Z : fl_Z True f su W x) (hG : f 9 = G 9 ∧ f 10 = G 10) (c : t_L_pause p o W x r y o1) (m : q_X11_pause f G p re th f1) : fl_Z True f1 su W y ∧ cp_R r th re o1 := by
  obtain ⟨re1, th1, g1, ⟨_, _, m⟩, e1, e2, e3⟩ := m
  rw [e1, e2, e3]
  rcases c with ⟨hc, rc, q, c1, c2, c3, c4⟩ | ⟨hc, c2, c3, c4⟩
  · have hin := fl_in hc
    rw [← Z.1.1.2.2.1] at hin
    obtain ⟨k0, k1, ⟨C, N, A⟩, h9, h10, b9, b10⟩ := fl_ch Z hin
    rw [hG.1] at hin
    obtain ⟨_, m⟩ := m.resolve_right (fun z => z.1.1 hin)
    have u0 : rf_of f p 0 = (x p.toNatClampNeg).1 0 := by have h := C.1.1.1; rw [k0] at h; exact h
    rcases m with ⟨m1, m2, m3, m4⟩ | ⟨m1, g, m2, m3, m4, m5⟩
    · rcases c1 with ⟨c1, _⟩ | ⟨c1, c5, c6⟩
      · exact absurd (u0.trans c1) m1
      · rw [c3, c6, m4, fl_Wid]
        exact ⟨Z, Or.inr ⟨c2, by rw [m3, c2], by rw [c4, fl_ovl, c5, m2]⟩⟩
    · rcases c1 with ⟨c1, d, c5, c6, c7⟩ | ⟨c1, _⟩
      · have hac : fl_ac ((x p.toNatClampNeg).1 0) := by rw [c1]; unfold fl_ac; decide
        have U := C.1
        have hp5 : 0 ≤ p.toInt ∧ p.toInt < 6 := by rw [← hG.1] at hin; omega
        have o : fl_out (Int32.ofNat p.toNatClampNeg) f g := by rw [k0, m2]; exact fl_outu (by omega)
        have kk : ∀ J : Nat, J ≠ 0 → rf_of g (Int32.ofNat p.toNatClampNeg) J = rf_of f (Int32.ofNat p.toNatClampNeg) J := fun J hJ => by
          rw [k0, m2, fl_ofu]
          exact rf_upd_ne hJ
        have g0 : rf_of g (Int32.ofNat p.toNatClampNeg) 0 = 2 := by
          rw [k0, m2, fl_ofu]
          exact rf_upd_eq
        obtain ⟨⟨⟨_, v1, v39, v21⟩, vt, vq, vs, va, _⟩, e, d2, d3, db⟩ := C
        have C1 : fl_C g su p.toNatClampNeg (fw_si (x p.toNatClampNeg) 0 2) := ⟨⟨⟨g0, (kk 1 (by omega)).trans v1, (kk 39 (by omega)).trans v39, (kk 21 (by omega)).trans v21⟩, fun j hj => (kk _ (by omega)).trans (vt j hj), fun j hj => (kk _ (by omega)).trans (vq j hj), vs, fun _ => ⟨(kk 2 (by omega)).trans (va hac).1, (kk 3 (by omega)).trans (va hac).2.1, (va hac).2.2⟩, fun z => absurd (show fl_ac 2 by unfold fl_ac; decide) z⟩,
          fun J hJ => by rw [kk J (by unfold fl_e at hJ; omega), e J hJ]; exact (if_neg (by unfold fl_e at hJ; omega)).symm, d2, d3, fun j hj => (kk _ (by omega)).trans (db j hj)⟩
        have Z1 := (fl_Zc (qa1 := fw_si (x p.toNatClampNeg) 0 2) Z k1 o (fun _ _ => rfl) (fun J h1 _ => kk J (by omega)) sd_Wr (sd_Csi sd_Cr (Or.inl (by omega))) rfl (fl_Rw Z.2.2.2.1 (by rw [m2]; exact fl_recu hp5 (by omega)) rfl rfl rfl) C1 N ⟨fun _ => A.1 hac, A.2⟩).1
        have r2 : rf_of g p 2 = (x p.toNatClampNeg).1 2 := by have h := (kk 2 (by omega)).trans (va hac).1; rw [k0] at h; exact h
        rw [c3, c7, c5, m5]
        exact ⟨Z1, Or.inr ⟨c2, by rw [m4, c2], by rw [c4, fl_ovl, c6, m3, r2]⟩⟩
      · exact absurd (u0.symm.trans m1) c1
  · have hin := fl_nin hc
    rw [← Z.1.1.2.2.1, hG.1] at hin
    obtain ⟨_, m2, m3, m4⟩ := m.resolve_left (fun z => hin z.1.1)
    rw [c3, m4]
    exact ⟨Z, Or.inl ⟨by rw [c2]; decide, by rw [m3, c2]⟩⟩
theorem zl_resume {f f1 G : Nat → Int32} {su : Nat → Int64} {p r th re : Int32} {o o1 : Nat → Int64} {W : fw_W} {x y : Nat → fw_C} (Z : fl_Z True f su W x) (hG : f 9 = G 9 ∧ f 10 = G 10) (c : t_L_resume p o W x r y o1) (m : q_X11_resume f G p re th f1) : fl_Z True f1 su W y ∧ cp_R r th re o1 := by
  obtain ⟨re1, th1, g1, ⟨_, _, m⟩, e1, e2, e3⟩ := m
  rw [e1, e2, e3]
  rcases c with ⟨hc, rc, q, c1, c2, c3, c4⟩ | ⟨hc, c2, c3, c4⟩
  · have hin := fl_in hc
    rw [← Z.1.1.2.2.1] at hin
    obtain ⟨k0, k1, ⟨C, N, A⟩, h9, h10, b9, b10⟩ := fl_ch Z hin
    rw [hG.1] at hin
    obtain ⟨_, m⟩ := m.resolve_right (fun z => z.1.1 hin)
    have u0 : rf_of f p 0 = (x p.toNatClampNeg).1 0 := by have h := C.1.1.1; rw [k0] at h; exact h
    rcases m with ⟨m1, m2, m3, m4⟩ | ⟨m1, g, m2, m3, m4, m5⟩
    · rcases c1 with ⟨c1, _⟩ | ⟨c1, c5, c6⟩
      · exact absurd (u0.trans c1) m1
      · rw [c3, c6, m4, fl_Wid]
        exact ⟨Z, Or.inr ⟨c2, by rw [m3, c2], by rw [c4, fl_ovl, c5, m2]⟩⟩
    · rcases c1 with ⟨c1, d, c5, c6, c7⟩ | ⟨c1, _⟩
      · have hac : fl_ac ((x p.toNatClampNeg).1 0) := by rw [c1]; unfold fl_ac; decide
        have U := C.1
        have hp5 : 0 ≤ p.toInt ∧ p.toInt < 6 := by rw [← hG.1] at hin; omega
        have o : fl_out (Int32.ofNat p.toNatClampNeg) f g := by rw [k0, m2]; exact fl_outu (by omega)
        have kk : ∀ J : Nat, J ≠ 0 → rf_of g (Int32.ofNat p.toNatClampNeg) J = rf_of f (Int32.ofNat p.toNatClampNeg) J := fun J hJ => by
          rw [k0, m2, fl_ofu]
          exact rf_upd_ne hJ
        have g0 : rf_of g (Int32.ofNat p.toNatClampNeg) 0 = 1 := by
          rw [k0, m2, fl_ofu]
          exact rf_upd_eq
        obtain ⟨⟨⟨_, v1, v39, v21⟩, vt, vq, vs, va, _⟩, e, d2, d3, db⟩ := C
        have C1 : fl_C g su p.toNatClampNeg (fw_si (x p.toNatClampNeg) 0 1) := ⟨⟨⟨g0, (kk 1 (by omega)).trans v1, (kk 39 (by omega)).trans v39, (kk 21 (by omega)).trans v21⟩, fun j hj => (kk _ (by omega)).trans (vt j hj), fun j hj => (kk _ (by omega)).trans (vq j hj), vs, fun _ => ⟨(kk 2 (by omega)).trans (va hac).1, (kk 3 (by omega)).trans (va hac).2.1, (va hac).2.2⟩, fun z => absurd (show fl_ac 1 by unfold fl_ac; decide) z⟩,
          fun J hJ => by rw [kk J (by unfold fl_e at hJ; omega), e J hJ]; exact (if_neg (by unfold fl_e at hJ; omega)).symm, d2, d3, fun j hj => (kk _ (by omega)).trans (db j hj)⟩
        have Z1 := (fl_Zc (qa1 := fw_si (x p.toNatClampNeg) 0 1) Z k1 o (fun _ _ => rfl) (fun J h1 _ => kk J (by omega)) sd_Wr (sd_Csi sd_Cr (Or.inl (by omega))) rfl (fl_Rw Z.2.2.2.1 (by rw [m2]; exact fl_recu hp5 (by omega)) rfl rfl rfl) C1 N ⟨fun _ => A.1 hac, A.2⟩).1
        have r2 : rf_of g p 2 = (x p.toNatClampNeg).1 2 := by have h := (kk 2 (by omega)).trans (va hac).1; rw [k0] at h; exact h
        rw [c3, c7, c5, m5]
        exact ⟨Z1, Or.inr ⟨c2, by rw [m4, c2], by rw [c4, fl_ovl, c6, m3, r2]⟩⟩
      · exact absurd (u0.symm.trans m1) c1
  · have hin := fl_nin hc
    rw [← Z.1.1.2.2.1, hG.1] at hin
    obtain ⟨_, m2, m3, m4⟩ := m.resolve_left (fun z => hin z.1.1)
    rw [c3, m4]
    exact ⟨Z, Or.inl ⟨by rw [c2]; decide, by rw [m3, c2]⟩⟩
theorem zl_stop {f f1 G : Nat → Int32} {su : Nat → Int64} {p r th re : Int32} {o o1 : Nat → Int64} {W : fw_W} {x y : Nat → fw_C} (Z : fl_Z True f su W x) (hG : f 9 = G 9 ∧ f 10 = G 10) (c : t_L_stop p o W x r y o1) (m : q_X11_stop f G p re th f1) : fl_Z True f1 su W y ∧ cp_R r th re o1 := by
  obtain ⟨_, _, m⟩ := m
  rcases c with ⟨hc, rc, q, ⟨d, c1, c5, c6⟩, c2, c3, c4⟩ | ⟨hc, c2, c3, c4⟩
  · have hin := fl_in hc
    rw [← Z.1.1.2.2.1] at hin
    obtain ⟨k0, k1, ⟨C, N, A⟩, h9, h10, b9, b10⟩ := fl_ch Z hin
    rw [hG.1] at hin
    obtain ⟨_, g1, m1, g2, m2, g3, m3, m4, m5, m6⟩ := m.resolve_right (fun z => z.1.1 hin)
    have u0 : rf_of f p 0 = (x p.toNatClampNeg).1 0 := by have h := C.1.1.1; rw [k0] at h; exact h
    have hp5 : 0 ≤ p.toInt ∧ p.toInt < 6 := by rw [← hG.1] at hin; omega
    have o : fl_out (Int32.ofNat p.toNatClampNeg) f g3 := by
      rw [k0, m3, m2, m1]
      exact fl_outt (fl_outu (by omega)) (fl_outt (fl_outu (by omega)) (fl_outu (by omega)))
    have rr : rf_of g3 (Int32.ofNat p.toNatClampNeg) = upd (upd (upd (rf_of f (Int32.ofNat p.toNatClampNeg)) 0 0) 2 (-1)) 3 0 := by rw [k0, m3, fl_ofu, m2, fl_ofu, m1, fl_ofu]
    have kk : ∀ J : Nat, J ≠ 0 → J ≠ 2 → J ≠ 3 → rf_of g3 (Int32.ofNat p.toNatClampNeg) J = rf_of f (Int32.ofNat p.toNatClampNeg) J := fun J j0 j2 j3 => by
      rw [rr, rf_upd_ne j3, rf_upd_ne j2, rf_upd_ne j0]
    have na : ¬ fl_ac 0 := by unfold fl_ac; decide
    obtain ⟨⟨⟨_, v1, v39, v21⟩, vt, vq, vs, va, _⟩, e, d2, d3, db⟩ := C
    have C1 : fl_C g3 su p.toNatClampNeg (fw_si (x p.toNatClampNeg) 0 0) := ⟨⟨⟨by rw [rr]; rfl, (kk 1 (by omega) (by omega) (by omega)).trans v1, (kk 39 (by omega) (by omega) (by omega)).trans v39, (kk 21 (by omega) (by omega) (by omega)).trans v21⟩, fun j hj => (kk _ (by omega) (by omega) (by omega)).trans (vt j hj), fun j hj => (kk _ (by omega) (by omega) (by omega)).trans (vq j hj), vs, fun z => absurd z na, fun _ => ⟨by rw [rr]; rfl, by rw [rr]; rfl⟩⟩,
      fun J hJ => by rw [kk J (by unfold fl_e at hJ; omega) (by unfold fl_e at hJ; omega) (by unfold fl_e at hJ; omega), e J hJ]; exact (if_neg (by unfold fl_e at hJ; omega)).symm, d2, d3, fun j hj => (kk _ (by omega) (by omega) (by omega)).trans (db j hj)⟩
    have Z1 := (fl_Zc (qa1 := fw_si (x p.toNatClampNeg) 0 0) Z k1 o (fun _ _ => rfl) (fun J h1 _ => kk J (by omega) (by omega) (by omega)) sd_Wr (sd_Csi sd_Cr (Or.inl (by omega))) rfl (fl_Rw Z.2.2.2.1 (by rw [m3, m2, m1]; exact fl_rect (fl_recu hp5 (by omega)) (fl_rect (fl_recu hp5 (by omega)) (fl_recu hp5 (by omega)))) rfl rfl rfl) C1 N ⟨fun z => absurd z na, A.2⟩).1
    rw [c3, c6, c1, m6]
    exact ⟨Z1, Or.inr ⟨c2, by rw [m5, c2], by rw [c4, fl_ovl, c5, m4, u0]⟩⟩
  · have hin := fl_nin hc
    rw [← Z.1.1.2.2.1, hG.1] at hin
    obtain ⟨_, m2, m3, m4⟩ := m.resolve_left (fun z => hin z.1.1)
    rw [c3, m4]
    exact ⟨Z, Or.inl ⟨by rw [c2]; decide, by rw [m3, c2]⟩⟩
theorem zl_enqueue {f f1 G : Nat → Int32} {su : Nat → Int64} {p p2 r th re : Int32} {o o1 : Nat → Int64} {W : fw_W} {x y : Nat → fw_C} (Z : fl_Z True f su W x) (hG : f 9 = G 9 ∧ f 10 = G 10) (c : t_L_enqueue p p2 o W x r y o1) (m : q_X11_enqueue f G p p2 re th f1) : fl_Z True f1 su W y ∧ cp_R r th re o1 := by
  obtain ⟨_, _, m⟩ := m
  rcases c with ⟨hc, c⟩ | ⟨hc, c2, c3, c4⟩
  · have hin := fl_in hc
    rw [← Z.1.1.2.2.1] at hin
    obtain ⟨k0, k1, ⟨C, N, A⟩, h9, h10, b9, b10⟩ := fl_ch Z hin
    have hp5 : 0 ≤ p.toInt ∧ p.toInt < 6 := by omega
    rw [hG.1] at hin
    rcases c with ⟨_, rc, q, ⟨c0, c1⟩, c2, c3, c4⟩ | ⟨c1, c2, c3, c4⟩
    · have hpr := fl_np c0
      have hpg : 0 ≤ p2.toInt ∧ p2.toInt < (G 10).toInt := by rw [← hG.2, h10]; exact hpr
      obtain ⟨_, m⟩ := m.resolve_right (fun z => z.1.1 ⟨hin, hpg⟩)
      have u39 : rf_of f p 39 = (x p.toNatClampNeg).1 39 := by have h := C.1.1.2.2.1; rw [k0] at h; exact h
      have t4 : (4 : Int32).toInt = 4 := by decide
      have one : (1 : Int32).toInt = 1 := by decide
      have wb := N.2.2.2.2
      generalize hw : (x p.toNatClampNeg).1 39 = w at u39 wb c1
      rcases c1 with ⟨c1, b1, hb, d, cd, c5, c6⟩ | ⟨c1, c5, c6⟩
      · rw [Int32.lt_iff_toInt_lt, t4] at c1
        obtain ⟨_, g1, m1, g2, m2, m3, m4, m5⟩ := m.resolve_right (fun z => by have := congrArg Int32.toInt (u39.symm.trans z.1); omega)
        have hb := fl_p4 (K := w.toInt.toNat) (by omega) (by omega) hb
        have ei : (40 + rf_of f p 39).toInt.toNat = 40 + w.toInt.toNat := by
          have t40 : (40 : Int32).toInt = 40 := by decide
          rw [u39, Jvm.Kit.i32_add (by omega) (by omega), t40]
          omega
        rw [ei] at m1
        have e1 : (w + 1).toInt = w.toInt + 1 := by rw [Jvm.Kit.i32_add (by omega) (by omega), one]
        have r1 : rf_of g1 p 39 = w := by rw [m1, fl_ofu, rf_upd_ne (by omega)]; exact u39
        rw [r1] at m2
        have rr : rf_of g2 (Int32.ofNat p.toNatClampNeg) = upd (upd (rf_of f (Int32.ofNat p.toNatClampNeg)) (40 + w.toInt.toNat) p2) 39 (w + 1) := by rw [k0, m2, fl_ofu, m1, fl_ofu]
        have r2 : rf_of g2 p 39 = w + 1 := by have h := congrFun rr 39; rw [k0] at h; exact h
        have o : fl_out (Int32.ofNat p.toNatClampNeg) f g2 := by
          rw [k0, m2, m1]
          exact fl_outt (fl_outu (by omega)) (fl_outu (by omega))
        have kk : ∀ J : Nat, J < 39 ∨ 44 ≤ J → rf_of g2 (Int32.ofNat p.toNatClampNeg) J = rf_of f (Int32.ofNat p.toNatClampNeg) J := fun J hJ => by
          rw [rr, rf_upd_ne (by omega), rf_upd_ne (by omega)]
        obtain ⟨⟨⟨v0, v1, _, v21⟩, vt, vq, vs, va, vn⟩, e, d2, d3, db⟩ := C
        have C1 : fl_C g2 su p.toNatClampNeg (fw_sr (fw_si (x p.toNatClampNeg) 39 (w + 1)) 1 b1) := ⟨⟨⟨(kk 0 (by omega)).trans v0, (kk 1 (by omega)).trans v1, by rw [rr]; rfl, (kk 21 (by omega)).trans v21⟩, fun j hj => (kk _ (by omega)).trans (vt j hj), fun j hj => by
            show rf_of g2 (Int32.ofNat p.toNatClampNeg) (40 + j) = b1 j
            have hj2 : (j : Int) < (w + 1).toInt := hj
            rw [e1] at hj2
            rw [rr, rf_upd_ne (by omega), hb]
            by_cases z : j = w.toInt.toNat
            · rw [z, rf_upd_eq, rf_upd_eq]
            · rw [rf_upd_ne (by omega), rf_upd_ne z]
              exact vq j (by rw [hw]; omega), vs, fun z => ⟨(kk 2 (by omega)).trans (va z).1, (kk 3 (by omega)).trans (va z).2.1, (va z).2.2⟩, fun z => ⟨(kk 2 (by omega)).trans (vn z).1, (kk 3 (by omega)).trans (vn z).2⟩⟩,
          fun J hJ => by rw [kk J (by unfold fl_e at hJ; omega), e J hJ]; exact (if_neg (by unfold fl_e at hJ; omega)).symm, d2, d3, fun j hj => (kk _ (by omega)).trans (db j hj)⟩
        have N1 : fl_nu (fw_sr (fw_si (x p.toNatClampNeg) 39 (w + 1)) 1 b1) := ⟨N.1, N.2.1, N.2.2.1, N.2.2.2.1, by show 0 ≤ (w + 1).toInt ∧ (w + 1).toInt ≤ 4; omega⟩
        have A1 : fl_PA W (fw_sr (fw_si (x p.toNatClampNeg) 39 (w + 1)) 1 b1) := ⟨A.1, fun j hj => by
          show 0 ≤ (b1 j).toInt ∧ (b1 j).toInt < (W.1 10).toInt
          have hj2 : (j : Int) < (w + 1).toInt := hj
          rw [hb]
          by_cases z : j = w.toInt.toNat
          · rw [z, rf_upd_eq]; exact hpr
          · rw [rf_upd_ne z]
            exact A.2.1 j (by rw [hw]; omega), A.2.2⟩
        have Z1 := (fl_Zc Z k1 o (fun _ _ => rfl) (fun J _ _ => kk J (by omega)) sd_Wr (sd_Csr (sd_Csi sd_Cr (Or.inr (by omega))) (by omega)) rfl (fl_Rw Z.2.2.2.1 (by rw [m2, m1]; exact fl_rect (fl_recu hp5 (by omega)) (fl_recu hp5 (by omega))) rfl rfl rfl) C1 N1 A1).1
        rw [c3, c6, cd, m5]
        exact ⟨Z1, Or.inr ⟨c2, by rw [m4, c2], by rw [c4, fl_ovl, c5, m3, r2]⟩⟩
      · have e4 : w = 4 := Int32.toInt_inj.mp (by rw [Int32.lt_iff_toInt_lt, t4] at c1; omega)
        obtain ⟨_, m2, m3, m4⟩ := m.resolve_left (fun z => z.1 (u39.trans e4))
        rw [c3, c6, m4, fl_Wid]
        exact ⟨Z, Or.inr ⟨c2, by rw [m3, c2], by rw [c4, fl_ovl, c5, m2]⟩⟩
    · have hnp := fl_nnp c1
      rw [← h10, hG.2] at hnp
      obtain ⟨_, m2, m3, m4⟩ := m.resolve_left (fun z => hnp z.1.1.2)
      rw [c3, m4]
      exact ⟨Z, Or.inl ⟨by rw [c2]; decide, by rw [m3, c2]⟩⟩
  · have hin := fl_nin hc
    rw [← Z.1.1.2.2.1, hG.1] at hin
    obtain ⟨_, m2, m3, m4⟩ := m.resolve_left (fun z => hin z.1.1.1)
    rw [c3, m4]
    exact ⟨Z, Or.inl ⟨by rw [c2]; decide, by rw [m3, c2]⟩⟩
theorem zl_dequeue {f f1 G : Nat → Int32} {su : Nat → Int64} {p r th re : Int32} {o o1 : Nat → Int64} {W : fw_W} {x y : Nat → fw_C} (Z : fl_Z True f su W x) (hG : f 9 = G 9 ∧ f 10 = G 10) (c : t_L_dequeue p o W x r y o1) (m : q_X11_dequeue f G p re th f1) : fl_Z True f1 su W y ∧ cp_R r th re o1 := by
  obtain ⟨_, _, m⟩ := m
  rcases c with ⟨hc, rc, q, c1, c2, c3, c4⟩ | ⟨hc, c2, c3, c4⟩
  · have hin := fl_in hc
    rw [← Z.1.1.2.2.1] at hin
    obtain ⟨k0, k1, ⟨C, N, A⟩, h9, h10, b9, b10⟩ := fl_ch Z hin
    have hp5 : 0 ≤ p.toInt ∧ p.toInt < 6 := by omega
    rw [hG.1] at hin
    obtain ⟨_, m⟩ := m.resolve_right (fun z => z.1.1 hin)
    have u39 : rf_of f p 39 = (x p.toNatClampNeg).1 39 := by have h := C.1.1.2.2.1; rw [k0] at h; exact h
    have one : (1 : Int32).toInt = 1 := by decide
    have z0 : (0 : Int32).toInt = 0 := by decide
    have wb := N.2.2.2.2
    unfold t_dequeue at c1
    generalize hw : (x p.toNatClampNeg).1 39 = w at u39 wb c1
    rcases c1 with ⟨c1, r6, h6, d, cd, c5, c6⟩ | ⟨c1, c5, c6⟩
    · obtain ⟨_, g1, m1, m3, m4, m5⟩ := m.resolve_right (fun z => c1 (u39.symm.trans z.1))
      have w1 : w.toInt ≠ 0 := fl_i0 c1
      have e1 : (w - 1).toInt = w.toInt - 1 := by rw [Jvm.Kit.i32_sub (by omega) (by omega), one]
      rw [u39] at m1
      have rr : rf_of g1 (Int32.ofNat p.toNatClampNeg) = upd (rf_of f (Int32.ofNat p.toNatClampNeg)) 39 (w - 1) := by rw [k0, m1, fl_ofu]
      have r2 : rf_of g1 p 39 = w - 1 := by have h := congrFun rr 39; rw [k0] at h; exact h
      have kk : ∀ J : Nat, J ≠ 39 → rf_of g1 (Int32.ofNat p.toNatClampNeg) J = rf_of f (Int32.ofNat p.toNatClampNeg) J := fun J hJ => by
        rw [rr, rf_upd_ne hJ]
      have ei : (40 + rf_of g1 p 39).toInt.toNat = 40 + (w.toInt.toNat - 1) := by
        have t40 : (40 : Int32).toInt = 40 := by decide
        rw [r2, Jvm.Kit.i32_add (by omega) (by omega), t40, e1]
        omega
      have h6 := fl_at4 (K := w.toInt.toNat - 1) (by omega) (by omega) h6
      have o : fl_out (Int32.ofNat p.toNatClampNeg) f g1 := by
        rw [k0, m1]
        exact fl_outu (by omega)
      obtain ⟨⟨⟨v0, v1, _, v21⟩, vt, vq, vs, va, vn⟩, e, d2, d3, db⟩ := C
      have rq : re = r6 := by
        rw [m3, ei, h6]
        have h := (kk (40 + (w.toInt.toNat - 1)) (by omega)).trans (vq (w.toInt.toNat - 1) (by rw [hw]; omega))
        rw [k0] at h
        exact h
      have C1 : fl_C g1 su p.toNatClampNeg (fw_si (x p.toNatClampNeg) 39 (w - 1)) := ⟨⟨⟨(kk 0 (by omega)).trans v0, (kk 1 (by omega)).trans v1, by rw [rr]; rfl, (kk 21 (by omega)).trans v21⟩, fun j hj => (kk _ (by omega)).trans (vt j hj), fun j hj => by
          have hj2 : (j : Int) < (w - 1).toInt := hj
          exact (kk _ (by omega)).trans (vq j (by rw [hw]; omega)), vs, fun z => ⟨(kk 2 (by omega)).trans (va z).1, (kk 3 (by omega)).trans (va z).2.1, (va z).2.2⟩, fun z => ⟨(kk 2 (by omega)).trans (vn z).1, (kk 3 (by omega)).trans (vn z).2⟩⟩,
        fun J hJ => by rw [kk J (by unfold fl_e at hJ; omega), e J hJ]; exact (if_neg (by unfold fl_e at hJ; omega)).symm, d2, d3, fun j hj => (kk _ (by omega)).trans (db j hj)⟩
      have N1 : fl_nu (fw_si (x p.toNatClampNeg) 39 (w - 1)) := ⟨N.1, N.2.1, N.2.2.1, N.2.2.2.1, by show 0 ≤ (w - 1).toInt ∧ (w - 1).toInt ≤ 4; omega⟩
      have A1 : fl_PA W (fw_si (x p.toNatClampNeg) 39 (w - 1)) := ⟨A.1, fun j hj => by
        have hj2 : (j : Int) < (w - 1).toInt := hj
        exact A.2.1 j (by rw [hw]; omega), A.2.2⟩
      have Z1 := (fl_Zc Z k1 o (fun _ _ => rfl) (fun J _ _ => kk J (by omega)) sd_Wr (sd_Csi sd_Cr (Or.inr (by omega))) rfl (fl_Rw Z.2.2.2.1 (by rw [m1]; exact fl_recu hp5 (by omega)) rfl rfl rfl) C1 N1 A1).1
      rw [c3, c6, cd, m5]
      exact ⟨Z1, Or.inr ⟨c2, by rw [m4, c2], by rw [c4, fl_ovl, c5, rq]⟩⟩
    · obtain ⟨_, m2, m3, m4⟩ := m.resolve_left (fun z => z.1 (u39.trans c1))
      rw [c3, c6, m4, fl_Wid]
      exact ⟨Z, Or.inr ⟨c2, by rw [m3, c2], by rw [c4, fl_ovl, c5, m2]⟩⟩
  · have hin := fl_nin hc
    rw [← Z.1.1.2.2.1, hG.1] at hin
    obtain ⟨_, m2, m3, m4⟩ := m.resolve_left (fun z => hin z.1.1)
    rw [c3, m4]
    exact ⟨Z, Or.inl ⟨by rw [c2]; decide, by rw [m3, c2]⟩⟩
/-- a program begins on a channel: the part that is the same for start, startNext and the predictions -/
theorem fl_bz {tt : Prop} {f f1 : Nat → Int32} {su t : Nat → Int64} {k : Nat} {c pr idx tim llim lwid lold lsiz sta1 prg1 stp1 las1 hel1 : Int32} {fln ftb1 : Nat → Int32} {bin1 bou1 sbo1 : Int64} {W W1 : fw_W} {x : Nat → fw_C} {u : fw_C} (Z : fl_Z tt f su W x) (hk : (k : Int) < (f 9).toInt) (ec : Int32.ofNat k = c) (hp : 0 ≤ pr.toInt ∧ pr.toInt < (f 10).toInt) (hr : q_X11_startsOn f su c pr f1 t) (hb : a_X1_begin idx ((x k).2.1 0) ((x k).2.1 1) ((x k).2.2 0) tim llim lwid lold lsiz fln pr sta1 prg1 stp1 las1 bin1 bou1 hel1 sbo1 ftb1)
    (hu : u = fw_sr (fw_sl (fw_si (fw_sl (fw_sl (fw_si (fw_si (fw_si (fw_si (x k) 0 sta1) 1 prg1) 2 stp1) 3 las1) 4 bin1) 5 bou1) 21 hel1) 6 sbo1) 0 ftb1) (w : sd_W W W1) (w8 : W1.1 8 = W.1 8) (w12 : W1.1 12 = W.1 12) (w18 : W1.1 18 = W.1 18) (w6 : W1.2.1 6 = W.2.1 6) : fl_Z tt f1 t W1 (fw_sx x k u) ∧ f1 9 = f 9 ∧ u.1 0 = 1 ∧ (prg1 = pr ∧ rf_of f1 c 1 = pr) := by
  obtain ⟨C, N, A⟩ := Z.2.2.2.2 k hk
  have b := Z.1.2.1
  unfold sd_bds at b
  have hc : 0 ≤ c.toInt ∧ c.toInt < 6 := by rw [← ec, fl_on (by omega)]; omega
  have U := C.1
  rw [ec] at U
  obtain ⟨d1, d2, d3, d4, d5, d6, d7, d8, d9, d10⟩ := fl_bg hc N.2.2.2.2.2 U hr hb
  have C1 : fl_C f1 t k u := by
    subst hu
    exact fl_un ec C d1 (fun J hJ => d2 J (by unfold fl_st; omega)) d5 rfl rfl rfl rfl rfl rfl rfl rfl rfl rfl rfl (fun J hJ => (if_neg (by unfold fl_e at hJ; omega)).trans ((if_neg (by unfold fl_e at hJ; omega)).trans ((if_neg (by unfold fl_e at hJ; omega)).trans ((if_neg (by unfold fl_e at hJ; omega)).trans (if_neg (by unfold fl_e at hJ; omega)))))) (fun j hj => (if_neg (by omega)).trans ((if_neg (by omega)).trans (if_neg (by omega)))) rfl
  have N1 : fl_nu u := by
    subst hu
    exact ⟨N.1, N.2.1, N.2.2.1, Or.inl d9, N.2.2.2.2⟩
  obtain ⟨n, n1, n12, pg, _⟩ := fl_pgo (P := pr.toInt.toNat) Z.1 Z.2.1 (by omega)
  have h10 := Z.1.1.2.2.2.1
  have A1 : fl_PA W u := by
    subst hu
    have z0 : (0 : Int32).toInt = 0 := by decide
    refine ⟨fun _ => ⟨pr.toInt.toNat, n, 0, ?_, by rw [← h10]; omega, pg.1, n12, ?_, by omega, fun j hj => absurd hj (Nat.not_lt_zero j), fun h4 => ?_⟩, A.2.1, Or.inr ⟨pr.toInt.toNat, n, ?_, by rw [← h10]; omega, pg.1, n12, fun j _ h2 => d10 j h2⟩⟩
    · show prg1.toInt = _
      rw [d7]; omega
    · show stp1.toInt = _
      rw [d8]; exact z0
    · have := pg.2.2.2.2 0 (by omega) h4
      omega
    · show prg1.toInt = _
      rw [d7]; omega
  have dC : sd_C (x k) u := by
    subst hu
    exact sd_Csr (sd_Csl (sd_Csi (sd_Csl (sd_Csl (sd_Csi (sd_Csi (sd_Csi (sd_Csi sd_Cr (Or.inl (by omega))) (Or.inl (by omega))) (Or.inl (by omega))) (Or.inl (by omega))))) (Or.inr (by omega)))) (by omega)
  have R1 : fl_R tt f1 W1 := fl_Rw Z.2.2.2.1 d4 w12 w18 w6
  obtain ⟨Z1, e9⟩ := fl_Zc Z hk (by rw [ec]; exact d3) (by rw [ec]; exact d5.1) (fun J h1 h2 => by rw [ec]; exact d2 J (Or.inl (by omega))) w dC w8 R1 C1 N1 A1
  refine ⟨Z1, e9, by subst hu; exact d6, d7, ?_⟩
  have h := d1.1.2.1
  rw [h, d7]
theorem fl_fr {s r : Int32} (h : a_X1_isFree s r) : (¬ r = 0 → s = 0 ∨ s = 3) ∧ (r = 0 → ¬ s = 0 ∧ ¬ s = 3) := by
  rcases h with ⟨h1, h2⟩ | ⟨h1, ⟨h2, h3⟩ | ⟨h2, h3⟩⟩
  · exact ⟨fun _ => Or.inl h1, fun z => absurd (h2.symm.trans z) (by decide)⟩
  · exact ⟨fun z => absurd h3 z, fun _ => ⟨h1, h2⟩⟩
  · exact ⟨fun _ => Or.inr h2, fun z => absurd (h3.symm.trans z) (by decide)⟩
theorem zl_start {f f1 G : Nat → Int32} {su su1 : Nat → Int64} {p p2 r th re : Int32} {o o1 : Nat → Int64} {W V : fw_W} {x y : Nat → fw_C} (Z : fl_Z True f su W x) (hG : f 9 = G 9 ∧ f 10 = G 10) (c : t_L_start p p2 o W x r V y o1) (m : q_X11_start f G su p p2 re th f1 su1) : fl_Z True f1 su1 V y ∧ (r = 0 → th = 0 ∧ ∃ v : Int32, o1 (0 : Int32).toNatClampNeg = v.toInt64 ∧ ((re = -3 ∧ v = -3) ∨ ∃ (z q : Int32), t_channelsIn 1 V y z ∧ a_J6_bitCount_0f7a4 z v ∧ (0 ≤ q.toInt ∧ q.toInt ≤ (f1 9).toInt) ∧ f1 9 ≤ q ∧ re = q_rn f1 q.toInt.toNat)) ∧ (¬ r = 0 → th = r) := by
  obtain ⟨_, _, m⟩ := m
  rcases c with ⟨hc, c⟩ | ⟨hc, c2, c3, c4, c5⟩
  · have hin := fl_in hc
    rw [← Z.1.1.2.2.1] at hin
    obtain ⟨k0, k1, ⟨C, N, A⟩, h9, h10, b9, b10⟩ := fl_ch Z hin
    rw [hG.1] at hin
    rcases c with ⟨hp, rc, V1, y1, ⟨fr, hfr, c1⟩, c2, c3, c4, c5⟩ | ⟨hp, c2, c3, c4, c5⟩
    · have hpr := fl_in hp
      rw [← h10] at hpr
      obtain ⟨_, m⟩ := m.resolve_right (fun z => z.1.1 ⟨hin, by rw [← hG.2]; exact hpr⟩)
      have u0 : rf_of f p 0 = (x p.toNatClampNeg).1 0 := by have h := C.1.1.1; rw [k0] at h; exact h
      obtain ⟨f1a, f1b⟩ := fl_fr hfr
      rcases c1 with ⟨c1, st, pg, sp, ls, bi, bo, he, sb, tb, lo, lz, fl, hbg, q, hq, Wn, hW, z1, hz1, z2, hz2, c6, c7, c8⟩ | ⟨c1, c6, c7, c8⟩
      · have key : ∃ (g : Nat → Int32) (t : Nat → Int64), q_X11_startsOn f su p p2 g t ∧ ∃ ya yb : Int32, ((0 ≤ yb.toInt ∧ yb.toInt ≤ (G 9).toInt) ∧ ya = q_rn g yb.toInt.toNat) ∧ (g 9 ≤ yb ∧ (re = ya ∧ th = 0 ∧ f1 = g ∧ su1 = t)) := by
          rcases m with ⟨m1, ⟨m2, _⟩ | ⟨_, m2⟩⟩ | ⟨_, m2⟩
          · rw [u0] at m1 m2
            rcases f1a c1 with z | z
            · exact absurd z m1
            · exact absurd z m2
          · exact m2
          · exact m2
        obtain ⟨g, t, hso, ya, yb, ⟨q1, q2⟩, q3, q4, q5, q6, q7⟩ := key
        subst hW
        obtain ⟨Z1, e9, _⟩ := fl_bz (W1 := fw_wr (fw_si (fw_si W 19 lo) 17 lz) 7 fl) Z k1 k0 hpr hso hbg hq (sd_Wwr (sd_Wsi (sd_Wsi sd_Wr (by decide)) (by decide)) (by decide)) rfl rfl rfl rfl
        rw [c3, c4, c7, c8, q6, q7]
        refine ⟨Z1, fun _ => ⟨q5, rc, by rw [c5, fl_ovl], Or.inr ⟨z1, yb, hz1, by rw [c6]; exact hz2, ⟨q1.1, ?_⟩, q3, by rw [q4, q2]⟩⟩, fun z => absurd c2 z⟩
        rw [e9, hG.1]; exact q1.2
      · have n0 := f1b c1
        rw [← u0] at n0
        obtain ⟨_, m2⟩ := m.resolve_right (fun z => n0.1 z.1)
        obtain ⟨_, m3, m4, m5, m6⟩ := m2.resolve_right (fun z => n0.2 z.1)
        rw [c3, c4, c7, c8, m5, m6]
        exact ⟨Z, fun _ => ⟨m4, rc, by rw [c5, fl_ovl], Or.inl ⟨m3, c6⟩⟩, fun z => absurd c2 z⟩
    · have hnp := fl_nin hp
      rw [← h10, hG.2] at hnp
      obtain ⟨_, m2, m3, m4, m5⟩ := m.resolve_left (fun z => hnp z.1.1.2)
      rw [c3, c4, m4, m5]
      exact ⟨Z, fun z => absurd (c2.symm.trans z) (by decide), fun _ => m3.trans c2.symm⟩
  · have hin := fl_nin hc
    rw [← Z.1.1.2.2.1, hG.1] at hin
    obtain ⟨_, m2, m3, m4, m5⟩ := m.resolve_left (fun z => hin z.1.1.1)
    rw [c3, c4, m4, m5]
    exact ⟨Z, fun z => absurd (c2.symm.trans z) (by decide), fun _ => m3.trans c2.symm⟩
theorem zl_skip {f f1 G : Nat → Int32} {su su1 : Nat → Int64} {p r th re : Int32} {o o1 : Nat → Int64} {W V : fw_W} {x y : Nat → fw_C} (Z : fl_Z True f su W x) (hG : f 9 = G 9 ∧ f 10 = G 10) (c : t_L_skip p o W x r V y o1) (m : q_X11_skip f G su p re th f1 su1) : fl_Z True f1 su1 V y ∧ cp_R r th re o1 := by
  obtain ⟨_, _, m⟩ := m
  rcases c with ⟨hc, rc, V1, q, c1, c2, c3, c4, c5⟩ | ⟨hc, c2, c3, c4, c5⟩
  · have hin := fl_in hc
    rw [← Z.1.1.2.2.1] at hin
    obtain ⟨k0, k1, ⟨C, N, A⟩, h9, h10, b9, b10⟩ := fl_ch Z hin
    have hp5 : 0 ≤ p.toInt ∧ p.toInt < 6 := by omega
    rw [hG.1] at hin
    obtain ⟨_, m⟩ := m.resolve_right (fun z => z.1.1 hin)
    have U := C.1
    rw [k0] at U
    rcases c1 with ⟨c1, st, pg, sp, ls, wa, bi, bo, he, sb, tb, qu, lo, lz, fl, hlv, hx⟩ | ⟨c1, c6, c7, c8⟩
    · obtain ⟨_, g, t, hco, m3, m4, m5, m6⟩ := m.resolve_left (fun z => z.1 (U.1.1.trans c1))
      have ac : fl_ac ((x p.toNatClampNeg).1 0) := Or.inl c1
      obtain ⟨P, n, S, p1, p2, p3, p12, p4, p5, p6, p7⟩ := A.1 ac
      obtain ⟨mp, n1, n12, pgo, _⟩ := fl_pgo (P := P) Z.1 Z.2.1 (by rw [h10]; exact p2)
      have emp : n = mp := by
        have h := congrArg Int32.toInt (p3.symm.trans pgo.1)
        rw [fl_on (by omega), fl_on (by omega)] at h
        omega
      subst emp
      have l1 : fl_lo (fun j => W.2.1 3 (12 * P + j)) (S + 1) ((x p.toNatClampNeg).2.2 0) := fun j hj hk => by
        by_cases z : j = S
        · subst z; exact absurd hk p7
        · exact p6 j (by omega) hk
      obtain ⟨d1, d2, d3, d4, d5, dh, d6⟩ := fl_lv hp5 p1 (by rw [← h10] at p2; omega) pgo p4 p5 l1 N.2.2.2.2 ac U (by rw [(U.2.2.2.2.1 ac).1]) hco hlv
      have key : (rc = if st = 3 then -1 else sp) ∧ ∃ (Wn : fw_W) (u : fw_C), Wn = fw_wr (fw_si (fw_si W 19 lo) 17 lz) 7 fl ∧ u = fw_sr (fw_sr (fw_sl (fw_si (fw_sl (fw_sl (fw_si (fw_si (fw_si (fw_si (fw_si (x p.toNatClampNeg) 0 st) 1 pg) 2 sp) 3 ls) 39 wa) 4 bi) 5 bo) 21 he) 6 sb) 0 tb) 1 qu ∧ V1 = Wn ∧ q = u := by
        rcases hx with ⟨z, Wn, hW, u, hu, e1, e2, e3⟩ | ⟨z, Wn, hW, u, hu, e1, e2, e3⟩
        · exact ⟨by rw [if_neg z]; exact e1, Wn, u, hW, hu, e2, e3⟩
        · exact ⟨by rw [if_pos z]; exact e1, Wn, u, hW, hu, e2, e3⟩
      obtain ⟨kr, Wn, u, hW, hu, e2, e3⟩ := key
      have C1 : fl_C g t p.toNatClampNeg u := by
        subst hu
        exact fl_un k0 C d1 (fun J hJ => d2 J (by unfold fl_sq; omega)) d5 rfl rfl rfl rfl rfl rfl rfl rfl rfl rfl rfl (fun J hJ => (if_neg (by unfold fl_e at hJ; omega)).trans ((if_neg (by unfold fl_e at hJ; omega)).trans ((if_neg (by unfold fl_e at hJ; omega)).trans ((if_neg (by unfold fl_e at hJ; omega)).trans ((if_neg (by unfold fl_e at hJ; omega)).trans (if_neg (by unfold fl_e at hJ; omega))))))) (fun j hj => (if_neg (by omega)).trans ((if_neg (by omega)).trans (if_neg (by omega)))) rfl
      have nxq : fl_nx (W.2.1 3) P n ((x p.toNatClampNeg).1 1) ((x p.toNatClampNeg).1 39) ((x p.toNatClampNeg).2.2 0) ((x p.toNatClampNeg).2.2 1) st pg sp wa tb qu := by
        rcases d6 with ⟨z1, z2, z3, _, z5, z6, z7⟩ | z1 | z1
        · exact Or.inl ⟨Or.inl (z1.trans c1), z2, z3, z5, z6, z7⟩
        · exact Or.inr (Or.inl z1)
        · exact Or.inr (Or.inr z1)
      have wb : 0 ≤ wa.toInt ∧ wa.toInt ≤ 4 := by
        have Nw := N.2.2.2.2
        rcases nxq with ⟨_, _, _, z, _⟩ | ⟨_, _, z, _⟩ | ⟨z1, _, _, _, z, _⟩
        · rw [z]; exact Nw
        · rw [z]; exact Nw
        · omega
      have N1 : fl_nu u := by
        subst hu
        refine ⟨N.1, N.2.1, N.2.2.1, ?_, wb⟩
        show he = 0 ∨ he = 1
        rcases dh with z | z
        · rw [z]; exact N.2.2.2.1
        · exact Or.inl z
      have A1 : fl_PA W u := by
        subst hu
        exact fl_nxA Z.1 Z.2.1 A ac p1 p2 p3 p12 nxq rfl rfl rfl rfl rfl rfl
      have dC : sd_C (x p.toNatClampNeg) u := by
        subst hu
        exact sd_Csr (sd_Csr (sd_Csl (sd_Csi (sd_Csl (sd_Csl (sd_Csi (sd_Csi (sd_Csi (sd_Csi (sd_Csi sd_Cr (by decide)) (by decide)) (by decide)) (by decide)) (by decide)))) (by decide))) (by decide)) (by decide)
      have dW : sd_W W Wn := by
        subst hW
        exact sd_Wwr (sd_Wsi (sd_Wsi sd_Wr (by decide)) (by decide)) (by decide)
      have R1 : fl_R True g Wn := by
        subst hW
        exact fl_Rw Z.2.2.2.1 d4 rfl rfl rfl
      obtain ⟨Z1, _⟩ := fl_Zc Z k1 (by rw [k0]; exact d3) (by rw [k0]; exact d5.1) (fun J h1 h2 => by rw [k0]; exact d2 J (Or.inl (by omega))) dW dC (by subst hW; rfl) R1 C1 N1 A1
      have er : re = rc := by
        rw [m3, kr]
        have a3 : ¬ fl_ac 3 := by unfold fl_ac; decide
        by_cases z : st = 3
        · rw [if_pos z]
          exact (d1.2.2.2.2.2 (by rw [z]; exact a3)).1
        · rw [if_neg z]
          refine (d1.2.2.2.2.1 ?_).1
          rcases d6 with ⟨z1, _⟩ | ⟨z1, _⟩ | ⟨_, z1, _⟩
          · rw [z1]; exact ac
          · exact absurd z1 z
          · exact Or.inl z1
      rw [c3, c4, e2, e3, m5, m6]
      exact ⟨Z1, Or.inr ⟨c2, by rw [m4, c2], by rw [c5, fl_ovl, er]⟩⟩
    · obtain ⟨_, m3, m4, m5, m6⟩ := m.resolve_right (fun z => c1 (U.1.1.symm.trans z.1))
      rw [c3, c4, c7, c8, m5, m6, fl_Wid]
      exact ⟨Z, Or.inr ⟨c2, by rw [m4, c2], by rw [c5, fl_ovl, c6, m3]⟩⟩
  · have hin := fl_nin hc
    rw [← Z.1.1.2.2.1, hG.1] at hin
    obtain ⟨_, m2, m3, m4, m5⟩ := m.resolve_left (fun z => hin z.1.1)
    rw [c3, c4, m4, m5]
    exact ⟨Z, Or.inl ⟨by rw [c2]; decide, by rw [m3, c2]⟩⟩
/-- a setting -/
theorem fl_Zs {tt : Prop} {f : Nat → Int32} {su : Nat → Int64} {W : fw_W} {x : Nat → fw_C} {j : Nat} {v : Int32} (Z : fl_Z tt f su W x) (hj : j = 4 ∨ j = 5 ∨ j = 7 ∨ (j = 16 ∧ 0 ≤ v.toInt ∧ v.toInt ≤ 200)) : fl_Z tt (upd f j v) su (fw_si W j v) x := by
  obtain ⟨s, D, e8, R, Q⟩ := Z
  have n : ∀ i : Nat, i ≠ j → upd f j v i = f i := fun i hi => rf_upd_ne hi
  have b := s.2.1
  unfold sd_bds at b
  refine ⟨sd_s s (by omega), ?_, fun y => ?_, fl_Rw R (fun i hi => n i (by omega)) (if_neg (by omega)) (if_neg (by omega)) rfl, fun k hk => ?_⟩
  · obtain ⟨⟨a0, a1, a2, a6, a16⟩, d2, d3⟩ := D
    refine ⟨⟨by rw [n 0 (by omega)]; exact a0, by rw [n 1 (by omega)]; exact a1, by rw [n 2 (by omega)]; exact a2, by rw [n 6 (by omega)]; exact a6, ?_⟩, fun v hv i hi => ?_, fun q hq => ?_⟩
    · by_cases z : j = 16
      · subst z
        rw [rf_upd_eq]; omega
      · rw [n 16 (by omega)]; exact a16
    · rw [n 11 (by omega)] at hv
      rw [n _ (by omega)] at hi
      rw [n _ (by omega)]
      exact d2 v hv i hi
    · rw [n 10 (by omega)] at hq
      rw [n _ (by omega)]
      refine ⟨(d3 q hq).1, fun i hi => ?_⟩
      rw [n _ (by omega), n _ (by omega), n _ (by omega)]
      exact (d3 q hq).2 i hi
  · rw [n 8 (by omega)]
    exact (e8 y).trans (if_neg (by omega)).symm
  · rw [n 9 (by omega)] at hk
    obtain ⟨C, N, A⟩ := Q k hk
    refine ⟨fl_Ck (fun J hJ => n _ (by omega)) (fun _ _ => rfl) N.2.2.2.2.2 C, N, ?_⟩
    have e : (fw_si W j v).1 10 = W.1 10 := if_neg (by omega)
    unfold fl_PA
    rw [e]
    exact A
theorem zl_advance {f f1 G : Nat → Int32} {su su1 : Nat → Int64} {p r th re : Int32} {o o1 : Nat → Int64} {W V : fw_W} {x y : Nat → fw_C} {men men1 : Int32} (Z : fl_Z True f su W x) (hG : f 9 = G 9 ∧ f 10 = G 10) (c : t_L_advance p o W x r V y o1) (m : q_X11_advance men f G su p re men1 th f1 su1) : fl_Z True f1 su1 V y ∧ cp_R r th re o1 := by
  have e8 := Z.2.2.1 trivial
  rcases c with ⟨_, rc, V1, y1, ⟨hr, c1⟩, c2, c3, c4, c5⟩ | ⟨c1, c2, c3, c4, c5⟩
  · rcases m with ⟨_, _, _, _, m⟩ | ⟨z, _⟩
    · rcases c1 with ⟨c1, ya, yb, W1, x1, ⟨⟨b0, b1⟩, _, hs, _⟩, c6, c7, c8, c9⟩ | ⟨c1, c7, c8, c9⟩
      · rcases m with ⟨_, ma, mb, g, t, ⟨⟨d0, d1⟩, hq⟩, m6, m7, _, m8, m9, mA⟩ | ⟨m1, _⟩
        · rw [Int32.le_iff_toInt_le] at c6 m6
          have e1 : yb = p := Int32.toInt_inj.mp (by omega)
          have e2 : ma = p := Int32.toInt_inj.mp (by omega)
          rw [e1] at hs
          rw [e2] at hq
          obtain ⟨Z1, q1, _⟩ := fl_ta _ hG.1 Z rfl hq hs
          rw [c3, c4, c8, c9, m9, mA]
          exact ⟨Z1, Or.inr ⟨c2, by rw [m8, c2], by rw [c5, fl_ovl, c7, m7, q1]⟩⟩
        · rw [e8] at m1; exact absurd c1 m1
      · rcases m with ⟨m1, _⟩ | ⟨_, m7, _, m8, m9, mA⟩
        · rw [e8] at m1; exact absurd m1 c1
        · rw [c3, c4, c8, c9, m9, mA]
          exact ⟨Z, Or.inr ⟨c2, by rw [m8, c2], by rw [c5, fl_ovl, c7, m7]⟩⟩
    · exact absurd (lw_rg hr z) (fun z => z)
  · rcases m with ⟨z, _⟩ | ⟨_, _, _, _, m7, _, m8, m9, mA⟩
    · exact absurd (lw_rn2 c1 z) (fun z => z)
    · rw [c3, c4, m9, mA]
      exact ⟨Z, Or.inl ⟨by rw [c2]; decide, by rw [m8, c2]⟩⟩
/-- a channel as it is behind its beginning -/
theorem fl_bgn {f : Nat → Int32} {P J : Nat} {q : Int32} (hJ : J < 54) : rq_beg f P q (P + J) = if J = 9 then f 7 else if J = 38 then -1 else if J = 20 then -1 else if J = 19 then -1 else if J = 7 then f (P + 12) else if J = 6 then q else if J = 2 then -1 else if J = 1 then -1 else if J < 11 ∨ 15 < J then 0 else f (P + J) := by
  unfold rq_beg
  by_cases h9 : J = 9
  · subst h9; rw [rf_upd_eq, if_pos rfl]
  rw [rf_upd_ne (by omega), if_neg h9]
  by_cases h38 : J = 38
  · subst h38; rw [rf_upd_eq, if_pos rfl]
  rw [rf_upd_ne (by omega), if_neg h38]
  by_cases h20 : J = 20
  · subst h20; rw [rf_upd_eq, if_pos rfl]
  rw [rf_upd_ne (by omega), if_neg h20]
  by_cases h19 : J = 19
  · subst h19; rw [rf_upd_eq, if_pos rfl]
  rw [rf_upd_ne (by omega), if_neg h19]
  by_cases h7 : J = 7
  · subst h7; rw [rf_upd_eq, if_pos rfl]
  rw [rf_upd_ne (by omega), if_neg h7]
  by_cases h6 : J = 6
  · subst h6; rw [rf_upd_eq, if_pos rfl]
  rw [rf_upd_ne (by omega), if_neg h6]
  by_cases h2 : J = 2
  · subst h2; rw [rf_upd_eq, if_pos rfl]
  rw [rf_upd_ne (by omega), if_neg h2]
  by_cases h1 : J = 1
  · subst h1; rw [rf_upd_eq, if_pos rfl]
  rw [rf_upd_ne (by omega), if_neg h1]
  unfold rf_bz
  by_cases h : J < 11 ∨ 15 < J
  · rw [if_pos h, if_pos (by omega)]
  · rw [if_neg h, if_neg (by omega)]
/-- a cell is put in: u is the class's channel -/
theorem fl_ins {f g : Nat → Int32} {t : Nat → Int64} {k : Nat} {chg amb nom : Int32} {W : fw_W} {u : fw_C} (hk : k < 6) (h7 : f 7 = amb) (hg : ∀ J : Nat, J < 54 → g (244 + 54 * k + J) = rq_beg f (244 + 54 * k) chg (244 + 54 * k + J)) (ht : ∀ j : Nat, j < 7 → t (7 * k + j) = 0) (n12 : f (244 + 54 * k + 12) = nom) (hm : ∀ J : Nat, 12 ≤ J → J ≤ 15 → u.1 J = f (244 + 54 * k + J))
    (v : ∀ J : Nat, (J ≤ 1 ∨ J = 3 ∨ (4 ≤ J ∧ J ≤ 10) ∨ (16 ≤ J ∧ J ≤ 21) ∨ (36 ≤ J ∧ J ≤ 39)) → u.1 J = if J = 9 then amb else if J = 38 then -1 else if J = 20 then -1 else if J = 19 then -1 else if J = 7 then nom else if J = 6 then chg else if J = 1 then -1 else 0) (w : ∀ j : Nat, j < 7 → u.2.1 j = 0) (t0 : ∀ j : Nat, j < 12 → u.2.2 0 j = 0) (t3 : ∀ j : Nat, j < 10 → u.2.2 3 j = 0)
    (hn : ((100 ≤ (u.1 12).toInt ∧ (u.1 12).toInt ≤ 100000) ∧ (1 ≤ (u.1 13).toInt ∧ (u.1 13).toInt ≤ 500) ∧ (0 ≤ (u.1 14).toInt ∧ (u.1 14).toInt ≤ 500) ∧ (1 ≤ (u.1 15).toInt ∧ (u.1 15).toInt ≤ 200))) (hq : 0 ≤ chg.toInt ∧ chg.toInt ≤ nom.toInt) : fl_C g t k u ∧ fl_nu u ∧ fl_PA W u := by
  have ekn : (Int32.ofNat k).toInt.toNat = k := by rw [fl_on (by omega)]; omega
  have z0 : (0 : Int32).toInt = 0 := by decide
  have zz : (0 : Int64) - 0 = 0 := Int64.sub_self 0
  have row : ∀ J : Nat, J < 54 → rf_of g (Int32.ofNat k) J = if J = 9 then f 7 else if J = 38 then -1 else if J = 20 then -1 else if J = 19 then -1 else if J = 7 then f (244 + 54 * k + 12) else if J = 6 then chg else if J = 2 then -1 else if J = 1 then -1 else if J < 11 ∨ 15 < J then 0 else f (244 + 54 * k + J) := fun J hJ => by
    unfold rf_of
    rw [ekn, hg J hJ, fl_bgn hJ]
  have u12 : u.1 12 = nom := (hm 12 (by omega) (by omega)).trans n12
  have v0 : u.1 0 = 0 := v 0 (by omega)
  have v1 : u.1 1 = -1 := v 1 (by omega)
  have v39 : u.1 39 = 0 := v 39 (by omega)
  have v21 : u.1 21 = 0 := v 21 (by omega)
  have na : ¬ fl_ac 0 := by unfold fl_ac; decide
  refine ⟨⟨?_, fun J hJ => ?_, ?_, ?_, fun j hj => ?_⟩, ⟨hn, ⟨?_, ?_, ?_, ?_, ?_⟩, ⟨?_, ?_⟩, Or.inl v21, ?_⟩, ?_⟩
  · rw [v0, v1, v39, v21, w 4 (by omega), w 5 (by omega), w 6 (by omega), w 0 (by omega), w 1 (by omega)]
    refine ⟨⟨?_, ?_, ?_, ?_⟩, fun j hj => ?_, fun j hj => ?_, ⟨?_, ?_, ?_, ?_⟩, fun z => absurd z na, fun _ => ⟨?_, ?_⟩⟩
    · rw [row 0 (by omega)]; rfl
    · rw [row 1 (by omega)]; rfl
    · rw [row 39 (by omega)]; rfl
    · rw [row 21 (by omega)]; rfl
    · rw [row _ (by omega), t0 j hj, if_neg (by omega), if_neg (by omega), if_neg (by omega), if_neg (by omega), if_neg (by omega), if_neg (by omega), if_neg (by omega), if_neg (by omega), if_pos (by omega)]
    · rw [z0] at hj; omega
    · rw [ekn]; exact ht 0 (by omega)
    · rw [ekn]; exact ht 1 (by omega)
    · rw [ekn, zz]; exact ht 4 (by omega)
    · rw [ekn, zz]; exact ht 5 (by omega)
    · rw [row 2 (by omega)]; rfl
    · rw [row 3 (by omega)]; rfl
  · by_cases z : 12 ≤ J ∧ J ≤ 15
    · rw [hm J z.1 z.2, row J (by omega), if_neg (by omega), if_neg (by omega), if_neg (by omega), if_neg (by omega), if_neg (by omega), if_neg (by omega), if_neg (by omega), if_neg (by omega), if_neg (by omega)]
    · have hJ2 := hJ
      unfold fl_e at hJ2
      rw [v J (by omega), row J (by omega), h7, n12, if_neg (show ¬ J = 2 by omega), if_pos (show J < 11 ∨ 15 < J by omega)]
  · rw [ekn, w 2 (by omega)]; exact ht 2 (by omega)
  · rw [ekn, w 3 (by omega)]; exact ht 3 (by omega)
  · rw [row _ (by omega), t3 j hj, if_neg (by omega), if_neg (by omega), if_neg (by omega), if_neg (by omega), if_neg (by omega), if_neg (by omega), if_neg (by omega), if_neg (by omega), if_pos (by omega)]
  · rw [show u.1 6 = chg from v 6 (by omega), u12]; omega
  · rw [show u.1 7 = nom from v 7 (by omega), u12]; omega
  · rw [show u.1 16 = 0 from v 16 (by omega), z0]; omega
  · rw [show u.1 18 = 0 from v 18 (by omega), z0]; omega
  · rw [show u.1 8 = 0 from v 8 (by omega), z0]; omega
  · rw [show u.1 4 = 0 from v 4 (by omega), z0]; omega
  · rw [show u.1 5 = 0 from v 5 (by omega), z0]; omega
  · rw [v39, z0]; omega
  · unfold fl_PA
    rw [v0, v1, v39]
    exact ⟨fun z => absurd z na, fun j hj => by rw [z0] at hj; omega, Or.inl ⟨rfl, t0⟩⟩
/-- the reference's rows are copied -/
theorem fl_Zf {tt : Prop} {f g : Nat → Int32} {su t : Nat → Int64} {W : fw_W} {x : Nat → fw_C} (Z : fl_Z tt f su W x) (a : ∀ j : Nat, j < 958 → g j = f j) (b : ∀ j : Nat, j < 42 → t j = su j) : fl_Z tt g t W x := by
  obtain ⟨s, D, e8, R, Q⟩ := Z
  have h := s.2.1
  unfold sd_bds at h
  have h10 := s.1.2.2.2.1
  refine ⟨sd_to s (sd_fq a (by omega)) sd_Wr sd_Xr, fl_Dk s (fun j hj _ _ => a j (by omega)) D, fun y => (a 8 (by omega)).trans (e8 y), ?_, fun k hk => ?_⟩
  · refine fl_Rw R (fun j hj => a j ?_) rfl rfl rfl
    omega
  · rw [a 9 (by omega)] at hk
    obtain ⟨C, N, A⟩ := Q k hk
    have ekn : (Int32.ofNat k).toInt.toNat = k := by rw [fl_on (by omega)]; omega
    exact ⟨fl_Ck (fun J hJ => a _ (by rw [ekn]; omega)) (fun j hj => b _ (by rw [ekn]; omega)) N.2.2.2.2.2 C, N, A⟩
/-- the class's channel is copied -/
def fl_Qc (c d : fw_C) : Prop := d.1 = c.1 ∧ d.2.1 = c.2.1 ∧ (∀ j : Nat, j < 12 → d.2.2 0 j = c.2.2 0 j) ∧ (∀ j : Nat, j < 4 → d.2.2 1 j = c.2.2 1 j) ∧ ∀ j : Nat, j < 10 → d.2.2 3 j = c.2.2 3 j
theorem fl_CQ {f : Nat → Int32} {su : Nat → Int64} {k : Nat} {c d : fw_C} {W : fw_W} (q : fl_Qc c d) (C : fl_C f su k c) (N : fl_nu c) (A : fl_PA W c) : fl_C f su k d ∧ fl_nu d ∧ fl_PA W d := by
  obtain ⟨q1, q2, q3, q4, q5⟩ := q
  have Nw := N.2.2.2.2
  refine ⟨?_, by unfold fl_nu; rw [q1]; exact N, ?_⟩
  · obtain ⟨⟨u0, ut, uq, us, ua, un⟩, e, c2, c3, cb⟩ := C
    unfold fl_C fl_U
    rw [q1, q2]
    exact ⟨⟨u0, fun j hj => (ut j hj).trans (q3 j hj).symm, fun j hj => (uq j hj).trans (q4 j (by omega)).symm, us, ua, un⟩, e, c2, c3, fun j hj => (cb j hj).trans (q5 j hj).symm⟩
  · obtain ⟨a1, a2, a3⟩ := A
    unfold fl_PA
    rw [q1]
    refine ⟨fun z => ?_, fun j hj => by rw [q4 j (by omega)]; exact a2 j hj, ?_⟩
    · obtain ⟨P, n, S, p1, p2, p3, p12, p4, p5, p6, p7⟩ := a1 z
      exact ⟨P, n, S, p1, p2, p3, p12, p4, p5, fun j hj h => (q3 j (by omega)).trans (p6 j hj h), p7⟩
    · rcases a3 with ⟨z, h⟩ | ⟨P, n, p1, p2, p3, p12, h⟩
      · exact Or.inl ⟨z, fun j hj => (q3 j hj).trans (h j hj)⟩
      · exact Or.inr ⟨P, n, p1, p2, p3, p12, fun j h1 h2 => (q3 j h2).trans (h j h1 h2)⟩
theorem fl_cpd {n j : Nat} {a b : Nat → Int32} (h : j < n) : cm_cpy n a b j = a j := if_pos h
theorem fl_Zy {tt : Prop} {f : Nat → Int32} {su : Nat → Int64} {W W0 V : fw_W} {x x0 y : Nat → fw_C} (Z : fl_Z tt f su W x) (h : t_copyFrom W0 W x0 x V y) : fl_Z tt f su V y := by
  obtain ⟨d1, d2⟩ := sd_copy h
  obtain ⟨s, D, e8, R, Q⟩ := Z
  have hb := s.2.1
  unfold sd_bds at hb
  have h9 := s.1.2.2.1
  have h10 := s.1.2.2.2.1
  obtain ⟨W2, hW, m, z, ⟨⟨y0, y1⟩, hc, _⟩, hy, V2, hV, e1, e2⟩ := h
  subst e1 e2 hV hW
  rw [Int32.le_iff_toInt_le] at hy
  have hy2 : (W.1 9).toInt ≤ m.toInt := hy
  refine ⟨sd_to s sd_fr d1 (d2 _ (by rw [← h9]; omega)), D, fun q => (e8 q).trans rfl, ?_, fun k hk => ?_⟩
  · obtain ⟨r1, r2, r3, r4, r5⟩ := R
    refine ⟨r1, r2, r3, r4, fun i j hi hj h3 => (r5 i j hi hj h3).trans ?_⟩
    have : ((W.1 18).toInt.toNat + i) % 30 < 30 := Nat.mod_lt _ (by omega)
    exact (fl_cpd (by show 5 * (((W.1 18).toInt.toNat + i) % 30) + j < 150; omega)).symm
  · obtain ⟨C, N, A⟩ := Q k hk
    have t := hc.1 k (by rw [← h9] at hy2; omega)
    have q : fl_Qc (x k) (y k) := by
      rw [t]
      exact ⟨rfl, rfl, fun j hj => fl_cpd hj, fun j hj => fl_cpd hj, fun j hj => fl_cpd hj⟩
    obtain ⟨C1, N1, A1⟩ := fl_CQ q C N A
    exact ⟨C1, N1, fl_PAk d1 (by rw [← h10]; omega) A1⟩
theorem zl_startNext {f f1 G : Nat → Int32} {su su1 : Nat → Int64} {p r th re : Int32} {o o1 : Nat → Int64} {W V : fw_W} {x y : Nat → fw_C} (Z : fl_Z True f su W x) (hG : f 9 = G 9 ∧ f 10 = G 10) (c : t_L_startNext p o W x r V y o1) (m : q_X11_startNext f G su p re th f1 su1) : fl_Z True f1 su1 V y ∧ cp_R r th re o1 := by
  obtain ⟨_, _, m⟩ := m
  rcases c with ⟨hc, rc, V1, q, ⟨fr, hfr, c1⟩, c2, c3, c4, c5⟩ | ⟨hc, c2, c3, c4, c5⟩
  · have hin := fl_in hc
    rw [← Z.1.1.2.2.1] at hin
    obtain ⟨k0, k1, ⟨C, N, A⟩, h9, h10, b9, b10⟩ := fl_ch Z hin
    have hp5 : 0 ≤ p.toInt ∧ p.toInt < 6 := by omega
    rw [hG.1] at hin
    obtain ⟨_, m⟩ := m.resolve_right (fun z => z.1.1 hin)
    have U := C.1
    rw [k0] at U
    have u0 : rf_of f p 0 = (x p.toNatClampNeg).1 0 := U.1.1
    have u39 : rf_of f p 39 = (x p.toNatClampNeg).1 39 := U.1.2.2.1
    obtain ⟨f1a, f1b⟩ := fl_fr hfr
    rcases c1 with ⟨c1, c1b⟩ | ⟨c1, c6, c7, c8⟩
    · have key : (¬ rf_of f p 39 = 0 ∧ ∃ (r2 : Int32) (g : Nat → Int32), q_X11_leavesQueue f p r2 g ∧ ∃ (g2 : Nat → Int32) (t : Nat → Int64), q_X11_startsOn g su p r2 g2 t ∧ (re = r2 ∧ th = 0 ∧ f1 = g2 ∧ su1 = t)) ∨ (rf_of f p 39 = 0 ∧ (re = -1 ∧ th = 0 ∧ f1 = f ∧ su1 = su)) := by
        rcases m with ⟨m1, ⟨m2, _⟩ | ⟨_, m2⟩⟩ | ⟨_, m2⟩
        · rw [u0] at m1 m2
          rcases f1a c1 with z | z
          · exact absurd z m1
          · exact absurd z m2
        · exact m2
        · exact m2
      rcases c1b with ⟨w0, r2, wa, qu, htk, st, pg, sp, ls, bi, bo, he, sb, tb, lo, lz, fl, hbg, Wn, hW, u, hu, e1, e2, e3⟩ | ⟨w0, e1, e2, e3⟩
      · obtain ⟨_, r3, g, hlq, g2, t, hso, m3, m4, m5, m6⟩ := key.resolve_right (fun z => w0 (u39.symm.trans z.1))
        have w1 : 1 ≤ ((x p.toNatClampNeg).1 39).toInt ∧ ((x p.toNatClampNeg).1 39).toInt ≤ 4 := by
          have := fl_i0 w0
          have := N.2.2.2.2
          omega
        obtain ⟨l1, l2, l3, l4, l5, l6, l7, l8, l9⟩ := fl_ql hp5 w1 u39 U.2.2.1 hlq htk
        rw [l1] at hso
        rw [l2] at hbg
        have U4 : fl_U g su p ((x p.toNatClampNeg).1 0) ((x p.toNatClampNeg).1 1) ((x p.toNatClampNeg).1 2) ((x p.toNatClampNeg).1 3) wa ((x p.toNatClampNeg).1 21) ((x p.toNatClampNeg).2.1 4) ((x p.toNatClampNeg).2.1 5) ((x p.toNatClampNeg).2.1 6) ((x p.toNatClampNeg).2.1 0) ((x p.toNatClampNeg).2.1 1) ((x p.toNatClampNeg).2.2 0) qu := by
          obtain ⟨⟨v0, v1, v39, v21⟩, vt, vq, vs, va, vn⟩ := U
          refine ⟨⟨by rw [l7 0 (by omega)]; exact v0, by rw [l7 1 (by omega)]; exact v1, l4, by rw [l7 21 (by omega)]; exact v21⟩, fun j hj => ?_, l5, vs, fun z => ⟨by rw [l7 2 (by omega)]; exact (va z).1, by rw [l7 3 (by omega)]; exact (va z).2.1, (va z).2.2⟩, fun z => ⟨by rw [l7 2 (by omega)]; exact (vn z).1, by rw [l7 3 (by omega)]; exact (vn z).2⟩⟩
          rw [l7 (24 + j) (by omega)]; exact vt j hj
        obtain ⟨d1, d2, d3, d4, d5, d6, d7, d8, d9, d10⟩ := fl_bg hp5 (by omega) U4 hso hbg
        obtain ⟨q1, q2⟩ := A.2.1 0 (by omega)
        obtain ⟨n, n1, n12, pgo, _⟩ := fl_pgo (P := ((x p.toNatClampNeg).2.2 1 0).toInt.toNat) Z.1 Z.2.1 (by rw [h10]; omega)
        have kk : ∀ J : Nat, (4 ≤ J ∧ J ≤ 20) ∨ (36 ≤ J ∧ J < 39) ∨ (44 ≤ J ∧ J < 54) → rf_of g2 p J = rf_of f p J := fun J hJ => (d2 J (by unfold fl_st; omega)).trans (l7 J (by omega))
        have C1 : fl_C g2 t p.toNatClampNeg u := by
          subst hu
          exact fl_un k0 C d1 kk d5 rfl rfl rfl rfl rfl rfl rfl rfl rfl rfl rfl (fun J hJ => (if_neg (by unfold fl_e at hJ; omega)).trans ((if_neg (by unfold fl_e at hJ; omega)).trans ((if_neg (by unfold fl_e at hJ; omega)).trans ((if_neg (by unfold fl_e at hJ; omega)).trans ((if_neg (by unfold fl_e at hJ; omega)).trans (if_neg (by unfold fl_e at hJ; omega))))))) (fun j hj => (if_neg (by omega)).trans ((if_neg (by omega)).trans (if_neg (by omega)))) rfl
        have N1 : fl_nu u := by
          subst hu
          refine ⟨N.1, N.2.1, N.2.2.1, Or.inl d9, ?_⟩
          show 0 ≤ wa.toInt ∧ wa.toInt ≤ 4
          omega
        have A1 : fl_PA W u := by
          subst hu
          have z0 : (0 : Int32).toInt = 0 := by decide
          refine ⟨fun _ => ⟨((x p.toNatClampNeg).2.2 1 0).toInt.toNat, n, 0, ?_, by omega, pgo.1, n12, ?_, by omega, fun j hj => absurd hj (Nat.not_lt_zero j), fun h4 => ?_⟩, fun j hj => ?_, Or.inr ⟨((x p.toNatClampNeg).2.2 1 0).toInt.toNat, n, ?_, by omega, pgo.1, n12, fun j _ h2 => d10 j h2⟩⟩
          · show pg.toInt = _
            rw [d7]; omega
          · show sp.toInt = _
            rw [d8]; exact z0
          · have := pgo.2.2.2.2 0 (by omega) h4
            omega
          · have hj2 : (j : Int) < wa.toInt := hj
            show 0 ≤ (qu j).toInt ∧ (qu j).toInt < _
            rw [l6 j hj2]
            exact A.2.1 (j + 1) (by omega)
          · show pg.toInt = _
            rw [d7]; omega
        have dC : sd_C (x p.toNatClampNeg) u := by
          subst hu
          exact sd_Csr (sd_Csr (sd_Csl (sd_Csi (sd_Csl (sd_Csl (sd_Csi (sd_Csi (sd_Csi (sd_Csi (sd_Csi sd_Cr (by decide)) (by decide)) (by decide)) (by decide)) (by decide)))) (by decide))) (by decide)) (by decide)
        have dW : sd_W W Wn := by
          subst hW
          exact sd_Wwr (sd_Wsi (sd_Wsi sd_Wr (by decide)) (by decide)) (by decide)
        have R1 : fl_R True g2 Wn := by
          subst hW
          exact fl_Rw Z.2.2.2.1 (fl_rect l9 d4) rfl rfl rfl
        obtain ⟨Z1, _⟩ := fl_Zc Z k1 (by rw [k0]; exact fl_outt l8 d3) (by rw [k0]; exact d5.1) (fun J h1 h2 => by rw [k0]; exact kk J (Or.inl (by omega))) dW dC (by subst hW; rfl) R1 C1 N1 A1
        rw [c3, c4, e2, e3, m5, m6]
        exact ⟨Z1, Or.inr ⟨c2, by rw [m4, c2], by rw [c5, fl_ovl, e1, d7, m3, l1]⟩⟩
      · obtain ⟨_, m3, m4, m5, m6⟩ := key.resolve_left (fun z => z.1 (u39.trans w0))
        rw [c3, c4, e2, e3, m5, m6, fl_Wid]
        exact ⟨Z, Or.inr ⟨c2, by rw [m4, c2], by rw [c5, fl_ovl, e1, m3]⟩⟩
    · have n0 := f1b c1
      rw [← u0] at n0
      obtain ⟨_, m2⟩ := m.resolve_right (fun z => n0.1 z.1)
      obtain ⟨_, m3, m4, m5, m6⟩ := m2.resolve_right (fun z => n0.2 z.1)
      rw [c3, c4, c7, c8, m5, m6, fl_Wid]
      exact ⟨Z, Or.inr ⟨c2, by rw [m4, c2], by rw [c5, fl_ovl, c6, m3]⟩⟩
  · have hin := fl_nin hc
    rw [← Z.1.1.2.2.1, hG.1] at hin
    obtain ⟨_, m2, m3, m4, m5⟩ := m.resolve_left (fun z => hin z.1.1)
    rw [c3, c4, m4, m5]
    exact ⟨Z, Or.inl ⟨by rw [c2]; decide, by rw [m3, c2]⟩⟩
theorem zl_replace {f f1 G : Nat → Int32} {su su1 : Nat → Int64} {p p2 r th re : Int32} {o o1 : Nat → Int64} {W V : fw_W} {x y : Nat → fw_C} (Z : fl_Z True f su W x) (hG : f 9 = G 9 ∧ f 10 = G 10) (c : t_L_replace p p2 o W x r V y o1) (m : q_X11_replace f G su p p2 re th f1 su1) : fl_Z True f1 su1 V y ∧ cp_R r th re o1 := by
  obtain ⟨_, _, m⟩ := m
  rcases c with ⟨hc, c⟩ | ⟨hc, c2, c3, c4, c5⟩
  · have hin := fl_in hc
    rw [← Z.1.1.2.2.1] at hin
    obtain ⟨k0, k1, ⟨C, N, A⟩, h9, h10, b9, b10⟩ := fl_ch Z hin
    have hp5 : 0 ≤ p.toInt ∧ p.toInt < 6 := by omega
    rw [hG.1] at hin
    obtain ⟨_, m⟩ := m.resolve_right (fun z => z.1.1 hin)
    have U := C.1
    rw [k0] at U
    have u0 : rf_of f p 0 = (x p.toNatClampNeg).1 0 := U.1.1
    have u12 : rf_of f p 12 = (x p.toNatClampNeg).1 12 := by have h := C.2.1 12 (by unfold fl_e; omega); rw [k0] at h; exact h
    have u6 : rf_of f p 6 = (x p.toNatClampNeg).1 6 := by have h := C.2.1 6 (by unfold fl_e; omega); rw [k0] at h; exact h
    rw [u12] at m
    have ekn : (Int32.ofNat p.toNatClampNeg).toInt.toNat = p.toNatClampNeg := by rw [k0]; rfl
    have pe : p.toInt.toNat = p.toNatClampNeg := rfl
    rcases c with ⟨_, rc, V1, q, ⟨hr, c1⟩, c2, c3, c4, c5⟩ | ⟨c1, c2, c3, c4, c5⟩
    · obtain ⟨_, _, _, _, m⟩ := m.resolve_right (fun z => lw_rg hr z.1)
      rcases c1 with ⟨c1, e1, e2, e3⟩ | ⟨c1, ⟨c1b, sta, prg, stp, las, wai, bin, bou, hel, sbo, chg, lft, cap, thr, pz, tmp, het, cun, vol, cin, cou, ein, eou, res, mca, mre, trr, wfo, wct, fbd, ftb, hin2, lo, lz, fl, _, Wn, hW, u, hu, e1, e2, e3⟩ | ⟨c1b, e1, e2, e3⟩⟩
      · obtain ⟨_, m3, m4, m5, m6⟩ := m.resolve_left (fun z => z.1 (u0.trans c1))
        rw [c3, c4, e2, e3, m5, m6, fl_Wid]
        exact ⟨Z, Or.inr ⟨c2, by rw [m4, c2], by rw [c5, fl_ovl, e1, m3]⟩⟩
      · obtain ⟨_, m⟩ := m.resolve_right (fun z => c1 (u0.symm.trans z.1))
        obtain ⟨_, g, ⟨_, hg⟩, yy, t, ⟨y0, hz⟩, y7, g2, hk, m3, m4, m5, m6⟩ := m.resolve_right (fun z => c1b (u0.symm.trans z.1))
        have ey : yy.toInt.toNat = 7 := by
          rw [Int32.le_iff_toInt_le] at y7
          have s7 : (7 : Int32).toInt = 7 := by decide
          omega
        rw [ey] at hz
        have hp4 := fl_p244 hp5
        rw [hp4] at hg
        obtain ⟨re8, mc8, mr8, tr8, wf8, wc8, fb8, ⟨fb9, hf9, f1', f2', f3', f4', f5', f6', f7'⟩, tb8, ht8, i1, i2, i3, i4, i5, i6, i7, i8, i9, i10, i11, i12, i13, i14, i15, i16, i17, i18, i19, i20, i21, i22, i23, i24, i25, i26, i27, i28, i29, i30⟩ := hin2
        have b2 := fl_rb hr
        rw [show (0 : Int32).toInt = 0 from by decide] at b2
        have n12 : f (244 + 54 * p.toNatClampNeg + 12) = (x p.toNatClampNeg).1 12 := by have h := u12; unfold rf_of at h; rw [pe] at h; exact h
        have e5x : ∀ J : Nat, 12 ≤ J → J ≤ 15 → (x p.toNatClampNeg).1 J = f (244 + 54 * p.toNatClampNeg + J) := fun J j1 j2 => by
          have h := C.2.1 J (by unfold fl_e; omega)
          unfold rf_of at h
          rw [ekn] at h
          exact h.symm
        have row : ∀ j : Nat, j < 244 + 54 * p.toNatClampNeg ∨ 244 + 54 * p.toNatClampNeg + 54 ≤ j → rq_beg f (244 + 54 * p.toNatClampNeg) p2 j = f j := fun j hj => fl_bgo hj
        have ins := fl_ins (f := f) (g := g2) (t := t) (k := p.toNatClampNeg) (chg := p2) (amb := W.1 7) (nom := (x p.toNatClampNeg).1 12) (W := W) (u := u) (by rw [← pe]; omega) (Z.1.1.1 7 (by omega)) (fun J hJ => (hk _ (by rw [← pe]; omega) (by omega)).trans (by rw [hg])) (fun j hj => by rw [hz (7 * p.toNatClampNeg + j), if_pos (by rw [pe]; omega)]) n12
          (fun J j1 j2 => by
            subst hu
            rw [← e5x J j1 j2]
            exact (sd_Csr (sd_Csl (sd_Csl (sd_Csl (sd_Csl (sd_Csr (fl_Ci sd_Cr) (by decide)))))) (by decide) : sd_C (x p.toNatClampNeg) _).1 J (by omega) j2)
          (fun J hJ => by
            subst hu
            rcases fl_Jx hJ with z | z | z | z | z | z | z | z | z | z | z | z | z | z | z | z | z | z | z | z <;> subst z <;> first | exact i1 | exact i2 | exact i4 | exact i5 | exact i8 | exact i10 | exact i11 | exact i12 | exact i13 | exact i14 | exact i15 | exact i16 | exact i17 | exact i18 | exact i23.trans f1' | exact i24.trans f2' | exact i25.trans f3' | exact i26.trans f4' | exact i27.trans f5' | exact i28.trans f6')
          (fun j hj => by
            subst hu
            rcases (by omega : j = 0 ∨ j = 1 ∨ j = 2 ∨ j = 3 ∨ j = 4 ∨ j = 5 ∨ j = 6) with z | z | z | z | z | z | z <;> subst z <;> first | exact i19 | exact i20 | exact i21 | exact i22 | exact i6 | exact i7 | exact i9)
          (fun j hj => by subst hu; show ftb j = 0; rw [i30, ht8 j, if_pos hj]) (fun j hj => by subst hu; show fbd j = 0; rw [i29, f7', hf9 j, if_pos hj]) (by subst hu; exact N.1) ⟨by omega, b2.2⟩
        obtain ⟨C1, N1, A1⟩ := ins
        have dC : sd_C (x p.toNatClampNeg) u := by
          subst hu
          exact sd_Csr (sd_Csl (sd_Csl (sd_Csl (sd_Csl (sd_Csr (fl_Ci sd_Cr) (by decide)))))) (by decide)
        have dW : sd_W W Wn := by
          subst hW
          exact sd_Wwr (sd_Wsi (sd_Wsi sd_Wr (by decide)) (by decide)) (by decide)
        have og : fl_out (Int32.ofNat p.toNatClampNeg) f g2 := fun j j1 j2 j3 j4 => (hk j (by omega) j3).trans (by rw [hg]; exact row j (by rw [ekn] at j4; exact j4))
        have rg : fl_rec f g2 := fun j hj => (hk j (by omega) (by omega)).trans (by rw [hg]; exact row j (by rw [← pe]; omega))
        have R1 : fl_R True g2 Wn := by
          subst hW
          exact fl_Rw Z.2.2.2.1 rg rfl rfl rfl
        obtain ⟨Z1, _⟩ := fl_Zc Z k1 og (fun j hj => by rw [hz j, if_neg (by rw [ekn] at hj; rw [pe]; omega)]) (fun J h1 h2 => by
          by_cases z : J = 11
          · subst z
            unfold rf_of
            rw [ekn, hk _ (by rw [← pe]; omega) (by omega), hg, fl_bgn (by omega), if_neg (by omega), if_neg (by omega), if_neg (by omega), if_neg (by omega), if_neg (by omega), if_neg (by omega), if_neg (by omega), if_neg (by omega), if_neg (by omega)]
          · rw [C1.2.1 J (by unfold fl_e; omega), C.2.1 J (by unfold fl_e; omega)]
            exact dC.1 J h1 h2) dW dC (by subst hW; rfl) R1 C1 N1 A1
        rw [c3, c4, e2, e3, m5, m6]
        exact ⟨Z1, Or.inr ⟨c2, by rw [m4, c2], by rw [c5, fl_ovl, e1, m3, u6]⟩⟩
      · obtain ⟨_, m⟩ := m.resolve_right (fun z => c1 (u0.symm.trans z.1))
        obtain ⟨_, m3, m4, m5, m6⟩ := m.resolve_left (fun z => z.1 (u0.trans c1b))
        rw [c3, c4, e2, e3, m5, m6, fl_Wid]
        exact ⟨Z, Or.inr ⟨c2, by rw [m4, c2], by rw [c5, fl_ovl, e1, m3]⟩⟩
    · obtain ⟨_, _, _, _, _, m3, m4, m5⟩ := m.resolve_left (fun z => lw_rn2 c1 z.1)
      rw [c3, c4, m4, m5]
      exact ⟨Z, Or.inl ⟨by rw [c2]; decide, by rw [m3, c2]⟩⟩
  · have hin := fl_nin hc
    rw [← Z.1.1.2.2.1, hG.1] at hin
    obtain ⟨_, m2, m3, m4, m5⟩ := m.resolve_left (fun z => hin z.1.1)
    rw [c3, c4, m4, m5]
    exact ⟨Z, Or.inl ⟨by rw [c2]; decide, by rw [m3, c2]⟩⟩
theorem zl_setAmbient {f f1 : Nat → Int32} {su : Nat → Int64} {p r th re : Int32} {o o1 : Nat → Int64} {W V : fw_W} {x : Nat → fw_C} (Z : fl_Z True f su W x) (c : t_L_setAmbient p o W r V o1) (m : q_X11_setAmbient f p re th f1) : fl_Z True f1 su V x ∧ cp_R r th re o1 := by
  rcases c with ⟨_, rc, vc, ⟨c1, d, hd, c2, c3⟩, c4, c5, c6⟩ | ⟨c1, c2, c3, c4⟩
  · rcases m with ⟨m1, _, _, _, g, hg, m2, m3, m4⟩ | ⟨m1, _⟩
    · subst hd c3 c5 hg m4
      have b2 := fl_rb c1
      rw [show (7 : Int32).toNatClampNeg = 7 from by decide]
      refine ⟨fl_Zs Z (by rw [show (0 : Int32).toInt = 0 from by decide] at b2; omega), Or.inr ⟨c4, by rw [m3, c4], ?_⟩⟩
      rw [c6, m2, c2, fl_ovl]
      exact congrArg Int32.toInt64 (Z.1.1.1 7 (by omega)).symm
    · exact absurd (lw_rg c1 m1) (fun z => z)
  · rcases m with ⟨m1, _⟩ | ⟨m1, _, _, _, m2, m3, m4⟩
    · exact absurd (lw_rn2 c1 m1) (fun z => z)
    · subst c3 m4
      exact ⟨Z, Or.inl ⟨by rw [c2]; decide, by rw [m3, c2]⟩⟩
theorem zl_setDerate {f f1 : Nat → Int32} {su : Nat → Int64} {p r th re : Int32} {o o1 : Nat → Int64} {W V : fw_W} {x : Nat → fw_C} (Z : fl_Z True f su W x) (c : t_L_setDerate p o W r V o1) (m : q_X11_setDerate f p re th f1) : fl_Z True f1 su V x ∧ cp_R r th re o1 := by
  rcases c with ⟨_, rc, vc, ⟨c1, d, hd, c2, c3⟩, c4, c5, c6⟩ | ⟨c1, c2, c3, c4⟩
  · rcases m with ⟨m1, _, _, _, g, hg, m2, m3, m4⟩ | ⟨m1, _⟩
    · subst hd c3 c5 hg m4
      have b2 := fl_rb c1
      rw [show (16 : Int32).toNatClampNeg = 16 from by decide]
      refine ⟨fl_Zs Z (by rw [show (0 : Int32).toInt = 0 from by decide, show (200 : Int32).toInt = 200 from by decide] at b2; omega), Or.inr ⟨c4, by rw [m3, c4], ?_⟩⟩
      rw [c6, m2, c2, fl_ovl]
      exact congrArg Int32.toInt64 (Z.1.1.2.1 16 (by omega) (by omega)).symm
    · exact absurd (lw_rg c1 m1) (fun z => z)
  · rcases m with ⟨m1, _⟩ | ⟨m1, _, _, _, m2, m3, m4⟩
    · exact absurd (lw_rn2 c1 m1) (fun z => z)
    · subst c3 m4
      exact ⟨Z, Or.inl ⟨by rw [c2]; decide, by rw [m3, c2]⟩⟩
/-- how many channels' voltages lie outside -/
theorem fl_so2 {a lo hi : Int32} : (cm_rng a.toInt64 lo.toInt64 hi.toInt64 = 0) ↔ (a < lo ∨ hi < a) := by
  constructor
  · intro h
    by_cases q : a < lo
    · exact Or.inl q
    · by_cases w : hi < a
      · exact Or.inr w
      · exact absurd h (fun z => rf_rngn (v := a) (L := lo.toInt) (U := hi.toInt) (Jvm.Kit.i64_of_i32 _) (Jvm.Kit.i64_of_i32 _) z (by
          rw [Int32.lt_iff_toInt_lt] at q w
          omega))
  · intro h
    by_cases z : cm_rng a.toInt64 lo.toInt64 hi.toInt64 = 0
    · exact z
    · have r := rf_rng z
      rw [Jvm.Kit.i64_of_i32, Jvm.Kit.i64_of_i32, Jvm.Kit.i64_of_i32] at r
      rcases h with h | h
      · rw [Int32.lt_iff_toInt_lt] at h; omega
      · rw [Int32.lt_iff_toInt_lt] at h; omega
theorem fl_so3 {tt : Prop} {f : Nat → Int32} {su : Nat → Int64} {W : fw_W} {x : Nat → fw_C} {lo hi : Int32} (Z : fl_Z tt f su W x) : ∀ n : Nat, (n : Int) ≤ (f 9).toInt → q_so f lo hi n = fw_so x lo hi n
  | 0, _ => rfl
  | n + 1, h => by
    obtain ⟨C, _, _⟩ := Z.2.2.2.2 n (by omega)
    have u0 : rf_of f (Int32.ofNat n) 0 = (x n).1 0 := C.1.1.1
    have u5 : rf_of f (Int32.ofNat n) 5 = (x n).1 5 := C.2.1 5 (by unfold fl_e; omega)
    have I := fl_so3 (lo := lo) (hi := hi) Z n (by omega)
    unfold q_so fw_so
    rw [I]
    by_cases q : (x n).1 0 = 1 ∧ ((x n).1 5 < lo ∨ ¬ (x n).1 5 ≤ hi)
    · rw [if_pos q, if_pos]
      · rfl
      · rw [u0, u5]
        refine ⟨q.1, fl_so2.mpr (q.2.imp (fun z => z) (fun z => ?_))⟩
        rw [Int32.le_iff_toInt_le] at z
        rw [Int32.lt_iff_toInt_lt]
        omega
    · rw [if_neg q, if_neg]
      · exact Int32.add_zero _
      · rw [u0, u5]
        refine fun z => q ⟨z.1, (fl_so2.mp z.2).imp (fun z => z) (fun z => ?_)⟩
        rw [Int32.lt_iff_toInt_lt] at z
        rw [Int32.le_iff_toInt_le]
        omega
theorem zl_setLimits {f f1 G : Nat → Int32} {su : Nat → Int64} {p p2 r th re : Int32} {o o1 : Nat → Int64} {W V : fw_W} {x : Nat → fw_C} (Z : fl_Z True f su W x) (hG : f 9 = G 9 ∧ f 10 = G 10) (c : t_L_setLimits p p2 o W x r V o1) (m : q_X11_setLimits f G p p2 re th f1) : fl_Z True f1 su V x ∧ cp_R r th re o1 := by
  have b9 := Z.1.2.1
  unfold sd_bds at b9
  rcases c with ⟨_, rc, vc, ⟨c1, c2, W3, hW, y1, y2, ⟨⟨b1, b2⟩, b3⟩, b4, b5, b6⟩, c4, c5, c6⟩ | ⟨c1, c2, c3, c4⟩
  · obtain ⟨_, m⟩ := m.resolve_left (fun z => lw_rg c1 z.1)
    obtain ⟨_, _, _, _, g, hg, g2, hg2, i1, i2, ⟨⟨d1, d2⟩, d3⟩, d4, d5, d6, d7⟩ := m.resolve_right (fun z => lw_rg c2 z.1)
    rw [show (4 : Int32).toNatClampNeg = 4 from by decide] at hg
    rw [show (5 : Int32).toNatClampNeg = 5 from by decide] at hg2
    have Z3 : fl_Z True g2 su W3 x := by
      rw [hW, ← hg2, ← hg]
      exact fl_Zs (fl_Zs Z (Or.inl rfl)) (Or.inr (Or.inl rfl))
    have e9 : g2 9 = f 9 := by rw [← hg2, ← hg, rf_upd_ne (by omega), rf_upd_ne (by omega)]
    have w9 : W3.1 9 = f 9 := Z3.1.1.2.2.1.symm.trans e9
    rw [Int32.le_iff_toInt_le, w9] at b4
    rw [w9] at b2
    rw [Int32.le_iff_toInt_le, e9] at d4
    rw [← hG.1] at d2
    have n1 : y2.toInt.toNat = (f 9).toInt.toNat := by omega
    have n2 : i2.toInt.toNat = (f 9).toInt.toNat := by omega
    rw [d7, c5, b6]
    refine ⟨Z3, Or.inr ⟨c4, by rw [d6, c4], ?_⟩⟩
    rw [c6, fl_ovl, b5, b3, d5, d3, n1, n2, fl_so3 Z3 _ (by rw [e9]; omega)]
  · rcases m with ⟨_, _, _, _, m2, m3, m4⟩ | ⟨m0, m⟩
    · rw [c3, m4]
      exact ⟨Z, Or.inl ⟨by rw [c2]; decide, by rw [m3, c2]⟩⟩
    · rcases m with ⟨m1, _⟩ | ⟨_, _, _, _, m2, m3, m4⟩
      · rcases c1 with c1 | c1
        · exact absurd (lw_rn2 c1 m0) (fun z => z)
        · exact absurd (lw_rn2 c1 m1) (fun z => z)
      · rw [c3, m4]
        exact ⟨Z, Or.inl ⟨by rw [c2]; decide, by rw [m3, c2]⟩⟩
