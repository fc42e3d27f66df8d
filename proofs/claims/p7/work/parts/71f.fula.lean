theorem lw_rg {p lo hi : Int32} (h : t_needRange p lo hi) (z : cm_rng p.toInt64 lo.toInt64 hi.toInt64 = 0) : False := by
  have r := rf_rngn (v := p) (L := lo.toInt) (U := hi.toInt) (Jvm.Kit.i64_of_i32 _) (Jvm.Kit.i64_of_i32 _) z
  obtain ⟨h1, h2, _⟩ := h
  rw [Int32.lt_iff_toInt_lt] at h1
  rw [Int32.le_iff_toInt_le] at h2
  exact r (by omega)
theorem lw_rn2 {p lo hi : Int32} (h : p < lo ∨ ¬ p ≤ hi) (z : ¬ cm_rng p.toInt64 lo.toInt64 hi.toInt64 = 0) : False := by
  have r := rf_rng z
  rw [Jvm.Kit.i64_of_i32, Jvm.Kit.i64_of_i32, Jvm.Kit.i64_of_i32] at r
  rcases h with h | h
  · rw [Int32.lt_iff_toInt_lt] at h; omega
  · rw [Int32.le_iff_toInt_le] at h; omega
def cp_R (r th re : Int32) (o1 : Nat → Int64) : Prop := (¬ r = 0 ∧ th = r) ∨ (r = 0 ∧ th = r ∧ o1 (0 : Int32).toNatClampNeg = re.toInt64)
/-! the calls, on both sides -/
theorem fl_pk {p : Int32} (h : 0 ≤ p.toInt) (h2 : p.toInt < 6) : Int32.ofNat p.toNatClampNeg = p := by
  refine Int32.toInt_inj.mp ?_
  have e : p.toNatClampNeg = p.toInt.toNat := rfl
  rw [e, fl_on (by omega)]
  omega
theorem fl_in {p n : Int32} (h : ¬ p < 0 ∧ p < n) : 0 ≤ p.toInt ∧ p.toInt < n.toInt := by
  obtain ⟨a, b⟩ := h
  rw [Int32.lt_iff_toInt_lt, show (0 : Int32).toInt = 0 from by decide] at a
  rw [Int32.lt_iff_toInt_lt] at b
  omega
theorem fl_nin {p n : Int32} (h : ¬ (¬ p < 0 ∧ p < n)) : ¬ (0 ≤ p.toInt ∧ p.toInt < n.toInt) := fun q => h (by
  rw [Int32.lt_iff_toInt_lt, Int32.lt_iff_toInt_lt, show (0 : Int32).toInt = 0 from by decide]
  omega)
theorem fl_ovl {o : Nat → Int64} {v : Int64} : vp_updL o (0 : Int32).toNatClampNeg v (0 : Int32).toNatClampNeg = v := rp_ov
/-- what is compared where longs are answered -/
def cp_L (r th : Int32) (re : Int64) (o1 : Nat → Int64) : Prop := (¬ r = 0 ∧ th = r) ∨ (r = 0 ∧ th = r ∧ o1 (0 : Int32).toNatClampNeg = re)
section FLC
variable {f f1 G : Nat → Int32} {su su1 : Nat → Int64} {p p2 r th re : Int32} {o o1 : Nat → Int64} {W V : fw_W} {x y : Nat → fw_C}
/-- a channel of both sides -/
theorem fl_ch (Z : fl_Z True f su W x) (h : 0 ≤ p.toInt ∧ p.toInt < (f 9).toInt) : Int32.ofNat p.toNatClampNeg = p ∧ ((p.toNatClampNeg : Nat) : Int) < (f 9).toInt ∧ (fl_C f su p.toNatClampNeg (x p.toNatClampNeg) ∧ fl_nu (x p.toNatClampNeg) ∧ fl_PA W (x p.toNatClampNeg)) ∧ f 9 = W.1 9 ∧ f 10 = W.1 10 ∧ (f 9).toInt ≤ 6 ∧ (f 10).toInt ≤ 4 := by
  have b := Z.1.2.1
  unfold sd_bds at b
  have e : p.toNatClampNeg = p.toInt.toNat := rfl
  refine ⟨fl_pk h.1 (by omega), by omega, Z.2.2.2.2 _ (by omega), Z.1.1.2.2.1, Z.1.1.2.2.2.1, by omega, by omega⟩
theorem fl_un {u : fw_C} {k : Nat} {sta prg stp las wai hel : Int32} {bin bou sbo : Int64} {ftb fqu : Nat → Int32} {q : fw_C} {c : Int32} (ec : Int32.ofNat k = c) (C : fl_C f su k q)
    (U : fl_U f1 su1 c sta prg stp las wai hel bin bou sbo (q.2.1 0) (q.2.1 1) ftb fqu) (jj : ∀ J : Nat, (4 ≤ J ∧ J ≤ 20) ∨ (36 ≤ J ∧ J < 39) ∨ (44 ≤ J ∧ J < 54) → rf_of f1 c J = rf_of f c J) (s : fl_su c su su1)
    (v0 : u.1 0 = sta) (v1 : u.1 1 = prg) (v2 : u.1 2 = stp) (v3 : u.1 3 = las) (v39 : u.1 39 = wai) (v21 : u.1 21 = hel) (w4 : u.2.1 4 = bin) (w5 : u.2.1 5 = bou) (w6 : u.2.1 6 = sbo) (t0 : u.2.2 0 = ftb) (t1 : u.2.2 1 = fqu) (kk : ∀ J : Nat, fl_e J → u.1 J = q.1 J) (w : ∀ j : Nat, j < 4 → u.2.1 j = q.2.1 j) (t3 : u.2.2 3 = q.2.2 3) : fl_C f1 su1 k u := by
  obtain ⟨_, e, c2, c3, cb⟩ := C
  subst ec
  refine ⟨?_, fun J hJ => ?_, ?_, ?_, fun j hj => ?_⟩
  · rw [v0, v1, v2, v3, v39, v21, w4, w5, w6, t0, t1, w 0 (by omega), w 1 (by omega)]
    exact U
  · rw [kk J hJ]
    exact (jj J (by unfold fl_e at hJ; omega)).trans (e J hJ)
  · rw [w 2 (by omega)]
    exact (s.2 2 (by omega)).trans c2
  · rw [w 3 (by omega)]
    exact (s.2 3 (by omega)).trans c3
  · rw [t3]
    exact (jj _ (by omega)).trans (cb j hj)
end FLC
theorem fl_Wid {x : Nat → fw_C} {k : Nat} : fw_sx x k (x k) = x := by
  funext j
  unfold fw_sx
  by_cases h : j = k
  · rw [if_pos h, h]
  · rw [if_neg h]
theorem fl_p4 {b b1 : Nat → Int32} {i v : Int32} {K : Nat} (hi : i.toInt = K) (hK : K < 4) (h : a_X10_put_4 b i v b1) : b1 = upd b K v := by
  have t : (4 : Int32).toInt = 4 := by decide
  have z : (0 : Int32).toInt = 0 := by decide
  rcases h with ⟨n, _⟩ | ⟨_, ⟨n, _⟩ | ⟨_, h⟩⟩
  · rw [Int32.lt_iff_toInt_lt, z] at n; omega
  · rw [Int32.le_iff_toInt_le, t] at n; omega
  · rw [h, show i.toNatClampNeg = K from by show i.toInt.toNat = K; omega]
theorem fl_np {p : Int32} {W : fw_W} (h : t_needProgram p W) : 0 ≤ p.toInt ∧ p.toInt < (W.1 10).toInt := fl_in ⟨h.1, h.2.1⟩
theorem fl_nnp {p n : Int32} (h : p < 0 ∨ n ≤ p) : ¬ (0 ≤ p.toInt ∧ p.toInt < n.toInt) := by
  rcases h with h | h
  · rw [Int32.lt_iff_toInt_lt, show (0 : Int32).toInt = 0 from by decide] at h
    omega
  · rw [Int32.le_iff_toInt_le] at h
    omega
theorem fl_Ci {c d : fw_C} {v0 : Int32} {v1 : Int32} {v2 : Int32} {v3 : Int32} {v4 : Int32} {v5 : Int64} {v6 : Int64} {v7 : Int32} {v8 : Int64} {v9 : Int32} {v10 : Int32} {v11 : Int32} {v12 : Int32} {v13 : Int32} {v14 : Int32} {v15 : Int32} {v16 : Int32} {v17 : Int32} {v18 : Int32} {v19 : Int32} {v20 : Int32} {v21 : Int32} {v22 : Int32} {v23 : Int32} (h : sd_C c d) : sd_C c (fw_si (fw_si (fw_si (fw_si (fw_si (fw_si (fw_si (fw_si (fw_si (fw_si (fw_si (fw_si (fw_si (fw_si (fw_si (fw_sl (fw_si (fw_sl (fw_sl (fw_si (fw_si (fw_si (fw_si (fw_si d 0 v0) 1 v1) 2 v2) 3 v3) 39 v4) 4 v5) 5 v6) 21 v7) 6 v8) 6 v9) 16 v10) 7 v11) 18 v12) 8 v13) 9 v14) 17 v15) 4 v16) 5 v17) 19 v18) 20 v19) 38 v20) 10 v21) 37 v22) 36 v23) := (sd_Csi (sd_Csi (sd_Csi (sd_Csi (sd_Csi (sd_Csi (sd_Csi (sd_Csi (sd_Csi (sd_Csi (sd_Csi (sd_Csi (sd_Csi (sd_Csi (sd_Csi (sd_Csl (sd_Csi (sd_Csl (sd_Csl (sd_Csi (sd_Csi (sd_Csi (sd_Csi (sd_Csi h (by decide)) (by decide)) (by decide)) (by decide)) (by decide)))) (by decide))) (by decide)) (by decide)) (by decide)) (by decide)) (by decide)) (by decide)) (by decide)) (by decide)) (by decide)) (by decide)) (by decide)) (by decide)) (by decide)) (by decide)) (by decide))
theorem fl_rb {p a b : Int32} (h : t_needRange p a b) : a.toInt ≤ p.toInt ∧ p.toInt ≤ b.toInt := by
  obtain ⟨h1, h2, _⟩ := h
  rw [Int32.lt_iff_toInt_lt] at h1
  rw [Int32.le_iff_toInt_le] at h2
  omega
theorem fl_bgo {f : Nat → Int32} {P j : Nat} {q : Int32} (h : j < P ∨ P + 54 ≤ j) : rq_beg f P q j = f j := by
  unfold rq_beg
  rw [rf_upd_ne (by omega), rf_upd_ne (by omega), rf_upd_ne (by omega), rf_upd_ne (by omega), rf_upd_ne (by omega), rf_upd_ne (by omega), rf_upd_ne (by omega), rf_upd_ne (by omega)]
  unfold rf_bz
  rw [if_neg (by omega)]
theorem fl_Jx {J : Nat} (h : J ≤ 1 ∨ J = 3 ∨ (4 ≤ J ∧ J ≤ 10) ∨ (16 ≤ J ∧ J ≤ 21) ∨ (36 ≤ J ∧ J ≤ 39)) : J = 0 ∨ J = 1 ∨ J = 3 ∨ J = 4 ∨ J = 5 ∨ J = 6 ∨ J = 7 ∨ J = 8 ∨ J = 9 ∨ J = 10 ∨ J = 16 ∨ J = 17 ∨ J = 18 ∨ J = 19 ∨ J = 20 ∨ J = 21 ∨ J = 36 ∨ J = 37 ∨ J = 38 ∨ J = 39 := by omega
theorem fl_p244 {p : Int32} (h : 0 ≤ p.toInt ∧ p.toInt < 6) : (244 + (54 * p)).toInt.toNat = 244 + 54 * p.toNatClampNeg := by
  have t54 : (54 : Int32).toInt = 54 := by decide
  have t244 : (244 : Int32).toInt = 244 := by decide
  have a1 : (54 * p).toInt = 54 * p.toInt := by rw [Jvm.Kit.i32_mul (by rw [t54]; omega) (by rw [t54]; omega), t54]
  have a2 : (244 + (54 * p)).toInt = 244 + 54 * p.toInt := by rw [Jvm.Kit.i32_add (by rw [a1, t244]; omega) (by rw [a1, t244]; omega), a1, t244]
  have pe : p.toNatClampNeg = p.toInt.toNat := rfl
  rw [a2, pe]
  omega
theorem zl_pause {f f1 G : Nat → Int32} {su su1 : Nat → Int64} {p p2 r th re : Int32} {o o1 : Nat → Int64} {W V : fw_W} {x y : Nat → fw_C} (Z : fl_Z True f su W x) (hG : f 9 = G 9 ∧ f 10 = G 10) (c : t_L_pause p o W x r y o1) (m : q_X11_pause f G p re th f1) : fl_Z True f1 su W y ∧ cp_R r th re o1 := by
  obtain ⟨re1, th1, g1, ⟨_, _, m⟩, e1, e2, e3⟩ := m
  rw [e1, e2, e3]
  rcases c with ⟨hc, rc, q, c1, c2, c3, c4⟩ | ⟨hc, c2, c3, c4⟩
  · have hin := fl_in hc
    rw [← Z.1.1.2.2.1] at hin
    obtain ⟨k0, k1, ⟨C, N, A⟩, h9, h10, b9, b10⟩ := fl_ch Z hin
    rw [hG.1] at hin
    obtain ⟨_, m⟩ := m.resolve_right (fun z => z.1.1 hin)
    have u0 : rf_of f p 0 = (x p.toNatClampNeg).1 0 := by have h := C.1.1.1; rw [k0] at h; exact h
    rcases m with ⟨m1, m2, m3, m4⟩ | ⟨m1, g, m2, m3, m4, m5⟩
    · rcases c1 with ⟨c1, _⟩ | ⟨c1, c5, c6⟩
      · exact absurd (u0.trans c1) m1
      · rw [c3, c6, m4, fl_Wid]
        exact ⟨Z, Or.inr ⟨c2, by rw [m3, c2], by rw [c4, fl_ovl, c5, m2]⟩⟩
    · rcases c1 with ⟨c1, d, c5, c6, c7⟩ | ⟨c1, _⟩
      · have hac : fl_ac ((x p.toNatClampNeg).1 0) := by rw [c1]; unfold fl_ac; decide
        have U := C.1
        have hp5 : 0 ≤ p.toInt ∧ p.toInt < 6 := by rw [← hG.1] at hin; omega
        have o : fl_out (Int32.ofNat p.toNatClampNeg) f g := by rw [k0, m2]; exact fl_outu (by omega)
        have kk : ∀ J : Nat, J ≠ 0 → rf_of g (Int32.ofNat p.toNatClampNeg) J = rf_of f (Int32.ofNat p.toNatClampNeg) J := fun J hJ => by
          rw [k0, m2, fl_ofu]
          exact rf_upd_ne hJ
        have g0 : rf_of g (Int32.ofNat p.toNatClampNeg) 0 = 2 := by
          rw [k0, m2, fl_ofu]
          exact rf_upd_eq
        obtain ⟨⟨⟨_, v1, v39, v21⟩, vt, vq, vs, va, _⟩, e, d2, d3, db⟩ := C
        have C1 : fl_C g su p.toNatClampNeg (fw_si (x p.toNatClampNeg) 0 2) := ⟨⟨⟨g0, (kk 1 (by omega)).trans v1, (kk 39 (by omega)).trans v39, (kk 21 (by omega)).trans v21⟩, fun j hj => (kk _ (by omega)).trans (vt j hj), fun j hj => (kk _ (by omega)).trans (vq j hj), vs, fun _ => ⟨(kk 2 (by omega)).trans (va hac).1, (kk 3 (by omega)).trans (va hac).2.1, (va hac).2.2⟩, fun z => absurd (show fl_ac 2 by unfold fl_ac; decide) z⟩,
          fun J hJ => by rw [kk J (by unfold fl_e at hJ; omega), e J hJ]; exact (if_neg (by unfold fl_e at hJ; omega)).symm, d2, d3, fun j hj => (kk _ (by omega)).trans (db j hj)⟩
        have Z1 := (fl_Zc (qa1 := fw_si (x p.toNatClampNeg) 0 2) Z k1 o (fun _ _ => rfl) (fun J h1 _ => kk J (by omega)) sd_Wr (sd_Csi sd_Cr (Or.inl (by omega))) rfl (fl_Rw Z.2.2.2.1 (by rw [m2]; exact fl_recu hp5 (by omega)) rfl rfl rfl) C1 N ⟨fun _ => A.1 hac, A.2⟩).1
        have r2 : rf_of g p 2 = (x p.toNatClampNeg).1 2 := by have h := (kk 2 (by omega)).trans (va hac).1; rw [k0] at h; exact h
        rw [c3, c7, c5, m5]
        exact ⟨Z1, Or.inr ⟨c2, by rw [m4, c2], by rw [c4, fl_ovl, c6, m3, r2]⟩⟩
      · exact absurd (u0.symm.trans m1) c1
  · have hin := fl_nin hc
    rw [← Z.1.1.2.2.1, hG.1] at hin
    obtain ⟨_, m2, m3, m4⟩ := m.resolve_left (fun z => hin z.1.1)
    rw [c3, m4]
    exact ⟨Z, Or.inl ⟨by rw [c2]; decide, by rw [m3, c2]⟩⟩
