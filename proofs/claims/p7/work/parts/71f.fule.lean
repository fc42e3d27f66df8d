/-- a channel as it is behind its beginning -/
theorem fl_bgn {f : Nat → Int32} {P J : Nat} {q : Int32} (hJ : J < 54) : rq_beg f P q (P + J) = if J = 9 then f 7 else if J = 38 then -1 else if J = 20 then -1 else if J = 19 then -1 else if J = 7 then f (P + 12) else if J = 6 then q else if J = 2 then -1 else if J = 1 then -1 else if J < 11 ∨ 15 < J then 0 else f (P + J) := by
  unfold rq_beg
  by_cases h9 : J = 9
  · subst h9; rw [rf_upd_eq, if_pos rfl]
  rw [rf_upd_ne (by omega), if_neg h9]
  by_cases h38 : J = 38
  · subst h38; rw [rf_upd_eq, if_pos rfl]
  rw [rf_upd_ne (by omega), if_neg h38]
  by_cases h20 : J = 20
  · subst h20; rw [rf_upd_eq, if_pos rfl]
  rw [rf_upd_ne (by omega), if_neg h20]
  by_cases h19 : J = 19
  · subst h19; rw [rf_upd_eq, if_pos rfl]
  rw [rf_upd_ne (by omega), if_neg h19]
  by_cases h7 : J = 7
  · subst h7; rw [rf_upd_eq, if_pos rfl]
  rw [rf_upd_ne (by omega), if_neg h7]
  by_cases h6 : J = 6
  · subst h6; rw [rf_upd_eq, if_pos rfl]
  rw [rf_upd_ne (by omega), if_neg h6]
  by_cases h2 : J = 2
  · subst h2; rw [rf_upd_eq, if_pos rfl]
  rw [rf_upd_ne (by omega), if_neg h2]
  by_cases h1 : J = 1
  · subst h1; rw [rf_upd_eq, if_pos rfl]
  rw [rf_upd_ne (by omega), if_neg h1]
  unfold rf_bz
  by_cases h : J < 11 ∨ 15 < J
  · rw [if_pos h, if_pos (by omega)]
  · rw [if_neg h, if_neg (by omega)]
/-- a cell is put in: u is the class's channel -/
theorem fl_ins {f g : Nat → Int32} {t : Nat → Int64} {k : Nat} {chg amb nom : Int32} {W : fw_W} {u : fw_C} (hk : k < 6) (h7 : f 7 = amb) (hg : ∀ J : Nat, J < 54 → g (244 + 54 * k + J) = rq_beg f (244 + 54 * k) chg (244 + 54 * k + J)) (ht : ∀ j : Nat, j < 7 → t (7 * k + j) = 0) (n12 : f (244 + 54 * k + 12) = nom) (hm : ∀ J : Nat, 12 ≤ J → J ≤ 15 → u.1 J = f (244 + 54 * k + J))
    (v : ∀ J : Nat, (J ≤ 1 ∨ J = 3 ∨ (4 ≤ J ∧ J ≤ 10) ∨ (16 ≤ J ∧ J ≤ 21) ∨ (36 ≤ J ∧ J ≤ 39)) → u.1 J = if J = 9 then amb else if J = 38 then -1 else if J = 20 then -1 else if J = 19 then -1 else if J = 7 then nom else if J = 6 then chg else if J = 1 then -1 else 0) (w : ∀ j : Nat, j < 7 → u.2.1 j = 0) (t0 : ∀ j : Nat, j < 12 → u.2.2 0 j = 0) (t3 : ∀ j : Nat, j < 10 → u.2.2 3 j = 0)
    (hn : ((100 ≤ (u.1 12).toInt ∧ (u.1 12).toInt ≤ 100000) ∧ (1 ≤ (u.1 13).toInt ∧ (u.1 13).toInt ≤ 500) ∧ (0 ≤ (u.1 14).toInt ∧ (u.1 14).toInt ≤ 500) ∧ (1 ≤ (u.1 15).toInt ∧ (u.1 15).toInt ≤ 200))) (hq : 0 ≤ chg.toInt ∧ chg.toInt ≤ nom.toInt) : fl_C g t k u ∧ fl_nu u ∧ fl_PA W u := by
  have ekn : (Int32.ofNat k).toInt.toNat = k := by rw [fl_on (by omega)]; omega
  have z0 : (0 : Int32).toInt = 0 := by decide
  have zz : (0 : Int64) - 0 = 0 := Int64.sub_self 0
  have row : ∀ J : Nat, J < 54 → rf_of g (Int32.ofNat k) J = if J = 9 then f 7 else if J = 38 then -1 else if J = 20 then -1 else if J = 19 then -1 else if J = 7 then f (244 + 54 * k + 12) else if J = 6 then chg else if J = 2 then -1 else if J = 1 then -1 else if J < 11 ∨ 15 < J then 0 else f (244 + 54 * k + J) := fun J hJ => by
    unfold rf_of
    rw [ekn, hg J hJ, fl_bgn hJ]
  have u12 : u.1 12 = nom := (hm 12 (by omega) (by omega)).trans n12
  have v0 : u.1 0 = 0 := v 0 (by omega)
  have v1 : u.1 1 = -1 := v 1 (by omega)
  have v39 : u.1 39 = 0 := v 39 (by omega)
  have v21 : u.1 21 = 0 := v 21 (by omega)
  have na : ¬ fl_ac 0 := by unfold fl_ac; decide
  refine ⟨⟨?_, fun J hJ => ?_, ?_, ?_, fun j hj => ?_⟩, ⟨hn, ⟨?_, ?_, ?_, ?_, ?_⟩, ⟨?_, ?_⟩, Or.inl v21, ?_⟩, ?_⟩
  · rw [v0, v1, v39, v21, w 4 (by omega), w 5 (by omega), w 6 (by omega), w 0 (by omega), w 1 (by omega)]
    refine ⟨⟨?_, ?_, ?_, ?_⟩, fun j hj => ?_, fun j hj => ?_, ⟨?_, ?_, ?_, ?_⟩, fun z => absurd z na, fun _ => ⟨?_, ?_⟩⟩
    · rw [row 0 (by omega)]; rfl
    · rw [row 1 (by omega)]; rfl
    · rw [row 39 (by omega)]; rfl
    · rw [row 21 (by omega)]; rfl
    · rw [row _ (by omega), t0 j hj, if_neg (by omega), if_neg (by omega), if_neg (by omega), if_neg (by omega), if_neg (by omega), if_neg (by omega), if_neg (by omega), if_neg (by omega), if_pos (by omega)]
    · rw [z0] at hj; omega
    · rw [ekn]; exact ht 0 (by omega)
    · rw [ekn]; exact ht 1 (by omega)
    · rw [ekn, zz]; exact ht 4 (by omega)
    · rw [ekn, zz]; exact ht 5 (by omega)
    · rw [row 2 (by omega)]; rfl
    · rw [row 3 (by omega)]; rfl
  · by_cases z : 12 ≤ J ∧ J ≤ 15
    · rw [hm J z.1 z.2, row J (by omega), if_neg (by omega), if_neg (by omega), if_neg (by omega), if_neg (by omega), if_neg (by omega), if_neg (by omega), if_neg (by omega), if_neg (by omega), if_neg (by omega)]
    · have hJ2 := hJ
      unfold fl_e at hJ2
      rw [v J (by omega), row J (by omega), h7, n12, if_neg (show ¬ J = 2 by omega), if_pos (show J < 11 ∨ 15 < J by omega)]
  · rw [ekn, w 2 (by omega)]; exact ht 2 (by omega)
  · rw [ekn, w 3 (by omega)]; exact ht 3 (by omega)
  · rw [row _ (by omega), t3 j hj, if_neg (by omega), if_neg (by omega), if_neg (by omega), if_neg (by omega), if_neg (by omega), if_neg (by omega), if_neg (by omega), if_neg (by omega), if_pos (by omega)]
  · rw [show u.1 6 = chg from v 6 (by omega), u12]; omega
  · rw [show u.1 7 = nom from v 7 (by omega), u12]; omega
  · rw [show u.1 16 = 0 from v 16 (by omega), z0]; omega
  · rw [show u.1 18 = 0 from v 18 (by omega), z0]; omega
  · rw [show u.1 8 = 0 from v 8 (by omega), z0]; omega
  · rw [show u.1 4 = 0 from v 4 (by omega), z0]; omega
  · rw [show u.1 5 = 0 from v 5 (by omega), z0]; omega
  · rw [v39, z0]; omega
  · unfold fl_PA
    rw [v0, v1, v39]
    exact ⟨fun z => absurd z na, fun j hj => by rw [z0] at hj; omega, Or.inl ⟨rfl, t0⟩⟩
/-- the reference's rows are copied -/
theorem fl_Zf {tt : Prop} {f g : Nat → Int32} {su t : Nat → Int64} {W : fw_W} {x : Nat → fw_C} (Z : fl_Z tt f su W x) (a : ∀ j : Nat, j < 958 → g j = f j) (b : ∀ j : Nat, j < 42 → t j = su j) : fl_Z tt g t W x := by
  obtain ⟨s, D, e8, R, Q⟩ := Z
  have h := s.2.1
  unfold sd_bds at h
  have h10 := s.1.2.2.2.1
  refine ⟨sd_to s (sd_fq a (by omega)) sd_Wr sd_Xr, fl_Dk s (fun j hj _ _ => a j (by omega)) D, fun y => (a 8 (by omega)).trans (e8 y), ?_, fun k hk => ?_⟩
  · refine fl_Rw R (fun j hj => a j ?_) rfl rfl rfl
    omega
  · rw [a 9 (by omega)] at hk
    obtain ⟨C, N, A⟩ := Q k hk
    have ekn : (Int32.ofNat k).toInt.toNat = k := by rw [fl_on (by omega)]; omega
    exact ⟨fl_Ck (fun J hJ => a _ (by rw [ekn]; omega)) (fun j hj => b _ (by rw [ekn]; omega)) N.2.2.2.2.2 C, N, A⟩
/-- the class's channel is copied -/
def fl_Qc (c d : fw_C) : Prop := d.1 = c.1 ∧ d.2.1 = c.2.1 ∧ (∀ j : Nat, j < 12 → d.2.2 0 j = c.2.2 0 j) ∧ (∀ j : Nat, j < 4 → d.2.2 1 j = c.2.2 1 j) ∧ ∀ j : Nat, j < 10 → d.2.2 3 j = c.2.2 3 j
theorem fl_CQ {f : Nat → Int32} {su : Nat → Int64} {k : Nat} {c d : fw_C} {W : fw_W} (q : fl_Qc c d) (C : fl_C f su k c) (N : fl_nu c) (A : fl_PA W c) : fl_C f su k d ∧ fl_nu d ∧ fl_PA W d := by
  obtain ⟨q1, q2, q3, q4, q5⟩ := q
  have Nw := N.2.2.2.2
  refine ⟨?_, by unfold fl_nu; rw [q1]; exact N, ?_⟩
  · obtain ⟨⟨u0, ut, uq, us, ua, un⟩, e, c2, c3, cb⟩ := C
    unfold fl_C fl_U
    rw [q1, q2]
    exact ⟨⟨u0, fun j hj => (ut j hj).trans (q3 j hj).symm, fun j hj => (uq j hj).trans (q4 j (by omega)).symm, us, ua, un⟩, e, c2, c3, fun j hj => (cb j hj).trans (q5 j hj).symm⟩
  · obtain ⟨a1, a2, a3⟩ := A
    unfold fl_PA
    rw [q1]
    refine ⟨fun z => ?_, fun j hj => by rw [q4 j (by omega)]; exact a2 j hj, ?_⟩
    · obtain ⟨P, n, S, p1, p2, p3, p12, p4, p5, p6, p7⟩ := a1 z
      exact ⟨P, n, S, p1, p2, p3, p12, p4, p5, fun j hj h => (q3 j (by omega)).trans (p6 j hj h), p7⟩
    · rcases a3 with ⟨z, h⟩ | ⟨P, n, p1, p2, p3, p12, h⟩
      · exact Or.inl ⟨z, fun j hj => (q3 j hj).trans (h j hj)⟩
      · exact Or.inr ⟨P, n, p1, p2, p3, p12, fun j h1 h2 => (q3 j h2).trans (h j h1 h2)⟩
theorem fl_cpd {n j : Nat} {a b : Nat → Int32} (h : j < n) : cm_cpy n a b j = a j := if_pos h
theorem fl_Zy {tt : Prop} {f : Nat → Int32} {su : Nat → Int64} {W W0 V : fw_W} {x x0 y : Nat → fw_C} (Z : fl_Z tt f su W x) (h : t_copyFrom W0 W x0 x V y) : fl_Z tt f su V y := by
  obtain ⟨d1, d2⟩ := sd_copy h
  obtain ⟨s, D, e8, R, Q⟩ := Z
  have hb := s.2.1
  unfold sd_bds at hb
  have h9 := s.1.2.2.1
  have h10 := s.1.2.2.2.1
  obtain ⟨W2, hW, m, z, ⟨⟨y0, y1⟩, hc, _⟩, hy, V2, hV, e1, e2⟩ := h
  subst e1 e2 hV hW
  rw [Int32.le_iff_toInt_le] at hy
  have hy2 : (W.1 9).toInt ≤ m.toInt := hy
  refine ⟨sd_to s sd_fr d1 (d2 _ (by rw [← h9]; omega)), D, fun q => (e8 q).trans rfl, ?_, fun k hk => ?_⟩
  · obtain ⟨r1, r2, r3, r4, r5⟩ := R
    refine ⟨r1, r2, r3, r4, fun i j hi hj h3 => (r5 i j hi hj h3).trans ?_⟩
    have : ((W.1 18).toInt.toNat + i) % 30 < 30 := Nat.mod_lt _ (by omega)
    exact (fl_cpd (by show 5 * (((W.1 18).toInt.toNat + i) % 30) + j < 150; omega)).symm
  · obtain ⟨C, N, A⟩ := Q k hk
    have t := hc.1 k (by rw [← h9] at hy2; omega)
    have q : fl_Qc (x k) (y k) := by
      rw [t]
      exact ⟨rfl, rfl, fun j hj => fl_cpd hj, fun j hj => fl_cpd hj, fun j hj => fl_cpd hj⟩
    obtain ⟨C1, N1, A1⟩ := fl_CQ q C N A
    exact ⟨C1, N1, fl_PAk d1 (by rw [← h10]; omega) A1⟩
