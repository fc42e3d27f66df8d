theorem zl_setAmbient {f f1 G : Nat → Int32} {su su1 : Nat → Int64} {p p2 r th re : Int32} {o o1 : Nat → Int64} {W V : fw_W} {x y : Nat → fw_C} (Z : fl_Z True f su W x) (c : t_L_setAmbient p o W r V o1) (m : q_X11_setAmbient f p re th f1) : fl_Z True f1 su V x ∧ cp_R r th re o1 := by
  rcases c with ⟨_, rc, vc, ⟨c1, d, hd, c2, c3⟩, c4, c5, c6⟩ | ⟨c1, c2, c3, c4⟩
  · rcases m with ⟨m1, _, _, _, g, hg, m2, m3, m4⟩ | ⟨m1, _⟩
    · subst hd c3 c5 hg m4
      have b2 := fl_rb c1
      rw [show (7 : Int32).toNatClampNeg = 7 from by decide]
      refine ⟨fl_Zs Z (by rw [show (0 : Int32).toInt = 0 from by decide] at b2; omega), Or.inr ⟨c4, by rw [m3, c4], ?_⟩⟩
      rw [c6, m2, c2, fl_ovl]
      exact congrArg Int32.toInt64 (Z.1.1.1 7 (by omega)).symm
    · exact absurd (lw_rg c1 m1) (fun z => z)
  · rcases m with ⟨m1, _⟩ | ⟨m1, _, _, _, m2, m3, m4⟩
    · exact absurd (lw_rn2 c1 m1) (fun z => z)
    · subst c3 m4
      exact ⟨Z, Or.inl ⟨by rw [c2]; decide, by rw [m3, c2]⟩⟩
theorem zl_setDerate {f f1 G : Nat → Int32} {su su1 : Nat → Int64} {p p2 r th re : Int32} {o o1 : Nat → Int64} {W V : fw_W} {x y : Nat → fw_C} (Z : fl_Z True f su W x) (c : t_L_setDerate p o W r V o1) (m : q_X11_setDerate f p re th f1) : fl_Z True f1 su V x ∧ cp_R r th re o1 := by
  rcases c with ⟨_, rc, vc, ⟨c1, d, hd, c2, c3⟩, c4, c5, c6⟩ | ⟨c1, c2, c3, c4⟩
  · rcases m with ⟨m1, _, _, _, g, hg, m2, m3, m4⟩ | ⟨m1, _⟩
    · subst hd c3 c5 hg m4
      have b2 := fl_rb c1
      rw [show (16 : Int32).toNatClampNeg = 16 from by decide]
      refine ⟨fl_Zs Z (by rw [show (0 : Int32).toInt = 0 from by decide, show (200 : Int32).toInt = 200 from by decide] at b2; omega), Or.inr ⟨c4, by rw [m3, c4], ?_⟩⟩
      rw [c6, m2, c2, fl_ovl]
      exact congrArg Int32.toInt64 (Z.1.1.2.1 16 (by omega) (by omega)).symm
    · exact absurd (lw_rg c1 m1) (fun z => z)
  · rcases m with ⟨m1, _⟩ | ⟨m1, _, _, _, m2, m3, m4⟩
    · exact absurd (lw_rn2 c1 m1) (fun z => z)
    · subst c3 m4
      exact ⟨Z, Or.inl ⟨by rw [c2]; decide, by rw [m3, c2]⟩⟩
/-- how many channels' voltages lie outside -/
theorem fl_so2 {a lo hi : Int32} : (cm_rng a.toInt64 lo.toInt64 hi.toInt64 = 0) ↔ (a < lo ∨ hi < a) := by
  constructor
  · intro h
    by_cases q : a < lo
    · exact Or.inl q
    · by_cases w : hi < a
      · exact Or.inr w
      · exact absurd h (fun z => rf_rngn (v := a) (L := lo.toInt) (U := hi.toInt) (Jvm.Kit.i64_of_i32 _) (Jvm.Kit.i64_of_i32 _) z (by
          rw [Int32.lt_iff_toInt_lt] at q w
          omega))
  · intro h
    by_cases z : cm_rng a.toInt64 lo.toInt64 hi.toInt64 = 0
    · exact z
    · have r := rf_rng z
      rw [Jvm.Kit.i64_of_i32, Jvm.Kit.i64_of_i32, Jvm.Kit.i64_of_i32] at r
      rcases h with h | h
      · rw [Int32.lt_iff_toInt_lt] at h; omega
      · rw [Int32.lt_iff_toInt_lt] at h; omega
theorem fl_so3 {tt : Prop} {f : Nat → Int32} {su : Nat → Int64} {W : fw_W} {x : Nat → fw_C} {lo hi : Int32} (Z : fl_Z tt f su W x) : ∀ n : Nat, (n : Int) ≤ (f 9).toInt → q_so f lo hi n = fw_so x lo hi n
  | 0, _ => rfl
  | n + 1, h => by
    obtain ⟨C, _, _⟩ := Z.2.2.2.2 n (by omega)
    have u0 : rf_of f (Int32.ofNat n) 0 = (x n).1 0 := C.1.1.1
    have u5 : rf_of f (Int32.ofNat n) 5 = (x n).1 5 := C.2.1 5 (by unfold fl_e; omega)
    have I := fl_so3 (lo := lo) (hi := hi) Z n (by omega)
    unfold q_so fw_so
    rw [I]
    by_cases q : (x n).1 0 = 1 ∧ ((x n).1 5 < lo ∨ ¬ (x n).1 5 ≤ hi)
    · rw [if_pos q, if_pos]
      · rfl
      · rw [u0, u5]
        refine ⟨q.1, fl_so2.mpr (q.2.imp (fun z => z) (fun z => ?_))⟩
        rw [Int32.le_iff_toInt_le] at z
        rw [Int32.lt_iff_toInt_lt]
        omega
    · rw [if_neg q, if_neg]
      · exact Int32.add_zero _
      · rw [u0, u5]
        refine fun z => q ⟨z.1, (fl_so2.mp z.2).imp (fun z => z) (fun z => ?_)⟩
        rw [Int32.lt_iff_toInt_lt] at z
        rw [Int32.le_iff_toInt_le]
        omega
theorem zl_setLimits {f f1 G : Nat → Int32} {su su1 : Nat → Int64} {p p2 r th re : Int32} {o o1 : Nat → Int64} {W V : fw_W} {x y : Nat → fw_C} (Z : fl_Z True f su W x) (hG : f 9 = G 9 ∧ f 10 = G 10) (c : t_L_setLimits p p2 o W x r V o1) (m : q_X11_setLimits f G p p2 re th f1) : fl_Z True f1 su V x ∧ cp_R r th re o1 := by
  have b9 := Z.1.2.1
  unfold sd_bds at b9
  rcases c with ⟨_, rc, vc, ⟨c1, c2, W3, hW, y1, y2, ⟨⟨b1, b2⟩, b3⟩, b4, b5, b6⟩, c4, c5, c6⟩ | ⟨c1, c2, c3, c4⟩
  · obtain ⟨_, m⟩ := m.resolve_left (fun z => lw_rg c1 z.1)
    obtain ⟨_, _, _, _, g, hg, g2, hg2, i1, i2, ⟨⟨d1, d2⟩, d3⟩, d4, d5, d6, d7⟩ := m.resolve_right (fun z => lw_rg c2 z.1)
    rw [show (4 : Int32).toNatClampNeg = 4 from by decide] at hg
    rw [show (5 : Int32).toNatClampNeg = 5 from by decide] at hg2
    have Z3 : fl_Z True g2 su W3 x := by
      rw [hW, ← hg2, ← hg]
      exact fl_Zs (fl_Zs Z (Or.inl rfl)) (Or.inr (Or.inl rfl))
    have e9 : g2 9 = f 9 := by rw [← hg2, ← hg, rf_upd_ne (by omega), rf_upd_ne (by omega)]
    have w9 : W3.1 9 = f 9 := Z3.1.1.2.2.1.symm.trans e9
    rw [Int32.le_iff_toInt_le, w9] at b4
    rw [w9] at b2
    rw [Int32.le_iff_toInt_le, e9] at d4
    rw [← hG.1] at d2
    have n1 : y2.toInt.toNat = (f 9).toInt.toNat := by omega
    have n2 : i2.toInt.toNat = (f 9).toInt.toNat := by omega
    rw [d7, c5, b6]
    refine ⟨Z3, Or.inr ⟨c4, by rw [d6, c4], ?_⟩⟩
    rw [c6, fl_ovl, b5, b3, d5, d3, n1, n2, fl_so3 Z3 _ (by rw [e9]; omega)]
  · rcases m with ⟨_, _, _, _, m2, m3, m4⟩ | ⟨m0, m⟩
    · rw [c3, m4]
      exact ⟨Z, Or.inl ⟨by rw [c2]; decide, by rw [m3, c2]⟩⟩
    · rcases m with ⟨m1, _⟩ | ⟨_, _, _, _, m2, m3, m4⟩
      · rcases c1 with c1 | c1
        · exact absurd (lw_rn2 c1 m0) (fun z => z)
        · exact absurd (lw_rn2 c1 m1) (fun z => z)
      · rw [c3, m4]
        exact ⟨Z, Or.inl ⟨by rw [c2]; decide, by rw [m3, c2]⟩⟩
