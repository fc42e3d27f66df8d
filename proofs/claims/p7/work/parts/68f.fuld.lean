/-- the current that is left of the one that is wanted -/
def fl_dr (spa hot tmp w : Int32) : Int32 := if spa = 0 then w else if tmp ≤ hot - spa then w else (w * (if 0 < hot - tmp then hot - tmp else 0)) / spa
def fl_A (spa hot tmp chg w : Int32) : Int32 := if fl_dr spa hot tmp w < -chg then -chg else fl_dr spa hot tmp w
theorem fl_i0 {x : Int32} (h : ¬ x = 0) : x.toInt ≠ 0 := fun q => h (Int32.toInt_inj.mp (by rw [q]; rfl))
theorem fl_rm {spa hot tmp : Int32} (hs : 0 ≤ spa.toInt ∧ spa.toInt ≤ 200) (hh : 0 ≤ hot.toInt ∧ hot.toInt ≤ 1000) (h : ¬ tmp ≤ hot - spa) : 0 ≤ (if 0 < hot - tmp then hot - tmp else 0).toInt ∧ (if 0 < hot - tmp then hot - tmp else 0).toInt < spa.toInt + (if spa.toInt = 0 then 1 else 0) := by
  have z : (0 : Int32).toInt = 0 := by decide
  have e : (hot - spa).toInt = hot.toInt - spa.toInt := Jvm.Kit.i32_sub (by omega) (by omega)
  have t2 := Int32.toInt_lt tmp
  rw [Int32.le_iff_toInt_le, e] at h
  have e1 : (hot - tmp).toInt = hot.toInt - tmp.toInt := Jvm.Kit.i32_sub (by omega) (by omega)
  by_cases q : 0 < hot - tmp
  · rw [if_pos q, e1]
    rw [Int32.lt_iff_toInt_lt, z, e1] at q
    split <;> omega
  · rw [if_neg q, z]
    rw [Int32.lt_iff_toInt_lt, z, e1] at q
    split <;> omega
theorem fl_mu {w m : Int32} (hw : -5000 ≤ w.toInt ∧ w.toInt ≤ 5000) (hm : 0 ≤ m.toInt ∧ m.toInt ≤ 200) : (w * m).toInt = w.toInt * m.toInt ∧ -(5000 * m.toInt) ≤ w.toInt * m.toInt ∧ w.toInt * m.toInt ≤ 5000 * m.toInt := by
  have a := Int.mul_le_mul_of_nonneg_right hw.2 hm.1
  have b := Int.mul_le_mul_of_nonneg_right hw.1 hm.1
  refine ⟨Jvm.Kit.i32_mul (by omega) (by omega), by omega, a⟩
theorem fl_drb {spa hot tmp w : Int32} (hw : -5000 ≤ w.toInt ∧ w.toInt ≤ 5000) (hs : 0 ≤ spa.toInt ∧ spa.toInt ≤ 200) (hh : 0 ≤ hot.toInt ∧ hot.toInt ≤ 1000) : -5000 ≤ (fl_dr spa hot tmp w).toInt ∧ (fl_dr spa hot tmp w).toInt ≤ 5000 := by
  unfold fl_dr
  by_cases q : spa = 0
  · rw [if_pos q]; exact hw
  · rw [if_neg q]
    by_cases z : tmp ≤ hot - spa
    · rw [if_pos z]; exact hw
    · rw [if_neg z]
      have hm := fl_rm hs hh z
      have s0 := fl_i0 q
      rw [if_neg s0] at hm
      generalize (if 0 < hot - tmp then hot - tmp else 0) = m at *
      obtain ⟨e, b0, b1⟩ := fl_mu hw (m := m) (by omega)
      have t := rf_tdiv (x := w.toInt * m.toInt) (s := spa.toInt) (B := 5000) (by omega) (by omega) (by omega) (by omega)
      rw [Jvm.Kit.i32_div (by omega), e]
      exact t
theorem fl_Ab {spa hot tmp chg w : Int32} (hw : -5000 ≤ w.toInt ∧ w.toInt ≤ 5000) (hs : 0 ≤ spa.toInt ∧ spa.toInt ≤ 200) (hh : 0 ≤ hot.toInt ∧ hot.toInt ≤ 1000) (hc : 0 ≤ chg.toInt) : -5000 ≤ (fl_A spa hot tmp chg w).toInt ∧ (fl_A spa hot tmp chg w).toInt ≤ 5000 ∧ -chg.toInt ≤ (fl_A spa hot tmp chg w).toInt := by
  have b := fl_drb (tmp := tmp) hw hs hh
  have c2 := Int32.toInt_lt chg
  have e : (-chg).toInt = -chg.toInt := Jvm.Kit.i32_neg (by omega)
  unfold fl_A
  by_cases q : fl_dr spa hot tmp w < -chg
  · rw [if_pos q, e]
    rw [Int32.lt_iff_toInt_lt, e] at q
    omega
  · rw [if_neg q]
    rw [Int32.lt_iff_toInt_lt, e] at q
    omega
theorem fl_Ae {chg x r : Int32} (hx : -5000 ≤ x.toInt ∧ x.toInt ≤ 5000) (hc : 0 ≤ chg.toInt) (h : (0 ≤ x ∧ r = x) ∨ (¬ 0 ≤ x ∧ (((- x) ≤ chg ∧ r = x) ∨ (¬ (- x) ≤ chg ∧ r = (- chg))))) : r = if x < -chg then -chg else x := by
  have c2 := Int32.toInt_lt chg
  have e : (-chg).toInt = -chg.toInt := Jvm.Kit.i32_neg (by omega)
  have ex : (-x).toInt = -x.toInt := Jvm.Kit.i32_neg (by omega)
  have z : (0 : Int32).toInt = 0 := by decide
  rcases h with ⟨a, h⟩ | ⟨a, ⟨b, h⟩ | ⟨b, h⟩⟩
  · rw [Int32.le_iff_toInt_le, z] at a
    rw [if_neg (by rw [Int32.lt_iff_toInt_lt, e]; omega), h]
  · rw [Int32.le_iff_toInt_le, ex] at b
    rw [if_neg (by rw [Int32.lt_iff_toInt_lt, e]; omega), h]
  · rw [Int32.le_iff_toInt_le, ex] at b
    rw [if_pos (by rw [Int32.lt_iff_toInt_lt, e]; omega), h]
theorem fl_Ac {spa hot tmp chg w r : Int32} (hw : -5000 ≤ w.toInt ∧ w.toInt ≤ 5000) (hs : 0 ≤ spa.toInt ∧ spa.toInt ≤ 200) (hh : 0 ≤ hot.toInt ∧ hot.toInt ≤ 1000) (hc : 0 ≤ chg.toInt) (h : a_X0_allowed chg tmp hot spa w r) : r = fl_A spa hot tmp chg w := by
  have b := fl_drb (tmp := tmp) hw hs hh
  unfold fl_A
  unfold fl_dr at *
  rcases h with ⟨q, h⟩ | ⟨q, ⟨z, h⟩ | ⟨z, d, h1, h⟩⟩
  · rw [if_pos q] at *
    exact fl_Ae b hc h
  · rw [if_neg q, if_pos z] at *
    exact fl_Ae b hc h
  · rw [if_neg q, if_neg z] at *
    have hm := fl_rm hs hh z
    have s0 := fl_i0 q
    rw [if_neg s0] at hm
    have e1 := fl_q h1 (by rw [Jvm.Kit.i64_of_i32]; omega)
    generalize (if 0 < hot - tmp then hot - tmp else 0) = m at *
    obtain ⟨e, b0, b1⟩ := fl_mu hw (m := m) (by omega)
    have em : w.toInt64 * m.toInt64 = (w * m).toInt64 := by
      refine Int64.toInt.inj ?_
      rw [Jvm.Kit.i64_mul (by rw [Jvm.Kit.i64_of_i32, Jvm.Kit.i64_of_i32]; omega) (by rw [Jvm.Kit.i64_of_i32, Jvm.Kit.i64_of_i32]; omega), Jvm.Kit.i64_of_i32, Jvm.Kit.i64_of_i32, Jvm.Kit.i64_of_i32, e]
    rw [em] at e1
    have e2 : d.toInt32 = (w * m) / spa := by rw [e1]; exact fl_d (by omega)
    rw [e2] at h
    exact fl_Ae b hc h
theorem fl_Am {f : Nat → Int32} {c w r : Int32} (hr : rf_of f c 0 = 1) (hw : q_X11_wantedOf f c w) (hu : ∀ v : Int32, q_X11_wantedOf f c v → v = w) (h : q_X11_currentOf f c r) : r = fl_A (f 16) (f 6) (rf_of f c 9) (rf_of f c 6) w := by
  unfold fl_A fl_dr
  rcases h with ⟨_, v, h1, h⟩ | ⟨n, _⟩
  · have := hu v h1
    subst this
    rcases h with ⟨q, h⟩ | ⟨q, ⟨z, h⟩ | ⟨z, h⟩⟩
    · rw [if_pos q]; exact h
    · rw [if_neg q, if_pos z]; exact h
    · rw [if_neg q, if_neg z]; exact h
  · exact absurd hr n
theorem fl_48 {b : Nat → Int32} {p s r : Int32} {P S : Nat} (hp : p.toInt = P) (hs : s.toInt = S) (hP : P < 4) (hS : S < 12) (h : a_X10_at_48 b ((p * 12) + s) r) : r = b (12 * P + S) := by
  have t : (12 : Int32).toInt = 12 := by decide
  have t48 : (48 : Int32).toInt = 48 := by decide
  have z : (0 : Int32).toInt = 0 := by decide
  have e1 : (p * 12).toInt = P * 12 := by rw [Jvm.Kit.i32_mul (by rw [t]; omega) (by rw [t]; omega), hp, t]
  have e2 : ((p * 12) + s).toInt = P * 12 + S := by rw [Jvm.Kit.i32_add (by omega) (by omega), e1, hs]
  rcases h with ⟨n, _⟩ | ⟨_, ⟨_, h⟩ | ⟨n, _⟩⟩
  · rw [Int32.lt_iff_toInt_lt] at n; omega
  · rw [h]
    exact congrArg b (by show ((p * 12) + s).toInt.toNat = _; omega)
  · rw [Int32.lt_iff_toInt_lt] at n; omega
theorem fl_kd {b : Nat → Int32} {p s r : Int32} {P S : Nat} (hp : p.toInt = P) (hs : s.toInt = S) (hP : P < 4) (hS : S < 12) (h : a_X5_kindOf b p s r) : r = b (12 * P + S) := by
  obtain ⟨x, h1, h2⟩ := h
  rw [h2]; exact fl_48 hp hs hP hS h1
theorem fl_fs {b : Nat → Int32} {p s r : Int32} {P S : Nat} (hp : p.toInt = P) (hs : s.toInt = S) (hP : P < 4) (hS : S < 12) (h : a_X5_firstOf b p s r) : r = b (12 * P + S) := by
  obtain ⟨x, h1, h2⟩ := h
  rw [h2]; exact fl_48 hp hs hP hS h1
theorem fl_sc {b : Nat → Int32} {p s r : Int32} {P S : Nat} (hp : p.toInt = P) (hs : s.toInt = S) (hP : P < 4) (hS : S < 12) (h : a_X5_secondOf b p s r) : r = b (12 * P + S) := by
  obtain ⟨x, h1, h2⟩ := h
  rw [h2]; exact fl_48 hp hs hP hS h1
theorem fl_so {b : Nat → Int32} {p r : Int32} {P : Nat} (hp : p.toInt = P) (hP : P < 4) (h : a_X5_stepsOf b p r) : r = b P := by
  obtain ⟨x, h1, h2⟩ := h
  have t : (4 : Int32).toInt = 4 := by decide
  have z : (0 : Int32).toInt = 0 := by decide
  rw [h2]
  rcases h1 with ⟨n, _⟩ | ⟨_, ⟨_, h⟩ | ⟨n, _⟩⟩
  · rw [Int32.lt_iff_toInt_lt] at n; omega
  · rw [h]
    exact congrArg b (by show p.toInt.toNat = P; omega)
  · rw [Int32.lt_iff_toInt_lt] at n; omega
