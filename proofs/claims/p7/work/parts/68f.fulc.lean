/-- which piece of a curve, and the rest voltage -/
def fl_K (pts C q : Int32) : Int32 := (if (pts - 2).toInt64 < (q.toInt64 * ((pts - 1).toInt64)) / C.toInt64 then (pts - 2).toInt64 else (q.toInt64 * ((pts - 1).toInt64)) / C.toInt64).toInt32
def fl_V (cv : Nat → Int32) (pts C q : Int32) : Int32 := cv (fl_K pts C q).toInt.toNat + ((((cv ((fl_K pts C q).toInt.toNat + 1) - cv (fl_K pts C q).toInt.toNat).toInt64) * ((q.toInt64 * ((pts - 1).toInt64)) - ((fl_K pts C q).toInt64 * C.toInt64))) / C.toInt64).toInt32
theorem fl_on {n : Nat} (h : n < 2147483648) : (Int32.ofNat n).toInt = n := Int32.toInt_ofNat_of_lt (by omega)
theorem fl_Kr {n : Nat} {pts C q : Int32} (hp : pts = Int32.ofNat n) (hn : 2 ≤ n ∧ n ≤ 11) (hC : 1 ≤ C.toInt) (hq : 0 ≤ q.toInt) : (pts - 1).toInt = n - 1 ∧ (pts - 2).toInt = n - 2 ∧ 0 ≤ (fl_K pts C q).toInt ∧ (fl_K pts C q).toInt ≤ n - 2 ∧ (fl_K pts C q).toInt ≤ (q.toInt * (n - 1)) / C.toInt := by
  have e : pts.toInt = n := by rw [hp]; exact fl_on (by omega)
  have o1 : (1 : Int32).toInt = 1 := by decide
  have o2 : (2 : Int32).toInt = 2 := by decide
  have e1 : (pts - 1).toInt = n - 1 := by rw [Jvm.Kit.i32_sub (by omega) (by omega), e, o1]
  have e2 : (pts - 2).toInt = n - 2 := by rw [Jvm.Kit.i32_sub (by omega) (by omega), e, o2]
  have q2 := Int32.toInt_lt q
  have m0 : 0 ≤ q.toInt * ((n : Int) - 1) := Int.mul_nonneg hq (by omega)
  have m1 : q.toInt * ((n : Int) - 1) ≤ 2147483648 * 10 := by
    exact Int.mul_le_mul (show q.toInt ≤ 2147483648 by omega) (show (n : Int) - 1 ≤ 10 by omega) (by omega) (by omega)
  have em : (q.toInt64 * ((pts - 1).toInt64)).toInt = q.toInt * ((n : Int) - 1) := by
    rw [Jvm.Kit.i64_mul (by rw [Jvm.Kit.i64_of_i32, Jvm.Kit.i64_of_i32, e1]; omega) (by rw [Jvm.Kit.i64_of_i32, Jvm.Kit.i64_of_i32, e1]; omega), Jvm.Kit.i64_of_i32, Jvm.Kit.i64_of_i32, e1]
  have ed : ((q.toInt64 * ((pts - 1).toInt64)) / C.toInt64).toInt = (q.toInt * ((n : Int) - 1)) / C.toInt := by
    rw [Jvm.Kit.i64_div (by rw [em]; omega), em, Jvm.Kit.i64_of_i32, Int.tdiv_eq_ediv_of_nonneg m0]
  have d0 : 0 ≤ (q.toInt * ((n : Int) - 1)) / C.toInt := Int.ediv_nonneg m0 (by omega)
  refine ⟨e1, e2, ?_⟩
  unfold fl_K
  by_cases z : (pts - 2).toInt64 < (q.toInt64 * ((pts - 1).toInt64)) / C.toInt64
  · rw [if_pos z, Int32.toInt32_toInt64, e2]
    rw [Int64.lt_iff_toInt_lt, Jvm.Kit.i64_of_i32, e2, ed] at z
    omega
  · rw [if_neg z]
    rw [Int64.lt_iff_toInt_lt, Jvm.Kit.i64_of_i32, e2, ed] at z
    rw [Jvm.Kit.i32_of_i64 (by rw [ed]; omega) (by rw [ed]; omega), ed]
    omega
theorem fl_at {b : Nat → Int32} {i r : Int32} {K : Nat} (hi : i.toInt = K) (hK : K < 11) (h : a_X10_at_11 b i r) : r = b K := by
  have t : (11 : Int32).toInt = 11 := by decide
  have z : (0 : Int32).toInt = 0 := by decide
  rcases h with ⟨n, _⟩ | ⟨_, ⟨_, h⟩ | ⟨n, _⟩⟩
  · rw [Int32.lt_iff_toInt_lt] at n; omega
  · rw [h]
    exact congrArg b (by show i.toInt.toNat = K; omega)
  · rw [Int32.lt_iff_toInt_lt] at n; omega
theorem fl_Rc {cv : Nat → Int32} {n : Nat} {pts C q r : Int32} (hp : pts = Int32.ofNat n) (hn : 2 ≤ n ∧ n ≤ 11) (hC : 1 ≤ C.toInt) (hq : 0 ≤ q.toInt) (h : a_X0_restVoltageAt pts C cv q r) : r = fl_V cv pts C q := by
  obtain ⟨_, _, k0, k1, _⟩ := fl_Kr hp hn hC hq
  have hC0 : C.toInt64.toInt ≠ 0 := by rw [Jvm.Kit.i64_of_i32]; omega
  obtain ⟨a, h1, b, h2, c, h3, d, h4, e, h5, h6⟩ := h
  have ea := fl_q h1 hC0
  subst ea
  have o1 : (1 : Int32).toInt = 1 := by decide
  have ek : ((if (pts - 2).toInt64 < q.toInt64 * (pts - 1).toInt64 / C.toInt64 then (pts - 2).toInt64 else q.toInt64 * (pts - 1).toInt64 / C.toInt64).toInt32) = fl_K pts C q := rfl
  rw [ek] at h2 h3 h4 h5
  have i1 : (fl_K pts C q + 1).toInt = ((fl_K pts C q).toInt.toNat + 1 : Nat) := by rw [Jvm.Kit.i32_add (by omega) (by omega), o1]; omega
  have e2 := fl_at i1 (by omega) h2
  have e3 := fl_at (K := (fl_K pts C q).toInt.toNat) (by omega) (by omega) h3
  have e4 := fl_at (K := (fl_K pts C q).toInt.toNat) (by omega) (by omega) h4
  have e5 := fl_q h5 hC0
  rw [h6, Int64.toInt32_add, Int32.toInt32_toInt64, e5, e4, e3, e2]
  rfl
theorem fl_vol {f : Nat → Int32} {u k r : Int32} {v K : Nat} (hu : u = Int32.ofNat v) (hv : v < 4) (hk : k.toInt = K) (hK : K ≤ 10) (h : q_X11_volts f u k r) : r = f (28 + 19 * v + K) := by
  have eu : u.toInt = v := by rw [hu]; exact fl_on (by omega)
  have t19 : (19 : Int32).toInt = 19 := by decide
  have t20 : (20 : Int32).toInt = 20 := by decide
  have t8 : (8 : Int32).toInt = 8 := by decide
  have e1 : (19 * u).toInt = 19 * v := by rw [Jvm.Kit.i32_mul (by rw [t19]; omega) (by rw [t19]; omega), eu, t19]
  have e2 : (20 + (19 * u)).toInt = 20 + 19 * v := by rw [Jvm.Kit.i32_add (by omega) (by omega), e1, t20]
  have e3 : ((20 + (19 * u)) + 8).toInt = 28 + 19 * v := by rw [Jvm.Kit.i32_add (by omega) (by omega), e2, t8]; omega
  have e4 : (((20 + (19 * u)) + 8) + k).toInt = 28 + 19 * v + K := by rw [Jvm.Kit.i32_add (by omega) (by omega), e3, hk]
  rw [show r = _ from h]
  exact congrArg f (by show (((20 + (19 * u)) + 8) + k).toInt.toNat = _; omega)
theorem fl_Rm {f : Nat → Int32} {n v : Nat} {c q r : Int32} (hv : rf_of f c 11 = Int32.ofNat v) (hv4 : v < 4) (hp : f (27 + 19 * v) = Int32.ofNat n) (hn : 2 ≤ n ∧ n ≤ 11) (hC : 1 ≤ (rf_of f c 7).toInt) (hq : 0 ≤ q.toInt) (h : q_X11_restAt f c q r) : r = fl_V (fun j => f (28 + 19 * v + j)) (Int32.ofNat n) (rf_of f c 7) q := by
  obtain ⟨_, _, k0, k1, _⟩ := fl_Kr (pts := Int32.ofNat n) (C := rf_of f c 7) rfl hn hC hq
  have ev : (rf_of f c 11).toInt.toNat = v := by rw [hv, fl_on (by omega)]; omega
  have en : f (20 + 19 * (rf_of f c 11).toInt.toNat + 7) = Int32.ofNat n := by rw [ev, ← hp]; exact congrArg f (by omega)
  obtain ⟨k, h1, a, h2, b, h3, d, h4, h5⟩ := h
  rw [en] at h1 h5
  have e2 : Int32.ofNat n - 1 - 1 = Int32.ofNat n - 2 := by
    refine Int32.toInt.inj ?_
    have e := fl_on (n := n) (by omega)
    have o1 : (1 : Int32).toInt = 1 := by decide
    have o2 : (2 : Int32).toInt = 2 := by decide
    have e1 : (Int32.ofNat n - 1).toInt = n - 1 := by rw [Jvm.Kit.i32_sub (by omega) (by omega), e, o1]
    rw [Jvm.Kit.i32_sub (by omega) (by omega), e1, o1, Jvm.Kit.i32_sub (by omega) (by omega), e, o2]
    omega
  rw [e2] at h1
  have ek : k = fl_K (Int32.ofNat n) (rf_of f c 7) q := h1
  subst ek
  have o1 : (1 : Int32).toInt = 1 := by decide
  have i1 : (fl_K (Int32.ofNat n) (rf_of f c 7) q + 1).toInt = ((fl_K (Int32.ofNat n) (rf_of f c 7) q).toInt.toNat + 1 : Nat) := by rw [Jvm.Kit.i32_add (by omega) (by omega), o1]; omega
  have a2 := fl_vol hv hv4 i1 (by omega) h2
  have a3 := fl_vol (K := (fl_K (Int32.ofNat n) (rf_of f c 7) q).toInt.toNat) hv hv4 (by omega) (by omega) h3
  have a4 := fl_vol (K := (fl_K (Int32.ofNat n) (rf_of f c 7) q).toInt.toNat) hv hv4 (by omega) (by omega) h4
  rw [h5, a2, a3, a4]
  rfl
theorem fl_Vx {a b : Nat → Int32} {n : Nat} {C q : Int32} (hn : 2 ≤ n ∧ n ≤ 11) (hC : 1 ≤ C.toInt) (hq : 0 ≤ q.toInt) (h : ∀ j : Nat, j < n → a j = b j) : fl_V a (Int32.ofNat n) C q = fl_V b (Int32.ofNat n) C q := by
  obtain ⟨_, _, k0, k1, _⟩ := fl_Kr (pts := Int32.ofNat n) (C := C) rfl hn hC hq
  unfold fl_V
  rw [h _ (by omega), h _ (by omega)]
/-- how great it can be -/
theorem fl_Vb {a : Nat → Int32} {n : Nat} {C q : Int32} (hn : 2 ≤ n ∧ n ≤ 11) (hC : 50 ≤ C.toInt) (hq : 0 ≤ q.toInt ∧ q.toInt ≤ 4 * C.toInt + 2) (hC2 : C.toInt ≤ 100000) (h : ∀ j : Nat, j < n → 0 ≤ (a j).toInt ∧ (a j).toInt ≤ 5000) : -205000 ≤ (fl_V a (Int32.ofNat n) C q).toInt ∧ (fl_V a (Int32.ofNat n) C q).toInt ≤ 210000 := by
  obtain ⟨e1, _, k0, k1, k2⟩ := fl_Kr (pts := Int32.ofNat n) (C := C) rfl hn (by omega) hq.1
  have b0 := h (fl_K (Int32.ofNat n) C q).toInt.toNat (by omega)
  have b1 := h ((fl_K (Int32.ofNat n) C q).toInt.toNat + 1) (by omega)
  unfold fl_V
  generalize fl_K (Int32.ofNat n) C q = k at *
  generalize a k.toInt.toNat = x at *
  generalize a (k.toInt.toNat + 1) = y at *
  have er : (y - x).toInt = y.toInt - x.toInt := Jvm.Kit.i32_sub (by omega) (by omega)
  have m0 : 0 ≤ q.toInt * ((n : Int) - 1) := Int.mul_nonneg hq.1 (by omega)
  have m1 : q.toInt * ((n : Int) - 1) ≤ (4 * C.toInt + 2) * 10 := Int.mul_le_mul hq.2 (by omega) (by omega) (by omega)
  have em : (q.toInt64 * ((Int32.ofNat n - 1).toInt64)).toInt = q.toInt * ((n : Int) - 1) := by
    rw [Jvm.Kit.i64_mul (by rw [Jvm.Kit.i64_of_i32, Jvm.Kit.i64_of_i32, e1]; omega) (by rw [Jvm.Kit.i64_of_i32, Jvm.Kit.i64_of_i32, e1]; omega), Jvm.Kit.i64_of_i32, Jvm.Kit.i64_of_i32, e1]
  have c0 : 0 ≤ k.toInt * C.toInt := Int.mul_nonneg k0 (by omega)
  have c1 : k.toInt * C.toInt ≤ q.toInt * ((n : Int) - 1) := by
    have := Int.mul_le_mul_of_nonneg_right k2 (c := C.toInt) (by omega)
    have d := Int.ediv_mul_le (q.toInt * ((n : Int) - 1)) (b := C.toInt) (by omega)
    omega
  have ec : (k.toInt64 * C.toInt64).toInt = k.toInt * C.toInt := by
    rw [Jvm.Kit.i64_mul (by rw [Jvm.Kit.i64_of_i32, Jvm.Kit.i64_of_i32]; omega) (by rw [Jvm.Kit.i64_of_i32, Jvm.Kit.i64_of_i32]; omega), Jvm.Kit.i64_of_i32, Jvm.Kit.i64_of_i32]
  have es : (q.toInt64 * ((Int32.ofNat n - 1).toInt64) - k.toInt64 * C.toInt64).toInt = q.toInt * ((n : Int) - 1) - k.toInt * C.toInt := by
    rw [Jvm.Kit.i64_sub (by rw [em, ec]; omega) (by rw [em, ec]; omega), em, ec]
  have s0 : 0 ≤ q.toInt * ((n : Int) - 1) - k.toInt * C.toInt ∧ q.toInt * ((n : Int) - 1) - k.toInt * C.toInt ≤ 41 * C.toInt := by omega
  generalize q.toInt * ((n : Int) - 1) - k.toInt * C.toInt = s at *
  have p1 : (y.toInt - x.toInt) * s ≤ 5000 * (41 * C.toInt) := by
    have a1 := Int.mul_le_mul_of_nonneg_right (show y.toInt - x.toInt ≤ 5000 by omega) s0.1
    omega
  have p0 : -(5000 * (41 * C.toInt)) ≤ (y.toInt - x.toInt) * s := by
    have a1 := Int.mul_le_mul_of_nonneg_right (show -5000 ≤ y.toInt - x.toInt by omega) s0.1
    omega
  have ep : ((y - x).toInt64 * (q.toInt64 * ((Int32.ofNat n - 1).toInt64) - k.toInt64 * C.toInt64)).toInt = (y.toInt - x.toInt) * s := by
    rw [Jvm.Kit.i64_mul (by rw [Jvm.Kit.i64_of_i32, er, es]; omega) (by rw [Jvm.Kit.i64_of_i32, er, es]; omega), Jvm.Kit.i64_of_i32, er, es]
  have t := rf_tdiv (x := (y.toInt - x.toInt) * s) (s := C.toInt) (B := 205000) (by omega) (by omega) (by omega) (by omega)
  have ed : ((y - x).toInt64 * (q.toInt64 * ((Int32.ofNat n - 1).toInt64) - k.toInt64 * C.toInt64) / C.toInt64).toInt = ((y.toInt - x.toInt) * s).tdiv C.toInt := by
    rw [Jvm.Kit.i64_div (by rw [ep]; omega), ep, Jvm.Kit.i64_of_i32]
  have ef : (((y - x).toInt64 * (q.toInt64 * ((Int32.ofNat n - 1).toInt64) - k.toInt64 * C.toInt64) / C.toInt64).toInt32).toInt = ((y.toInt - x.toInt) * s).tdiv C.toInt := by
    rw [Jvm.Kit.i32_of_i64 (by rw [ed]; omega) (by rw [ed]; omega), ed]
  rw [Jvm.Kit.i32_add (by rw [ef]; omega) (by rw [ef]; omega), ef]
  omega
