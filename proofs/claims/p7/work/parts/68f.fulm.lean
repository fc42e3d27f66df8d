/-! how full, and what is counted of it -/
def fl_pm (chg cap : Int32) : Int32 := ((1000 * chg.toInt64) / cap.toInt64).toInt32
def fl_bi (p : Int32) : Int32 := if 9 < p / 100 then 9 else p / 100
theorem fl_pmc {chg cap r : Int32} (hC : 1 ≤ cap.toInt) (h : a_X0_thousandths chg cap r) : r = fl_pm chg cap := by
  obtain ⟨q, h1, h2⟩ := h
  rw [h2, fl_q h1 (by rw [Jvm.Kit.i64_of_i32]; omega)]
  rfl
theorem fl_pmm {f : Nat → Int32} {c r : Int32} (h : q_X11_filled f c r) : r = fl_pm (rf_of f c 6) (rf_of f c 7) := h
theorem fl_pmb {chg cap : Int32} (hC : 1 ≤ cap.toInt) (hq : 0 ≤ chg.toInt ∧ chg.toInt ≤ 1000000) : 0 ≤ (fl_pm chg cap).toInt := by
  have k : (1000 : Int64).toInt = 1000 := by decide
  have e1 : (1000 * chg.toInt64).toInt = 1000 * chg.toInt := by rw [Jvm.Kit.i64_mul (by rw [k, Jvm.Kit.i64_of_i32]; omega) (by rw [k, Jvm.Kit.i64_of_i32]; omega), k, Jvm.Kit.i64_of_i32]
  have e2 : ((1000 * chg.toInt64) / cap.toInt64).toInt = (1000 * chg.toInt) / cap.toInt := by
    rw [Jvm.Kit.i64_div (by rw [Jvm.Kit.i64_of_i32]; omega), e1, Jvm.Kit.i64_of_i32, Int.tdiv_eq_ediv_of_nonneg (by omega)]
  have b1 := Int.ediv_nonneg (a := 1000 * chg.toInt) (b := cap.toInt) (by omega) (by omega)
  have b2 : (1000 * chg.toInt) / cap.toInt ≤ 1000 * chg.toInt := Int.ediv_le_self _ (by omega)
  unfold fl_pm
  rw [Jvm.Kit.i32_of_i64 (by rw [e2]; omega) (by rw [e2]; omega), e2]
  exact b1
theorem fl_bib {p : Int32} (h : 0 ≤ p.toInt) : 0 ≤ (fl_bi p).toInt ∧ (fl_bi p).toInt ≤ 9 := by
  have k : (100 : Int32).toInt = 100 := by decide
  have k9 : (9 : Int32).toInt = 9 := by decide
  have b := Int32.toInt_lt p
  have e : (p / 100).toInt = p.toInt / 100 := by rw [Jvm.Kit.i32_div (by omega), k, Int.tdiv_eq_ediv_of_nonneg h]
  unfold fl_bi
  by_cases q : 9 < p / 100
  · rw [if_pos q, k9]; omega
  · rw [if_neg q, e]
    rw [Int32.lt_iff_toInt_lt, k9, e] at q
    omega
theorem fl_b44 {p : Int32} (h : 0 ≤ p.toInt) : (44 + (if (p / 100) < 9 then (p / 100) else 9)).toInt.toNat = 44 + (fl_bi p).toInt.toNat := by
  have e : (if (p / 100) < 9 then (p / 100) else 9) = fl_bi p := fl_min
  have b := fl_bib h
  have k : (44 : Int32).toInt = 44 := by decide
  rw [e, Jvm.Kit.i32_add (by omega) (by omega), k]
  omega
theorem fl_at10 {b : Nat → Int32} {i r : Int32} {K : Nat} (hi : i.toInt = K) (hK : K < 10) (h : a_X10_at_10 b i r) : r = b K := by
  have t : (10 : Int32).toInt = 10 := by decide
  have z : (0 : Int32).toInt = 0 := by decide
  rcases h with ⟨n, _⟩ | ⟨_, ⟨_, h⟩ | ⟨n, _⟩⟩
  · rw [Int32.lt_iff_toInt_lt] at n; omega
  · rw [h]
    exact congrArg b (by show i.toInt.toNat = K; omega)
  · rw [Int32.lt_iff_toInt_lt] at n; omega
theorem fl_p10 {b b1 : Nat → Int32} {i v : Int32} {K : Nat} (hi : i.toInt = K) (hK : K < 10) (h : a_X10_put_10 b i v b1) : b1 = upd b K v := by
  have t : (10 : Int32).toInt = 10 := by decide
  have z : (0 : Int32).toInt = 0 := by decide
  rcases h with ⟨n, _⟩ | ⟨_, ⟨n, _⟩ | ⟨_, h⟩⟩
  · rw [Int32.lt_iff_toInt_lt] at n; omega
  · rw [Int32.le_iff_toInt_le] at n; omega
  · rw [h, show i.toNatClampNeg = K from by show i.toInt.toNat = K; omega]
theorem fl_cf {fbd fbd1 : Nat → Int32} {p : Int32} (hp : 0 ≤ p.toInt) (h : a_X4_countFilling fbd p fbd1) : fbd1 = upd fbd (fl_bi p).toInt.toNat (fbd (fl_bi p).toInt.toNat + 1) := by
  have b := fl_bib hp
  obtain ⟨r, h1, b1, h2, e⟩ := h
  have e1 := fl_at10 (i := fl_bi p) (K := (fl_bi p).toInt.toNat) (by omega) (by omega) h1
  have e2 := fl_p10 (i := fl_bi p) (K := (fl_bi p).toInt.toNat) (by omega) (by omega) h2
  rw [e, e2, e1]
/-! the current that is asked for -/
def fl_w (k a rest pz ohm : Int32) : Int32 := if k = 0 then a else if k = 1 then fl_h a rest pz ohm else if k = 2 then - a else 0
theorem fl_wmm {f : Nat → Int32} {c r : Int32} {n v : Nat} (ok : fl_ok f c n v) (hk : rf_st3 f c 0 = 0 ∨ rf_st3 f c 0 = 1 ∨ rf_st3 f c 0 = 2 ∨ rf_st3 f c 0 = 3) (h : q_X11_wantedOf f c r) : r = fl_w (rf_st3 f c 0) (rf_st3 f c 1) (fl_V (fun j => f (28 + 19 * v + j)) (Int32.ofNat n) (rf_of f c 7) (rf_of f c 6)) (rf_of f c 8) (rf_of f c 13) := by
  have d0 : ¬ (1 : Int32) = 0 := by decide
  have d1 : ¬ (2 : Int32) = 0 := by decide
  have d2 : ¬ (2 : Int32) = 1 := by decide
  have d3 : ¬ (3 : Int32) = 0 := by decide
  have d4 : ¬ (3 : Int32) = 1 := by decide
  have d5 : ¬ (3 : Int32) = 2 := by decide
  have b := fl_okC ok
  obtain ⟨⟨_, ⟨o1, o2⟩, o3, o4⟩, _, ⟨o5, _⟩, _⟩ := ok
  unfold fl_w
  rcases h with ⟨n0, ⟨n3, ⟨n2, rest, h1, h2⟩ | ⟨k2, h2⟩⟩ | ⟨k3, h2⟩⟩ | ⟨k0, h2⟩
  · have k1 : rf_st3 f c 0 = 1 := hk.elim (fun z => absurd z n0) (fun z => z.elim id (fun z => z.elim (fun z => absurd z n2) (fun z => absurd z n3)))
    have e := fl_Rm o1 o2 o3 o4 (by omega) o5.1 h1
    rw [k1, if_neg d0, if_pos rfl, ← e]
    exact h2
  · rw [k2, if_neg d1, if_neg d2, if_pos rfl]; exact h2
  · rw [k3, if_neg d3, if_neg d4, if_neg d5]; exact h2
  · rw [if_pos k0]; exact h2
theorem fl_wcc {sta prg stp pts ohm chg cap pz r : Int32} {cv fk ff : Nat → Int32} {P S n : Nat} (hp : prg.toInt = P) (hs : stp.toInt = S) (hP : P < 4) (hS : S < 12) (hr : sta = 1) (hn : pts = Int32.ofNat n) (hn2 : 2 ≤ n ∧ n ≤ 11) (hC : 50 ≤ cap.toInt ∧ cap.toInt ≤ 100000) (hq : 0 ≤ chg.toInt ∧ chg.toInt ≤ 4 * cap.toInt + 2) (hz : -2500 ≤ pz.toInt ∧ pz.toInt ≤ 2500) (ho : 1 ≤ ohm.toInt) (hv : ∀ j : Nat, j < n → 0 ≤ (cv j).toInt ∧ (cv j).toInt ≤ 5000) (ha : 0 ≤ (ff (12 * P + S)).toInt ∧ (ff (12 * P + S)).toInt ≤ 5000) (h : a_X1_wantedCurrent sta prg stp pts ohm chg cap pz cv fk ff r) : r = fl_w (fk (12 * P + S)) (ff (12 * P + S)) (fl_V cv pts cap chg) pz ohm := by
  obtain ⟨_, a, h1, k, h2, h⟩ := h.resolve_right (fun z => z.1 hr)
  have e1 := fl_fs hp hs hP hS h1
  have e2 := fl_kd hp hs hP hS h2
  rw [← e1] at ha
  rw [← e1, ← e2]
  unfold fl_w
  rcases h with ⟨k0, h⟩ | ⟨k0, ⟨k1, x, ⟨rest, h3, q, h4, h5⟩, h⟩ | ⟨k1, ⟨k2, h⟩ | ⟨k2, h⟩⟩⟩
  · rw [if_pos k0]; exact h
  · have er := fl_Rc hn hn2 (by omega) hq.1 h3
    have vb := fl_Vb (a := cv) (n := n) (C := cap) (q := chg) hn2 hC.1 hq hC.2 hv
    rw [← hn, ← er] at vb
    rw [if_neg k0, if_pos k1, h, ← er]
    exact fl_hc ho ha vb hz h4 h5
  · rw [if_neg k0, if_neg k1, if_pos k2]; exact h
  · rw [if_neg k0, if_neg k1, if_neg k2]; exact h
theorem fl_wb {k a rest pz ohm : Int32} (ha : 0 ≤ a.toInt ∧ a.toInt ≤ 5000) : -5000 ≤ (fl_w k a rest pz ohm).toInt ∧ (fl_w k a rest pz ohm).toInt ≤ 5000 := by
  have z : (0 : Int32).toInt = 0 := by decide
  have b := fl_hb (held := a) (rest := rest) (pz := pz) (ohm := ohm)
  have e : (-a).toInt = -a.toInt := Jvm.Kit.i32_neg (by omega)
  unfold fl_w
  by_cases k0 : k = 0
  · rw [if_pos k0]; omega
  · rw [if_neg k0]
    by_cases k1 : k = 1
    · rw [if_pos k1]; omega
    · rw [if_neg k1]
      by_cases k2 : k = 2
      · rw [if_pos k2]; omega
      · rw [if_neg k2]; omega
theorem fl_w0 {sta prg stp pts ohm chg cap pz r : Int32} {cv fk ff : Nat → Int32} (hr : ¬ sta = 1) (h : a_X1_wantedCurrent sta prg stp pts ohm chg cap pz cv fk ff r) : r = 0 := (h.resolve_left (fun z => hr z.1)).2
theorem fl_A0 {spa hot tmp chg : Int32} (hs : 0 ≤ spa.toInt) (hc : 0 ≤ chg.toInt) : fl_A spa hot tmp chg 0 = 0 := by
  have z : (0 : Int32).toInt = 0 := by decide
  have e : (-chg).toInt = -chg.toInt := Jvm.Kit.i32_neg (by have := Int32.toInt_lt chg; omega)
  have d : fl_dr spa hot tmp 0 = 0 := by
    unfold fl_dr
    by_cases q : spa = 0
    · rw [if_pos q]
    · rw [if_neg q]
      by_cases w : tmp ≤ hot - spa
      · rw [if_pos w]
      · rw [if_neg w, Int32.zero_mul, Int32.zero_div]
  unfold fl_A
  rw [d, if_neg (by rw [Int32.lt_iff_toInt_lt, e, z]; omega)]
