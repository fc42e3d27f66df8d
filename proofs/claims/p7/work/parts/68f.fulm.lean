/-! how full, and what is counted of it -/
def fl_pm (chg cap : Int32) : Int32 := ((1000 * chg.toInt64) / cap.toInt64).toInt32
def fl_bi (p : Int32) : Int32 := if 9 < p / 100 then 9 else p / 100
theorem fl_pmc {chg cap r : Int32} (hC : 1 ≤ cap.toInt) (h : a_X0_thousandths chg cap r) : r = fl_pm chg cap := sorry
theorem fl_pmm {f : Nat → Int32} {c r : Int32} (h : q_X11_filled f c r) : r = fl_pm (rf_of f c 6) (rf_of f c 7) := sorry
theorem fl_pmb {chg cap : Int32} (hC : 1 ≤ cap.toInt) (hq : 0 ≤ chg.toInt ∧ chg.toInt ≤ 1000000) : 0 ≤ (fl_pm chg cap).toInt := sorry
theorem fl_bib {p : Int32} (h : 0 ≤ p.toInt) : 0 ≤ (fl_bi p).toInt ∧ (fl_bi p).toInt ≤ 9 := sorry
theorem fl_b44 {p : Int32} (h : 0 ≤ p.toInt) : (44 + (if (p / 100) < 9 then (p / 100) else 9)).toInt.toNat = 44 + (fl_bi p).toInt.toNat := sorry
theorem fl_at10 {b : Nat → Int32} {i r : Int32} {K : Nat} (hi : i.toInt = K) (hK : K < 10) (h : a_X10_at_10 b i r) : r = b K := sorry
theorem fl_p10 {b b1 : Nat → Int32} {i v : Int32} {K : Nat} (hi : i.toInt = K) (hK : K < 10) (h : a_X10_put_10 b i v b1) : b1 = upd b K v := sorry
theorem fl_cf {fbd fbd1 : Nat → Int32} {p : Int32} (hp : 0 ≤ p.toInt) (h : a_X4_countFilling fbd p fbd1) : fbd1 = upd fbd (fl_bi p).toInt.toNat (fbd (fl_bi p).toInt.toNat + 1) := sorry
/-! the current that is asked for -/
def fl_w (k a rest pz ohm : Int32) : Int32 := if k = 0 then a else if k = 1 then fl_h a rest pz ohm else if k = 2 then - a else 0
theorem fl_wmm {f : Nat → Int32} {c r : Int32} {n v : Nat} (ok : fl_ok f c n v) (hk : rf_st3 f c 0 = 0 ∨ rf_st3 f c 0 = 1 ∨ rf_st3 f c 0 = 2 ∨ rf_st3 f c 0 = 3) (h : q_X11_wantedOf f c r) : r = fl_w (rf_st3 f c 0) (rf_st3 f c 1) (fl_V (fun j => f (28 + 19 * v + j)) (Int32.ofNat n) (rf_of f c 7) (rf_of f c 6)) (rf_of f c 8) (rf_of f c 13) := sorry
theorem fl_wcc {sta prg stp pts ohm chg cap pz r : Int32} {cv fk ff : Nat → Int32} {P S n : Nat} (hp : prg.toInt = P) (hs : stp.toInt = S) (hP : P < 4) (hS : S < 12) (hr : sta = 1) (hn : pts = Int32.ofNat n) (hn2 : 2 ≤ n ∧ n ≤ 11) (hC : 50 ≤ cap.toInt ∧ cap.toInt ≤ 100000) (hq : 0 ≤ chg.toInt ∧ chg.toInt ≤ 4 * cap.toInt + 2) (hz : -2500 ≤ pz.toInt ∧ pz.toInt ≤ 2500) (ho : 1 ≤ ohm.toInt) (hv : ∀ j : Nat, j < n → 0 ≤ (cv j).toInt ∧ (cv j).toInt ≤ 5000) (ha : 0 ≤ (ff (12 * P + S)).toInt ∧ (ff (12 * P + S)).toInt ≤ 5000) (h : a_X1_wantedCurrent sta prg stp pts ohm chg cap pz cv fk ff r) : r = fl_w (fk (12 * P + S)) (ff (12 * P + S)) (fl_V cv pts cap chg) pz ohm := sorry
theorem fl_wb {k a rest pz ohm : Int32} (ha : 0 ≤ a.toInt ∧ a.toInt ≤ 5000) : -5000 ≤ (fl_w k a rest pz ohm).toInt ∧ (fl_w k a rest pz ohm).toInt ≤ 5000 := sorry
theorem fl_w0 {sta prg stp pts ohm chg cap pz r : Int32} {cv fk ff : Nat → Int32} (hr : ¬ sta = 1) (h : a_X1_wantedCurrent sta prg stp pts ohm chg cap pz cv fk ff r) : r = 0 := sorry
theorem fl_A0 {spa hot tmp chg : Int32} (hs : 0 ≤ spa.toInt) (hc : 0 ≤ chg.toInt) : fl_A spa hot tmp chg 0 = 0 := sorry
