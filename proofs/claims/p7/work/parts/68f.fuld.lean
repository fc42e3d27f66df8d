/-- the current that is left of the one that is wanted -/
def fl_dr (spa hot tmp w : Int32) : Int32 := if spa = 0 then w else if tmp ≤ hot - spa then w else (w * (if 0 < hot - tmp then hot - tmp else 0)) / spa
def fl_A (spa hot tmp chg w : Int32) : Int32 := if fl_dr spa hot tmp w < -chg then -chg else fl_dr spa hot tmp w
theorem fl_i0 {x : Int32} (h : ¬ x = 0) : x.toInt ≠ 0 := sorry
theorem fl_rm {spa hot tmp : Int32} (hs : 0 ≤ spa.toInt ∧ spa.toInt ≤ 200) (hh : 0 ≤ hot.toInt ∧ hot.toInt ≤ 1000) (h : ¬ tmp ≤ hot - spa) : 0 ≤ (if 0 < hot - tmp then hot - tmp else 0).toInt ∧ (if 0 < hot - tmp then hot - tmp else 0).toInt < spa.toInt + (if spa.toInt = 0 then 1 else 0) := sorry
theorem fl_mu {w m : Int32} (hw : -5000 ≤ w.toInt ∧ w.toInt ≤ 5000) (hm : 0 ≤ m.toInt ∧ m.toInt ≤ 200) : (w * m).toInt = w.toInt * m.toInt ∧ -(5000 * m.toInt) ≤ w.toInt * m.toInt ∧ w.toInt * m.toInt ≤ 5000 * m.toInt := sorry
theorem fl_drb {spa hot tmp w : Int32} (hw : -5000 ≤ w.toInt ∧ w.toInt ≤ 5000) (hs : 0 ≤ spa.toInt ∧ spa.toInt ≤ 200) (hh : 0 ≤ hot.toInt ∧ hot.toInt ≤ 1000) : -5000 ≤ (fl_dr spa hot tmp w).toInt ∧ (fl_dr spa hot tmp w).toInt ≤ 5000 := sorry
theorem fl_Ab {spa hot tmp chg w : Int32} (hw : -5000 ≤ w.toInt ∧ w.toInt ≤ 5000) (hs : 0 ≤ spa.toInt ∧ spa.toInt ≤ 200) (hh : 0 ≤ hot.toInt ∧ hot.toInt ≤ 1000) (hc : 0 ≤ chg.toInt) : -5000 ≤ (fl_A spa hot tmp chg w).toInt ∧ (fl_A spa hot tmp chg w).toInt ≤ 5000 ∧ -chg.toInt ≤ (fl_A spa hot tmp chg w).toInt := sorry
theorem fl_Ae {chg x r : Int32} (hx : -5000 ≤ x.toInt ∧ x.toInt ≤ 5000) (hc : 0 ≤ chg.toInt) (h : (0 ≤ x ∧ r = x) ∨ (¬ 0 ≤ x ∧ (((- x) ≤ chg ∧ r = x) ∨ (¬ (- x) ≤ chg ∧ r = (- chg))))) : r = if x < -chg then -chg else x := sorry
theorem fl_Ac {spa hot tmp chg w r : Int32} (hw : -5000 ≤ w.toInt ∧ w.toInt ≤ 5000) (hs : 0 ≤ spa.toInt ∧ spa.toInt ≤ 200) (hh : 0 ≤ hot.toInt ∧ hot.toInt ≤ 1000) (hc : 0 ≤ chg.toInt) (h : a_X0_allowed chg tmp hot spa w r) : r = fl_A spa hot tmp chg w := sorry
theorem fl_Am {f : Nat → Int32} {c w r : Int32} (hr : rf_of f c 0 = 1) (hw : q_X11_wantedOf f c w) (hu : ∀ v : Int32, q_X11_wantedOf f c v → v = w) (h : q_X11_currentOf f c r) : r = fl_A (f 16) (f 6) (rf_of f c 9) (rf_of f c 6) w := sorry
theorem fl_48 {b : Nat → Int32} {p s r : Int32} {P S : Nat} (hp : p.toInt = P) (hs : s.toInt = S) (hP : P < 4) (hS : S < 12) (h : a_X10_at_48 b ((p * 12) + s) r) : r = b (12 * P + S) := sorry
theorem fl_kd {b : Nat → Int32} {p s r : Int32} {P S : Nat} (hp : p.toInt = P) (hs : s.toInt = S) (hP : P < 4) (hS : S < 12) (h : a_X5_kindOf b p s r) : r = b (12 * P + S) := sorry
theorem fl_fs {b : Nat → Int32} {p s r : Int32} {P S : Nat} (hp : p.toInt = P) (hs : s.toInt = S) (hP : P < 4) (hS : S < 12) (h : a_X5_firstOf b p s r) : r = b (12 * P + S) := sorry
theorem fl_sc {b : Nat → Int32} {p s r : Int32} {P S : Nat} (hp : p.toInt = P) (hs : s.toInt = S) (hP : P < 4) (hS : S < 12) (h : a_X5_secondOf b p s r) : r = b (12 * P + S) := sorry
theorem fl_so {b : Nat → Int32} {p r : Int32} {P : Nat} (hp : p.toInt = P) (hP : P < 4) (h : a_X5_stepsOf b p r) : r = b P := sorry
