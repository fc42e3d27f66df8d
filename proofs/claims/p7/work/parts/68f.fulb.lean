theorem fl_Mm {f f1 : Nat → Int32} {su t : Nat → Int64} {c i : Int32} (hc : 0 ≤ c.toInt ∧ c.toInt < 6) (hi : i.toInt ≠ -2 ^ 31) (h : q_X11_moves f su c i f1 t) : f1 = upd (upd f (244 + 54 * c.toInt.toNat + 6) (fl_Q (rf_of f c 12) (f 0) (rf_of f c 6) (rf_of f c 16) i)) (244 + 54 * c.toInt.toNat + 16) (fl_L (f 0) (rf_of f c 16) i)
    ∧ ∀ j : Nat, t j = if j = 7 * c.toInt.toNat + 0 ∨ j = 7 * c.toInt.toNat + 4 then (if i ≤ 0 then su j else su j + i.toInt64) else if j = 7 * c.toInt.toNat + 1 ∨ j = 7 * c.toInt.toNat + 5 then (if i ≤ 0 then su j - i.toInt64 else su j) else su j := sorry
theorem fl_r {a b : Int32} (hb : 1 ≤ b.toInt) : (a.toInt64 - ((a.toInt64 / b.toInt64) * b.toInt64)).toInt32 = a - ((a / b) * b) := sorry
/-- what goes through, and what it leaves -/
def fl_T (thr i : Int32) : Int32 := thr + (if 0 ≤ i then i else -i)
def fl_W (nom cap fad thr i : Int32) : Int32 := if (cap - fl_T thr i / fad) < (nom / 2) then (nom / 2) else (cap - fl_T thr i / fad)
def fl_H (fad thr i : Int32) : Int32 := fl_T thr i - ((fl_T thr i / fad) * fad)
theorem fl_Wc {nom cap thr fad i cap1 thr1 : Int32} (hf : 1 ≤ fad.toInt) (h : a_X0_wear nom cap thr fad i cap1 thr1) : cap1 = fl_W nom cap fad thr i ∧ thr1 = fl_H fad thr i := sorry
theorem fl_fd {fd h2 : Int32} (hf : 1 ≤ fd.toInt) (hh : 0 ≤ h2.toInt) : ∀ (n : Nat) {t p t1 p1 : Int32}, 0 ≤ t.toInt → h2.toInt ≤ p.toInt → q_fd fd h2 n t p t1 p1 → t1.toInt = t.toInt - n * fd.toInt ∧ 0 ≤ t1.toInt ∧ p1.toInt = (if p.toInt - n < h2.toInt then h2.toInt else p.toInt - n) := sorry
theorem fl_Wm {f f1 : Nat → Int32} {c i : Int32} (hf : 1 ≤ (f 1).toInt) (ht : 0 ≤ (fl_T (rf_of f c 18) i).toInt) (h0 : 0 ≤ (rf_of f c 12).toInt) (hp : (rf_of f c 12).toInt / 2 ≤ (rf_of f c 7).toInt) (h : q_X11_fades f c i f1) : f1 = upd (upd f (244 + 54 * c.toInt.toNat + 7) (fl_W (rf_of f c 12) (rf_of f c 7) (f 1) (rf_of f c 18) i)) (244 + 54 * c.toInt.toNat + 18) (fl_H (f 1) (rf_of f c 18) i) := sorry
