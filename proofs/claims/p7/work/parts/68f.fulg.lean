/-- the class's cell behind a current -/
theorem fl_Fc {E FD HT CO AM i : Int32} {n : Nat} {cv F : Nat → Int32} {chg1 lft1 cap1 thr1 pz1 tmp1 het1 cun1 vol1 : Int32} {cin cou ein eou cin1 cou1 ein1 eou1 : Int64}
    (hn : 2 ≤ n ∧ n ≤ 11) (ht : 1 ≤ (F 15).toInt) (hf : 1 ≤ FD.toInt) (hh : 1 ≤ HT.toInt) (hC : 1 ≤ (fl_W (F 12) (F 7) FD (F 18) i).toInt) (hQ : 0 ≤ (fl_Q (F 12) E (F 6) (F 16) i).toInt)
    (h : a_X0_passCurrent (Int32.ofNat n) (F 12) (F 13) (F 14) (F 15) (F 6) (F 16) (F 7) (F 18) (F 8) (F 9) (F 17) cv cin cou ein eou E FD HT CO AM i chg1 lft1 cap1 thr1 pz1 tmp1 het1 cun1 vol1 cin1 cou1 ein1 eou1) :
    (chg1 = fl_F E FD HT CO AM cv (Int32.ofNat n) i F 6 ∧ lft1 = fl_F E FD HT CO AM cv (Int32.ofNat n) i F 16 ∧ cap1 = fl_F E FD HT CO AM cv (Int32.ofNat n) i F 7 ∧ thr1 = fl_F E FD HT CO AM cv (Int32.ofNat n) i F 18 ∧ pz1 = fl_F E FD HT CO AM cv (Int32.ofNat n) i F 8 ∧ tmp1 = fl_F E FD HT CO AM cv (Int32.ofNat n) i F 9 ∧ het1 = fl_F E FD HT CO AM cv (Int32.ofNat n) i F 17 ∧ cun1 = fl_F E FD HT CO AM cv (Int32.ofNat n) i F 4 ∧ vol1 = fl_F E FD HT CO AM cv (Int32.ofNat n) i F 5) ∧
    cin1 = (if i ≤ 0 then cin else cin + i.toInt64) ∧ cou1 = (if i ≤ 0 then cou - i.toInt64 else cou) ∧ ein1 = (if i ≤ 0 then ein else ein + i.toInt64 * vol1.toInt64) ∧ eou1 = (if i ≤ 0 then eou + (- i.toInt64) * vol1.toInt64 else eou) := sorry
/-- warnings -/
def fl_wr (vol tmp lo hi ho : Int32) : Int32 := if vol ≤ hi then if lo ≤ vol then if tmp ≤ ho then 0 else 3 else 2 else 1
def fl_wc (r wfo wct : Int32) : Int32 := if r = 0 ∨ r = wfo then wct else wct + 1
theorem fl_wa {idx tmp vol wfo wct tim wlo whi who llim lwid lold lsiz wfo1 wct1 : Int32} {fln : Nat → Int32} (h : a_X1_warn idx tmp vol wfo wct tim wlo whi who llim lwid lold lsiz fln wfo1 wct1) : wfo1 = fl_wr vol tmp wlo whi who ∧ wct1 = fl_wc (fl_wr vol tmp wlo whi who) wfo wct := sorry
theorem fl_wm {f : Nat → Int32} {c r : Int32} (h : q_X11_warningNow f c r) : r = fl_wr (rf_of f c 5) (rf_of f c 9) (f 13) (f 14) (f 15) := sorry
/-- the log lies beside all that is told here -/
theorem fl_kpo {c : Int32} {f g : Nat → Int32} (h : q_kp 718 17 f g) : fl_out c f g := sorry
theorem fl_kpr {c : Int32} {f g : Nat → Int32} (hc : 0 ≤ c.toInt ∧ c.toInt < 6) (h : q_kp 718 17 f g) {J : Nat} (hJ : J < 54) : rf_of g c J = rf_of f c J := sorry
def fl_rec (f g : Nat → Int32) : Prop := ∀ j : Nat, ((568 ≤ j ∧ j < 718) ∨ j = 12) → g j = f j
theorem fl_recr {f : Nat → Int32} : fl_rec f f := sorry
theorem fl_rect {f g h : Nat → Int32} (a : fl_rec f g) (b : fl_rec g h) : fl_rec f h := sorry
theorem fl_recu {f : Nat → Int32} {c v : Int32} {a : Nat} (hc : 0 ≤ c.toInt ∧ c.toInt < 6) (h : a < 54) : fl_rec f (upd f (244 + 54 * c.toInt.toNat + a) v) := sorry
theorem fl_reck {f g : Nat → Int32} (h : q_kp 718 17 f g) : fl_rec f g := sorry
theorem fl_ws {f f1 : Nat → Int32} {c : Int32} (hc : 0 ≤ c.toInt ∧ c.toInt < 6) (h : q_X11_warns f c f1) : (∀ J : Nat, J < 54 → rf_of f1 c J = upd (upd (rf_of f c) 36 (fl_wc (fl_wr (rf_of f c 5) (rf_of f c 9) (f 13) (f 14) (f 15)) (rf_of f c 37) (rf_of f c 36))) 37 (fl_wr (rf_of f c 5) (rf_of f c 9) (f 13) (f 14) (f 15)) J) ∧ fl_out c f f1 ∧ fl_rec f f1 := sorry
/-- does the step end, does the channel trip -/
def fl_ov (kd a b las chg cun vol : Int32) : Bool := if kd = 0 then decide (¬ vol < b) else if kd = 1 then decide (¬ b < cun) else if kd = 2 then decide (vol ≤ b ∨ chg = 0) else decide (¬ las < a)
def fl_tr (las tmp vol low hig hot : Int32) (o : Bool) : Int32 := if vol ≤ hig then if low ≤ vol then if tmp ≤ hot then if las < 20000 then 0 else if o = true then 0 else 4 else 3 else 2 else 1
theorem fl_ova {prg stp las chg cun vol r : Int32} {fk ff fs : Nat → Int32} {P S : Nat} (hp : prg.toInt = P) (hs : stp.toInt = S) (hP : P < 4) (hS : S < 12) (h : a_X1_stepEnds prg stp las chg cun vol fk ff fs r) : r = if fl_ov (fk (12 * P + S)) (ff (12 * P + S)) (fs (12 * P + S)) las chg cun vol = true then 1 else 0 := sorry
theorem fl_ovm {f : Nat → Int32} {c r : Int32} (h : q_X11_isOver f c r) : r = if fl_ov (rf_st3 f c 0) (rf_st3 f c 1) (rf_st3 f c 2) (rf_of f c 3) (rf_of f c 6) (rf_of f c 4) (rf_of f c 5) = true then 1 else 0 := sorry
