/-- the current that holds a voltage -/
def fl_h (held rest pz ohm : Int32) : Int32 := if 0 < (if (((held - rest) - pz) * 1000) / ohm < 5000 then (((held - rest) - pz) * 1000) / ohm else 5000) then (if (((held - rest) - pz) * 1000) / ohm < 5000 then (((held - rest) - pz) * 1000) / ohm else 5000) else 0
theorem fl_hb {held rest pz ohm : Int32} : 0 ≤ (fl_h held rest pz ohm).toInt ∧ (fl_h held rest pz ohm).toInt ≤ 5000 := sorry
theorem fl_hc {held rest pz ohm r : Int32} {d : Int64} (ho : 1 ≤ ohm.toInt) (h1 : 0 ≤ held.toInt ∧ held.toInt ≤ 5000) (h2 : -205000 ≤ rest.toInt ∧ rest.toInt ≤ 210000) (h3 : -2500 ≤ pz.toInt ∧ pz.toInt ≤ 2500) (hd : a_X10_quotient (((held.toInt64 - rest.toInt64) - pz.toInt64) * 1000) ohm.toInt64 d) (h : r = (if (if 5000 < d then 5000 else d) < 0 then 0 else (if 5000 < d then 5000 else d)).toInt32) : r = fl_h held rest pz ohm := sorry
/-! a channel's row -/
theorem fl_ofu {f : Nat → Int32} {c v : Int32} {a : Nat} : rf_of (upd f (244 + 54 * c.toInt.toNat + a) v) c = upd (rf_of f c) a v := sorry
/-- all but this channel, the records and the log is the same -/
def fl_out (c : Int32) (f g : Nat → Int32) : Prop := ∀ j : Nat, j < 568 → j ≠ 12 → j ≠ 17 → (j < 244 + 54 * c.toInt.toNat ∨ 244 + 54 * c.toInt.toNat + 54 ≤ j) → g j = f j
theorem fl_outr {c : Int32} {f : Nat → Int32} : fl_out c f f := sorry
theorem fl_outt {c : Int32} {f g h : Nat → Int32} (a : fl_out c f g) (b : fl_out c g h) : fl_out c f h := sorry
theorem fl_outu {c v : Int32} {f : Nat → Int32} {a : Nat} (h : a < 54) : fl_out c f (upd f (244 + 54 * c.toInt.toNat + a) v) := sorry
/-- the numbers that a tick reads beside the channel's own -/
def fl_sm (f g : Nat → Int32) : Prop := ∀ j : Nat, j < 244 → j ≠ 12 → j ≠ 17 → g j = f j
theorem fl_outs {c : Int32} {f g : Nat → Int32} (h : fl_out c f g) : fl_sm f g := sorry
/-- what a current does to a channel's row -/
def fl_F (E FD HT CO AM : Int32) (cv : Nat → Int32) (n i : Int32) (F : Nat → Int32) : Nat → Int32 :=
  upd (upd (upd (upd (upd (upd (upd (upd (upd F 8 (fl_P (F 14) (F 15) (F 8) i)) 6 (fl_Q (F 12) E (F 6) (F 16) i)) 16 (fl_L E (F 16) i)) 7 (fl_W (F 12) (F 7) FD (F 18) i)) 18 (fl_H FD (F 18) i)) 9 ((F 9) + ((((F 17) + ((((i * i) / 1000) * (F 13)) / 1000)) - (((F 9) - AM) * CO)) / HT))) 17 ((((F 17) + ((((i * i) / 1000) * (F 13)) / 1000)) - (((F 9) - AM) * CO)) - (((((F 17) + ((((i * i) / 1000) * (F 13)) / 1000)) - (((F 9) - AM) * CO)) / HT) * HT))) 4 i) 5
    (((fl_V cv n (fl_W (F 12) (F 7) FD (F 18) i) (fl_Q (F 12) E (F 6) (F 16) i)) + ((i * (F 13)) / 1000)) + fl_P (F 14) (F 15) (F 8) i)
/-- what is known of a channel that a tick passes -/
def fl_ok (f : Nat → Int32) (c : Int32) (n v : Nat) : Prop := ((0 ≤ c.toInt ∧ c.toInt < 6) ∧ (rf_of f c 11 = Int32.ofNat v ∧ v < 4) ∧ (f (27 + 19 * v) = Int32.ofNat n ∧ 2 ≤ n ∧ n ≤ 11)) ∧
  ((100 ≤ (rf_of f c 12).toInt ∧ (rf_of f c 12).toInt ≤ 100000) ∧ (1 ≤ (rf_of f c 13).toInt ∧ (rf_of f c 13).toInt ≤ 500) ∧ (0 ≤ (rf_of f c 14).toInt ∧ (rf_of f c 14).toInt ≤ 500) ∧ (1 ≤ (rf_of f c 15).toInt ∧ (rf_of f c 15).toInt ≤ 200)) ∧
  ((0 ≤ (rf_of f c 6).toInt ∧ (rf_of f c 6).toInt ≤ 2 * (rf_of f c 12).toInt) ∧ ((rf_of f c 12).toInt / 2 ≤ (rf_of f c 7).toInt ∧ (rf_of f c 7).toInt ≤ (rf_of f c 12).toInt) ∧ (0 ≤ (rf_of f c 16).toInt ∧ (rf_of f c 16).toInt ≤ 999) ∧ (0 ≤ (rf_of f c 18).toInt ∧ (rf_of f c 18).toInt ≤ 1000000) ∧ (-2500 ≤ (rf_of f c 8).toInt ∧ (rf_of f c 8).toInt ≤ 2500)) ∧
  ((0 ≤ (f 0).toInt ∧ (f 0).toInt ≤ 1000) ∧ (1 ≤ (f 1).toInt ∧ (f 1).toInt ≤ 1000000) ∧ 1 ≤ (f 2).toInt ∧ (0 ≤ (f 6).toInt ∧ (f 6).toInt ≤ 1000) ∧ (0 ≤ (f 16).toInt ∧ (f 16).toInt ≤ 200)) ∧ ∀ j : Nat, j < n → 0 ≤ (f (28 + 19 * v + j)).toInt ∧ (f (28 + 19 * v + j)).toInt ≤ 5000
/-- the sums behind a current -/
def fl_S (k : Nat) (i V : Int32) (su t : Nat → Int64) : Prop :=
  t (7 * k + 0) = (if i ≤ 0 then su (7 * k + 0) else su (7 * k + 0) + i.toInt64) ∧ t (7 * k + 1) = (if i ≤ 0 then su (7 * k + 1) - i.toInt64 else su (7 * k + 1)) ∧
  t (7 * k + 2) = (if i ≤ 0 then su (7 * k + 2) else su (7 * k + 2) + i.toInt64 * V.toInt64) ∧ t (7 * k + 3) = (if i ≤ 0 then su (7 * k + 3) + (- i.toInt64) * V.toInt64 else su (7 * k + 3)) ∧
  t (7 * k + 4) = (if i ≤ 0 then su (7 * k + 4) else su (7 * k + 4) + i.toInt64) ∧ t (7 * k + 5) = (if i ≤ 0 then su (7 * k + 5) - i.toInt64 else su (7 * k + 5)) ∧ t (7 * k + 6) = su (7 * k + 6) ∧
  ∀ j : Nat, (j < 7 * k ∨ 7 * k + 7 ≤ j) → t j = su j
theorem fl_Tn {thr i : Int32} (h0 : 0 ≤ thr.toInt ∧ thr.toInt ≤ 1000000) (hi : -5000 ≤ i.toInt ∧ i.toInt ≤ 5000) : 0 ≤ (fl_T thr i).toInt := sorry
/-- the charge stays in its range, the present capacity too -/
theorem fl_Qb {nom efc chg lft i : Int32} (hn : 100 ≤ nom.toInt ∧ nom.toInt ≤ 100000) (he : 0 ≤ efc.toInt ∧ efc.toInt ≤ 1000) (hq : 0 ≤ chg.toInt ∧ chg.toInt ≤ 2 * nom.toInt) (hl : 0 ≤ lft.toInt ∧ lft.toInt ≤ 999) (hi : -5000 ≤ i.toInt ∧ i.toInt ≤ 5000) (h : -chg.toInt ≤ i.toInt) : 0 ≤ (fl_Q nom efc chg lft i).toInt ∧ (fl_Q nom efc chg lft i).toInt ≤ 2 * nom.toInt := sorry
