theorem sd_Wsi {W V : fw_W} {j : Nat} {v : Int32} (h : sd_W W V) (hj : j = 8 ∨ j = 12 ∨ 17 ≤ j) : sd_W W (fw_si V j v) := sorry
theorem sd_Wwr {W V : fw_W} {j : Nat} {g : Nat → Int32} (h : sd_W W V) (hj : 6 ≤ j) : sd_W W (fw_wr V j g) := sorry
theorem sd_Csi {c d : fw_C} {j : Nat} {v : Int32} (h : sd_C c d) (hj : j < 11 ∨ 15 < j) : sd_C c (fw_si d j v) := sorry
theorem sd_Csl {c d : fw_C} {j : Nat} {v : Int64} (h : sd_C c d) : sd_C c (fw_sl d j v) := sorry
theorem sd_Csr {c d : fw_C} {j : Nat} {g : Nat → Int32} (h : sd_C c d) (hj : j ≠ 2) : sd_C c (fw_sr d j g) := sorry
theorem d_pause {qa : fw_C} {r : Int32} {qa1 : fw_C} (h : t_pause qa r qa1) : sd_C qa qa1 := sorry
theorem d_resume {qa : fw_C} {r : Int32} {qa1 : fw_C} (h : t_resume qa r qa1) : sd_C qa qa1 := sorry
theorem d_stop {qa : fw_C} {r : Int32} {qa1 : fw_C} (h : t_stop qa r qa1) : sd_C qa qa1 := sorry
theorem d_dequeue {qa : fw_C} {r : Int32} {qa1 : fw_C} (h : t_dequeue qa r qa1) : sd_C qa qa1 := sorry
theorem d_skip {p1 : Int32} {va : fw_W} {qa : fw_C} {r : Int32} {va1 : fw_W} {qa1 : fw_C} (h : t_skip p1 va qa r va1 qa1) : sd_W va va1 ∧ sd_C qa qa1 := sorry
theorem d_startNext {p1 : Int32} {va : fw_W} {qa : fw_C} {r : Int32} {va1 : fw_W} {qa1 : fw_C} (h : t_startNext p1 va qa r va1 qa1) : sd_W va va1 ∧ sd_C qa qa1 := sorry
theorem d_replace {p1 : Int32} {p2 : Int32} {va : fw_W} {qa : fw_C} {r : Int32} {va1 : fw_W} {qa1 : fw_C} (h : t_replace p1 p2 va qa r va1 qa1) : sd_W va va1 ∧ sd_C qa qa1 := sorry
theorem d_enqueue {p2 : Int32} {va : fw_W} {qa : fw_C} {r : Int32} {qa1 : fw_C} (h : t_enqueue p2 va qa r qa1) : sd_C qa qa1 := sorry
theorem d_start {p1 : Int32} {p2 : Int32} {va : fw_W} {xa : Nat → fw_C} {r : Int32} {va1 : fw_W} {xa1 : Nat → fw_C} (h : t_start p1 p2 va xa r va1 xa1) : sd_W va va1 ∧ ∀ n9 : Nat, sd_X n9 xa xa1 := sorry
theorem d_tick {k : Nat} {qa : fw_C} {va : fw_W} {r : Int32} {qa1 : fw_C} {va1 : fw_W} (h : t_tick k qa va r qa1 va1) : sd_W va va1 ∧ sd_C qa qa1 := sorry
theorem d_cs : ∀ (n : Nat) {x x1 : Nat → fw_C} {W W1 : fw_W} {e e1 : Int32}, fw_cs n x W e x1 W1 e1 → sd_W W W1 ∧ ∀ m : Nat, sd_X m x x1 := sorry
theorem d_as : ∀ (n : Nat) {x x1 : Nat → fw_C} {W W1 : fw_W} {e e1 : Int32}, fw_as n x W e x1 W1 e1 → sd_W W W1 ∧ ∀ m : Nat, sd_X m x x1 := sorry
theorem d_advance {p1 : Int32} {va : fw_W} {xa : Nat → fw_C} {r : Int32} {va1 : fw_W} {xa1 : Nat → fw_C} (h : t_advance p1 va xa r va1 xa1) : sd_W va va1 ∧ ∀ m : Nat, sd_X m xa xa1 := sorry
