/-- which piece of a curve, and the rest voltage -/
def fl_K (pts C q : Int32) : Int32 := (if (pts - 2).toInt64 < (q.toInt64 * ((pts - 1).toInt64)) / C.toInt64 then (pts - 2).toInt64 else (q.toInt64 * ((pts - 1).toInt64)) / C.toInt64).toInt32
def fl_V (cv : Nat → Int32) (pts C q : Int32) : Int32 := cv (fl_K pts C q).toInt.toNat + ((((cv ((fl_K pts C q).toInt.toNat + 1) - cv (fl_K pts C q).toInt.toNat).toInt64) * ((q.toInt64 * ((pts - 1).toInt64)) - ((fl_K pts C q).toInt64 * C.toInt64))) / C.toInt64).toInt32
theorem fl_on {n : Nat} (h : n < 2147483648) : (Int32.ofNat n).toInt = n := sorry
theorem fl_Kr {n : Nat} {pts C q : Int32} (hp : pts = Int32.ofNat n) (hn : 2 ≤ n ∧ n ≤ 11) (hC : 1 ≤ C.toInt) (hq : 0 ≤ q.toInt) : (pts - 1).toInt = n - 1 ∧ (pts - 2).toInt = n - 2 ∧ 0 ≤ (fl_K pts C q).toInt ∧ (fl_K pts C q).toInt ≤ n - 2 ∧ (fl_K pts C q).toInt ≤ (q.toInt * (n - 1)) / C.toInt := sorry
theorem fl_at {b : Nat → Int32} {i r : Int32} {K : Nat} (hi : i.toInt = K) (hK : K < 11) (h : a_X10_at_11 b i r) : r = b K := sorry
theorem fl_Rc {cv : Nat → Int32} {n : Nat} {pts C q r : Int32} (hp : pts = Int32.ofNat n) (hn : 2 ≤ n ∧ n ≤ 11) (hC : 1 ≤ C.toInt) (hq : 0 ≤ q.toInt) (h : a_X0_restVoltageAt pts C cv q r) : r = fl_V cv pts C q := sorry
theorem fl_vol {f : Nat → Int32} {u k r : Int32} {v K : Nat} (hu : u = Int32.ofNat v) (hv : v < 4) (hk : k.toInt = K) (hK : K ≤ 10) (h : q_X11_volts f u k r) : r = f (28 + 19 * v + K) := sorry
theorem fl_Rm {f : Nat → Int32} {n v : Nat} {c q r : Int32} (hv : rf_of f c 11 = Int32.ofNat v) (hv4 : v < 4) (hp : f (27 + 19 * v) = Int32.ofNat n) (hn : 2 ≤ n ∧ n ≤ 11) (hC : 1 ≤ (rf_of f c 7).toInt) (hq : 0 ≤ q.toInt) (h : q_X11_restAt f c q r) : r = fl_V (fun j => f (28 + 19 * v + j)) (Int32.ofNat n) (rf_of f c 7) q := sorry
theorem fl_Vx {a b : Nat → Int32} {n : Nat} {C q : Int32} (hn : 2 ≤ n ∧ n ≤ 11) (hC : 1 ≤ C.toInt) (hq : 0 ≤ q.toInt) (h : ∀ j : Nat, j < n → a j = b j) : fl_V a (Int32.ofNat n) C q = fl_V b (Int32.ofNat n) C q := sorry
/-- how great it can be -/
theorem fl_Vb {a : Nat → Int32} {n : Nat} {C q : Int32} (hn : 2 ≤ n ∧ n ≤ 11) (hC : 50 ≤ C.toInt) (hq : 0 ≤ q.toInt ∧ q.toInt ≤ 4 * C.toInt + 2) (hC2 : C.toInt ≤ 100000) (h : ∀ j : Nat, j < n → 0 ≤ (a j).toInt ∧ (a j).toInt ≤ 5000) : -205000 ≤ (fl_V a (Int32.ofNat n) C q).toInt ∧ (fl_V a (Int32.ofNat n) C q).toInt ≤ 210000 := sorry
