/-! the reference's reader by value -/
theorem rm_rngN {v lo hi : Int64} (h : cm_rng v lo hi = 0) : ¬ (lo.toInt ≤ v.toInt ∧ v.toInt ≤ hi.toInt) := sorry
theorem rm_let {b : Nat → Int32} {n p : Int32} (h : ¬ cm_rng (rf_bt b n p).toInt64 97 122 = 0) : rp_let b n p = true := sorry
theorem rm_letN {b : Nat → Int32} {n p : Int32} (h : cm_rng (rf_bt b n p).toInt64 97 122 = 0) : ¬ rp_let b n p = true := sorry
theorem rm_dig {b : Nat → Int32} {n p : Int32} (h : ¬ cm_rng (rf_bt b n p).toInt64 48 57 = 0) : rp_dig b n p = true := sorry
theorem rm_digN {b : Nat → Int32} {n p : Int32} (h : cm_rng (rf_bt b n p).toInt64 48 57 = 0) : ¬ rp_dig b n p = true := sorry
theorem rm_spc {b : Nat → Int32} {n p : Int32} (h : rf_bt b n p = 32) : rp_spc b n p = true := sorry
theorem rm_spcN {b : Nat → Int32} {n p : Int32} (h : ¬ rf_bt b n p = 32) : ¬ rp_spc b n p = true := sorry
theorem rm_digB {b : Nat → Int32} {n p : Int32} (h : rp_dig b n p = true) : 48 ≤ (rf_bt b n p).toInt ∧ (rf_bt b n p).toInt ≤ 57 := sorry
/-- the reference's own sum -/
theorem rm_sum {v : Int64} {x : Int32} (hv : 0 ≤ v.toInt ∧ v.toInt ≤ 100000000) (hx : 48 ≤ x.toInt ∧ x.toInt ≤ 57) : (if (((10 * v) + x.toInt64) - 48) < (100000000 : Int64) then (((10 * v) + x.toInt64) - 48) else 100000000).toInt = min (10 * v.toInt + x.toInt - 48) 100000000 := sorry
/-- what a failing step leaves; what a statement that fails leaves -/
def rm_f (k p wk wr : Int32) : Prop := ¬ k = 0 ∧ wk = k ∧ wr = p
def rm_B (b : Nat → Int32) (n k p wk wr : Int32) : Prop := (¬ k = 0 ∧ wk = k ∧ wr = p) ∨ (k = 0 ∧ wk = 1 ∧ wr = rp_sk b n p ∧ ¬ rf_bt b n (rp_sk b n p) = 59 ∧ ¬ rf_bt b n (rp_sk b n p) = -1)
theorem rm_rd0 {b : Nat → Int32} {n p : Int32} {v : Int64} {lo hi : Int32} (hD : rp_dig b n (rp_sk b n p) = true) (hv : 0 ≤ v.toInt ∧ v.toInt ≤ 100000000) (h : ¬ cm_rng v lo.toInt64 hi.toInt64 = 0) {y : Int32} (he : rp_de b n (rp_sk b n p) = y ∧ rp_num b n (rp_sk b n p) 0 = v.toInt) : (rp_rk b n lo.toInt hi.toInt p = 0 ∧ y = rp_rp b n lo.toInt hi.toInt p) ∧ (lo.toInt ≤ v.toInt32.toInt ∧ v.toInt32.toInt ≤ hi.toInt) ∧ v.toInt32.toInt = rp_rv b n p := sorry
theorem rm_rd2 {b : Nat → Int32} {n p : Int32} {v : Int64} {lo hi : Int32} (hD : rp_dig b n (rp_sk b n p) = true) (h : cm_rng v lo.toInt64 hi.toInt64 = 0) (he : rp_num b n (rp_sk b n p) 0 = v.toInt) : rm_f (rp_rk b n lo.toInt hi.toInt p) (rp_rp b n lo.toInt hi.toInt p) 2 (rp_sk b n p) := sorry
theorem rm_rd1 {b : Nat → Int32} {n p : Int32} {lo hi : Int} (hD : ¬ rp_dig b n (rp_sk b n p) = true) : rm_f (rp_rk b n lo hi p) (rp_rp b n lo hi p) 1 (rp_sk b n p) := sorry
/-- two numbers in turn -/
theorem rm_d0 {b : Nat → Int32} {n p : Int32} {l1 h1 l2 h2 : Int} (k : rp_rk b n l1 h1 p = 0) : rp_dk b n l1 h1 l2 h2 p = rp_rk b n l2 h2 (rp_rp b n l1 h1 p) ∧ rp_dp b n l1 h1 l2 h2 p = rp_rp b n l2 h2 (rp_rp b n l1 h1 p) := sorry
theorem rm_d1 {b : Nat → Int32} {n p : Int32} {l1 h1 l2 h2 : Int} (k : ¬ rp_rk b n l1 h1 p = 0) : rp_dk b n l1 h1 l2 h2 p = rp_rk b n l1 h1 p ∧ rp_dp b n l1 h1 l2 h2 p = rp_rp b n l1 h1 p := sorry
theorem rm_f2 {b : Nat → Int32} {n p wk wr : Int32} {l1 h1 l2 h2 : Int} (f : rm_f (rp_rk b n l1 h1 p) (rp_rp b n l1 h1 p) wk wr) : rm_f (rp_dk b n l1 h1 l2 h2 p) (rp_dp b n l1 h1 l2 h2 p) wk wr := sorry
theorem rm_f3 {b : Nat → Int32} {n p wk wr : Int32} {l1 h1 l2 h2 : Int} (k : rp_rk b n l1 h1 p = 0) (f : rm_f (rp_rk b n l2 h2 (rp_rp b n l1 h1 p)) (rp_rp b n l2 h2 (rp_rp b n l1 h1 p)) wk wr) : rm_f (rp_dk b n l1 h1 l2 h2 p) (rp_dp b n l1 h1 l2 h2 p) wk wr := sorry
theorem rm_g3 {b : Nat → Int32} {n p : Int32} {l1 h1 l2 h2 : Int} (k : rp_rk b n l1 h1 p = 0) (k2 : rp_rk b n l2 h2 (rp_rp b n l1 h1 p) = 0) : rp_dk b n l1 h1 l2 h2 p = 0 ∧ rp_rp b n l2 h2 (rp_rp b n l1 h1 p) = rp_dp b n l1 h1 l2 h2 p := sorry
/-- one more behind something -/
theorem rm_k1 {k1 k2 p1 p2 wk wr : Int32} (f : rm_f k1 p1 wk wr) : rm_f (rp_k2 k1 k2) (rp_p2 k1 p1 p2) wk wr := sorry
theorem rm_k2 {k1 k2 p1 p2 wk wr : Int32} (k : k1 = 0) (f : rm_f k2 p2 wk wr) : rm_f (rp_k2 k1 k2) (rp_p2 k1 p1 p2) wk wr := sorry
theorem rm_k3 {k1 k2 p1 p2 : Int32} (k : k1 = 0) (h : k2 = 0) : rp_k2 k1 k2 = 0 ∧ p2 = rp_p2 k1 p1 p2 := sorry
theorem rm_fB {b : Nat → Int32} {n k p wk wr : Int32} (f : rm_f k p wk wr) : rm_B b n k p wk wr := sorry
theorem rm_fe {k k2 p p2 wk wr : Int32} (f : rm_f k p wk wr) (ek : k2 = k) (ep : p2 = p) : rm_f k2 p2 wk wr := sorry
/-- a letter or a digit is neither the sign between statements nor the end -/
theorem rm_letB {b : Nat → Int32} {n p : Int32} (h : rp_let b n p = true) : ¬ rf_bt b n p = 59 ∧ ¬ rf_bt b n p = -1 := sorry
theorem rm_digE {b : Nat → Int32} {n p : Int32} (h : rp_dig b n p = true) : ¬ rf_bt b n p = 59 ∧ ¬ rf_bt b n p = -1 := sorry
/-! names in the row -/
def rm_W (g : Nat → Int32) (i : Nat) (w : List Int32) : Prop := (g (20 + 19 * i)).toInt = w.length ∧ ∀ j : Nat, j < w.length → g (21 + 19 * i + j) = w.getD j 0
def rm_N (N : List (List Int32)) (g : Nat → Int32) : Prop := (g 11).toInt = N.length ∧ ∀ (i : Nat) (w : List Int32), N[i]? = some w → rm_W g i w ∧ 1 ≤ w.length ∧ w.length ≤ 6
theorem rm_N0 {g : Nat → Int32} (h : g 11 = 0) : rm_N [] g := sorry
theorem rm_Wk {g h : Nat → Int32} {i : Nat} {w : List Int32} (hl : w.length ≤ 6) (e : ∀ j : Nat, 20 + 19 * i ≤ j → j < 27 + 19 * i → h j = g j) (k : rm_W g i w) : rm_W h i w := sorry
theorem rm_Nk {g h : Nat → Int32} {N : List (List Int32)} (k : rm_N N g) (hN : N.length ≤ 4) (e11 : h 11 = g 11) (e : ∀ j : Nat, 20 ≤ j → j < 96 → h j = g j) : rm_N N h := sorry
theorem rm_Na {g h : Nat → Int32} {N : List (List Int32)} {w : List Int32} (k : rm_N N g) (hN : N.length < 4) (hw : rm_W h N.length w) (hl : 1 ≤ w.length ∧ w.length ≤ 6) (e11 : (h 11).toInt = (g 11).toInt + 1) (e : ∀ j : Nat, 20 ≤ j → j < 20 + 19 * N.length → h j = g j) : rm_N (N ++ [w]) h := sorry
/-- the word of m bytes at p -/
def rm_w (b : Nat → Int32) (p m : Int32) : List Int32 := (List.range m.toInt.toNat).map (fun i => b (p.toInt.toNat + i))
theorem rm_wl (b : Nat → Int32) (p m : Int32) : (rm_w b p m).length = m.toInt.toNat := sorry
theorem rm_wg {b : Nat → Int32} {p m : Int32} {i : Nat} (h : i < m.toInt.toNat) : (rm_w b p m).getD i 0 = b (p.toInt.toNat + i) := sorry
theorem rm_ww {b : Nat → Int32} {n p m : Int32} (h : m.toInt = (rp_we b n p).toInt - p.toInt) : rm_w b p m = rp_w b n p := sorry
theorem rm_weq {b : Nat → Int32} {p m : Int32} {w : List Int32} (hl : m.toInt.toNat = w.length) (h : ∀ i : Nat, i < w.length → b (p.toInt.toNat + i) = w.getD i 0) : rm_w b p m = w := sorry
theorem rm_wne {b : Nat → Int32} {p m : Int32} {w : List Int32} {i : Nat} (hi : i < w.length) (hm : i < m.toInt.toNat) (h : ¬ b (p.toInt.toNat + i) = w.getD i 0) : ¬ rm_w b p m = w := sorry
theorem rm_wnl {b : Nat → Int32} {p m : Int32} {w : List Int32} (h : ¬ m.toInt.toNat = w.length) : ¬ rm_w b p m = w := sorry
/-- is it this name: on the way, k letters in -/
def rm_is (b : Nat → Int32) (p m : Int32) (w : List Int32) (r k : Int32) : Prop := (r = 0 ∧ ¬ rm_w b p m = w) ∨ (r = 1 ∧ m.toInt = w.length ∧ ∀ j : Nat, (j : Int) < k.toInt → b (p.toInt.toNat + j) = w.getD j 0)
theorem rm_is1 {b : Nat → Int32} {p m : Int32} {w : List Int32} {g : Nat → Int32} {i : Nat} (hw : rm_W g i w) (h : g (20 + 19 * i) = m) : rm_is b p m w 1 0 := sorry
theorem rm_is0 {b : Nat → Int32} {p m : Int32} {w : List Int32} (h : ¬ m.toInt.toNat = w.length) : rm_is b p m w 0 0 := sorry
theorem rm_isy {b : Nat → Int32} {p m k : Int32} {w : List Int32} {r : Int32} (h : rm_is b p m w r k) (hr : ¬ r = 0) (hk : 0 ≤ k.toInt ∧ k.toInt < m.toInt ∧ k.toInt ≤ 1000) {x : Int32} (hx : x = b (p.toInt.toNat + k.toInt.toNat)) (e : w.getD k.toInt.toNat 0 = x) : rm_is b p m w 1 (k + Int32.ofInt 1) := sorry
theorem rm_isn {b : Nat → Int32} {p m k : Int32} {w : List Int32} {r : Int32} (h : rm_is b p m w r k) (hr : ¬ r = 0) (hk : 0 ≤ k.toInt ∧ k.toInt < m.toInt) {x : Int32} (hx : x = b (p.toInt.toNat + k.toInt.toNat)) (e : ¬ w.getD k.toInt.toNat 0 = x) {k2 : Int32} : rm_is b p m w 0 k2 := sorry
theorem rm_ise {b : Nat → Int32} {p m k : Int32} {w : List Int32} {r : Int32} (h : rm_is b p m w r k) (hk : r = 0 ∨ m.toInt ≤ k.toInt) : (r = 0 ∧ ¬ rm_w b p m = w) ∨ (r = 1 ∧ rm_w b p m = w) := sorry
/-- which name: on the way -/
def rm_nd (N : List (List Int32)) (w : List Int32) (r k : Int32) : Prop := (r = -1 ∧ ∀ (j : Nat) (x : List Int32), (j : Int) < k.toInt → N[j]? = some x → ¬ w = x) ∨ ((0 ≤ r.toInt ∧ r.toInt < N.length) ∧ w ∈ N)
theorem rm_nd0 {N : List (List Int32)} {w : List Int32} : rm_nd N w (-1) 0 := sorry
theorem rm_ndn {N : List (List Int32)} {w x : List Int32} {r k : Int32} (h : rm_nd N w r k) (hk : 0 ≤ k.toInt ∧ k.toInt ≤ 1000) (hx : N[k.toInt.toNat]? = some x) (hn : ¬ w = x) : rm_nd N w r (k + Int32.ofInt 1) := sorry
theorem rm_ndy {N : List (List Int32)} {w x : List Int32} {k k2 : Int32} (hk : 0 ≤ k.toInt) (hx : N[k.toInt.toNat]? = some x) (hn : w = x) : rm_nd N w k k2 := sorry
theorem rm_nde {N : List (List Int32)} {w : List Int32} {r k : Int32} (h : rm_nd N w r k) (hk : (N.length : Int) ≤ k.toInt) : (r = -1 ∧ ¬ w ∈ N) ∨ ((0 ≤ r.toInt ∧ r.toInt < N.length) ∧ w ∈ N) := sorry
theorem rm_nx {N : List (List Int32)} {g : Nat → Int32} {k : Int32} (h : rm_N N g) (h0 : 0 ≤ k.toInt) (hl : k.toInt < (g 11).toInt) : ∃ x : List Int32, N[k.toInt.toNat]? = some x ∧ rm_W g k.toInt.toNat x ∧ 1 ≤ x.length ∧ x.length ≤ 6 := sorry
theorem rm_m1 {r : Int32} {N : List (List Int32)} {w : List Int32} (h : (r = -1 ∧ ¬ w ∈ N) ∨ ((0 ≤ r.toInt ∧ r.toInt < N.length) ∧ w ∈ N)) (hr : r = -1) : ¬ w ∈ N := sorry
theorem rm_m2 {r : Int32} {N : List (List Int32)} {w : List Int32} (h : (r = -1 ∧ ¬ w ∈ N) ∨ ((0 ≤ r.toInt ∧ r.toInt < N.length) ∧ w ∈ N)) (hr : ¬ r = -1) : (0 ≤ r.toInt ∧ r.toInt < N.length) ∧ w ∈ N := sorry
/-- a new name at its place -/
def rp_nk (b : Nat → Int32) (n : Int32) (N : List (List Int32)) (q : Int32) : Int32 := if ¬ rp_let b n q = true then 1 else if 6 < (rp_w b n q).length ∨ rp_w b n q ∈ N then 3 else 0
theorem rm_nk1 {b : Nat → Int32} {n q : Int32} {N : List (List Int32)} (h : ¬ rp_let b n q = true) : rm_f (rp_nk b n N q) q 1 q := sorry
theorem rm_nk3 {b : Nat → Int32} {n q : Int32} {N : List (List Int32)} (hl : rp_let b n q = true) (h : 6 < (rp_w b n q).length ∨ rp_w b n q ∈ N) : rm_f (rp_nk b n N q) q 3 q := sorry
theorem rm_nk0 {b : Nat → Int32} {n q : Int32} {N : List (List Int32)} (hl : rp_let b n q = true) (h : ¬ (6 < (rp_w b n q).length ∨ rp_w b n q ∈ N)) : rp_nk b n N q = 0 := sorry
theorem rm_sz {b : Nat → Int32} {n q : Int32} (hq : 0 ≤ q.toInt ∧ q.toInt ≤ (rp_we b n q).toInt) : ((rp_we b n q) - q).toInt = (rp_we b n q).toInt - q.toInt ∧ ((rp_w b n q).length : Int) = (rp_we b n q).toInt - q.toInt := sorry
theorem rm_gt6 {x : Int32} (h : 6 < x) : 6 < x.toInt := sorry
theorem rm_i20 {p : Int32} (h : 0 ≤ p.toInt ∧ p.toInt < 4) : ((20 : Int32) + (19 * p)).toInt = 20 + 19 * p.toInt ∧ ((20 : Int32) + (19 * p)).toNatClampNeg = 20 + 19 * p.toInt.toNat := sorry
theorem rm_a9 {x k : Int32} (hx : 0 ≤ x.toInt ∧ x.toInt ≤ 1000000) (hk : 0 ≤ k.toInt ∧ k.toInt ≤ 1000000) : (x + k).toInt = x.toInt + k.toInt := sorry
section RMI
variable {b g : Nat → Int32} {p2 p3 p4 k r k2 : Int32} {W : List Int32}
theorem rm_isX (hcv : 0 ≤ p2.toInt ∧ p2.toInt < 4) (hfm : 0 ≤ p3.toInt ∧ p3.toInt ≤ 800 ∧ p3.toInt + p4.toInt ≤ 800) (hWl : 1 ≤ W.length ∧ W.length ≤ 6) (h : rm_is b p3 p4 W r k) (hr : ¬ r = 0) (hk : 0 ≤ k.toInt) (hl : ¬ p4 ≤ k) : (k.toInt < p4.toInt ∧ p4.toInt = W.length) ∧ ((((20 : Int32) + (19 * p2)) + 1) + k).toInt = 21 + 19 * p2.toInt + k.toInt ∧ (p3 + k).toInt = p3.toInt + k.toInt := sorry
theorem rm_isY (hcv : 0 ≤ p2.toInt ∧ p2.toInt < 4) (hfm : 0 ≤ p3.toInt ∧ p3.toInt ≤ 800 ∧ p3.toInt + p4.toInt ≤ 800) (hW : rm_W g p2.toInt.toNat W) (hWl : 1 ≤ W.length ∧ W.length ≤ 6) (h : rm_is b p3 p4 W r k) (hr : ¬ r = 0) (hk : 0 ≤ k.toInt) (hl : ¬ p4 ≤ k) (e : g (((((20 : Int32) + (19 * p2)) + 1) + k).toNatClampNeg) = b ((p3 + k).toNatClampNeg)) : rm_is b p3 p4 W 1 (k + Int32.ofInt 1) := sorry
theorem rm_isN (hcv : 0 ≤ p2.toInt ∧ p2.toInt < 4) (hfm : 0 ≤ p3.toInt ∧ p3.toInt ≤ 800 ∧ p3.toInt + p4.toInt ≤ 800) (hW : rm_W g p2.toInt.toNat W) (hWl : 1 ≤ W.length ∧ W.length ≤ 6) (h : rm_is b p3 p4 W r k) (hr : ¬ r = 0) (hk : 0 ≤ k.toInt) (hl : ¬ p4 ≤ k) (e : ¬ g (((((20 : Int32) + (19 * p2)) + 1) + k).toNatClampNeg) = b ((p3 + k).toNatClampNeg)) : rm_is b p3 p4 W 0 k2 := sorry
theorem rm_isA (hcv : 0 ≤ p2.toInt ∧ p2.toInt < 4) (hW : rm_W g p2.toInt.toNat W) (h : g ((20 : Int32) + (19 * p2)).toNatClampNeg = p4) : rm_is b p3 p4 W 1 0 := sorry
theorem rm_isB (hcv : 0 ≤ p2.toInt ∧ p2.toInt < 4) (hW : rm_W g p2.toInt.toNat W) (h4 : 0 ≤ p4.toInt) (h : ¬ g ((20 : Int32) + (19 * p2)).toNatClampNeg = p4) : rm_is b p3 p4 W 0 0 := sorry
theorem rm_isC (hWl : 1 ≤ W.length ∧ W.length ≤ 6) (h : p4.toInt ≤ 0 ∨ 6 < p4.toInt) : rm_is b p3 p4 W 0 0 := sorry
end RMI
/-- is it this word: k letters in -/
def rm_iw (b : Nat → Int32) (n q : Int32) (l : List Int32) (r k : Int32) : Prop := (r = 0 ∧ ¬ rp_w b n q = l) ∨ (r = 1 ∧ (rp_we b n q).toInt - q.toInt = l.length ∧ ∀ j : Nat, (j : Int) < k.toInt → b (q.toInt.toNat + j) = l.getD j 0)
section RMIW
variable {b : Nat → Int32} {n q r k k2 x : Int32} {l : List Int32}
theorem rm_iw0 (hl : l.length < 2147483648) (hq : 0 ≤ q.toInt ∧ q.toInt ≤ (rp_we b n q).toInt) (h : ((rp_we b n q) - q) = Int32.ofNat l.length) : rm_iw b n q l 1 0 := sorry
theorem rm_iwn0 (hl : l.length < 2147483648) (hq : 0 ≤ q.toInt ∧ q.toInt ≤ (rp_we b n q).toInt) (h : ¬ ((rp_we b n q) - q) = Int32.ofNat l.length) : rm_iw b n q l 0 0 := sorry
theorem rm_iwk (hl : l.length < 2147483648) (h : rm_iw b n q l r k) (hr : ¬ r = 0) (hn : n.toInt ≤ 800) (hq : 0 ≤ q.toInt ∧ (rp_we b n q).toInt ≤ n.toInt) (hk : 0 ≤ k.toInt ∧ k.toInt ≤ 800) (hlt : ¬ rp_we b n q ≤ q + k) : (k.toInt < l.length ∧ k < Int32.ofNat l.length) ∧ (0 ≤ (q + k).toInt ∧ (q + k).toInt = q.toInt + k.toInt ∧ k.toInt < 800) ∧ rf_bt b n (q + k) = b (q.toInt.toNat + k.toInt.toNat) := sorry
theorem rm_iwy (h : rm_iw b n q l r k) (hr : ¬ r = 0) (hk : 0 ≤ k.toInt ∧ k.toInt < 800) (e : rf_bt b n (q + k) = b (q.toInt.toNat + k.toInt.toNat)) (hx : x = l.getD k.toNatClampNeg 0) (h2 : rf_bt b n (q + k) = x) : rm_iw b n q l 1 (k + Int32.ofInt 1) := sorry
theorem rm_iwn (h : rm_iw b n q l r k) (hr : ¬ r = 0) (hkl : k.toInt < l.length) (hk0 : 0 ≤ k.toInt) (e : rf_bt b n (q + k) = b (q.toInt.toNat + k.toInt.toNat)) (hx : x = l.getD k.toNatClampNeg 0) (h2 : ¬ rf_bt b n (q + k) = x) : rm_iw b n q l 0 k2 := sorry
theorem rm_iwe (h : rm_iw b n q l r k) (hk : 0 ≤ k.toInt ∧ k.toInt ≤ 800) (hn : n.toInt ≤ 800) (hq : 0 ≤ q.toInt ∧ q.toInt ≤ n.toInt) (hx : r = 0 ∨ rp_we b n q ≤ q + k) : (r = 0 ∧ ¬ rp_w b n q = l) ∨ (r = 1 ∧ rp_w b n q = l) := sorry
end RMIW
theorem rm_w1 {b : Nat → Int32} {n q : Int32} (hn : n.toInt ≤ 800) (hq : 0 ≤ q.toInt ∧ q.toInt ≤ n.toInt) (hl : rp_let b n q = true) : 1 ≤ (rp_w b n q).length := sorry
theorem rm_ue {f : Nat → Int32} {i j : Nat} {v : Int32} (h : j = i) : upd f i v j = v := sorry
/-- a name's letters, k of m stored -/
def rm_en (b g c : Nat → Int32) (K : Nat) (q m k : Int32) : Prop := (∀ j : Nat, 20 ≤ j → j < 20 + 19 * K → c j = g j) ∧ c (20 + 19 * K) = m ∧ ∀ j : Nat, (j : Int) < k.toInt → c (21 + 19 * K + j) = b (q.toInt.toNat + j)
theorem rm_en0 {b g : Nat → Int32} {K : Nat} {q m x : Int32} (hx : x.toInt = 20 + 19 * K) : rm_en b g (upd g x.toNatClampNeg m) K q m 0 := sorry
theorem rm_ens {b g c : Nat → Int32} {K : Nat} {q m k x y : Int32} (h : rm_en b g c K q m k) (hk : 0 ≤ k.toInt ∧ k.toInt ≤ 1000) (hx : x.toInt = 21 + 19 * K + k.toInt) (hy : y.toInt = q.toInt + k.toInt) (hq : 0 ≤ q.toInt) : rm_en b g (upd c x.toNatClampNeg (b y.toNatClampNeg)) K q m (k + Int32.ofInt 1) := sorry
theorem rm_ene {b g c : Nat → Int32} {n : Int32} {K : Nat} {q m k : Int32} (h : rm_en b g c K q m k) (hk : m.toInt ≤ k.toInt) (hm : m.toInt = (rp_we b n q).toInt - q.toInt) (h0 : 0 ≤ m.toInt) : (∀ j : Nat, 20 ≤ j → j < 20 + 19 * K → c j = g j) ∧ rm_W c K (rp_w b n q) := sorry
/-- a curve's voltages -/
def rm_cJ (b : Nat → Int32) (n : Int32) (N : List (List Int32)) (w m : Int32) (v : Int) (p : Int32) : Prop := rp_ck b n N w = rp_vk b n (11 - m.toInt.toNat) m.toInt.toNat v p ∧ rp_cp b n N w = rp_vp b n (11 - m.toInt.toNat) m.toInt.toNat v p
section RMC
variable {b : Nat → Int32} {n w m p wk wr : Int32} {N : List (List Int32)} {v : Int}
theorem rm_c4 (h : 4 ≤ N.length) : rm_f (rp_ck b n N w) (rp_cp b n N w) 4 w := sorry
theorem rm_cn (h : ¬ 4 ≤ N.length) (f : rm_f (rp_nk b n N (rp_q2 b n w)) (rp_q2 b n w) wk wr) : rm_f (rp_ck b n N w) (rp_cp b n N w) wk wr := sorry
theorem rm_nkl (h : rp_nk b n N w = 0) : rp_let b n w = true ∧ ¬ (6 < (rp_w b n w).length ∨ rp_w b n w ∈ N) := sorry
theorem rm_cj0 (h : ¬ 4 ≤ N.length) (k : rp_nk b n N (rp_q2 b n w) = 0) : rm_cJ b n N w 0 (0 : Int32).toInt (rp_we b n (rp_q2 b n w)) := sorry
theorem rm_cjs {r : Int} (J : rm_cJ b n N w m v p) (hm : 0 ≤ m.toInt ∧ m.toInt < 11) (hd : ¬ (2 ≤ m.toInt ∧ ¬ rp_dig b n (rp_sk b n p) = true)) (k : rp_rk b n v 5000 p = 0) (hr : r = rp_rv b n p) : rm_cJ b n N w (m + Int32.ofInt 1) r (rp_rp b n v 5000 p) := sorry
theorem rm_cjf (J : rm_cJ b n N w m v p) (hm : 0 ≤ m.toInt ∧ m.toInt < 11) (hd : ¬ (2 ≤ m.toInt ∧ ¬ rp_dig b n (rp_sk b n p) = true)) (f : rm_f (rp_rk b n v 5000 p) (rp_rp b n v 5000 p) wk wr) : rm_f (rp_ck b n N w) (rp_cp b n N w) wk wr := sorry
theorem rm_cje (J : rm_cJ b n N w m v p) (hm : 2 ≤ m.toInt ∧ m.toInt ≤ 11) (hd : ¬ rp_dig b n (rp_sk b n p) = true) (hn : n.toInt ≤ 800) (hp : 0 ≤ p.toInt ∧ p.toInt ≤ n.toInt) : rp_ck b n N w = 0 ∧ rp_sk b n (rp_sk b n p) = rp_sk b n (rp_cp b n N w) := sorry
theorem rm_cj11 (J : rm_cJ b n N w m v p) (hm : m = 11) (hd : rp_dig b n (rp_sk b n p) = true) : rm_B b n (rp_ck b n N w) (rp_cp b n N w) 1 (rp_sk b n p) := sorry
end RMC
section RML
variable {b : Nat → Int32} {n w p wk wr : Int32} {N : List (List Int32)} {nc : Int}
theorem rm_l6 (h : 6 ≤ nc) : rm_f (rp_lk b n N nc w) (rp_lp b n N nc w) 4 w := sorry
theorem rm_l1 (h : ¬ 6 ≤ nc) (hl : ¬ rp_let b n (rp_q2 b n w) = true) : rm_f (rp_lk b n N nc w) (rp_lp b n N nc w) 1 (rp_q2 b n w) := sorry
theorem rm_l3 (h : ¬ 6 ≤ nc) (hl : rp_let b n (rp_q2 b n w) = true) (hn : ¬ rp_w b n (rp_q2 b n w) ∈ N) : rm_f (rp_lk b n N nc w) (rp_lp b n N nc w) 3 (rp_q2 b n w) := sorry
theorem rm_l0 (h : ¬ 6 ≤ nc) (hl : rp_let b n (rp_q2 b n w) = true) (hw : rp_w b n (rp_q2 b n w) ∈ N ∧ (rp_w b n (rp_q2 b n w)).length ≤ 6) : rp_lk b n N nc w = rp_4k b n (rp_we b n (rp_q2 b n w)) ∧ rp_lp b n N nc w = rp_4p b n (rp_we b n (rp_q2 b n w)) := sorry
theorem rm_41 (f : rm_f (rp_rk b n 100 100000 p) (rp_rp b n 100 100000 p) wk wr) : rm_f (rp_4k b n p) (rp_4p b n p) wk wr := sorry
theorem rm_42 (k1 : rp_rk b n 100 100000 p = 0) (f : rm_f (rp_rk b n 1 500 (rp_rp b n 100 100000 p)) (rp_rp b n 1 500 (rp_rp b n 100 100000 p)) wk wr) : rm_f (rp_4k b n p) (rp_4p b n p) wk wr := sorry
theorem rm_4d (k1 : rp_rk b n 100 100000 p = 0) (k2 : rp_rk b n 1 500 (rp_rp b n 100 100000 p) = 0) : rp_dk b n 100 100000 1 500 p = 0 ∧ rp_dp b n 100 100000 1 500 p = rp_rp b n 1 500 (rp_rp b n 100 100000 p) := sorry
theorem rm_43 {P : Int32} (d : rp_dk b n 100 100000 1 500 p = 0 ∧ rp_dp b n 100 100000 1 500 p = P) (f : rm_f (rp_rk b n 0 500 P) (rp_rp b n 0 500 P) wk wr) : rm_f (rp_4k b n p) (rp_4p b n p) wk wr := sorry
theorem rm_4e {P : Int32} (d : rp_dk b n 100 100000 1 500 p = 0 ∧ rp_dp b n 100 100000 1 500 p = P) (k3 : rp_rk b n 0 500 P = 0) : rp_5k b n p = 0 ∧ rp_5p b n p = rp_rp b n 0 500 P := sorry
theorem rm_44 {P : Int32} (d : rp_5k b n p = 0 ∧ rp_5p b n p = P) (f : rm_f (rp_rk b n 1 200 P) (rp_rp b n 1 200 P) wk wr) : rm_f (rp_4k b n p) (rp_4p b n p) wk wr := sorry
theorem rm_4z {P : Int32} (d : rp_5k b n p = 0 ∧ rp_5p b n p = P) (k4 : rp_rk b n 1 200 P = 0) : rp_4k b n p = 0 ∧ rp_4p b n p = rp_rp b n 1 200 P := sorry
end RML
/-- a program's steps, m of them in, the next word at u -/
def rm_gJ (b : Nat → Int32) (n : Int32) (np : Int) (w m u : Int32) : Prop := ∃ p : Int32, (0 ≤ p.toInt ∧ p.toInt ≤ n.toInt) ∧ u = rp_sk b n p ∧ rp_gk b n np w = rp_ssk b n (12 - m.toInt.toNat) m.toInt.toNat p ∧ rp_gp b n np w = rp_ssp b n (12 - m.toInt.toNat) m.toInt.toNat p
section RMG
variable {b : Nat → Int32} {n w m u wk wr : Int32} {np : Int}
theorem rm_g4 (h : 4 ≤ np) : rm_f (rp_gk b n np w) (rp_gp b n np w) 4 w := sorry
theorem rm_gj0 (h : ¬ 4 ≤ np) (hw : 0 ≤ (rp_we b n w).toInt ∧ (rp_we b n w).toInt ≤ n.toInt) : rm_gJ b n np w 0 (rp_sk b n (rp_we b n w)) := sorry
theorem rm_gj1 (h : ¬ 4 ≤ np) (hl : ¬ rp_let b n (rp_sk b n (rp_we b n w)) = true) : rm_f (rp_gk b n np w) (rp_gp b n np w) 1 (rp_sk b n (rp_we b n w)) := sorry
theorem rm_gjs (J : rm_gJ b n np w m u) (hm : 0 ≤ m.toInt ∧ m.toInt < 12) (hl : rp_let b n u = true) (hn : n.toInt ≤ 800) (k : rp_stk b n m.toInt u = 0) : rm_gJ b n np w (m + Int32.ofInt 1) (rp_sk b n (rp_stp b n m.toInt u)) := sorry
theorem rm_gjf (J : rm_gJ b n np w m u) (hm : 0 ≤ m.toInt ∧ m.toInt < 12) (hl : rp_let b n u = true) (f : rm_f (rp_stk b n m.toInt u) (rp_stp b n m.toInt u) wk wr) : rm_f (rp_gk b n np w) (rp_gp b n np w) wk wr := sorry
theorem rm_gj12 (J : rm_gJ b n np w m u) (hm : m = 12) (hl : rp_let b n u = true) (h : wk = 1 ∧ wr = u) : rm_B b n (rp_gk b n np w) (rp_gp b n np w) wk wr := sorry
theorem rm_gje (J : rm_gJ b n np w m u) (hm : 1 ≤ m.toInt ∧ m.toInt ≤ 12) (hl : ¬ rp_let b n u = true) (hn : n.toInt ≤ 800) : rp_gk b n np w = 0 ∧ rp_sk b n u = rp_sk b n (rp_gp b n np w) := sorry
end RMG
/-- a statement, and the text -/
def rm_X (b : Nat → Int32) (n : Int32) (g0 : Nat → Int32) (pt : Int32) (g : Nat → Int32) : Prop := ∃ (m p : Int32) (N N1 : List (List Int32)) (np nc : Int), (0 ≤ m.toInt ∧ m.toInt ≤ p.toInt ∧ p.toInt ≤ n.toInt) ∧ rp_xJ b n (rp_K b n) (rp_P b n) (rp_C b n) m N np nc p ∧ rp_tk b n N np nc (rp_sk b n p) = 0 ∧ rp_sk b n pt = rp_sk b n (rp_tp b n N np nc (rp_sk b n p)) ∧ N1 = rp_tN b n N (rp_sk b n p) ∧ rm_N N1 g ∧ (g 9).toInt = rp_tc b n (rp_sk b n p) nc ∧ (g 10).toInt = rp_tg b n (rp_sk b n p) np ∧ ∃ gp : Nat → Int32, rq_xJ b n g0 m N np nc p gp ∧ g = rq_t b n N (rp_sk b n p) gp
section RMX
variable {b : Nat → Int32} {n pt p m wk wr : Int32} {g g0 gp : Nat → Int32} {N : List (List Int32)} {np nc : Int}
theorem rm_x1 (hp : 0 ≤ m.toInt ∧ m.toInt ≤ p.toInt ∧ p.toInt ≤ n.toInt) (J : rp_xJ b n (rp_K b n) (rp_P b n) (rp_C b n) m N np nc p) (k : rp_tk b n N np nc (rp_sk b n p) = 0) (e : rp_sk b n pt = rp_sk b n (rp_tp b n N np nc (rp_sk b n p))) (hN : rm_N (rp_tN b n N (rp_sk b n p)) g) (h9 : (g 9).toInt = rp_tc b n (rp_sk b n p) nc) (h10 : (g 10).toInt = rp_tg b n (rp_sk b n p) np) (Q : rq_xJ b n g0 m N np nc p gp) (eg : g = rq_t b n N (rp_sk b n p) gp) : rm_X b n g0 pt g := sorry
/-- the next statement's beginning -/
theorem rm_x2 (X : rm_X b n g0 pt g) (hn : n.toInt ≤ 800) (h : rf_bt b n (rp_sk b n pt) = 59) : ∃ (m : Int32) (N : List (List Int32)), (0 ≤ m.toInt ∧ m.toInt ≤ (rp_sk b n pt + 1).toInt ∧ (rp_sk b n pt + 1).toInt ≤ n.toInt) ∧ rp_xJ b n (rp_K b n) (rp_P b n) (rp_C b n) m N (g 10).toInt (g 9).toInt (rp_sk b n pt + 1) ∧ rm_N N g ∧ rq_xJ b n g0 m N (g 10).toInt (g 9).toInt (rp_sk b n pt + 1) g := sorry
theorem rm_x3 (X : rm_X b n g0 pt g) (hn : n.toInt ≤ 800) (h : ¬ rf_bt b n (rp_sk b n pt) = 59) : (rf_bt b n (rp_sk b n pt) = -1 → rp_K b n = 0 ∧ rp_C b n = (g 9).toInt ∧ rq_x b n 802 [] 0 0 0 g0 = g) ∧ (¬ rf_bt b n (rp_sk b n pt) = -1 → rp_K b n = 1 ∧ rp_P b n = rp_sk b n pt) := sorry
/-- a statement that fails -/
theorem rm_x4 (hm : 0 ≤ m.toInt ∧ m.toInt ≤ 800) (J : rp_xJ b n (rp_K b n) (rp_P b n) (rp_C b n) m N np nc p) (f : rm_B b n (rp_tk b n N np nc (rp_sk b n p)) (rp_tp b n N np nc (rp_sk b n p)) wk wr) : ¬ wk = 0 ∧ rp_K b n = wk ∧ rp_P b n = wr := sorry
end RMX
/-- one to three numbers of a statement -/
theorem rm_s3a {b : Nat → Int32} {n p wk wr : Int32} {l3 h3 : Int} (f : rm_f (rp_rk b n 0 5000 p) (rp_rp b n 0 5000 p) wk wr) : rm_f (rp_3k b n l3 h3 p) (rp_3p b n l3 h3 p) wk wr := sorry
theorem rm_s3b {b : Nat → Int32} {n p wk wr : Int32} {l3 h3 : Int} (k : rp_rk b n 0 5000 p = 0) (f : rm_f (rp_rk b n (rp_rv b n p) 5000 (rp_rp b n 0 5000 p)) (rp_rp b n (rp_rv b n p) 5000 (rp_rp b n 0 5000 p)) wk wr) : rm_f (rp_3k b n l3 h3 p) (rp_3p b n l3 h3 p) wk wr := sorry
theorem rm_s3c {b : Nat → Int32} {n p wk wr : Int32} {l3 h3 : Int} (k : rp_rk b n 0 5000 p = 0) (k2 : rp_rk b n (rp_rv b n p) 5000 (rp_rp b n 0 5000 p) = 0) (f : rm_f (rp_rk b n l3 h3 (rp_rp b n (rp_rv b n p) 5000 (rp_rp b n 0 5000 p))) (rp_rp b n l3 h3 (rp_rp b n (rp_rv b n p) 5000 (rp_rp b n 0 5000 p))) wk wr) : rm_f (rp_3k b n l3 h3 p) (rp_3p b n l3 h3 p) wk wr := sorry
theorem rm_s3z {b : Nat → Int32} {n p : Int32} {l3 h3 : Int} (k : rp_rk b n 0 5000 p = 0) (k2 : rp_rk b n (rp_rv b n p) 5000 (rp_rp b n 0 5000 p) = 0) (k3 : rp_rk b n l3 h3 (rp_rp b n (rp_rv b n p) 5000 (rp_rp b n 0 5000 p)) = 0) : rp_3k b n l3 h3 p = 0 ∧ rp_rp b n l3 h3 (rp_rp b n (rp_rv b n p) 5000 (rp_rp b n 0 5000 p)) = rp_3p b n l3 h3 p := sorry
/-- the row behind a curve -/
theorem rm_cvN {g c G1 : Nat → Int32} {N : List (List Int32)} {w : List Int32} {n x : Int32} {K : Nat} (hN : rm_N N g) (h4 : ¬ 4 ≤ N.length) (hK : K = (g 11).toInt.toNat) (lo1 : ∀ j : Nat, 20 ≤ j → j < 20 + 19 * K → G1 j = g j) (hW : rm_W G1 K w) (hwl : 1 ≤ w.length ∧ w.length ≤ 6) (lo2 : ∀ j : Nat, j < 28 + 19 * K → c j = G1 j) (hx : x.toInt = 27 + 19 * (g 11).toInt) (e11 : c 11 = g 11) : rm_N (N ++ [w]) (upd (upd c x.toNatClampNeg n) (11 : Int32).toNatClampNeg ((upd c x.toNatClampNeg n) 11 + 1)) := sorry
theorem rm_lt2 {x : Int32} (h : x < 2) : x.toInt < 2 := sorry
theorem rm_n11 {x : Int32} (h : ¬ x = 11) : ¬ x.toInt = 11 := sorry
theorem rm_N4 {g : Nat → Int32} {N : List (List Int32)} (hN : rm_N N g) (h : ¬ g 11 = 4) (hs : (g 11).toInt ≤ 4) : ¬ 4 ≤ N.length := sorry
theorem rm_N4e {g : Nat → Int32} {N : List (List Int32)} (hN : rm_N N g) (h : g 11 = 4) : 4 ≤ N.length := sorry
theorem rm_E6 {x : Int32} (h : x = 6) : 6 ≤ x.toInt := sorry
theorem rm_E4 {x : Int32} (h : x = 4) : 4 ≤ x.toInt := sorry
