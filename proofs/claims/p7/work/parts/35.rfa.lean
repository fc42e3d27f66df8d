/-- the reference's object, folded: short to write, quick to read -/
def rf_MO (mo mw ma mf m0 m1 mu mv u0 u1 iz : Nat) (th : Int32) (mb : Nat) (mn mpt mbg mwr mwk mlf men : Int32) : Nat × va_E := (mo, .inr (11, [.ref mw, .ref ma, .ref mf, .ref m0, .ref m1, .ref mu, .ref mv, .ref u0, .ref u1, .ref iz, .int th, .ref mb, .int mn, .int mpt, .int mbg, .int mwr, .int mwk, .int mlf, .int men]))
/-! the reference's row of numbers: what holds of it between the calls -/
def rf_of (f : Nat → Int32) (c : Int32) (k : Nat) : Int32 := f (244 + 54 * c.toInt.toNat + k)
/-- the description: G is the row as it was read -/
def rf_st (G : Nat → Int32) : Prop :=
  (0 ≤ (G 0).toInt ∧ (G 0).toInt ≤ 1000) ∧ (0 ≤ (G 6).toInt ∧ (G 6).toInt ≤ 1000) ∧ (0 ≤ (G 9).toInt ∧ (G 9).toInt ≤ 6) ∧ (0 ≤ (G 10).toInt ∧ (G 10).toInt ≤ 4) ∧ (0 ≤ (G 11).toInt ∧ (G 11).toInt ≤ 4) ∧
  (∀ p : Nat, (p : Int) < (G 10).toInt → (1 ≤ (G (96 + 37 * p)).toInt ∧ (G (96 + 37 * p)).toInt ≤ 12) ∧ ¬ G (97 + 37 * p) = 4 ∧ ∀ j : Nat, (j : Int) < (G (96 + 37 * p)).toInt → G (97 + 37 * p + 3 * j) = 4 → (G (98 + 37 * p + 3 * j)).toInt < (j : Int)) ∧
  (∀ v : Nat, (v : Int) < (G 11).toInt → 2 ≤ (G (27 + 19 * v)).toInt ∧ (G (27 + 19 * v)).toInt ≤ 11) ∧
  (∀ j : Nat, 96 ≤ j → j < 244 → 0 ≤ (G j).toInt ∧ (G j).toInt ≤ 5000) ∧
  (∀ c : Nat, (c : Int) < (G 9).toInt → (0 ≤ (G (244 + 54 * c + 11)).toInt ∧ (G (244 + 54 * c + 11)).toInt < (G 11).toInt) ∧ (100 ≤ (G (244 + 54 * c + 12)).toInt ∧ (G (244 + 54 * c + 12)).toInt ≤ 100000) ∧ (1 ≤ (G (244 + 54 * c + 13)).toInt ∧ (G (244 + 54 * c + 13)).toInt ≤ 500) ∧ (0 ≤ (G (244 + 54 * c + 14)).toInt ∧ (G (244 + 54 * c + 14)).toInt ≤ 500) ∧ 1 ≤ (G (244 + 54 * c + 15)).toInt ∧ (G (244 + 54 * c + 15)).toInt ≤ 200) ∧
  (0 < (G 9).toInt → 1 ≤ (G 1).toInt ∧ 1 ≤ (G 2).toInt)
/-- the number at place k of channel c -/
def rf_k (G : Nat → Int32) (c : Nat) (k : Nat) (v : Int32) : Prop := (c : Int) < (G 9).toInt → match k with
  | 1 => -1 ≤ v.toInt ∧ v.toInt < (G 10).toInt
  | 2 => -1 ≤ v.toInt ∧ v.toInt ≤ 11
  | 6 => 0 ≤ v.toInt ∧ v.toInt ≤ 2 * (G (244 + 54 * c + 12)).toInt
  | 7 => (G (244 + 54 * c + 12)).toInt / 2 ≤ v.toInt ∧ v.toInt ≤ (G (244 + 54 * c + 12)).toInt
  | 11 => v = G (244 + 54 * c + 11)
  | 12 => v = G (244 + 54 * c + 12)
  | 13 => v = G (244 + 54 * c + 13)
  | 14 => v = G (244 + 54 * c + 14)
  | 15 => v = G (244 + 54 * c + 15)
  | 16 => 0 ≤ v.toInt ∧ v.toInt ≤ 999
  | 24 => 0 ≤ v.toInt
  | 25 => 0 ≤ v.toInt
  | 26 => 0 ≤ v.toInt
  | 27 => 0 ≤ v.toInt
  | 28 => 0 ≤ v.toInt
  | 29 => 0 ≤ v.toInt
  | 30 => 0 ≤ v.toInt
  | 31 => 0 ≤ v.toInt
  | 32 => 0 ≤ v.toInt
  | 33 => 0 ≤ v.toInt
  | 34 => 0 ≤ v.toInt
  | 35 => 0 ≤ v.toInt
  | 39 => 0 ≤ v.toInt ∧ v.toInt ≤ 4 ∧ ((G 10).toInt = 0 → v.toInt = 0)
  | 40 => 0 ≤ v.toInt ∧ (v.toInt < (G 10).toInt ∨ v.toInt = 0)
  | 41 => 0 ≤ v.toInt ∧ (v.toInt < (G 10).toInt ∨ v.toInt = 0)
  | 42 => 0 ≤ v.toInt ∧ (v.toInt < (G 10).toInt ∨ v.toInt = 0)
  | 43 => 0 ≤ v.toInt ∧ (v.toInt < (G 10).toInt ∨ v.toInt = 0)
  | _ => True
/-- a channel that runs or is paused has a program and a step -/
def rf_run (G : Nat → Int32) (f : Nat → Int32) (c : Nat) : Prop := (f (244 + 54 * c) = 1 ∨ f (244 + 54 * c) = 2) → 0 ≤ (f (245 + 54 * c)).toInt ∧ 0 ≤ (f (246 + 54 * c)).toInt ∧ (f (246 + 54 * c)).toInt < (G (96 + 37 * (f (245 + 54 * c)).toInt.toNat)).toInt
/-- what holds of the row; cx: a channel whose program is about to begin -/
def rf_R (G : Nat → Int32) (cx : Int) (f : Nat → Int32) : Prop :=
  rf_st G ∧ (f 0 = G 0 ∧ f 1 = G 1 ∧ f 2 = G 2 ∧ f 6 = G 6 ∧ f 9 = G 9 ∧ f 10 = G 10 ∧ f 11 = G 11) ∧ ((0 ≤ (f 12).toInt ∧ (f 12).toInt ≤ 30) ∧ (0 ≤ (f 16).toInt ∧ (f 16).toInt ≤ 200) ∧ 0 ≤ (f 17).toInt ∧ (f 17).toInt ≤ 60) ∧
  (∀ j : Nat, 20 ≤ j → j < 244 → f j = G j) ∧ (∀ c : Nat, c < 6 → ∀ k : Nat, k < 54 → rf_k G c k (f (244 + 54 * c + k))) ∧ ∀ c : Nat, (c : Int) < (G 9).toInt → (c : Int) ≠ cx → rf_run G f c
/-- the states, programs and steps are the same -/
def rf_sm (f g : Nat → Int32) : Prop := ∀ c : Nat, c < 6 → ∀ k : Nat, k < 3 → g (244 + 54 * c + k) = f (244 + 54 * c + k)
theorem rf_smr (f : Nat → Int32) : rf_sm f f := sorry
theorem rf_smt {f g h : Nat → Int32} (h1 : rf_sm f g) (h2 : rf_sm g h) : rf_sm f h := sorry
theorem rf_upd_ne {f : Nat → Int32} {i j : Nat} {v : Int32} (h : j ≠ i) : upd f i v j = f j := sorry
theorem rf_upd_eq {f : Nat → Int32} {i : Nat} {v : Int32} : upd f i v i = v := sorry
/-- a place that nothing is said of -/
theorem rf_free {G f : Nat → Int32} {cx : Int} {i : Nat} (v : Int32) (h : rf_R G cx f) (hi : (i = 3 ∨ i = 4 ∨ i = 5 ∨ i = 7 ∨ i = 8 ∨ i = 13 ∨ i = 14 ∨ i = 15) ∨ 568 ≤ i) : rf_R G cx (upd f i v) ∧ rf_sm f (upd f i v) := sorry
theorem rf_num {G f : Nat → Int32} {cx : Int} {i : Nat} (v : Int32) (h : rf_R G cx f) (hi : (i = 12 ∧ 0 ≤ v.toInt ∧ v.toInt ≤ 30) ∨ (i = 16 ∧ 0 ≤ v.toInt ∧ v.toInt ≤ 200) ∨ (i = 17 ∧ 0 ≤ v.toInt ∧ v.toInt ≤ 60)) : rf_R G cx (upd f i v) ∧ rf_sm f (upd f i v) := sorry
/-- a place of a channel -/
theorem rf_put {G f : Nat → Int32} {cx : Int} {c k : Nat} {v : Int32} (h : rf_R G cx f) (hc : c < 6) (hk : 3 ≤ k ∧ k < 54) (hv : rf_k G c k v) : rf_R G cx (upd f (244 + 54 * c + k) v) ∧ rf_sm f (upd f (244 + 54 * c + k) v) := sorry
/-- state, program or step of a channel: what runs is left open for it -/
theorem rf_putx {G f : Nat → Int32} {cx : Int} {c k : Nat} {v : Int32} (h : rf_R G cx f) (hc : c < 6) (hx0 : cx = -1 ∨ cx = (c : Int)) (hk : k < 3) (hv : rf_k G c k v) : rf_R G (c : Int) (upd f (244 + 54 * c + k) v) := sorry
/-- back to all channels -/
theorem rf_back {G f : Nat → Int32} {cx : Int} {c : Nat} (h : rf_R G cx f) (hx : cx = (c : Int) ∨ cx = -1) (hr : rf_run G f c) : rf_R G (-1) f := sorry
/-- index sums -/
theorem rf_i2 {a b c k : Int32} (A B : Int) (ha : a.toInt = A) (hb : b.toInt = B) (hA : 0 ≤ A ∧ A ≤ 1000) (hB : 0 ≤ B ∧ B ≤ 100) (hc : 0 ≤ c.toInt ∧ c.toInt ≤ 60) (hk : 0 ≤ k.toInt ∧ k.toInt ≤ 1000) : (a + b * c + k).toInt = A + B * c.toInt + k.toInt := sorry
theorem rf_cix {c k : Int32} (hc : 0 ≤ c.toInt ∧ c.toInt < 6) (hk : 0 ≤ k.toInt ∧ k.toInt < 54) : ((244 + (54 * c)) + k).toInt = ((244 + 54 * c.toInt.toNat + k.toInt.toNat : Nat) : Int) := sorry
theorem rf_in {e : Int32} {n N : Nat} (h : e.toInt = (n : Int)) (hN : n < N) : vp_in e N := sorry
theorem rf_nat {e : Int32} {n : Nat} (h : e.toInt = (n : Int)) : e.toNatClampNeg = n := sorry
theorem rf_c6 {G f : Nat → Int32} {cx : Int} {c : Int32} (h : rf_R G cx f) (hc : 0 ≤ c.toInt ∧ c.toInt < (G 9).toInt) : 0 ≤ c.toInt ∧ c.toInt < 6 := sorry
theorem rf_lt {c k : Int32} (hc : 0 ≤ c.toInt ∧ c.toInt < 6) (hk : 0 ≤ k.toInt ∧ k.toInt < 54) : 244 + 54 * c.toInt.toNat + k.toInt.toNat < 958 := sorry
theorem rf_ofe {f : Nat → Int32} {c : Int32} (hc : 0 ≤ c.toInt ∧ c.toInt < 6) {k : Nat} {e : Int32} (hk : (0 ≤ e.toInt ∧ e.toInt < 54) ∧ e.toInt.toNat = k) : f ((244 + (54 * c)) + e).toNatClampNeg = rf_of f c k := sorry
theorem rf_pute {G f : Nat → Int32} {cx : Int} {c : Int32} {v : Int32} (hc : 0 ≤ c.toInt ∧ c.toInt < 6) (h : rf_R G cx f) {k : Nat} {e : Int32} (hk : (0 ≤ e.toInt ∧ e.toInt < 54) ∧ e.toInt.toNat = k) (h3 : 3 ≤ k ∧ k < 54) (hF : rf_k G c.toInt.toNat k v) : rf_R G cx (upd f ((244 + (54 * c)) + e).toNatClampNeg v) ∧ rf_sm f (upd f ((244 + (54 * c)) + e).toNatClampNeg v) := sorry
def cm_rng (v lo hi : Int64) : Int32 := if v < lo then 0 else if hi < v then 0 else 1
theorem cm_lc (x y : Int64) : (lg_cmp x y < 0 ↔ x < y) ∧ (0 < lg_cmp x y ↔ y < x) := sorry
theorem rf_rng {v lo hi : Int64} (h : ¬ cm_rng v lo hi = 0) : lo.toInt ≤ v.toInt ∧ v.toInt ≤ hi.toInt := sorry
theorem rf_rngi {v : Int32} {lo : Int64} {n : Int32} {L : Int} (hl : lo.toInt = L) (hn : 0 ≤ n.toInt) (h : ¬ cm_rng v.toInt64 lo (n - 1).toInt64 = 0) : L ≤ v.toInt ∧ v.toInt < n.toInt := sorry
theorem rf_chan {G f : Nat → Int32} {cx : Int} {c : Int32} (h : rf_R G cx f) (hr : ¬ cm_rng c.toInt64 0 ((f 9) - 1).toInt64 = 0) : 0 ≤ c.toInt ∧ c.toInt < (G 9).toInt := sorry
theorem rf_prog {G f : Nat → Int32} {cx : Int} {c : Int32} (h : rf_R G cx f) (hr : ¬ cm_rng c.toInt64 0 ((f 10) - 1).toInt64 = 0) : 0 ≤ c.toInt ∧ c.toInt < (G 10).toInt := sorry
theorem rf_pix {p : Int32} (hp : 0 ≤ p.toInt ∧ p.toInt < 4) : (96 + (37 * p)).toInt = ((96 + 37 * p.toInt.toNat : Nat) : Int) := sorry
theorem rf_vix {v k : Int32} {n : Int} (hk0 : k.toInt = n) (hv : 0 ≤ v.toInt ∧ v.toInt < 4) (hk : 0 ≤ n ∧ n ≤ 12) : ((20 + (19 * v)) + k).toInt = ((20 + 19 * v.toInt.toNat + n.toNat : Nat) : Int) := sorry
theorem rf_vix2 {v k : Int32} (hv : 0 ≤ v.toInt ∧ v.toInt < 4) (hk : 0 ≤ k.toInt ∧ k.toInt ≤ 10) : (((20 + (19 * v)) + 8) + k).toInt = ((28 + 19 * v.toInt.toNat + k.toInt.toNat : Nat) : Int) := sorry
theorem rf_six {p k w : Int32} (hp : 0 ≤ p.toInt ∧ p.toInt < 4) (hk : 0 ≤ k.toInt ∧ k.toInt ≤ 12) (hw : 0 ≤ w.toInt ∧ w.toInt ≤ 2) : ((((96 + (37 * p)) + 1) + (3 * k)) + w).toInt = ((97 + 37 * p.toInt.toNat + 3 * k.toInt.toNat + w.toInt.toNat : Nat) : Int) := sorry
theorem rf_uix {c k : Int32} (hc : 0 ≤ c.toInt ∧ c.toInt < 6) (hk : 0 ≤ k.toInt ∧ k.toInt < 7) : vp_in ((7 * c) + k) 42 := sorry
/-- a channel's program and step can be read -/
def rf_on (G f : Nat → Int32) (c : Int32) : Prop := (0 ≤ (rf_of f c 1).toInt ∧ (rf_of f c 1).toInt < (G 10).toInt) ∧ 0 ≤ (rf_of f c 2).toInt ∧ (rf_of f c 2).toInt < (G (96 + 37 * (rf_of f c 1).toInt.toNat)).toInt
theorem rf_onp {G f : Nat → Int32} {cx : Int} {c : Int32} (h : rf_R G cx f) (ho : rf_on G f c) : (0 ≤ (rf_of f c 1).toInt ∧ (rf_of f c 1).toInt < 4) ∧ (0 ≤ (rf_of f c 2).toInt ∧ (rf_of f c 2).toInt ≤ 12) := sorry
/-- what the channels' places hold -/
theorem rf_kk {G f : Nat → Int32} {cx : Int} {c : Int32} (h : rf_R G cx f) (hc : 0 ≤ c.toInt ∧ c.toInt < (G 9).toInt) {k : Nat} (hk : k < 54) : rf_k G c.toInt.toNat k (rf_of f c k) := sorry
theorem rf_nn {G : Nat → Int32} {c : Int32} (hc : 0 ≤ c.toInt ∧ c.toInt < (G 9).toInt) : ((c.toInt.toNat : Nat) : Int) < (G 9).toInt := sorry
theorem rf_qp {G f : Nat → Int32} {cx : Int} {c : Int32} (h : rf_R G cx f) (hc : 0 ≤ c.toInt ∧ c.toInt < (G 9).toInt) : ((0 ≤ (rf_of f c 6).toInt ∧ (rf_of f c 6).toInt ≤ 2 * (rf_of f c 12).toInt) ∧ ((rf_of f c 12).toInt / 2 ≤ (rf_of f c 7).toInt ∧ (rf_of f c 7).toInt ≤ (rf_of f c 12).toInt)) ∧ (100 ≤ (rf_of f c 12).toInt ∧ (rf_of f c 12).toInt ≤ 100000) := sorry
theorem rf_stat {G f : Nat → Int32} {cx : Int} {c : Int32} (h : rf_R G cx f) (hc : 0 ≤ c.toInt ∧ c.toInt < (G 9).toInt) : ((0 ≤ (rf_of f c 11).toInt ∧ (rf_of f c 11).toInt < 4) ∧ (2 ≤ (f (20 + 19 * (rf_of f c 11).toInt.toNat + 7)).toInt ∧ (f (20 + 19 * (rf_of f c 11).toInt.toNat + 7)).toInt ≤ 11)) ∧ (1 ≤ (rf_of f c 13).toInt ∧ (rf_of f c 13).toInt ≤ 500) ∧ 1 ≤ (rf_of f c 15).toInt ∧ (rf_of f c 15).toInt ≤ 200 := sorry
theorem rf_k3 {k : Int32} (h : 3 ≤ k.toInt ∧ k.toInt < 54) : 0 ≤ k.toInt ∧ k.toInt < 54 := sorry
theorem rf_k4 {k : Int32} (h : 3 ≤ k.toInt ∧ k.toInt < 54) : 3 ≤ k.toInt.toNat ∧ k.toInt.toNat < 54 := sorry
def rf_st3 (f : Nat → Int32) (c : Int32) (w : Nat) : Int32 := f (97 + 37 * (rf_of f c 1).toInt.toNat + 3 * (rf_of f c 2).toInt.toNat + w)
theorem rf_stb {G f : Nat → Int32} {cx : Int} {c : Int32} (h : rf_R G cx f) (ho : rf_on G f c) {w : Nat} (hw : w ≤ 2) : 0 ≤ (rf_st3 f c w).toInt ∧ (rf_st3 f c w).toInt ≤ 5000 := sorry
theorem rf_rk {q n full k : Int32} (hq : 0 ≤ q.toInt) (hn : 2 ≤ n.toInt ∧ n.toInt ≤ 11) (hf : 50 ≤ full.toInt) (hk : k = (if ((n - 1) - 1).toInt64 < (q.toInt64 * (n - 1).toInt64) / full.toInt64 then ((n - 1) - 1).toInt64 else (q.toInt64 * (n - 1).toInt64) / full.toInt64).toInt32) : 0 ≤ k.toInt ∧ k.toInt ≤ 9 := sorry
theorem rf_rk1 {k : Int32} (h : 0 ≤ k.toInt ∧ k.toInt ≤ 9) : 0 ≤ (k + 1).toInt ∧ (k + 1).toInt ≤ 10 := sorry
theorem rf_rk0 {k : Int32} (h : 0 ≤ k.toInt ∧ k.toInt ≤ 9) : 0 ≤ k.toInt ∧ k.toInt ≤ 10 := sorry
theorem rf_nz {x : Int32} (h : 1 ≤ x.toInt) : ¬ x = 0 := sorry
theorem rf_nzl {x : Int32} (h : 1 ≤ x.toInt) : ¬ x.toInt64 = 0 := sorry
theorem rf_full {G f : Nat → Int32} {cx : Int} {c : Int32} (h : rf_R G cx f) (hc : 0 ≤ c.toInt ∧ c.toInt < (G 9).toInt) : 50 ≤ (rf_of f c 7).toInt := sorry
theorem rf_set {G f : Nat → Int32} {cx : Int} {c : Int32} (h : rf_R G cx f) (hc : 0 ≤ c.toInt ∧ c.toInt < (G 9).toInt) : 1 ≤ (f 1).toInt ∧ 1 ≤ (f 2).toInt := sorry
/-- one that runs -/
theorem rf_onr {G f : Nat → Int32} {c : Int32} (h : rf_R G (-1) f) (hc : 0 ≤ c.toInt ∧ c.toInt < (G 9).toInt) (hr : rf_of f c 0 = 1 ∨ rf_of f c 0 = 2) : rf_on G f c := sorry
/-- the same program and step -/
theorem rf_ons {G f g : Nat → Int32} {cx : Int} {c : Int32} (h : rf_R G cx f) (hc : 0 ≤ c.toInt ∧ c.toInt < (G 9).toInt) (hs : rf_sm f g) (ho : rf_on G f c) : rf_on G g c := sorry
theorem rf_fl {q full : Int32} (hq : 0 ≤ q.toInt ∧ q.toInt ≤ 200000) (hf : 50 ≤ full.toInt) : 0 ≤ ((1000 * q.toInt64) / full.toInt64).toInt32.toInt := sorry
theorem rf_mm {x : Int32} : 0 ≤ (if 0 < (if x < 5000 then x else 5000) then (if x < 5000 then x else 5000) else 0 : Int32).toInt ∧ (if 0 < (if x < 5000 then x else 5000) then (if x < 5000 then x else 5000) else 0 : Int32).toInt ≤ 5000 := sorry
theorem rf_neg {x : Int32} (h : 0 ≤ x.toInt ∧ x.toInt ≤ 5000) : -5000 ≤ (-x).toInt ∧ (-x).toInt ≤ 5000 := sorry
theorem rf_tdiv {x s B : Int} (hs : 0 < s) (hB : 0 ≤ B) (h1 : -(B * s) ≤ x) (h2 : x ≤ B * s) : -B ≤ x.tdiv s ∧ x.tdiv s ≤ B := sorry
theorem rf_der {i hot warm span : Int32} (hi : -5000 ≤ i.toInt ∧ i.toInt ≤ 5000) (hh : 0 ≤ hot.toInt ∧ hot.toInt ≤ 1000) (hs : 0 ≤ span.toInt ∧ span.toInt ≤ 200) (hne : ¬ span = 0) (hgt : ¬ warm ≤ (hot - span)) : -5000 ≤ ((i * (if 0 < (hot - warm) then (hot - warm) else 0)) / span).toInt ∧ ((i * (if 0 < (hot - warm) then (hot - warm) else 0)) / span).toInt ≤ 5000 := sorry
theorem rf_mxq {i q : Int32} (hi : i.toInt ≤ 5000) (hq : 0 ≤ q.toInt) : -(q.toInt) ≤ (if i < (- q) then (- q) else i : Int32).toInt ∧ (if i < (- q) then (- q) else i : Int32).toInt ≤ 5000 := sorry
theorem rf_hs {G f : Nat → Int32} {cx : Int} (h : rf_R G cx f) : (0 ≤ (f 6).toInt ∧ (f 6).toInt ≤ 1000) ∧ (0 ≤ (f 16).toInt ∧ (f 16).toInt ≤ 200) ∧ (0 ≤ (f 0).toInt ∧ (f 0).toInt ≤ 1000) := sorry
theorem rf_lr {G f : Nat → Int32} {cx : Int} {c : Int32} (h : rf_R G cx f) (hc : 0 ≤ c.toInt ∧ c.toInt < (G 9).toInt) : 0 ≤ (rf_of f c 16).toInt ∧ (rf_of f c 16).toInt ≤ 999 := sorry
theorem rf_caps {G f : Nat → Int32} {cx : Int} {c : Int32} (h : rf_R G cx f) (hc : 0 ≤ c.toInt ∧ c.toInt < (G 9).toInt) : rf_of f c 12 = G (244 + 54 * c.toInt.toNat + 12) := sorry
/-- the sum that charging makes -/
theorem rf_all {i e l : Int32} (hi : 0 ≤ i.toInt ∧ i.toInt ≤ 5000) (he : 0 ≤ e.toInt ∧ e.toInt ≤ 1000) (hl : 0 ≤ l.toInt ∧ l.toInt ≤ 999) : 0 ≤ ((i * e) + l).toInt ∧ ((i * e) + l).toInt ≤ 5000999 := sorry
theorem rf_mv1 {G f : Nat → Int32} {cx : Int} {c a : Int32} (h : rf_R G cx f) (hc : 0 ≤ c.toInt ∧ c.toInt < (G 9).toInt) (ha : 0 ≤ a.toInt ∧ a.toInt ≤ 5000999) : rf_k G c.toInt.toNat 6 (if ((rf_of f c 6) + (a / 1000)) < (2 * (rf_of f c 12)) then ((rf_of f c 6) + (a / 1000)) else (2 * (rf_of f c 12))) := sorry
theorem rf_mv3 {G f : Nat → Int32} {cx : Int} {c i : Int32} (h : rf_R G cx f) (hc : 0 ≤ c.toInt ∧ c.toInt < (G 9).toInt) (hi : -((rf_of f c 6).toInt) ≤ i.toInt ∧ i.toInt ≤ 5000) (hle : ¬ 0 < i) : rf_k G c.toInt.toNat 6 ((rf_of f c 6) + i) := sorry
theorem rf_fd {y F : Int32} (h : ¬ y < F) (hF : 1 ≤ F.toInt) : (y - F).toInt.toNat < y.toInt.toNat := sorry
theorem rf_fp {G f : Nat → Int32} {cx : Int} {c : Int32} (h : rf_R G cx f) (hc : 0 ≤ c.toInt ∧ c.toInt < (G 9).toInt) : rf_k G c.toInt.toNat 7 (if ((rf_of f c 12) / 2) < ((rf_of f c 7) - 1) then ((rf_of f c 7) - 1) else ((rf_of f c 12) / 2)) := sorry
theorem rf_smof {f g : Nat → Int32} {c : Int32} (hc : 0 ≤ c.toInt ∧ c.toInt < 6) (hs : rf_sm f g) {k : Nat} (hk : k < 3) : rf_of g c k = rf_of f c k := sorry
theorem rf_band {r : Int32} (h : 0 ≤ r.toInt) : 44 ≤ (44 + (if (r / 100) < 9 then (r / 100) else 9)).toInt ∧ (44 + (if (r / 100) < 9 then (r / 100) else 9)).toInt ≤ 53 := sorry
theorem rf_putq {f : Nat → Int32} {c v : Int32} (hc : 0 ≤ c.toInt ∧ c.toInt < 6) {k : Nat} {e : Int32} (hk : (0 ≤ e.toInt ∧ e.toInt < 54) ∧ e.toInt.toNat = k) : upd f ((244 + (54 * c)) + e).toNatClampNeg v = upd f (244 + 54 * c.toInt.toNat + k) v := sorry
theorem rf_putxe {G f : Nat → Int32} {cx : Int} {c : Int32} {v : Int32} (hc : 0 ≤ c.toInt ∧ c.toInt < 6) (h : rf_R G cx f) (hx : cx = -1 ∨ cx = c.toInt) {k : Nat} {e : Int32} (hk : (0 ≤ e.toInt ∧ e.toInt < 54) ∧ e.toInt.toNat = k) (h3 : k < 3) (hF : rf_k G c.toInt.toNat k v) : rf_R G c.toInt (upd f ((244 + (54 * c)) + e).toNatClampNeg v) ∧ True := sorry
theorem rf_ne {f : Nat → Int32} {c v : Int32} {k j : Nat} (hkj : j ≠ k) : rf_of (upd f (244 + 54 * c.toInt.toNat + k) v) c j = rf_of f c j := sorry
theorem rf_eq {f : Nat → Int32} {c v : Int32} {k : Nat} : rf_of (upd f (244 + 54 * c.toInt.toNat + k) v) c k = v := sorry
theorem cm_lt9 {x : Int32} (h : ¬ x ≤ 0) : 0 < x := sorry
theorem cm_nle9 {x : Int32} (h : x ≤ 0) : ¬ 0 < x := sorry
theorem rf_u17 {f g : Nat → Int32} {i : Nat} {v : Int32} (h : upd f i v = g) (hi : 568 ≤ i) {j : Nat} (hj : j < 568) : g j = f j := sorry
theorem rf_num17 {G f : Nat → Int32} {cx : Int} {v : Int32} (h : rf_R G cx f) (hv : 0 ≤ v.toInt ∧ v.toInt ≤ 60) : rf_R G cx (upd f (17 : Int32).toNatClampNeg v) ∧ rf_sm f (upd f (17 : Int32).toNatClampNeg v) := sorry
theorem rf_num12 {G f : Nat → Int32} {cx : Int} {v : Int32} (h : rf_R G cx f) (hv : 0 ≤ v.toInt ∧ v.toInt ≤ 30) : rf_R G cx (upd f (12 : Int32).toNatClampNeg v) ∧ rf_sm f (upd f (12 : Int32).toNatClampNeg v) := sorry
theorem rf_at17 {f g : Nat → Int32} {v : Int32} (h : upd f (17 : Int32).toNatClampNeg v = g) : g 17 = v := sorry
theorem rf_at12 {f g : Nat → Int32} {v : Int32} (h : upd f (12 : Int32).toNatClampNeg v = g) : g 12 = v := sorry
theorem rf_in2 {y k : Int32} {K : Int} (hk : k.toInt = K) (h : 0 ≤ y.toInt ∧ 0 ≤ K ∧ y.toInt + K < 958) : vp_in (y + k) 958 := sorry
theorem rf_in1 {y : Int32} (h : 0 ≤ y.toInt ∧ y.toInt < 958) : vp_in y 958 := sorry
theorem rf_ge {y : Int32} (h : 568 ≤ y.toInt) : 568 ≤ y.toNatClampNeg := sorry
theorem rf_nb {a b l k : Int32} {A B K N : Int} (ha : a.toInt = A) (hb : b.toInt = B) (hk : k.toInt = K) (hl : 0 ≤ l.toInt ∧ l.toInt ≤ N) (hN : N ≤ 60) (hA : 568 ≤ A ∧ A ≤ 800) (hB : 0 ≤ B ∧ B ≤ 5) (hK : 0 ≤ K ∧ K ≤ 5) (hs : A + B * N + K < 958) : 568 ≤ ((a + (b * l)) + k).toInt ∧ ((a + (b * l)) + k).toInt < 958 := sorry
theorem rf_nb0 {a b l : Int32} {A B N : Int} (ha : a.toInt = A) (hb : b.toInt = B) (hl : 0 ≤ l.toInt ∧ l.toInt ≤ N) (hN : N ≤ 60) (hA : 568 ≤ A ∧ A ≤ 800) (hB : 0 ≤ B ∧ B ≤ 5) (hs : A + B * N < 958) : 568 ≤ (a + (b * l)).toInt ∧ (a + (b * l)).toInt < 958 := sorry
theorem rf_dec9 {x : Int32} {a b : Int} (h : a ≤ x.toInt ∧ x.toInt ≤ b) (ha : 1 ≤ a) : a - 1 ≤ (x - 1).toInt ∧ (x - 1).toInt ≤ b - 1 := sorry
theorem rf_inc9 {x : Int32} {a b : Int} (h : a ≤ x.toInt ∧ x.toInt ≤ b) (hb : b ≤ 1000000) (ha : -1000000 ≤ a) : a + 1 ≤ (x + 1).toInt ∧ (x + 1).toInt ≤ b + 1 := sorry
theorem rf_ne60 {x n : Int32} {N : Int} (hn : n.toInt = N) (h : ¬ x = n) (hx : 0 ≤ x.toInt ∧ x.toInt ≤ N) : 0 ≤ x.toInt ∧ x.toInt ≤ N - 1 := sorry
theorem rf_lp {y : Int32} {a b : Int} {n : Int32} (hn : n.toInt = b) (h : a ≤ y.toInt ∧ y.toInt ≤ b) (hg : ¬ n ≤ y) (hb : b ≤ 1000000) (ha : -1000000 ≤ a) : a ≤ (y + Int32.ofInt 1).toInt ∧ (y + Int32.ofInt 1).toInt ≤ b := sorry
theorem rf_ng {y n : Int32} {b : Int} (hn : n.toInt = b) (hg : ¬ n ≤ y) : y.toInt < b := sorry
theorem rf_qk {G f : Nat → Int32} {cx : Int} {c : Int32} (h : rf_R G cx f) (hc : 0 ≤ c.toInt ∧ c.toInt < (G 9).toInt) : (0 ≤ (rf_of f c 39).toInt ∧ (rf_of f c 39).toInt ≤ 4) ∧ ((G 10).toInt = 0 → (rf_of f c 39).toInt = 0) := sorry
theorem rf_q40 {G f : Nat → Int32} {cx : Int} {c : Int32} (h : rf_R G cx f) (hc : 0 ≤ c.toInt ∧ c.toInt < (G 9).toInt) : (0 ≤ (rf_of f c 40).toInt ∧ ((rf_of f c 40).toInt < (G 10).toInt ∨ (rf_of f c 40).toInt = 0)) ∧ (0 ≤ (rf_of f c 41).toInt ∧ ((rf_of f c 41).toInt < (G 10).toInt ∨ (rf_of f c 41).toInt = 0)) ∧ (0 ≤ (rf_of f c 42).toInt ∧ ((rf_of f c 42).toInt < (G 10).toInt ∨ (rf_of f c 42).toInt = 0)) ∧ (0 ≤ (rf_of f c 43).toInt ∧ ((rf_of f c 43).toInt < (G 10).toInt ∨ (rf_of f c 43).toInt = 0)) := sorry
theorem rf_np {G f : Nat → Int32} {cx : Int} (h : rf_R G cx f) : 0 ≤ (G 10).toInt ∧ (G 10).toInt ≤ 4 := sorry
/-! repeats come to an end -/
def rf_w : Nat → Nat
  | 0 => 1
  | j + 1 => 5001 * rf_w j + 1
def rf_sumw (R : Nat → Nat) : Nat → Nat
  | 0 => 0
  | j + 1 => rf_sumw R j + R j * rf_w j
theorem rf_w_pos (j : Nat) : 1 ≤ rf_w j := sorry
theorem rf_w_le {j k : Nat} (h : j ≤ k) : rf_w j ≤ rf_w k := sorry
theorem rf_sumw_upd {R R' : Nat → Nat} {k : Nat} : ∀ n : Nat, k < n → (∀ j : Nat, j < n → j ≠ k → R' j = R j) → rf_sumw R' n + R k * rf_w k = rf_sumw R n + R' k * rf_w k := sorry
def rf_rm (G : Nat → Int32) (p c : Nat) (f : Nat → Int32) (j : Nat) : Nat := ((G (99 + 37 * p + 3 * j)).toInt - (f (268 + 54 * c + j)).toInt).toNat
def rf_M (G : Nat → Int32) (p c : Nat) (f : Nat → Int32) (y : Int32) : Nat := rf_sumw (rf_rm G p c f) 12 + (rf_w 12 - rf_w y.toInt.toNat)
theorem rf_kt {G : Nat → Int32} {c k : Nat} {v : Int32} (hk : 24 ≤ k ∧ k < 36) (hv : 0 ≤ v.toInt) : rf_k G c k v := sorry
theorem rf_kt2 {G : Nat → Int32} {c k : Nat} {v : Int32} (hk : 24 ≤ k ∧ k < 36) (h : rf_k G c k v) (hc : (c : Int) < (G 9).toInt) : 0 ≤ v.toInt := sorry
theorem rf_ty {y : Int32} (hy : 0 ≤ y.toInt ∧ y.toInt < 12) : (24 + y).toInt = 24 + y.toInt ∧ (24 + y).toInt.toNat = 24 + y.toInt.toNat := sorry
theorem rf_ps {G f : Nat → Int32} {cx : Int} (h : rf_R G cx f) {p : Nat} (hp : (p : Int) < (G 10).toInt) : (p < 4 ∧ (1 ≤ (G (96 + 37 * p)).toInt ∧ (G (96 + 37 * p)).toInt ≤ 12)) ∧ f (96 + 37 * p) = G (96 + 37 * p) ∧ (∀ j : Nat, j < 12 → ∀ w : Nat, w ≤ 2 → f (97 + 37 * p + 3 * j + w) = G (97 + 37 * p + 3 * j + w)) := sorry
theorem rf_cb {G f f' : Nat → Int32} {cx : Int} {c y y' : Int32} {p : Nat} (h : rf_R G cx f) (hc : 0 ≤ c.toInt ∧ c.toInt < (G 9).toInt) (hp : (p : Int) < (G 10).toInt) (hy : 0 ≤ y.toInt ∧ y.toInt < (G (96 + 37 * p)).toInt) (hk : f (97 + 37 * p + 3 * y.toInt.toNat + 0) = 4) (hlt : ¬ f (97 + 37 * p + 3 * y.toInt.toNat + 2) ≤ rf_of f c (24 + y).toInt.toNat) (hf : f' = upd f (244 + 54 * c.toInt.toNat + (24 + y).toInt.toNat) (rf_of f c (24 + y).toInt.toNat + 1)) (hy' : y' = f' (97 + 37 * p + 3 * y.toInt.toNat + 1)) : rf_M G p c.toInt.toNat f' y' < rf_M G p c.toInt.toNat f y ∧ 0 ≤ y'.toInt ∧ y'.toInt ≤ (G (96 + 37 * p)).toInt := sorry
theorem rf_cp {G f f' : Nat → Int32} {cx : Int} {c y : Int32} {p : Nat} (h : rf_R G cx f) (hc : 0 ≤ c.toInt ∧ c.toInt < (G 9).toInt) (hp : (p : Int) < (G 10).toInt) (hy : 0 ≤ y.toInt ∧ y.toInt < (G (96 + 37 * p)).toInt) (hge : f (97 + 37 * p + 3 * y.toInt.toNat + 2) ≤ rf_of f c (24 + y).toInt.toNat) (hf : f' = upd f (244 + 54 * c.toInt.toNat + (24 + y).toInt.toNat) 0) : rf_M G p c.toInt.toNat f' (y + Int32.ofInt 1) < rf_M G p c.toInt.toNat f y ∧ 0 ≤ (y + Int32.ofInt 1).toInt ∧ (y + Int32.ofInt 1).toInt ≤ (G (96 + 37 * p)).toInt := sorry
/-- a channel whose program and step stand -/
theorem rf_runok {G f : Nat → Int32} {c : Int32} (hc : 0 ≤ c.toInt) (ho : rf_on G f c) : rf_run G f c.toInt.toNat := sorry
theorem rf_runno {G f : Nat → Int32} {c : Int32} (h1 : ¬ rf_of f c 0 = 1) (h2 : ¬ rf_of f c 0 = 2) : rf_run G f c.toInt.toNat := sorry
theorem rf_back9 {G f : Nat → Int32} {cx : Int} {c : Int32} (hc : 0 ≤ c.toInt) (h : rf_R G cx f) (hx : cx = -1 ∨ cx = c.toInt) (hr : rf_run G f c.toInt.toNat) : rf_R G (-1) f := sorry
theorem rf_q39 {G f : Nat → Int32} {cx : Int} {c : Int32} (h : rf_R G cx f) (hc : 0 ≤ c.toInt ∧ c.toInt < (G 9).toInt) (hq : 1 ≤ (rf_of f c 39).toInt) : rf_k G c.toInt.toNat 39 (rf_of f c 39 - 1) := sorry
theorem rf_p4 {G f : Nat → Int32} {cx : Int} (h : rf_R G cx f) {p : Int32} (hp : 0 ≤ p.toInt ∧ p.toInt < (G 10).toInt) : 0 ≤ p.toInt ∧ p.toInt < 4 := sorry
theorem rf_psn {G f : Nat → Int32} {cx : Int} (h : rf_R G cx f) {p : Int32} (hp : 0 ≤ p.toInt ∧ p.toInt < (G 10).toInt) : f (96 + 37 * p.toInt.toNat) = G (96 + 37 * p.toInt.toNat) ∧ 1 ≤ (f (96 + 37 * p.toInt.toNat)).toInt ∧ (f (96 + 37 * p.toInt.toNat)).toInt ≤ 12 := sorry
theorem rf_c01 {G f : Nat → Int32} {cx : Int} (h : rf_R G cx f) {p : Int32} (hp : 0 ≤ p.toInt ∧ p.toInt < (G 10).toInt) : ¬ f (96 + 37 * p.toInt.toNat) ≤ 0 := sorry
theorem rf_c02 {G f : Nat → Int32} {cx : Int} (h : rf_R G cx f) {p : Int32} (hp : 0 ≤ p.toInt ∧ p.toInt < (G 10).toInt) : ¬ f (97 + 37 * p.toInt.toNat + 3 * (0 : Int32).toInt.toNat + 0) = 4 := sorry
theorem rf_c03 {G f : Nat → Int32} {cx : Int} (h : rf_R G cx f) {p : Int32} (hp : 0 ≤ p.toInt ∧ p.toInt < (G 10).toInt) : ¬ (0 : Int32) = f (96 + 37 * p.toInt.toNat) := sorry
theorem rf_pos {x : Int32} (h : ¬ x ≤ 0) : 1 ≤ x.toInt := sorry
theorem rf_kfree {G : Nat → Int32} {c k : Nat} {v : Int32} (hk : 44 ≤ k ∧ k < 54) : rf_k G c k v := sorry
theorem rf_ylt {y n : Int32} {s : Int} (hn : n.toInt = s) (h : ¬ n ≤ y) : y.toInt < s := sorry
theorem rf_step2 {G : Nat → Int32} {c : Nat} {y : Int32} (h0 : 0 ≤ y.toInt) (h1 : y.toInt ≤ 11) : rf_k G c 2 y := sorry
theorem rf_nes {y s : Int32} (h : ¬ y = s) (h2 : y.toInt ≤ s.toInt) : y.toInt < s.toInt := sorry
theorem rf_on1 {G f : Nat → Int32} {cx : Int} {c : Int32} (h : rf_R G cx f) (ho : rf_on G f c) : 0 ≤ ((rf_of f c 2) + 1).toInt ∧ ((rf_of f c 2) + 1).toInt ≤ (G (96 + 37 * (rf_of f c 1).toInt.toNat)).toInt := sorry
theorem rf_t1 {G f : Nat → Int32} {cx : Int} {c y : Int32} (h : rf_R G cx f) (hc : 0 ≤ c.toInt ∧ c.toInt < (G 9).toInt) (hy : 0 ≤ y.toInt ∧ y.toInt < 12) {s : Int32} (hs : s.toInt ≤ 5000) (hlt : ¬ s ≤ rf_of f c (24 + y).toInt.toNat) : 0 ≤ (rf_of f c (24 + y).toInt.toNat + 1).toInt := sorry
theorem rf_sb {G f : Nat → Int32} {cx : Int} (h : rf_R G cx f) {p : Nat} (hp : (p : Int) < (G 10).toInt) {j w : Nat} (hj : j < 12) (hw : w ≤ 2) : (f (97 + 37 * p + 3 * j + w)).toInt ≤ 5000 := sorry
theorem rf_rngc {v : Int32} {lo hi : Int64} {L U : Int} (hl : lo.toInt = L) (hh : hi.toInt = U) (h : ¬ cm_rng v.toInt64 lo hi = 0) : L ≤ v.toInt ∧ v.toInt ≤ U := sorry
theorem rf_qix {q : Int32} (hq : 0 ≤ q.toInt ∧ q.toInt ≤ 4) : (40 + q).toInt = 40 + q.toInt := sorry
theorem rf_kq {G : Nat → Int32} {c k : Nat} {v : Int32} (hk : 40 ≤ k ∧ k < 44) (hv : 0 ≤ v.toInt ∧ (v.toInt < (G 10).toInt ∨ v.toInt = 0)) : rf_k G c k v := sorry
theorem rf_k39 {G : Nat → Int32} {c : Nat} {v : Int32} (h : 0 ≤ v.toInt ∧ v.toInt ≤ 4) (hp : 0 < (G 10).toInt) : rf_k G c 39 v := sorry
theorem rf_n4 {x : Int32} (h : ¬ x = 4) (hx : 0 ≤ x.toInt ∧ x.toInt ≤ 4) : 0 ≤ x.toInt ∧ x.toInt ≤ 3 := sorry
theorem rf_n0 {x : Int32} (h : ¬ x = 0) (hx : 0 ≤ x.toInt) : 1 ≤ x.toInt := sorry
theorem rf_add9 {a b : Int32} {A B : Int} (ha : a.toInt = A) (hb : 0 ≤ b.toInt ∧ b.toInt ≤ B) (hA : 0 ≤ A ∧ A ≤ 1000000) (hB : B ≤ 1000000) : (a + b).toInt = A + b.toInt := sorry
/-- halving -/
theorem rf_mid {a b : Int32} (ha : 0 ≤ a.toInt) (hb : b.toInt ≤ 100001) (hlt : ¬ b ≤ a) : a.toInt ≤ ((a + b) / 2).toInt ∧ ((a + b) / 2).toInt < b.toInt := sorry
theorem rf_ne0 {x : Int32} (h : ¬ x = 0) : ¬ x = 0 := sorry
theorem rf_Req {G f h : Nat → Int32} {cx : Int} (hR : rf_R G cx f) (he : ∀ j : Nat, j < 958 → h j = f j) : rf_R G cx h := sorry
theorem rf_cpy {f h : Nat → Int32} {y : Int32} (hy : 0 ≤ y.toInt ∧ y.toInt < 958) (he : ∀ j : Nat, (j : Int) < y.toInt → h j = f j) : ∀ j : Nat, (j : Int) < (y + Int32.ofInt 1).toInt → upd h y.toNatClampNeg (f y.toNatClampNeg) j = f j := sorry
theorem rf_rix {x w : Int32} {a b : Int32} {A B N : Int} (ha : a.toInt = A) (hb : b.toInt = B) (hx : 0 ≤ x.toInt ∧ x.toInt ≤ N) (hw : 0 ≤ w.toInt ∧ w.toInt ≤ 5) (hN : N ≤ 60) (hA : 568 ≤ A ∧ A ≤ 800) (hB : 0 ≤ B ∧ B ≤ 5) (hs : A + B * N + 5 < 960) (hs2 : A + B * N + w.toInt < 958) : vp_in ((a + (b * x)) + w) 958 := sorry
theorem rf_p1 {x : Int32} (h : -1000 ≤ x.toInt ∧ x.toInt ≤ 1000000) : (x + 1).toInt = x.toInt + 1 := sorry
theorem rf_lth {a b : Int32} (h : ¬ b ≤ a) : a.toInt < b.toInt := sorry
theorem rf_ge2 {x : Int32} (h : 2 ≤ x) : 2 ≤ x.toInt := sorry
theorem rf_pg {G f : Nat → Int32} {cx : Int} {c : Int32} (h : rf_R G cx f) (hc : 0 ≤ c.toInt ∧ c.toInt < (G 9).toInt) (hn : ¬ rf_of f c 1 = -1) : 0 ≤ (rf_of f c 1).toInt ∧ (rf_of f c 1).toInt < (G 10).toInt := sorry
theorem rf_l0 {x : Int32} (h : x.toInt64 = 0) : x = 0 := sorry
theorem rf_rixe {x w : Int32} (hx : 0 ≤ x.toInt ∧ x.toInt ≤ 29) (hw : 0 ≤ w.toInt ∧ w.toInt ≤ 4) : ((568 + (5 * x)) + w).toInt = ((568 + 5 * x.toInt.toNat + w.toInt.toNat : Nat) : Int) := sorry
theorem rf_b8 {k n : Int32} (hn : n.toInt ≤ 800) (h : k < n) : k < Int32.ofNat 800 := sorry
theorem rf_tlt {y N : Int32} (h : y.toInt < N.toInt) : y < N := sorry
theorem rf_zr (a b c : Int64) : narrow .boolean (.int (cm_rng a b c)) = .int (cm_rng a b c) := sorry
/-! the time and the settings -/
def rf_ds (f g : Nat → Int32) : Prop := ∀ j : Nat, (j < 8 ∨ (13 ≤ j ∧ j ≤ 16)) → g j = f j
def rf_d (t : Int32) (f g : Nat → Int32) : Prop := g 8 = t ∧ rf_ds f g
theorem rf_dr (f : Nat → Int32) : rf_d (f 8) f f := sorry
section RFD
variable {T : Int32} {f g h fa : Nat → Int32} {i : Nat} {v y p : Int32}
theorem rf_dst (a : rf_ds f g) (b : rf_ds g h) : rf_ds f h := sorry
theorem rf_dt (a : rf_d T f g) (b : rf_d (g 8) g h) : rf_d T f h := sorry
theorem rf_d1 (a : rf_d T f g) (b : rf_d (g 8 + 1) g h) : rf_d (T + 1) f h := sorry
theorem rf_du (a : rf_d T f g) (e : upd g i v = h) (hi : 17 ≤ i ∨ (9 ≤ i ∧ i ≤ 12)) : rf_d T f h := sorry
theorem rf_dk (a : rf_d T f g) (e : upd g i v = h) (hi : i = 8) (hv : v = g 8 + 1) : rf_d (T + 1) f h := sorry
theorem rf_dse (e : ∀ j : Nat, j < 958 → g j = f j) : rf_d (f 8) f g := sorry
theorem rf_dg (a : rf_d T f g) (b : rf_d (g 8) g fa) (c : rf_d (fa 8) fa h) : rf_d T f h := sorry
theorem rf_db {P : Nat} (a : rf_d T f g) (hP : 17 ≤ P) (b : ∀ j : Nat, j < P → h j = g j) : rf_d T f h := sorry
theorem rf_da0 (a : rf_d T f g) : rf_d (T + 0) f g := sorry
theorem rf_da1 (a : rf_d ((T + y) + 1) f g) : rf_d (T + (y + Int32.ofInt 1)) f g := sorry
/-- the time behind advance() -/
def rp_av (t p : Int32) : Int32 := if (1 ≤ p.toInt ∧ p.toInt ≤ 5000) ∧ t + p ≤ 300000 then t + p else t
theorem rp_avF {t : Int32} (h : ¬ t + p ≤ 300000) : rp_av t p = t := sorry
theorem rp_avX {t : Int32} (h : ¬ (1 ≤ p.toInt ∧ p.toInt ≤ 5000)) : rp_av t p = t := sorry
theorem rp_ye (b : 0 ≤ y.toInt ∧ y.toInt ≤ p.toInt) (e : p ≤ y) : y = p := sorry
theorem rp_avT {t tc : Int32} (r : 1 ≤ p.toInt ∧ p.toInt ≤ 5000) (h : t + p ≤ 300000) (b : (0 ≤ y.toInt ∧ y.toInt ≤ p.toInt) ∧ tc = t + y) (e : p ≤ y) : rp_av t p = tc := sorry
theorem rf_ad1 (b : 0 ≤ y.toInt ∧ y.toInt ≤ p.toInt) (h : ¬ p ≤ y) : 0 ≤ (y + Int32.ofInt 1).toInt ∧ (y + Int32.ofInt 1).toInt ≤ p.toInt := sorry
theorem rf_adT (r : 1 ≤ p.toInt ∧ p.toInt ≤ 5000) (h : f 8 + p ≤ 300000) (b : 0 ≤ y.toInt ∧ y.toInt ≤ p.toInt) (e : p ≤ y) (d : rf_d (f 8 + y) f g) : rf_d (rp_av (f 8) p) f g := sorry
theorem rf_adF (h : ¬ f 8 + p ≤ 300000) (d : rf_d (f 8) f g) : rf_d (rp_av (f 8) p) f g := sorry
theorem rf_adX (h : ¬ (1 ≤ p.toInt ∧ p.toInt ≤ 5000)) (d : rf_d (f 8) f g) : rf_d (rp_av (f 8) p) f g := sorry
end RFD
theorem rf_rngn {v : Int32} {lo hi : Int64} {L U : Int} (hl : lo.toInt = L) (hh : hi.toInt = U) (h : cm_rng v.toInt64 lo hi = 0) : ¬ (L ≤ v.toInt ∧ v.toInt ≤ U) := sorry
/-- the slots: which are filled, and the times in them -/
theorem rf_nsl {p : Int32} (h : cm_rng p.toInt64 0 1 = 0) : ¬ (p = 0 ∨ p = 1) := sorry
theorem rf_dn {y : Int32} (h : 958 ≤ y) : (958 : Int) ≤ y.toInt := sorry
/-- n times a full load of charge is taken off, each wears the cell -/
def q_fd (fd h2 : Int32) : Nat → Int32 → Int32 → Int32 → Int32 → Prop
  | 0, t, p, t1, p1 => t1 = t ∧ p1 = p
  | n + 1, t, p, t1, p1 => ∃ u v : Int32, q_fd fd h2 n t p u v ∧ fd ≤ u ∧ t1 = u - fd ∧ p1 = (if h2 < v - 1 then v - 1 else h2)
def q_fI (f : Nat → Int32) (c t y : Int32) (g : Nat → Int32) : Prop := (∃ n : Nat, q_fd (f 1) (rf_of f c 12 / 2) n t (rf_of f c 7) y (rf_of g c 7)) ∧ ∀ j : Nat, j ≠ 244 + 54 * c.toInt.toNat + 7 → g j = f j
theorem q_fI0 {f : Nat → Int32} {c t : Int32} : q_fI f c t t f := sorry
theorem q_fIs {f g h : Nat → Int32} {c t y : Int32} (I : q_fI f c t y g) (hq : ¬ y < g 1) (e : h = upd g (244 + 54 * c.toInt.toNat + 7) (if (rf_of g c 12) / 2 < (rf_of g c 7) - 1 then (rf_of g c 7) - 1 else (rf_of g c 12) / 2)) : q_fI f c t (y - g 1) h := sorry
/-- places that a store leaves -/
def q_kp (B pl : Nat) (f g : Nat → Int32) : Prop := ∀ j : Nat, j < B → j ≠ pl → g j = f j
theorem q_kp0 {B pl : Nat} {f : Nat → Int32} : q_kp B pl f f := sorry
theorem q_kpu {B pl i : Nat} {f g h : Nat → Int32} {v : Int32} (k : q_kp B pl f g) (e : upd g i v = h) (hi : B ≤ i ∨ i = pl) : q_kp B pl f h := sorry
theorem rf_nbA {a b l k : Int32} {A B K N : Int} (ha : a.toInt = A) (hb : b.toInt = B) (hk : k.toInt = K) (hl : 0 ≤ l.toInt ∧ l.toInt ≤ N) (hN : N ≤ 60) (hA : 568 ≤ A ∧ A ≤ 800) (hB : 0 ≤ B ∧ B ≤ 5) (hK : 0 ≤ K ∧ K ≤ 5) (hs : A + B * N + K < 958) : ((a + (b * l)) + k).toInt = A + B * l.toInt + K := sorry
theorem rf_pk {x k : Int32} {K : Int} (hk : k.toInt = K) (h : -1000 ≤ x.toInt ∧ x.toInt ≤ 100000) (hK : 0 ≤ K ∧ K ≤ 1000) : (x + k).toInt = x.toInt + K := sorry
theorem rf_oi {n : Int32} (h : 0 ≤ n.toInt ∧ n.toInt ≤ 1000) : (n + Int32.ofInt 1).toInt = n.toInt + 1 := sorry
def q_eq (n : Nat) (a b : Nat → Int32) : Prop := ∀ j : Nat, j < n → b j = a j
/-- the records move down by one -/
def q_sh (f : Nat → Int32) (y : Int32) (g : Nat → Int32) : Prop := ∀ j : Nat, g j = if 568 ≤ j ∧ (j : Int) < y.toInt then f (j + 5) else f j
theorem q_sh0 {f : Nat → Int32} : q_sh f 568 f := sorry
theorem q_shs {f g h : Nat → Int32} {y : Int32} (I : q_sh f y g) (hy : 568 ≤ y.toInt ∧ y.toInt < 713) (e : upd g y.toNatClampNeg (g (y + 5).toNatClampNeg) = h) : q_sh f (y + Int32.ofInt 1) h := sorry
/-- a step over a repeat -/
def q_stp (c p u : Int32) (g : Nat → Int32) (k1 : Int32) (f1 : Nat → Int32) : Prop := ¬ (g (96 + 37 * p.toInt.toNat)) ≤ u ∧ g (97 + 37 * p.toInt.toNat + 3 * u.toInt.toNat + 0) = 4 ∧ ((¬ g (97 + 37 * p.toInt.toNat + 3 * u.toInt.toNat + 2) ≤ rf_of g c (24 + u).toInt.toNat ∧ f1 = upd g (244 + 54 * c.toInt.toNat + (24 + u).toInt.toNat) (rf_of g c (24 + u).toInt.toNat + 1) ∧ k1 = g (97 + 37 * p.toInt.toNat + 3 * u.toInt.toNat + 1)) ∨ (g (97 + 37 * p.toInt.toNat + 3 * u.toInt.toNat + 2) ≤ rf_of g c (24 + u).toInt.toNat ∧ f1 = upd g (244 + 54 * c.toInt.toNat + (24 + u).toInt.toNat) 0 ∧ k1 = u + Int32.ofInt 1))
def q_way (c p : Int32) : Nat → Int32 → (Nat → Int32) → Int32 → (Nat → Int32) → Prop
  | 0, k, f, k1, f1 => k1 = k ∧ f1 = f
  | n + 1, k, f, k1, f1 => ∃ (u : Int32) (g : Nat → Int32), q_way c p n k f u g ∧ q_stp c p u g k1 f1
def q_wy (c p k : Int32) (f : Nat → Int32) (k1 : Int32) (f1 : Nat → Int32) : Prop := ∃ n : Nat, q_way c p n k f k1 f1
theorem q_wy0 {c p k : Int32} {f : Nat → Int32} : q_wy c p k f k f := sorry
theorem q_wys {c p k u k1 : Int32} {f g f1 : Nat → Int32} (h : q_wy c p k f u g) (s : q_stp c p u g k1 f1) : q_wy c p k f k1 f1 := sorry
