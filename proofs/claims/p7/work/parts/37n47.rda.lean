/-- between the statements -/
def rf_L (g : Nat → Int32) : Prop := rf_st g ∧ (1 ≤ (g 1).toInt ∧ 1 ≤ (g 2).toInt) ∧ (0 ≤ (g 16).toInt ∧ (g 16).toInt ≤ 200) ∧ g 12 = 0 ∧ g 17 = 0 ∧ g 8 = 0
theorem rf_stc {g h : Nat → Int32} (s : rf_st g) (h9 : h 9 = g 9) (h10 : h 10 = g 10) (h11 : h 11 = g 11) (h0 : 0 ≤ (h 0).toInt ∧ (h 0).toInt ≤ 1000) (h6 : 0 ≤ (h 6).toInt ∧ (h 6).toInt ≤ 1000) (h12 : 1 ≤ (h 1).toInt ∧ 1 ≤ (h 2).toInt)
    (hv : ∀ v : Nat, (v : Int) < (g 11).toInt → h (27 + 19 * v) = g (27 + 19 * v)) (hr : ∀ j : Nat, 96 ≤ j → j < 244 → 0 ≤ (h j).toInt ∧ (h j).toInt ≤ 5000)
    (hp : ∀ p : Nat, (p : Int) < (g 10).toInt → ∀ j : Nat, j < 37 → h (96 + 37 * p + j) = g (96 + 37 * p + j)) (hc : ∀ c : Nat, (c : Int) < (g 9).toInt → ∀ k : Nat, 11 ≤ k → k ≤ 15 → h (244 + 54 * c + k) = g (244 + 54 * c + k)) : rf_st h := sorry
/-- a number that is set by a statement of its own -/
theorem rf_Lset {g : Nat → Int32} {i : Nat} {v : Int32} (h : rf_L g) (hi : (i = 0 ∧ 0 ≤ v.toInt ∧ v.toInt ≤ 1000) ∨ ((i = 1 ∨ i = 2) ∧ 1 ≤ v.toInt) ∨ (i = 6 ∧ 0 ≤ v.toInt ∧ v.toInt ≤ 1000) ∨ (i = 16 ∧ 0 ≤ v.toInt ∧ v.toInt ≤ 200) ∨ (i = 3 ∨ i = 4 ∨ i = 5 ∨ i = 7 ∨ i = 13 ∨ i = 14 ∨ i = 15)) : rf_L (upd g i v) := sorry
/-- a place of an entry that isn't counted yet -/
theorem rf_Lf {g : Nat → Int32} {i : Nat} {v : Int32} (h : rf_L g) (hi : (20 + 19 * (g 11).toInt.toNat ≤ i ∧ i < 96) ∨ ((96 + 37 * (g 10).toInt.toNat ≤ i ∧ i < 244) ∧ 0 ≤ v.toInt ∧ v.toInt ≤ 5000) ∨ 244 + 54 * (g 9).toInt.toNat ≤ i) : rf_L (upd g i v) ∧ ∀ j : Nat, j < 20 → upd g i v j = g j := sorry
/-- one more curve, channel, program -/
theorem rf_Lm {g : Nat → Int32} {i : Nat} {v : Int32} (h : rf_L g) (hi : i = 9 ∨ i = 10 ∨ i = 11) (hv : v.toInt = (g i).toInt + 1)
    (h9 : i = 9 → (g 9).toInt < 6 ∧ (0 ≤ (g (244 + 54 * (g 9).toInt.toNat + 11)).toInt ∧ (g (244 + 54 * (g 9).toInt.toNat + 11)).toInt < (g 11).toInt) ∧ (100 ≤ (g (244 + 54 * (g 9).toInt.toNat + 12)).toInt ∧ (g (244 + 54 * (g 9).toInt.toNat + 12)).toInt ≤ 100000) ∧ (1 ≤ (g (244 + 54 * (g 9).toInt.toNat + 13)).toInt ∧ (g (244 + 54 * (g 9).toInt.toNat + 13)).toInt ≤ 500) ∧ (0 ≤ (g (244 + 54 * (g 9).toInt.toNat + 14)).toInt ∧ (g (244 + 54 * (g 9).toInt.toNat + 14)).toInt ≤ 500) ∧ 1 ≤ (g (244 + 54 * (g 9).toInt.toNat + 15)).toInt ∧ (g (244 + 54 * (g 9).toInt.toNat + 15)).toInt ≤ 200)
    (h10 : i = 10 → (g 10).toInt < 4 ∧ (1 ≤ (g (96 + 37 * (g 10).toInt.toNat)).toInt ∧ (g (96 + 37 * (g 10).toInt.toNat)).toInt ≤ 12) ∧ ∀ j : Nat, (j : Int) < (g (96 + 37 * (g 10).toInt.toNat)).toInt → g (97 + 37 * (g 10).toInt.toNat + 3 * j) = 4 → (g (98 + 37 * (g 10).toInt.toNat + 3 * j)).toInt < (j : Int))
    (h11 : i = 11 → (g 11).toInt < 4 ∧ 2 ≤ (g (27 + 19 * (g 11).toInt.toNat)).toInt ∧ (g (27 + 19 * (g 11).toInt.toNat)).toInt ≤ 11) : rf_L (upd g i v) := sorry
/-- the row at the start -/
theorem rf_Lz {h : Nat → Int32} (hz : ∀ j : Nat, j < 958 → h j = 0) : rf_L (upd (upd (upd (upd (upd (upd (upd (upd (upd h 0 990) 1 100000) 2 100) 3 5) 5 5000) 6 600) 7 250) 14 5000) 15 1000) ∧ (upd (upd (upd (upd (upd (upd (upd (upd (upd h 0 990) 1 100000) 2 100) 3 5) 5 5000) 6 600) 7 250) 14 5000) 15 1000) 9 = 0 := sorry
/-- no channel: a row like this is the row itself -/
theorem rf_LR0 {g : Nat → Int32} (h : rf_L g) (h9 : g 9 = 0) : rf_R g (-1) g := sorry
/-- what begins() leaves in a row -/
def rf_bz (f : Nat → Int32) (P n j : Nat) : Int32 := if (P ≤ j ∧ j < P + n) ∧ (j < P + 11 ∨ P + 15 < j) then 0 else f j
def rf_bg (f h : Nat → Int32) (P : Nat) (q : Int32) : Prop := (∀ j : Nat, (j < P ∨ P + 54 ≤ j) → h j = f j) ∧ (∀ k : Nat, 11 ≤ k → k ≤ 15 → h (P + k) = f (P + k)) ∧ (h P = 0 ∧ h (P + 1) = -1 ∧ h (P + 2) = -1 ∧ h (P + 6) = q ∧ h (P + 7) = f (P + 12)) ∧ ∀ k : Nat, 16 ≤ k → k < 54 → k ≠ 19 → k ≠ 20 → k ≠ 38 → h (P + k) = 0
theorem rf_bz0 {f : Nat → Int32} {P : Nat} (j : Nat) : f j = rf_bz f P (0 : Int32).toInt.toNat j := sorry
theorem rf_o1 {y : Int32} (h : 0 ≤ y.toInt ∧ y.toInt < 54) : (y + Int32.ofInt 1).toInt = y.toInt + 1 := sorry
theorem rf_bze {p y : Int32} (hp : 244 ≤ p.toInt ∧ p.toInt ≤ 904) (hy : 0 ≤ y.toInt ∧ y.toInt < 54) : (p + y).toInt = ((p.toInt.toNat + y.toInt.toNat : Nat) : Int) := sorry
theorem rf_bz1 {f c : Nat → Int32} {p y : Int32} (hp : 244 ≤ p.toInt ∧ p.toInt ≤ 904) (hy : 0 ≤ y.toInt ∧ y.toInt < 54) (h : ∀ j : Nat, c j = rf_bz f p.toInt.toNat y.toInt.toNat j) (hb : y.toInt < 11 ∨ 15 < y.toInt) : (0 ≤ (y + Int32.ofInt 1).toInt ∧ (y + Int32.ofInt 1).toInt ≤ 54) ∧ ∀ j : Nat, upd c (p + y).toNatClampNeg 0 j = rf_bz f p.toInt.toNat (y + Int32.ofInt 1).toInt.toNat j := sorry
theorem rf_bz2 {f c : Nat → Int32} {p y : Int32} (hy : 0 ≤ y.toInt ∧ y.toInt < 54) (h : ∀ j : Nat, c j = rf_bz f p.toInt.toNat y.toInt.toNat j) (hb : 11 ≤ y.toInt ∧ y.toInt ≤ 15) : (0 ≤ (y + Int32.ofInt 1).toInt ∧ (y + Int32.ofInt 1).toInt ≤ 54) ∧ ∀ j : Nat, c j = rf_bz f p.toInt.toNat (y + Int32.ofInt 1).toInt.toNat j := sorry
theorem rf_lt11 {y : Int32} (h : y < 11) : y.toInt < 11 := sorry
theorem rf_ge11 {y : Int32} (h : ¬ y < 11) : 11 ≤ y.toInt := sorry
theorem rf_le15 {y : Int32} (h : y ≤ 15) : y.toInt ≤ 15 := sorry
theorem rf_gt15 {y : Int32} (h : ¬ y ≤ 15) : 15 < y.toInt := sorry
theorem rf_lt54 {y : Int32} (h : ¬ 54 ≤ y) : y.toInt < 54 := sorry
theorem rf_ge54 {y : Int32} (h : 54 ≤ y) : 54 ≤ y.toInt := sorry
theorem rf_bzn {p k : Int32} {n : Nat} (hp : 244 ≤ p.toInt ∧ p.toInt ≤ 904) (hk : k.toInt = n) (hn : n < 54) : (p + k).toNatClampNeg = p.toInt.toNat + n := sorry
theorem rf_bgl {f c : Nat → Int32} {p q v7 v9 y : Int32} (hp : 244 ≤ p.toInt ∧ p.toInt ≤ 904) (hy : (0 ≤ y.toInt ∧ y.toInt ≤ 54) ∧ ∀ j : Nat, c j = rf_bz f p.toInt.toNat y.toInt.toNat j) (hy2 : 54 ≤ y) (h7 : v7 = f (p.toInt.toNat + 12)) :
    rf_bg f (upd (upd (upd (upd (upd (upd (upd (upd c (p + 1).toNatClampNeg (-1)) (p + 2).toNatClampNeg (-1)) (p + 6).toNatClampNeg q) (p + 7).toNatClampNeg v7) (p + 19).toNatClampNeg (-1)) (p + 20).toNatClampNeg (-1)) (p + 38).toNatClampNeg (-1)) (p + 9).toNatClampNeg v9) p.toInt.toNat q := sorry
theorem rf_bg7 {f c : Nat → Int32} {p q y : Int32} (hp : 244 ≤ p.toInt ∧ p.toInt ≤ 904) (hy : (0 ≤ y.toInt ∧ y.toInt ≤ 54) ∧ ∀ j : Nat, c j = rf_bz f p.toInt.toNat y.toInt.toNat j) : (upd (upd (upd c (p + 1).toNatClampNeg (-1)) (p + 2).toNatClampNeg (-1)) (p + 6).toNatClampNeg q) (p + 12).toNatClampNeg = f (p.toInt.toNat + 12) := sorry
/-- a channel that has begun -/
def rf_bc (G h : Nat → Int32) (c : Nat) : Prop := (∀ k : Nat, 11 ≤ k → k ≤ 15 → h (244 + 54 * c + k) = G (244 + 54 * c + k)) ∧ (h (244 + 54 * c) = 0 ∧ h (244 + 54 * c + 1) = -1 ∧ h (244 + 54 * c + 2) = -1 ∧ (0 ≤ (h (244 + 54 * c + 6)).toInt ∧ (h (244 + 54 * c + 6)).toInt ≤ 2 * (G (244 + 54 * c + 12)).toInt) ∧ h (244 + 54 * c + 7) = G (244 + 54 * c + 12)) ∧ ∀ k : Nat, 16 ≤ k → k < 54 → k ≠ 19 → k ≠ 20 → k ≠ 38 → h (244 + 54 * c + k) = 0
theorem rf_bck {G h : Nat → Int32} {c : Nat} (s : rf_st G) (b : rf_bc G h c) : ∀ k : Nat, k < 54 → rf_k G c k (h (244 + 54 * c + k)) := sorry
theorem rf_bcR {G f h : Nat → Int32} {cx : Int} {c : Nat} (hR : rf_R G cx f) (hcx : cx = -1) (hc : (c : Int) < (G 9).toInt) (ho : ∀ j : Nat, (j < 244 + 54 * c ∨ 244 + 54 * c + 54 ≤ j) → h j = f j) (b : rf_bc G h c) : rf_R G cx h := sorry
/-- while load() begins the channels -/
def rf_ld (g h : Nat → Int32) (n : Nat) : Prop := (∀ j : Nat, (j < 244 ∨ 244 + 54 * n ≤ j) → h j = g j) ∧ ∀ c : Nat, c < n → rf_bc g h c
theorem rf_ld0 (g : Nat → Int32) : rf_ld g g 0 := sorry
theorem rf_ldn {g h h2 : Nat → Int32} {n : Nat} {q : Int32} (hd : rf_ld g h n) (b : rf_bg h h2 (244 + 54 * n) q) (hq : 0 ≤ q.toInt ∧ q.toInt ≤ 2 * (g (244 + 54 * n + 12)).toInt) : rf_ld g h2 (n + 1) := sorry
theorem rf_ldR {g h : Nat → Int32} (l : rf_L g) (hd : rf_ld g h (g 9).toInt.toNat) : rf_R g (-1) h := sorry
