/-! the way through repeat steps -/
def fl_stp (n : Nat) (K T M : Nat → Int32) (k : Nat) (B : Nat → Int32) (k1 : Nat) (B1 : Nat → Int32) : Prop := k < n ∧ K k = 4 ∧ ((¬ M k ≤ B k ∧ k1 = (T k).toInt.toNat ∧ ∀ j : Nat, j < 12 → B1 j = if j = k then B k + 1 else B j) ∨ (M k ≤ B k ∧ k1 = k + 1 ∧ ∀ j : Nat, j < 12 → B1 j = if j = k then 0 else B j))
def fl_run (n : Nat) (K T M : Nat → Int32) : Nat → Nat → (Nat → Int32) → Nat → (Nat → Int32) → Prop
  | 0, k, B, k1, B1 => k1 = k ∧ ∀ j : Nat, j < 12 → B1 j = B j
  | m + 1, k, B, k1, B1 => ∃ (k2 : Nat) (B2 : Nat → Int32), fl_stp n K T M k B k2 B2 ∧ fl_run n K T M m k2 B2 k1 B1
def fl_go (n : Nat) (K : Nat → Int32) (k : Nat) : Prop := k < n ∧ K k = 4
theorem fl_stB {n k k1 : Nat} {K T M B C B1 : Nat → Int32} (hn : n ≤ 12) (e : ∀ j : Nat, j < 12 → C j = B j) (h : fl_stp n K T M k B k1 B1) : fl_stp n K T M k C k1 B1 := sorry
theorem fl_snoc {n : Nat} {K T M : Nat → Int32} (hn : n ≤ 12) : ∀ (m : Nat) {k k2 k1 : Nat} {B B2 B1 : Nat → Int32}, fl_run n K T M m k B k2 B2 → fl_stp n K T M k2 B2 k1 B1 → fl_run n K T M (m + 1) k B k1 B1 := sorry
/-- one step has one end -/
theorem fl_st1 {n k a b : Nat} {K T M B C X Y : Nat → Int32} (hn : n ≤ 12) (e : ∀ j : Nat, j < 12 → C j = B j) (h : fl_stp n K T M k B a X) (g : fl_stp n K T M k C b Y) : b = a ∧ ∀ j : Nat, j < 12 → Y j = X j := sorry
theorem fl_rn1 {n : Nat} {K T M : Nat → Int32} (hn : n ≤ 12) : ∀ (m r : Nat) {k a b : Nat} {B C X Y : Nat → Int32}, (∀ j : Nat, j < 12 → C j = B j) → fl_run n K T M m k B a X → fl_run n K T M r k C b Y → ¬ fl_go n K a → ¬ fl_go n K b → m = r ∧ b = a ∧ ∀ j : Nat, j < 12 → Y j = X j := sorry
/-- what holds of a program, and below the place -/
def fl_pg (n : Nat) (K T M : Nat → Int32) : Prop := n ≤ 12 ∧ ∀ j : Nat, j < n → K j = 4 → 0 ≤ (T j).toInt ∧ (T j).toInt < (j : Int) ∧ 1 ≤ (M j).toInt
def fl_lo (K : Nat → Int32) (k : Nat) (B : Nat → Int32) : Prop := ∀ j : Nat, j < k → K j = 4 → B j = 0
/-- up the steps, and then only down -/
def fl_ud (n : Nat) (K : Nat → Int32) (k m u : Nat) (B : Nat → Int32) : Prop := u ≤ n ∧ fl_lo K u B ∧ (u = k + m ∨ ∃ t : Nat, u < t ∧ t < n ∧ k ≤ t ∧ m ≤ (t - k) + (t - u) ∧ fl_lo K (u + 1) B)
theorem fl_ud1 {n k m u v : Nat} {K T M B C : Nat → Int32} (hp : fl_pg n K T M) (h : fl_ud n K k m u B) (s : fl_stp n K T M u B v C) : fl_ud n K k (m + 1) v C := sorry
theorem fl_udr {n k : Nat} {K T M : Nat → Int32} (hp : fl_pg n K T M) : ∀ (r m : Nat) {u v : Nat} {B C : Nat → Int32}, fl_ud n K k m u B → fl_run n K T M r u B v C → fl_ud n K k (m + r) v C := sorry
/-- at most so many steps, and below the end all numbers are 0 -/
theorem fl_rnb {n k m v : Nat} {K T M B C : Nat → Int32} (hp : fl_pg n K T M) (hk : k ≤ n) (hl : fl_lo K k B) (h : fl_run n K T M m k B v C) : m ≤ 24 ∧ v ≤ n ∧ fl_lo K v C := sorry
theorem fl_at12 {b : Nat → Int32} {i r : Int32} {K : Nat} (hi : i.toInt = K) (hK : K < 12) (h : a_X10_at_12 b i r) : r = b K := sorry
theorem fl_p12 {b b1 : Nat → Int32} {i v : Int32} {K : Nat} (hi : i.toInt = K) (hK : K < 12) (h : a_X10_put_12 b i v b1) : b1 = upd b K v := sorry
/-- the class goes this way -/
theorem fl_sb {fsps fk ff fs : Nat → Int32} {prg : Int32} {P n : Nat} (hp : prg.toInt = P) (hP : P < 4) (hs : fsps P = Int32.ofNat n) (pg : fl_pg n (fun j => fk (12 * P + j)) (fun j => ff (12 * P + j)) (fun j => fs (12 * P + j))) : ∀ (m : Nat) {k r : Int32} {B C : Nat → Int32} {k0 : Nat}, k.toInt = k0 → k0 ≤ n → a_sb fsps fk ff fs prg m k B r C → ∃ (q r0 : Nat), q ≤ m ∧ r.toInt = r0 ∧ fl_run n (fun j => fk (12 * P + j)) (fun j => ff (12 * P + j)) (fun j => fs (12 * P + j)) q k0 B r0 C ∧ (q = m ∨ ¬ fl_go n (fun j => fk (12 * P + j)) r0) := sorry
