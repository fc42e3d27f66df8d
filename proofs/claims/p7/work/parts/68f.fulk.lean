/-- the reference goes the same way -/
theorem fl_qw {f : Nat → Int32} {c p : Int32} {P n : Nat} (hc : 0 ≤ c.toInt ∧ c.toInt < 6) (hp : p.toInt = P) (hP : P < 4) (hs : f (96 + 37 * P) = Int32.ofNat n) (pg : fl_pg n (fun j => f (97 + 37 * P + 3 * j)) (fun j => f (98 + 37 * P + 3 * j)) (fun j => f (99 + 37 * P + 3 * j))) : ∀ (m : Nat) {k k1 : Int32} {f1 : Nat → Int32} {k0 : Nat}, k.toInt = k0 → k0 ≤ n → q_way c p m k f k1 f1 → ∃ r0 : Nat, k1.toInt = r0 ∧ r0 ≤ n ∧ fl_run n (fun j => f (97 + 37 * P + 3 * j)) (fun j => f (98 + 37 * P + 3 * j)) (fun j => f (99 + 37 * P + 3 * j)) m k0 (fun j => rf_of f c (24 + j)) r0 (fun j => rf_of f1 c (24 + j)) ∧ ∀ j : Nat, (j < 268 + 54 * c.toInt.toNat ∨ 280 + 54 * c.toInt.toNat ≤ j) → f1 j = f j := sorry
/-! who runs what: the part of a channel that a program moves -/
def fl_ac (s : Int32) : Prop := s = 1 ∨ s = 2 ∨ s = 4
def fl_U (f : Nat → Int32) (su : Nat → Int64) (c : Int32) (sta prg stp las wai hel : Int32) (bin bou sbo cin cou : Int64) (ftb fqu : Nat → Int32) : Prop :=
  (rf_of f c 0 = sta ∧ rf_of f c 1 = prg ∧ rf_of f c 39 = wai ∧ rf_of f c 21 = hel) ∧ (∀ j : Nat, j < 12 → rf_of f c (24 + j) = ftb j) ∧ (∀ j : Nat, (j : Int) < wai.toInt → rf_of f c (40 + j) = fqu j) ∧
  (su (7 * c.toInt.toNat + 0) = cin ∧ su (7 * c.toInt.toNat + 1) = cou ∧ su (7 * c.toInt.toNat + 4) = cin - bin ∧ su (7 * c.toInt.toNat + 5) = cou - bou) ∧
  (fl_ac sta → rf_of f c 2 = stp ∧ rf_of f c 3 = las ∧ su (7 * c.toInt.toNat + 6) = sbo) ∧ (¬ fl_ac sta → rf_of f c 2 = -1 ∧ rf_of f c 3 = 0)
/-- the sums of the others, and this channel's own that stay -/
def fl_su (c : Int32) (su t : Nat → Int64) : Prop := (∀ j : Nat, (j < 7 * c.toInt.toNat ∨ 7 * c.toInt.toNat + 7 ≤ j) → t j = su j) ∧ ∀ j : Nat, j < 4 → t (7 * c.toInt.toNat + j) = su (7 * c.toInt.toNat + j)
theorem fl_sur {c : Int32} {su : Nat → Int64} : fl_su c su su := sorry
theorem fl_sut {c : Int32} {su t u : Nat → Int64} (a : fl_su c su t) (b : fl_su c t u) : fl_su c su u := sorry
theorem fl_suu {c : Int32} {su : Nat → Int64} {K : Nat} {v : Int64} (h : 4 ≤ K) (h7 : K < 7) : fl_su c su (vp_updL su (7 * c.toInt.toNat + K) v) := sorry
/-- the places of a channel that a start leaves as they are -/
def fl_st (J : Nat) : Prop := (4 ≤ J ∧ J ≤ 20) ∨ J = 22 ∨ J = 23 ∨ (36 ≤ J ∧ J < 54)
theorem fl_bg {f f1 : Nat → Int32} {su t : Nat → Int64} {c p idx tim llim lwid lold lsiz sta prg stp las wai hel sta1 prg1 stp1 las1 hel1 : Int32} {fln ftb fqu ftb1 : Nat → Int32} {bin bou sbo cin cou bin1 bou1 sbo1 : Int64} (hc : 0 ≤ c.toInt ∧ c.toInt < 6) (hw : wai.toInt ≤ 4) (U : fl_U f su c sta prg stp las wai hel bin bou sbo cin cou ftb fqu) (hr : q_X11_startsOn f su c p f1 t) (hb : a_X1_begin idx cin cou ftb tim llim lwid lold lsiz fln p sta1 prg1 stp1 las1 bin1 bou1 hel1 sbo1 ftb1) :
    fl_U f1 t c sta1 prg1 stp1 las1 wai hel1 bin1 bou1 sbo1 cin cou ftb1 fqu ∧ (∀ J : Nat, fl_st J → rf_of f1 c J = rf_of f c J) ∧ fl_out c f f1 ∧ fl_rec f f1 ∧ fl_su c su t ∧ sta1 = 1 ∧ prg1 = p ∧ stp1 = 0 ∧ hel1 = 0 ∧ ∀ j : Nat, j < 12 → ftb1 j = 0 := sorry
/-! the queue, and how a step is left -/
theorem fl_at4 {b : Nat → Int32} {i r : Int32} {K : Nat} (hi : i.toInt = K) (hK : K < 4) (h : a_X10_at_4 b i r) : r = b K := sorry
