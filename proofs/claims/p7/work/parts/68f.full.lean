theorem fl_ql {f f1 : Nat → Int32} {c wai r r2 wai1 : Int32} {fqu fqu1 : Nat → Int32} (hc : 0 ≤ c.toInt ∧ c.toInt < 6) (hw : 1 ≤ wai.toInt ∧ wai.toInt ≤ 4) (u39 : rf_of f c 39 = wai) (uq : ∀ j : Nat, (j : Int) < wai.toInt → rf_of f c (40 + j) = fqu j) (h : q_X11_leavesQueue f c r f1) (g : a_X1_takeWaiting wai fqu r2 wai1 fqu1) :
    r = fqu 0 ∧ r2 = fqu 0 ∧ wai1.toInt = wai.toInt - 1 ∧ rf_of f1 c 39 = wai1 ∧ (∀ j : Nat, (j : Int) < wai1.toInt → rf_of f1 c (40 + j) = fqu1 j) ∧ (∀ j : Nat, (j : Int) < wai1.toInt → fqu1 j = fqu (j + 1)) ∧ (∀ J : Nat, (J < 39 ∨ 43 ≤ J) → rf_of f1 c J = rf_of f c J) ∧ fl_out c f f1 ∧ fl_rec f f1 := sorry
theorem fl_stK {n k k1 : Nat} {K T M K2 T2 M2 B B1 : Nat → Int32} (e : ∀ j : Nat, j < n → K2 j = K j ∧ T2 j = T j ∧ M2 j = M j) (h : fl_stp n K T M k B k1 B1) : fl_stp n K2 T2 M2 k B k1 B1 := sorry
theorem fl_rnK {n : Nat} {K T M K2 T2 M2 : Nat → Int32} (e : ∀ j : Nat, j < n → K2 j = K j ∧ T2 j = T j ∧ M2 j = M j) : ∀ (m : Nat) {k k1 : Nat} {B B1 : Nat → Int32}, fl_run n K T M m k B k1 B1 → fl_run n K2 T2 M2 m k B k1 B1 := sorry
/-- behind the last step nothing is counted -/
def fl_tu (n : Nat) (B C : Nat → Int32) : Prop := ∀ j : Nat, n ≤ j → j < 12 → C j = B j
theorem fl_rnt {n : Nat} {K T M : Nat → Int32} : ∀ (m : Nat) {k k1 : Nat} {B B1 : Nat → Int32}, fl_run n K T M m k B k1 B1 → fl_tu n B B1 := sorry
/-- the step behind, on both sides -/
theorem fl_wy {f f5 : Nat → Int32} {c prg k y r : Int32} {P S n : Nat} {fsps fk ff fs B C : Nat → Int32} (hc : 0 ≤ c.toInt ∧ c.toInt < 6) (hp : prg.toInt = P) (hP : P < 4) (hs : fsps P = Int32.ofNat n) (hf : f (96 + 37 * P) = Int32.ofNat n)
    (e : ∀ j : Nat, j < n → f (97 + 37 * P + 3 * j) = fk (12 * P + j) ∧ f (98 + 37 * P + 3 * j) = ff (12 * P + j) ∧ f (99 + 37 * P + 3 * j) = fs (12 * P + j)) (pg : fl_pg n (fun j => fk (12 * P + j)) (fun j => ff (12 * P + j)) (fun j => fs (12 * P + j)))
    (hk : k.toInt = S) (hS : S ≤ n) (hb : ∀ j : Nat, j < 12 → rf_of f c (24 + j) = B j) (hl : fl_lo (fun j => fk (12 * P + j)) S B)
    (h : q_wy c prg k f y f5) (he : f5 (96 + 37 * P) ≤ y ∨ ¬ f5 (97 + 37 * P + 3 * y.toInt.toNat + 0) = 4) (g : a_sb fsps fk ff fs prg 48 k B r C) :
    r = y ∧ (∃ y0 : Nat, y.toInt = y0 ∧ y0 ≤ n ∧ fl_lo (fun j => fk (12 * P + j)) y0 C ∧ ¬ fl_go n (fun j => fk (12 * P + j)) y0) ∧ (∀ j : Nat, j < 12 → rf_of f5 c (24 + j) = C j) ∧ (∀ j : Nat, (j < 268 + 54 * c.toInt.toNat ∨ 280 + 54 * c.toInt.toNat ≤ j) → f5 j = f j) ∧ fl_tu n B C := sorry
/-- a program on both sides -/
def fl_Pg (f fsps fk ff fs : Nat → Int32) (P n : Nat) : Prop := fsps P = Int32.ofNat n ∧ f (96 + 37 * P) = Int32.ofNat n ∧ (∀ j : Nat, j < n → f (97 + 37 * P + 3 * j) = fk (12 * P + j) ∧ f (98 + 37 * P + 3 * j) = ff (12 * P + j) ∧ f (99 + 37 * P + 3 * j) = fs (12 * P + j)) ∧ fl_pg n (fun j => fk (12 * P + j)) (fun j => ff (12 * P + j)) (fun j => fs (12 * P + j))
/-- the places of a channel that leaving a step leaves as they are -/
def fl_sq (J : Nat) : Prop := (4 ≤ J ∧ J ≤ 20) ∨ J = 22 ∨ J = 23 ∨ (36 ≤ J ∧ J < 39) ∨ (44 ≤ J ∧ J < 54)
theorem fl_sqt {J : Nat} (h : fl_sq J) : fl_st J := sorry
theorem fl_lv {f f1 G : Nat → Int32} {su t : Nat → Int64} {c k idx tim llim lwid lold lsiz sta prg stp las wai hel sta1 prg1 stp1 las1 wai1 hel1 : Int32} {fln ftb fqu ftb1 fqu1 fsps fk ff fs : Nat → Int32} {bin bou sbo cin cou bin1 bou1 sbo1 : Int64} {P n S : Nat} (hc : 0 ≤ c.toInt ∧ c.toInt < 6) (hp : prg.toInt = P) (hP : P < 4) (pg : fl_Pg f fsps fk ff fs P n) (hS : stp.toInt = S) (hSn : S < n) (hl : fl_lo (fun j => fk (12 * P + j)) (S + 1) ftb) (hw : 0 ≤ wai.toInt ∧ wai.toInt ≤ 4) (ha : fl_ac sta) (U : fl_U f su c sta prg stp las wai hel bin bou sbo cin cou ftb fqu) (hk : k = stp + 1)
    (hr : q_comes f G su c k f1 t) (hb : a_X1_leaveStep idx sta prg stp las wai bin bou hel sbo cin cou ftb fqu tim fsps fk ff fs llim lwid lold lsiz fln sta1 prg1 stp1 las1 wai1 bin1 bou1 hel1 sbo1 ftb1 fqu1) :
    fl_U f1 t c sta1 prg1 stp1 las1 wai1 hel1 bin1 bou1 sbo1 cin cou ftb1 fqu1 ∧ (∀ J : Nat, fl_sq J → rf_of f1 c J = rf_of f c J) ∧ fl_out c f f1 ∧ fl_rec f f1 ∧ fl_su c su t ∧ (hel1 = hel ∨ hel1 = 0) ∧
    ((sta1 = sta ∧ prg1 = prg ∧ (∃ S1 : Nat, stp1.toInt = S1 ∧ S1 < n ∧ fl_lo (fun j => fk (12 * P + j)) S1 ftb1 ∧ ¬ fk (12 * P + S1) = 4) ∧ las1 = 0 ∧ wai1 = wai ∧ fqu1 = fqu ∧ fl_tu n ftb ftb1) ∨
      (sta1 = 3 ∧ prg1 = prg ∧ wai1 = wai ∧ fqu1 = fqu ∧ fl_tu n ftb ftb1) ∨
      (1 ≤ wai.toInt ∧ sta1 = 1 ∧ prg1 = fqu 0 ∧ stp1 = 0 ∧ wai1.toInt = wai.toInt - 1 ∧ (∀ j : Nat, (j : Int) < wai1.toInt → fqu1 j = fqu (j + 1)) ∧ ∀ j : Nat, j < 12 → ftb1 j = 0)) := sorry
