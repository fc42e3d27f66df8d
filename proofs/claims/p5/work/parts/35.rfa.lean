/-- the reference's object, folded: short to write, quick to read -/
def rf_MO (mo mw ma mf m0 m1 mu mv u0 u1 iz : Nat) (th : Int32) (mb : Nat) (mn mpt mbg mwr mwk mlf men : Int32) : Nat × va_E := (mo, .inr (11, [.ref mw, .ref ma, .ref mf, .ref m0, .ref m1, .ref mu, .ref mv, .ref u0, .ref u1, .ref iz, .int th, .ref mb, .int mn, .int mpt, .int mbg, .int mwr, .int mwk, .int mlf, .int men]))
/-! the reference's row of numbers: what holds of it between the calls -/
def rf_of (f : Nat → Int32) (c : Int32) (k : Nat) : Int32 := f (244 + 54 * c.toInt.toNat + k)
/-- the description: G is the row as it was read -/
def rf_st (G : Nat → Int32) : Prop :=
  (0 ≤ (G 0).toInt ∧ (G 0).toInt ≤ 1000) ∧ (0 ≤ (G 6).toInt ∧ (G 6).toInt ≤ 1000) ∧ (0 ≤ (G 9).toInt ∧ (G 9).toInt ≤ 6) ∧ (0 ≤ (G 10).toInt ∧ (G 10).toInt ≤ 4) ∧ (0 ≤ (G 11).toInt ∧ (G 11).toInt ≤ 4) ∧
  (∀ p : Nat, (p : Int) < (G 10).toInt → (1 ≤ (G (96 + 37 * p)).toInt ∧ (G (96 + 37 * p)).toInt ≤ 12) ∧ ¬ G (97 + 37 * p) = 4 ∧ ∀ j : Nat, (j : Int) < (G (96 + 37 * p)).toInt → G (97 + 37 * p + 3 * j) = 4 → (G (98 + 37 * p + 3 * j)).toInt < (j : Int)) ∧
  (∀ v : Nat, (v : Int) < (G 11).toInt → 2 ≤ (G (27 + 19 * v)).toInt ∧ (G (27 + 19 * v)).toInt ≤ 11) ∧
  (∀ j : Nat, 96 ≤ j → j < 244 → 0 ≤ (G j).toInt ∧ (G j).toInt ≤ 5000) ∧
  (∀ c : Nat, (c : Int) < (G 9).toInt → (0 ≤ (G (244 + 54 * c + 11)).toInt ∧ (G (244 + 54 * c + 11)).toInt < (G 11).toInt) ∧ (100 ≤ (G (244 + 54 * c + 12)).toInt ∧ (G (244 + 54 * c + 12)).toInt ≤ 100000) ∧ (1 ≤ (G (244 + 54 * c + 13)).toInt ∧ (G (244 + 54 * c + 13)).toInt ≤ 500) ∧ (0 ≤ (G (244 + 54 * c + 14)).toInt ∧ (G (244 + 54 * c + 14)).toInt ≤ 500) ∧ 1 ≤ (G (244 + 54 * c + 15)).toInt ∧ (G (244 + 54 * c + 15)).toInt ≤ 200) ∧
  (0 < (G 9).toInt → 1 ≤ (G 1).toInt ∧ 1 ≤ (G 2).toInt)
/-- the number at place k of channel c -/
def rf_k (G : Nat → Int32) (c : Nat) (k : Nat) (v : Int32) : Prop := (c : Int) < (G 9).toInt → match k with
  | 1 => -1 ≤ v.toInt ∧ v.toInt < (G 10).toInt
  | 2 => -1 ≤ v.toInt ∧ v.toInt ≤ 11
  | 6 => 0 ≤ v.toInt ∧ v.toInt ≤ 2 * (G (244 + 54 * c + 12)).toInt
  | 7 => (G (244 + 54 * c + 12)).toInt / 2 ≤ v.toInt ∧ v.toInt ≤ (G (244 + 54 * c + 12)).toInt
  | 11 => v = G (244 + 54 * c + 11)
  | 12 => v = G (244 + 54 * c + 12)
  | 13 => v = G (244 + 54 * c + 13)
  | 14 => v = G (244 + 54 * c + 14)
  | 15 => v = G (244 + 54 * c + 15)
  | 16 => 0 ≤ v.toInt ∧ v.toInt ≤ 999
  | 24 => 0 ≤ v.toInt
  | 25 => 0 ≤ v.toInt
  | 26 => 0 ≤ v.toInt
  | 27 => 0 ≤ v.toInt
  | 28 => 0 ≤ v.toInt
  | 29 => 0 ≤ v.toInt
  | 30 => 0 ≤ v.toInt
  | 31 => 0 ≤ v.toInt
  | 32 => 0 ≤ v.toInt
  | 33 => 0 ≤ v.toInt
  | 34 => 0 ≤ v.toInt
  | 35 => 0 ≤ v.toInt
  | 39 => 0 ≤ v.toInt ∧ v.toInt ≤ 4 ∧ ((G 10).toInt = 0 → v.toInt = 0)
  | 40 => 0 ≤ v.toInt ∧ (v.toInt < (G 10).toInt ∨ v.toInt = 0)
  | 41 => 0 ≤ v.toInt ∧ (v.toInt < (G 10).toInt ∨ v.toInt = 0)
  | 42 => 0 ≤ v.toInt ∧ (v.toInt < (G 10).toInt ∨ v.toInt = 0)
  | 43 => 0 ≤ v.toInt ∧ (v.toInt < (G 10).toInt ∨ v.toInt = 0)
  | _ => True
/-- a channel that runs or is paused has a program and a step -/
def rf_run (G : Nat → Int32) (f : Nat → Int32) (c : Nat) : Prop := (f (244 + 54 * c) = 1 ∨ f (244 + 54 * c) = 2) → 0 ≤ (f (245 + 54 * c)).toInt ∧ 0 ≤ (f (246 + 54 * c)).toInt ∧ (f (246 + 54 * c)).toInt < (G (96 + 37 * (f (245 + 54 * c)).toInt.toNat)).toInt
/-- what holds of the row; cx: a channel whose program is about to begin -/
def rf_R (G : Nat → Int32) (cx : Int) (f : Nat → Int32) : Prop :=
  rf_st G ∧ (f 0 = G 0 ∧ f 1 = G 1 ∧ f 2 = G 2 ∧ f 6 = G 6 ∧ f 9 = G 9 ∧ f 10 = G 10 ∧ f 11 = G 11) ∧ ((0 ≤ (f 12).toInt ∧ (f 12).toInt ≤ 30) ∧ (0 ≤ (f 16).toInt ∧ (f 16).toInt ≤ 200) ∧ 0 ≤ (f 17).toInt ∧ (f 17).toInt ≤ 60) ∧
  (∀ j : Nat, 20 ≤ j → j < 244 → f j = G j) ∧ (∀ c : Nat, c < 6 → ∀ k : Nat, k < 54 → rf_k G c k (f (244 + 54 * c + k))) ∧ ∀ c : Nat, (c : Int) < (G 9).toInt → (c : Int) ≠ cx → rf_run G f c
/-- the states, programs and steps are the same -/
def rf_sm (f g : Nat → Int32) : Prop := ∀ c : Nat, c < 6 → ∀ k : Nat, k < 3 → g (244 + 54 * c + k) = f (244 + 54 * c + k)
theorem rf_smr (f : Nat → Int32) : rf_sm f f := fun _ _ _ _ => rfl
theorem rf_smt {f g h : Nat → Int32} (h1 : rf_sm f g) (h2 : rf_sm g h) : rf_sm f h := fun c hc k hk => (h2 c hc k hk).trans (h1 c hc k hk)
theorem rf_upd_ne {f : Nat → Int32} {i j : Nat} {v : Int32} (h : j ≠ i) : upd f i v j = f j := by
  unfold upd
  rw [if_neg h]
theorem rf_upd_eq {f : Nat → Int32} {i : Nat} {v : Int32} : upd f i v i = v := by
  unfold upd
  rw [if_pos rfl]
/-- a place that nothing is said of -/
theorem rf_free {G f : Nat → Int32} {cx : Int} {i : Nat} (v : Int32) (h : rf_R G cx f) (hi : (i = 3 ∨ i = 4 ∨ i = 5 ∨ i = 7 ∨ i = 8 ∨ i = 13 ∨ i = 14 ∨ i = 15) ∨ 568 ≤ i) : rf_R G cx (upd f i v) ∧ rf_sm f (upd f i v) := by
  obtain ⟨h1, h2, h3, h4, h5, h6⟩ := h
  have n : ∀ j : Nat, j ≠ i → upd f i v j = f j := fun j hj => rf_upd_ne hj
  refine ⟨⟨h1, ?_, ?_, fun j h7 h8 => ?_, fun c hc k hk => ?_, fun c hc hx => ?_⟩, fun c hc k hk => n _ (by omega)⟩
  · rw [n 0 (by omega), n 1 (by omega), n 2 (by omega), n 6 (by omega), n 9 (by omega), n 10 (by omega), n 11 (by omega)]
    exact h2
  · rw [n 12 (by omega), n 16 (by omega), n 17 (by omega)]
    exact h3
  · rw [n j (by omega)]
    exact h4 j h7 h8
  · rw [n _ (by omega)]
    exact h5 c hc k hk
  · have hc6 : c < 6 := by have := h1.2.2.1; omega
    unfold rf_run
    rw [n _ (by omega), n _ (by omega), n _ (by omega)]
    exact h6 c hc hx
theorem rf_num {G f : Nat → Int32} {cx : Int} {i : Nat} (v : Int32) (h : rf_R G cx f) (hi : (i = 12 ∧ 0 ≤ v.toInt ∧ v.toInt ≤ 30) ∨ (i = 16 ∧ 0 ≤ v.toInt ∧ v.toInt ≤ 200) ∨ (i = 17 ∧ 0 ≤ v.toInt ∧ v.toInt ≤ 60)) : rf_R G cx (upd f i v) ∧ rf_sm f (upd f i v) := by
  obtain ⟨h1, h2, h3, h4, h5, h6⟩ := h
  have n : ∀ j : Nat, j ≠ i → upd f i v j = f j := fun j hj => rf_upd_ne hj
  refine ⟨⟨h1, ?_, ?_, fun j h7 h8 => ?_, fun c hc k hk => ?_, fun c hc hx => ?_⟩, fun c hc k hk => n _ (by omega)⟩
  · rw [n 0 (by omega), n 1 (by omega), n 2 (by omega), n 6 (by omega), n 9 (by omega), n 10 (by omega), n 11 (by omega)]
    exact h2
  · rcases hi with ⟨rfl, hv⟩ | ⟨rfl, hv⟩ | ⟨rfl, hv⟩
    · rw [rf_upd_eq, n 16 (by omega), n 17 (by omega)]
      exact ⟨hv, h3.2⟩
    · rw [rf_upd_eq, n 12 (by omega), n 17 (by omega)]
      exact ⟨h3.1, hv, h3.2.2⟩
    · rw [rf_upd_eq, n 12 (by omega), n 16 (by omega)]
      exact ⟨h3.1, h3.2.1, hv⟩
  · rw [n j (by omega)]
    exact h4 j h7 h8
  · rw [n _ (by omega)]
    exact h5 c hc k hk
  · have hc6 : c < 6 := by have := h1.2.2.1; omega
    unfold rf_run
    rw [n _ (by omega), n _ (by omega), n _ (by omega)]
    exact h6 c hc hx
/-- a place of a channel -/
theorem rf_put {G f : Nat → Int32} {cx : Int} {c k : Nat} {v : Int32} (h : rf_R G cx f) (hc : c < 6) (hk : 3 ≤ k ∧ k < 54) (hv : rf_k G c k v) : rf_R G cx (upd f (244 + 54 * c + k) v) ∧ rf_sm f (upd f (244 + 54 * c + k) v) := by
  obtain ⟨h1, h2, h3, h4, h5, h6⟩ := h
  have n : ∀ j : Nat, j ≠ 244 + 54 * c + k → upd f (244 + 54 * c + k) v j = f j := fun j hj => rf_upd_ne hj
  refine ⟨⟨h1, ?_, ?_, fun j h7 h8 => ?_, fun c' hc' k' hk' => ?_, fun c' hc' hx => ?_⟩, fun c' hc' k' hk' => n _ (by omega)⟩
  · rw [n 0 (by omega), n 1 (by omega), n 2 (by omega), n 6 (by omega), n 9 (by omega), n 10 (by omega), n 11 (by omega)]
    exact h2
  · rw [n 12 (by omega), n 16 (by omega), n 17 (by omega)]
    exact h3
  · rw [n j (by omega)]
    exact h4 j h7 h8
  · by_cases e : 244 + 54 * c' + k' = 244 + 54 * c + k
    · have e1 : c' = c := by omega
      have e2 : k' = k := by omega
      subst e1
      subst e2
      rw [rf_upd_eq]
      exact hv
    · rw [n _ e]
      exact h5 c' hc' k' hk'
  · have hc6 : c' < 6 := by have := h1.2.2.1; omega
    unfold rf_run
    rw [n _ (by omega), n _ (by omega), n _ (by omega)]
    exact h6 c' hc' hx
/-- state, program or step of a channel: what runs is left open for it -/
theorem rf_putx {G f : Nat → Int32} {cx : Int} {c k : Nat} {v : Int32} (h : rf_R G cx f) (hc : c < 6) (hx0 : cx = -1 ∨ cx = (c : Int)) (hk : k < 3) (hv : rf_k G c k v) : rf_R G (c : Int) (upd f (244 + 54 * c + k) v) := by
  obtain ⟨h1, h2, h3, h4, h5, h6⟩ := h
  have n : ∀ j : Nat, j ≠ 244 + 54 * c + k → upd f (244 + 54 * c + k) v j = f j := fun j hj => rf_upd_ne hj
  refine ⟨h1, ?_, ?_, fun j h7 h8 => ?_, fun c' hc' k' hk' => ?_, fun c' hc' hx => ?_⟩
  · rw [n 0 (by omega), n 1 (by omega), n 2 (by omega), n 6 (by omega), n 9 (by omega), n 10 (by omega), n 11 (by omega)]
    exact h2
  · rw [n 12 (by omega), n 16 (by omega), n 17 (by omega)]
    exact h3
  · rw [n j (by omega)]
    exact h4 j h7 h8
  · by_cases e : 244 + 54 * c' + k' = 244 + 54 * c + k
    · have e1 : c' = c := by omega
      have e2 : k' = k := by omega
      subst e1
      subst e2
      rw [rf_upd_eq]
      exact hv
    · rw [n _ e]
      exact h5 c' hc' k' hk'
  · have hc6 : c' < 6 := by have := h1.2.2.1; omega
    have hne : c' ≠ c := fun q => hx (by rw [q])
    unfold rf_run
    rw [n _ (by omega), n _ (by omega), n _ (by omega)]
    exact h6 c' hc' (by omega)
/-- back to all channels -/
theorem rf_back {G f : Nat → Int32} {cx : Int} {c : Nat} (h : rf_R G cx f) (hx : cx = (c : Int) ∨ cx = -1) (hr : rf_run G f c) : rf_R G (-1) f := by
  obtain ⟨h1, h2, h3, h4, h5, h6⟩ := h
  refine ⟨h1, h2, h3, h4, h5, fun c' hc' _ => ?_⟩
  by_cases e : c' = c
  · rw [e]
    exact hr
  · exact h6 c' hc' (by omega)
/-- index sums -/
theorem rf_i2 {a b c k : Int32} (A B : Int) (ha : a.toInt = A) (hb : b.toInt = B) (hA : 0 ≤ A ∧ A ≤ 1000) (hB : 0 ≤ B ∧ B ≤ 100) (hc : 0 ≤ c.toInt ∧ c.toInt ≤ 60) (hk : 0 ≤ k.toInt ∧ k.toInt ≤ 1000) : (a + b * c + k).toInt = A + B * c.toInt + k.toInt := by
  have hm : 0 ≤ B * c.toInt ∧ B * c.toInt ≤ 6000 := by
    refine ⟨Int.mul_nonneg hB.1 hc.1, ?_⟩
    have h1 : B * c.toInt ≤ 100 * c.toInt := Int.mul_le_mul_of_nonneg_right hB.2 hc.1
    omega
  have e1 : (b * c).toInt = B * c.toInt := by rw [Jvm.Kit.i32_mul (by rw [hb]; omega) (by rw [hb]; omega), hb]
  have e2 : (a + b * c).toInt = A + B * c.toInt := by rw [Jvm.Kit.i32_add (by rw [ha, e1]; omega) (by rw [ha, e1]; omega), ha, e1]
  rw [Jvm.Kit.i32_add (by rw [e2]; omega) (by rw [e2]; omega), e2]
theorem rf_cix {c k : Int32} (hc : 0 ≤ c.toInt ∧ c.toInt < 6) (hk : 0 ≤ k.toInt ∧ k.toInt < 54) : ((244 + (54 * c)) + k).toInt = ((244 + 54 * c.toInt.toNat + k.toInt.toNat : Nat) : Int) := by
  rw [rf_i2 244 54 (by decide) (by decide) (by omega) (by omega) (by omega) (by omega)]
  omega
theorem rf_in {e : Int32} {n N : Nat} (h : e.toInt = (n : Int)) (hN : n < N) : vp_in e N := by
  rw [vp_in_iff]
  omega
theorem rf_nat {e : Int32} {n : Nat} (h : e.toInt = (n : Int)) : e.toNatClampNeg = n := by
  show e.toInt.toNat = n
  omega
theorem rf_c6 {G f : Nat → Int32} {cx : Int} {c : Int32} (h : rf_R G cx f) (hc : 0 ≤ c.toInt ∧ c.toInt < (G 9).toInt) : 0 ≤ c.toInt ∧ c.toInt < 6 := by
  have h2 := h.1.2.2.1
  omega
theorem rf_lt {c k : Int32} (hc : 0 ≤ c.toInt ∧ c.toInt < 6) (hk : 0 ≤ k.toInt ∧ k.toInt < 54) : 244 + 54 * c.toInt.toNat + k.toInt.toNat < 958 := by omega
theorem rf_ofe {f : Nat → Int32} {c : Int32} (hc : 0 ≤ c.toInt ∧ c.toInt < 6) {k : Nat} {e : Int32} (hk : (0 ≤ e.toInt ∧ e.toInt < 54) ∧ e.toInt.toNat = k) : f ((244 + (54 * c)) + e).toNatClampNeg = rf_of f c k := by
  rw [rf_nat (rf_cix hc hk.1), hk.2]
  rfl
theorem rf_pute {G f : Nat → Int32} {cx : Int} {c : Int32} {v : Int32} (hc : 0 ≤ c.toInt ∧ c.toInt < 6) (h : rf_R G cx f) {k : Nat} {e : Int32} (hk : (0 ≤ e.toInt ∧ e.toInt < 54) ∧ e.toInt.toNat = k) (h3 : 3 ≤ k ∧ k < 54) (hF : rf_k G c.toInt.toNat k v) : rf_R G cx (upd f ((244 + (54 * c)) + e).toNatClampNeg v) ∧ rf_sm f (upd f ((244 + (54 * c)) + e).toNatClampNeg v) := by
  rw [rf_nat (rf_cix hc hk.1), hk.2]
  exact rf_put h (by omega) h3 hF
def cm_rng (v lo hi : Int64) : Int32 := if v < lo then 0 else if hi < v then 0 else 1
theorem cm_lc (x y : Int64) : (lg_cmp x y < 0 ↔ x < y) ∧ (0 < lg_cmp x y ↔ y < x) := ⟨lg_cmp_lt x y, lg_cmp_gt x y⟩
theorem rf_rng {v lo hi : Int64} (h : ¬ cm_rng v lo hi = 0) : lo.toInt ≤ v.toInt ∧ v.toInt ≤ hi.toInt := by
  unfold cm_rng at h
  by_cases h1 : v < lo
  · rw [if_pos h1] at h
    exact absurd rfl h
  · rw [if_neg h1] at h
    by_cases h2 : hi < v
    · rw [if_pos h2] at h
      exact absurd rfl h
    · rw [Int64.lt_iff_toInt_lt] at h1 h2
      omega
theorem rf_rngi {v : Int32} {lo : Int64} {n : Int32} {L : Int} (hl : lo.toInt = L) (hn : 0 ≤ n.toInt) (h : ¬ cm_rng v.toInt64 lo (n - 1).toInt64 = 0) : L ≤ v.toInt ∧ v.toInt < n.toInt := by
  have h1 := rf_rng h
  rw [Jvm.Kit.i64_of_i32, Jvm.Kit.i64_of_i32, hl] at h1
  have h2 : n.toInt < 2147483648 := n.toInt_lt
  have e : (n - 1).toInt = n.toInt - 1 := Jvm.Kit.i32_sub (by rw [show (1 : Int32).toInt = 1 from by decide]; omega) (by rw [show (1 : Int32).toInt = 1 from by decide]; omega)
  omega
theorem rf_chan {G f : Nat → Int32} {cx : Int} {c : Int32} (h : rf_R G cx f) (hr : ¬ cm_rng c.toInt64 0 ((f 9) - 1).toInt64 = 0) : 0 ≤ c.toInt ∧ c.toInt < (G 9).toInt := by
  have e : f 9 = G 9 := h.2.1.2.2.2.2.1
  have h2 := h.1.2.2.1
  rw [e] at hr
  exact rf_rngi (by decide) h2.1 hr
theorem rf_prog {G f : Nat → Int32} {cx : Int} {c : Int32} (h : rf_R G cx f) (hr : ¬ cm_rng c.toInt64 0 ((f 10) - 1).toInt64 = 0) : 0 ≤ c.toInt ∧ c.toInt < (G 10).toInt := by
  have e : f 10 = G 10 := h.2.1.2.2.2.2.2.1
  have h2 := h.1.2.2.2.1
  rw [e] at hr
  exact rf_rngi (by decide) h2.1 hr
theorem rf_pix {p : Int32} (hp : 0 ≤ p.toInt ∧ p.toInt < 4) : (96 + (37 * p)).toInt = ((96 + 37 * p.toInt.toNat : Nat) : Int) := by
  have e := rf_i2 (k := 0) (c := p) 96 37 (a := 96) (b := 37) (by decide) (by decide) (by omega) (by omega) (by omega) (by decide)
  rw [Int32.add_zero, show (0 : Int32).toInt = 0 from by decide] at e
  rw [e]
  omega
theorem rf_vix {v k : Int32} {n : Int} (hk0 : k.toInt = n) (hv : 0 ≤ v.toInt ∧ v.toInt < 4) (hk : 0 ≤ n ∧ n ≤ 12) : ((20 + (19 * v)) + k).toInt = ((20 + 19 * v.toInt.toNat + n.toNat : Nat) : Int) := by
  rw [rf_i2 20 19 (by decide) (by decide) (by omega) (by omega) (by omega) (by omega)]
  omega
theorem rf_vix2 {v k : Int32} (hv : 0 ≤ v.toInt ∧ v.toInt < 4) (hk : 0 ≤ k.toInt ∧ k.toInt ≤ 10) : (((20 + (19 * v)) + 8) + k).toInt = ((28 + 19 * v.toInt.toNat + k.toInt.toNat : Nat) : Int) := by
  have e := rf_vix (v := v) (k := 8) (n := 8) (by decide) hv (by omega)
  rw [Jvm.Kit.i32_add (by rw [e]; omega) (by rw [e]; omega), e]
  omega
theorem rf_six {p k w : Int32} (hp : 0 ≤ p.toInt ∧ p.toInt < 4) (hk : 0 ≤ k.toInt ∧ k.toInt ≤ 12) (hw : 0 ≤ w.toInt ∧ w.toInt ≤ 2) : ((((96 + (37 * p)) + 1) + (3 * k)) + w).toInt = ((97 + 37 * p.toInt.toNat + 3 * k.toInt.toNat + w.toInt.toNat : Nat) : Int) := by
  have e := rf_pix hp
  have o : (1 : Int32).toInt = 1 := by decide
  have t : (3 : Int32).toInt = 3 := by decide
  have e1 : ((96 + (37 * p)) + 1).toInt = ((97 + 37 * p.toInt.toNat : Nat) : Int) := by
    rw [Jvm.Kit.i32_add (by rw [e, o]; omega) (by rw [e, o]; omega), e, o]
    omega
  have e2 : (3 * k).toInt = 3 * k.toInt := by rw [Jvm.Kit.i32_mul (by rw [t]; omega) (by rw [t]; omega), t]
  have e3 : (((96 + (37 * p)) + 1) + (3 * k)).toInt = ((97 + 37 * p.toInt.toNat + 3 * k.toInt.toNat : Nat) : Int) := by
    rw [Jvm.Kit.i32_add (by rw [e1, e2]; omega) (by rw [e1, e2]; omega), e1, e2]
    omega
  rw [Jvm.Kit.i32_add (by rw [e3]; omega) (by rw [e3]; omega), e3]
  omega
theorem rf_uix {c k : Int32} (hc : 0 ≤ c.toInt ∧ c.toInt < 6) (hk : 0 ≤ k.toInt ∧ k.toInt < 7) : vp_in ((7 * c) + k) 42 := by
  have s : (7 : Int32).toInt = 7 := by decide
  have e1 : (7 * c).toInt = 7 * c.toInt := by rw [Jvm.Kit.i32_mul (by rw [s]; omega) (by rw [s]; omega), s]
  have e2 : ((7 * c) + k).toInt = 7 * c.toInt + k.toInt := by rw [Jvm.Kit.i32_add (by rw [e1]; omega) (by rw [e1]; omega), e1]
  rw [vp_in_iff, e2]
  omega
/-- a channel's program and step can be read -/
def rf_on (G f : Nat → Int32) (c : Int32) : Prop := (0 ≤ (rf_of f c 1).toInt ∧ (rf_of f c 1).toInt < (G 10).toInt) ∧ 0 ≤ (rf_of f c 2).toInt ∧ (rf_of f c 2).toInt < (G (96 + 37 * (rf_of f c 1).toInt.toNat)).toInt
theorem rf_onp {G f : Nat → Int32} {cx : Int} {c : Int32} (h : rf_R G cx f) (ho : rf_on G f c) : (0 ≤ (rf_of f c 1).toInt ∧ (rf_of f c 1).toInt < 4) ∧ (0 ≤ (rf_of f c 2).toInt ∧ (rf_of f c 2).toInt ≤ 12) := by
  have h2 := h.1.2.2.2.1
  have h3 := (h.1.2.2.2.2.2.1 (rf_of f c 1).toInt.toNat (by have := ho.1; omega)).1
  have h4 := ho.1
  have h5 := ho.2
  omega
/-- what the channels' places hold -/
theorem rf_kk {G f : Nat → Int32} {cx : Int} {c : Int32} (h : rf_R G cx f) (hc : 0 ≤ c.toInt ∧ c.toInt < (G 9).toInt) {k : Nat} (hk : k < 54) : rf_k G c.toInt.toNat k (rf_of f c k) := h.2.2.2.2.1 c.toInt.toNat (by have := rf_c6 h hc; omega) k hk
theorem rf_nn {G : Nat → Int32} {c : Int32} (hc : 0 ≤ c.toInt ∧ c.toInt < (G 9).toInt) : ((c.toInt.toNat : Nat) : Int) < (G 9).toInt := by omega
theorem rf_qp {G f : Nat → Int32} {cx : Int} {c : Int32} (h : rf_R G cx f) (hc : 0 ≤ c.toInt ∧ c.toInt < (G 9).toInt) : ((0 ≤ (rf_of f c 6).toInt ∧ (rf_of f c 6).toInt ≤ 2 * (rf_of f c 12).toInt) ∧ ((rf_of f c 12).toInt / 2 ≤ (rf_of f c 7).toInt ∧ (rf_of f c 7).toInt ≤ (rf_of f c 12).toInt)) ∧ (100 ≤ (rf_of f c 12).toInt ∧ (rf_of f c 12).toInt ≤ 100000) := by
  have e : rf_of f c 12 = G (244 + 54 * c.toInt.toNat + 12) := rf_kk h hc (k := 12) (by omega) (rf_nn hc)
  have h6 := rf_kk h hc (k := 6) (by omega) (rf_nn hc)
  have h7 := rf_kk h hc (k := 7) (by omega) (rf_nn hc)
  have hs := (h.1.2.2.2.2.2.2.2.2.1 c.toInt.toNat (rf_nn hc)).2.1
  rw [e]
  exact ⟨⟨h6, h7⟩, hs⟩
theorem rf_stat {G f : Nat → Int32} {cx : Int} {c : Int32} (h : rf_R G cx f) (hc : 0 ≤ c.toInt ∧ c.toInt < (G 9).toInt) : ((0 ≤ (rf_of f c 11).toInt ∧ (rf_of f c 11).toInt < 4) ∧ (2 ≤ (f (20 + 19 * (rf_of f c 11).toInt.toNat + 7)).toInt ∧ (f (20 + 19 * (rf_of f c 11).toInt.toNat + 7)).toInt ≤ 11)) ∧ (1 ≤ (rf_of f c 13).toInt ∧ (rf_of f c 13).toInt ≤ 500) ∧ 1 ≤ (rf_of f c 15).toInt ∧ (rf_of f c 15).toInt ≤ 200 := by
  have e1 : rf_of f c 11 = G (244 + 54 * c.toInt.toNat + 11) := rf_kk h hc (k := 11) (by omega) (rf_nn hc)
  have e3 : rf_of f c 13 = G (244 + 54 * c.toInt.toNat + 13) := rf_kk h hc (k := 13) (by omega) (rf_nn hc)
  have e5 : rf_of f c 15 = G (244 + 54 * c.toInt.toNat + 15) := rf_kk h hc (k := 15) (by omega) (rf_nn hc)
  have hs := h.1.2.2.2.2.2.2.2.2.1 c.toInt.toNat (rf_nn hc)
  have hv := h.1.2.2.2.2.2.2.1 (G (244 + 54 * c.toInt.toNat + 11)).toInt.toNat (by have := hs.1; omega)
  have hn := h.1.2.2.2.2.1
  have hf := h.2.2.2.1 (20 + 19 * (G (244 + 54 * c.toInt.toNat + 11)).toInt.toNat + 7) (by omega) (by have := hs.1; omega)
  rw [e1, e3, e5, hf]
  refine ⟨⟨⟨hs.1.1, by have := hs.1; omega⟩, ?_⟩, hs.2.2.1, hs.2.2.2.2⟩
  have e7 : 20 + 19 * (G (244 + 54 * c.toInt.toNat + 11)).toInt.toNat + 7 = 27 + 19 * (G (244 + 54 * c.toInt.toNat + 11)).toInt.toNat := by omega
  rw [e7]
  exact hv
theorem rf_k3 {k : Int32} (h : 3 ≤ k.toInt ∧ k.toInt < 54) : 0 ≤ k.toInt ∧ k.toInt < 54 := by omega
theorem rf_k4 {k : Int32} (h : 3 ≤ k.toInt ∧ k.toInt < 54) : 3 ≤ k.toInt.toNat ∧ k.toInt.toNat < 54 := by omega
def rf_st3 (f : Nat → Int32) (c : Int32) (w : Nat) : Int32 := f (97 + 37 * (rf_of f c 1).toInt.toNat + 3 * (rf_of f c 2).toInt.toNat + w)
theorem rf_stb {G f : Nat → Int32} {cx : Int} {c : Int32} (h : rf_R G cx f) (ho : rf_on G f c) {w : Nat} (hw : w ≤ 2) : 0 ≤ (rf_st3 f c w).toInt ∧ (rf_st3 f c w).toInt ≤ 5000 := by
  have h2 := rf_onp h ho
  have h3 := (h.1.2.2.2.2.2.1 (rf_of f c 1).toInt.toNat (by have := ho.1; omega)).1
  have h4 := ho.2
  have hb : 97 + 37 * (rf_of f c 1).toInt.toNat + 3 * (rf_of f c 2).toInt.toNat + w < 244 := by omega
  unfold rf_st3
  rw [h.2.2.2.1 _ (by omega) hb]
  exact h.1.2.2.2.2.2.2.2.1 _ (by omega) hb
theorem rf_rk {q n full k : Int32} (hq : 0 ≤ q.toInt) (hn : 2 ≤ n.toInt ∧ n.toInt ≤ 11) (hf : 50 ≤ full.toInt) (hk : k = (if ((n - 1) - 1).toInt64 < (q.toInt64 * (n - 1).toInt64) / full.toInt64 then ((n - 1) - 1).toInt64 else (q.toInt64 * (n - 1).toInt64) / full.toInt64).toInt32) : 0 ≤ k.toInt ∧ k.toInt ≤ 9 := by
  have o : (1 : Int32).toInt = 1 := by decide
  have q2 : q.toInt < 2147483648 := q.toInt_lt
  have e1 : (n - 1).toInt = n.toInt - 1 := by rw [Jvm.Kit.i32_sub (by rw [o]; omega) (by rw [o]; omega), o]
  have e2 : ((n - 1) - 1).toInt = n.toInt - 2 := by
    rw [Jvm.Kit.i32_sub (by rw [e1, o]; omega) (by rw [e1, o]; omega), e1, o]
    omega
  have eY : ((n - 1) - 1).toInt64.toInt = n.toInt - 2 := by rw [Jvm.Kit.i64_of_i32, e2]
  have hm : 0 ≤ q.toInt * (n.toInt - 1) ∧ q.toInt * (n.toInt - 1) ≤ 2147483648 * 10 := by
    refine ⟨Int.mul_nonneg hq (by omega), ?_⟩
    exact Int.mul_le_mul (by omega) (by omega) (by omega) (by omega)
  have em : (q.toInt64 * (n - 1).toInt64).toInt = q.toInt * (n.toInt - 1) := by
    rw [Jvm.Kit.i64_mul (by rw [Jvm.Kit.i64_of_i32, Jvm.Kit.i64_of_i32, e1]; omega) (by rw [Jvm.Kit.i64_of_i32, Jvm.Kit.i64_of_i32, e1]; omega), Jvm.Kit.i64_of_i32, Jvm.Kit.i64_of_i32, e1]
  have eX : 0 ≤ ((q.toInt64 * (n - 1).toInt64) / full.toInt64).toInt := by
    rw [Jvm.Kit.i64_div (by rw [Jvm.Kit.i64_of_i32]; omega), em, Jvm.Kit.i64_of_i32]
    exact Int.tdiv_nonneg hm.1 (by omega)
  subst hk
  split
  · rw [Jvm.Kit.i32_of_i64 (by rw [eY]; omega) (by rw [eY]; omega), eY]
    omega
  · rename_i h
    rw [Int64.lt_iff_toInt_lt, eY] at h
    rw [Jvm.Kit.i32_of_i64 (by omega) (by omega)]
    omega
theorem rf_rk1 {k : Int32} (h : 0 ≤ k.toInt ∧ k.toInt ≤ 9) : 0 ≤ (k + 1).toInt ∧ (k + 1).toInt ≤ 10 := by
  have o : (1 : Int32).toInt = 1 := by decide
  rw [Jvm.Kit.i32_add (by rw [o]; omega) (by rw [o]; omega), o]
  omega
theorem rf_rk0 {k : Int32} (h : 0 ≤ k.toInt ∧ k.toInt ≤ 9) : 0 ≤ k.toInt ∧ k.toInt ≤ 10 := by omega
theorem rf_nz {x : Int32} (h : 1 ≤ x.toInt) : ¬ x = 0 := fun q => by
  rw [q] at h
  exact absurd h (by decide)
theorem rf_nzl {x : Int32} (h : 1 ≤ x.toInt) : ¬ x.toInt64 = 0 := fun q => by
  have h2 : x.toInt64.toInt = 0 := by rw [q]; decide
  rw [Jvm.Kit.i64_of_i32] at h2
  omega
theorem rf_full {G f : Nat → Int32} {cx : Int} {c : Int32} (h : rf_R G cx f) (hc : 0 ≤ c.toInt ∧ c.toInt < (G 9).toInt) : 50 ≤ (rf_of f c 7).toInt := by
  have h2 := rf_qp h hc
  omega
theorem rf_set {G f : Nat → Int32} {cx : Int} {c : Int32} (h : rf_R G cx f) (hc : 0 ≤ c.toInt ∧ c.toInt < (G 9).toInt) : 1 ≤ (f 1).toInt ∧ 1 ≤ (f 2).toInt := by
  rw [h.2.1.2.1, h.2.1.2.2.1]
  exact h.1.2.2.2.2.2.2.2.2.2 (by omega)
/-- one that runs -/
theorem rf_onr {G f : Nat → Int32} {c : Int32} (h : rf_R G (-1) f) (hc : 0 ≤ c.toInt ∧ c.toInt < (G 9).toInt) (hr : rf_of f c 0 = 1 ∨ rf_of f c 0 = 2) : rf_on G f c := by
  have hk := rf_kk h hc (k := 1) (by omega) (rf_nn hc)
  have h1 := h.2.2.2.2.2 c.toInt.toNat (rf_nn hc) (by omega) hr
  have e1 : f (245 + 54 * c.toInt.toNat) = rf_of f c 1 := congrArg f (by omega)
  have e2 : f (246 + 54 * c.toInt.toNat) = rf_of f c 2 := congrArg f (by omega)
  rw [e1, e2] at h1
  exact ⟨⟨h1.1, hk.2⟩, h1.2⟩
/-- the same program and step -/
theorem rf_ons {G f g : Nat → Int32} {cx : Int} {c : Int32} (h : rf_R G cx f) (hc : 0 ≤ c.toInt ∧ c.toInt < (G 9).toInt) (hs : rf_sm f g) (ho : rf_on G f c) : rf_on G g c := by
  have h6 := rf_c6 h hc
  have e1 : rf_of g c 1 = rf_of f c 1 := hs c.toInt.toNat (by omega) 1 (by omega)
  have e2 : rf_of g c 2 = rf_of f c 2 := hs c.toInt.toNat (by omega) 2 (by omega)
  unfold rf_on
  rw [e1, e2]
  exact ho
theorem rf_fl {q full : Int32} (hq : 0 ≤ q.toInt ∧ q.toInt ≤ 200000) (hf : 50 ≤ full.toInt) : 0 ≤ ((1000 * q.toInt64) / full.toInt64).toInt32.toInt := by
  have t : (1000 : Int64).toInt = 1000 := by decide
  have em : (1000 * q.toInt64).toInt = 1000 * q.toInt := by rw [Jvm.Kit.i64_mul (by rw [Jvm.Kit.i64_of_i32, t]; omega) (by rw [Jvm.Kit.i64_of_i32, t]; omega), Jvm.Kit.i64_of_i32, t]
  have ed : ((1000 * q.toInt64) / full.toInt64).toInt = (1000 * q.toInt) / full.toInt := by
    rw [Jvm.Kit.i64_div (by rw [em]; omega), em, Jvm.Kit.i64_of_i32, Int.tdiv_eq_ediv_of_nonneg (by omega)]
  have h0 : 0 ≤ (1000 * q.toInt) / full.toInt := Int.ediv_nonneg (by omega) (by omega)
  have h1 : (1000 * q.toInt) / full.toInt ≤ 1000 * q.toInt := Int.ediv_le_self _ (by omega)
  rw [Jvm.Kit.i32_of_i64 (by omega) (by omega), ed]
  exact h0
theorem rf_mm {x : Int32} : 0 ≤ (if 0 < (if x < 5000 then x else 5000) then (if x < 5000 then x else 5000) else 0 : Int32).toInt ∧ (if 0 < (if x < 5000 then x else 5000) then (if x < 5000 then x else 5000) else 0 : Int32).toInt ≤ 5000 := by
  have z : (0 : Int32).toInt = 0 := by decide
  have t : (5000 : Int32).toInt = 5000 := by decide
  by_cases h1 : x < 5000
  · rw [if_pos h1]
    by_cases h2 : (0 : Int32) < x
    · rw [if_pos h2]
      rw [Int32.lt_iff_toInt_lt] at h1 h2
      omega
    · rw [if_neg h2, z]
      omega
  · rw [if_neg h1, if_pos (by decide), t]
    omega
theorem rf_neg {x : Int32} (h : 0 ≤ x.toInt ∧ x.toInt ≤ 5000) : -5000 ≤ (-x).toInt ∧ (-x).toInt ≤ 5000 := by
  rw [Jvm.Kit.i32_neg (by omega)]
  omega
theorem rf_tdiv {x s B : Int} (hs : 0 < s) (hB : 0 ≤ B) (h1 : -(B * s) ≤ x) (h2 : x ≤ B * s) : -B ≤ x.tdiv s ∧ x.tdiv s ≤ B := by
  rcases Int.le_total 0 x with h | h
  · rw [Int.tdiv_eq_ediv_of_nonneg h]
    refine ⟨?_, Int.ediv_le_of_le_mul hs h2⟩
    have := Int.ediv_nonneg h (Int.le_of_lt hs)
    omega
  · have e : x.tdiv s = -((-x).tdiv s) := by rw [Int.neg_tdiv, Int.neg_neg]
    rw [e, Int.tdiv_eq_ediv_of_nonneg (by omega)]
    have a := Int.ediv_le_of_le_mul hs (show -x ≤ B * s by omega)
    have b := Int.ediv_nonneg (show 0 ≤ -x by omega) (Int.le_of_lt hs)
    omega
theorem rf_der {i hot warm span : Int32} (hi : -5000 ≤ i.toInt ∧ i.toInt ≤ 5000) (hh : 0 ≤ hot.toInt ∧ hot.toInt ≤ 1000) (hs : 0 ≤ span.toInt ∧ span.toInt ≤ 200) (hne : ¬ span = 0) (hgt : ¬ warm ≤ (hot - span)) : -5000 ≤ ((i * (if 0 < (hot - warm) then (hot - warm) else 0)) / span).toInt ∧ ((i * (if 0 < (hot - warm) then (hot - warm) else 0)) / span).toInt ≤ 5000 := by
  have z : (0 : Int32).toInt = 0 := by decide
  have hs1 : 1 ≤ span.toInt := by
    rcases Int.lt_or_le 0 span.toInt with h | h
    · omega
    · exact absurd (Int32.toInt_inj.mp (show span.toInt = (0 : Int32).toInt by omega)) hne
  have e1 : (hot - span).toInt = hot.toInt - span.toInt := Jvm.Kit.i32_sub (by omega) (by omega)
  rw [Int32.le_iff_toInt_le, e1] at hgt
  have hw : warm.toInt < 2147483648 := warm.toInt_lt
  have e2 : (hot - warm).toInt = hot.toInt - warm.toInt := Jvm.Kit.i32_sub (by omega) (by omega)
  have hr : 0 ≤ (if 0 < (hot - warm) then (hot - warm) else 0 : Int32).toInt ∧ (if 0 < (hot - warm) then (hot - warm) else 0 : Int32).toInt ≤ span.toInt := by
    by_cases h : (0 : Int32) < hot - warm
    · rw [if_pos h]
      rw [Int32.lt_iff_toInt_lt] at h
      omega
    · rw [if_neg h, z]
      omega
  generalize (if 0 < (hot - warm) then (hot - warm) else 0 : Int32) = rm at hr ⊢
  have m1 : -(5000 * span.toInt) ≤ i.toInt * rm.toInt ∧ i.toInt * rm.toInt ≤ 5000 * span.toInt := by
    have a1 : i.toInt * rm.toInt ≤ 5000 * rm.toInt := Int.mul_le_mul_of_nonneg_right hi.2 hr.1
    have a2 : -5000 * rm.toInt ≤ i.toInt * rm.toInt := Int.mul_le_mul_of_nonneg_right hi.1 hr.1
    omega
  have em : (i * rm).toInt = i.toInt * rm.toInt := Jvm.Kit.i32_mul (by omega) (by omega)
  rw [Jvm.Kit.i32_div (by omega), em]
  exact rf_tdiv (by omega) (by omega) m1.1 m1.2
theorem rf_mxq {i q : Int32} (hi : i.toInt ≤ 5000) (hq : 0 ≤ q.toInt) : -(q.toInt) ≤ (if i < (- q) then (- q) else i : Int32).toInt ∧ (if i < (- q) then (- q) else i : Int32).toInt ≤ 5000 := by
  have e : (-q).toInt = -q.toInt := Jvm.Kit.i32_neg (by omega)
  by_cases h : i < -q
  · rw [if_pos h, e]
    omega
  · rw [if_neg h]
    rw [Int32.lt_iff_toInt_lt, e] at h
    omega
theorem rf_hs {G f : Nat → Int32} {cx : Int} (h : rf_R G cx f) : (0 ≤ (f 6).toInt ∧ (f 6).toInt ≤ 1000) ∧ (0 ≤ (f 16).toInt ∧ (f 16).toInt ≤ 200) ∧ (0 ≤ (f 0).toInt ∧ (f 0).toInt ≤ 1000) := by
  have e1 := h.2.1.2.2.2.1
  have e0 := h.2.1.1
  have h3 := h.2.2.1.2.1
  rw [e1, e0]
  exact ⟨h.1.2.1, h3, h.1.1⟩
theorem rf_lr {G f : Nat → Int32} {cx : Int} {c : Int32} (h : rf_R G cx f) (hc : 0 ≤ c.toInt ∧ c.toInt < (G 9).toInt) : 0 ≤ (rf_of f c 16).toInt ∧ (rf_of f c 16).toInt ≤ 999 := rf_kk h hc (k := 16) (by omega) (rf_nn hc)
theorem rf_caps {G f : Nat → Int32} {cx : Int} {c : Int32} (h : rf_R G cx f) (hc : 0 ≤ c.toInt ∧ c.toInt < (G 9).toInt) : rf_of f c 12 = G (244 + 54 * c.toInt.toNat + 12) := rf_kk h hc (k := 12) (by omega) (rf_nn hc)
/-- the sum that charging makes -/
theorem rf_all {i e l : Int32} (hi : 0 ≤ i.toInt ∧ i.toInt ≤ 5000) (he : 0 ≤ e.toInt ∧ e.toInt ≤ 1000) (hl : 0 ≤ l.toInt ∧ l.toInt ≤ 999) : 0 ≤ ((i * e) + l).toInt ∧ ((i * e) + l).toInt ≤ 5000999 := by
  have m0 : 0 ≤ i.toInt * e.toInt := Int.mul_nonneg hi.1 he.1
  have m1 : i.toInt * e.toInt ≤ 5000 * 1000 := Int.mul_le_mul hi.2 he.2 he.1 (by omega)
  have em : (i * e).toInt = i.toInt * e.toInt := Jvm.Kit.i32_mul (by omega) (by omega)
  rw [Jvm.Kit.i32_add (by rw [em]; omega) (by rw [em]; omega), em]
  omega
theorem rf_mv1 {G f : Nat → Int32} {cx : Int} {c a : Int32} (h : rf_R G cx f) (hc : 0 ≤ c.toInt ∧ c.toInt < (G 9).toInt) (ha : 0 ≤ a.toInt ∧ a.toInt ≤ 5000999) : rf_k G c.toInt.toNat 6 (if ((rf_of f c 6) + (a / 1000)) < (2 * (rf_of f c 12)) then ((rf_of f c 6) + (a / 1000)) else (2 * (rf_of f c 12))) := by
  intro _
  have hq := rf_qp h hc
  have hcap := rf_caps h hc
  have t : (1000 : Int32).toInt = 1000 := by decide
  have o : (2 : Int32).toInt = 2 := by decide
  have e1 : (a / 1000).toInt = a.toInt / 1000 := by rw [Jvm.Kit.i32_div (by omega), t, Int.tdiv_eq_ediv_of_nonneg ha.1]
  have e2 : ((rf_of f c 6) + (a / 1000)).toInt = (rf_of f c 6).toInt + a.toInt / 1000 := by rw [Jvm.Kit.i32_add (by rw [e1]; omega) (by rw [e1]; omega), e1]
  have e3 : (2 * (rf_of f c 12)).toInt = 2 * (rf_of f c 12).toInt := by rw [Jvm.Kit.i32_mul (by rw [o]; omega) (by rw [o]; omega), o]
  show 0 ≤ Int32.toInt _ ∧ Int32.toInt _ ≤ 2 * (G (244 + 54 * c.toInt.toNat + 12)).toInt
  rw [← hcap]
  by_cases hlt : ((rf_of f c 6) + (a / 1000)) < (2 * (rf_of f c 12))
  · rw [if_pos hlt, e2]
    rw [Int32.lt_iff_toInt_lt, e2, e3] at hlt
    omega
  · rw [if_neg hlt, e3]
    omega
theorem rf_mv3 {G f : Nat → Int32} {cx : Int} {c i : Int32} (h : rf_R G cx f) (hc : 0 ≤ c.toInt ∧ c.toInt < (G 9).toInt) (hi : -((rf_of f c 6).toInt) ≤ i.toInt ∧ i.toInt ≤ 5000) (hle : ¬ 0 < i) : rf_k G c.toInt.toNat 6 ((rf_of f c 6) + i) := by
  intro _
  have hq := rf_qp h hc
  have hcap := rf_caps h hc
  rw [Int32.lt_iff_toInt_lt, show (0 : Int32).toInt = 0 from by decide] at hle
  show 0 ≤ Int32.toInt _ ∧ Int32.toInt _ ≤ 2 * (G (244 + 54 * c.toInt.toNat + 12)).toInt
  rw [← hcap, Jvm.Kit.i32_add (by omega) (by omega)]
  omega
theorem rf_fd {y F : Int32} (h : ¬ y < F) (hF : 1 ≤ F.toInt) : (y - F).toInt.toNat < y.toInt.toNat := by
  rw [Int32.lt_iff_toInt_lt] at h
  have h2 : y.toInt < 2147483648 := y.toInt_lt
  rw [Jvm.Kit.i32_sub (by omega) (by omega)]
  omega
theorem rf_fp {G f : Nat → Int32} {cx : Int} {c : Int32} (h : rf_R G cx f) (hc : 0 ≤ c.toInt ∧ c.toInt < (G 9).toInt) : rf_k G c.toInt.toNat 7 (if ((rf_of f c 12) / 2) < ((rf_of f c 7) - 1) then ((rf_of f c 7) - 1) else ((rf_of f c 12) / 2)) := by
  intro _
  have hq := rf_qp h hc
  have hcap := rf_caps h hc
  have t : (2 : Int32).toInt = 2 := by decide
  have o : (1 : Int32).toInt = 1 := by decide
  have e1 : ((rf_of f c 12) / 2).toInt = (rf_of f c 12).toInt / 2 := by rw [Jvm.Kit.i32_div (by omega), t, Int.tdiv_eq_ediv_of_nonneg (by omega)]
  have e2 : ((rf_of f c 7) - 1).toInt = (rf_of f c 7).toInt - 1 := by rw [Jvm.Kit.i32_sub (by rw [o]; omega) (by rw [o]; omega), o]
  show (G (244 + 54 * c.toInt.toNat + 12)).toInt / 2 ≤ Int32.toInt _ ∧ Int32.toInt _ ≤ (G (244 + 54 * c.toInt.toNat + 12)).toInt
  rw [← hcap]
  by_cases hlt : ((rf_of f c 12) / 2) < ((rf_of f c 7) - 1)
  · rw [if_pos hlt, e2]
    rw [Int32.lt_iff_toInt_lt, e1, e2] at hlt
    omega
  · rw [if_neg hlt, e1]
    omega
theorem rf_smof {f g : Nat → Int32} {c : Int32} (hc : 0 ≤ c.toInt ∧ c.toInt < 6) (hs : rf_sm f g) {k : Nat} (hk : k < 3) : rf_of g c k = rf_of f c k := hs c.toInt.toNat (by omega) k hk
theorem rf_band {r : Int32} (h : 0 ≤ r.toInt) : 44 ≤ (44 + (if (r / 100) < 9 then (r / 100) else 9)).toInt ∧ (44 + (if (r / 100) < 9 then (r / 100) else 9)).toInt ≤ 53 := by
  have t : (100 : Int32).toInt = 100 := by decide
  have n : (9 : Int32).toInt = 9 := by decide
  have v : (44 : Int32).toInt = 44 := by decide
  have e1 : (r / 100).toInt = r.toInt / 100 := by rw [Jvm.Kit.i32_div (by omega), t, Int.tdiv_eq_ediv_of_nonneg h]
  have hb : 0 ≤ (if (r / 100) < 9 then (r / 100) else 9 : Int32).toInt ∧ (if (r / 100) < 9 then (r / 100) else 9 : Int32).toInt ≤ 9 := by
    by_cases hlt : (r / 100) < 9
    · rw [if_pos hlt]
      rw [Int32.lt_iff_toInt_lt, e1, n] at hlt
      omega
    · rw [if_neg hlt, n]
      omega
  rw [Jvm.Kit.i32_add (by rw [v]; omega) (by rw [v]; omega), v]
  omega
theorem rf_putq {f : Nat → Int32} {c v : Int32} (hc : 0 ≤ c.toInt ∧ c.toInt < 6) {k : Nat} {e : Int32} (hk : (0 ≤ e.toInt ∧ e.toInt < 54) ∧ e.toInt.toNat = k) : upd f ((244 + (54 * c)) + e).toNatClampNeg v = upd f (244 + 54 * c.toInt.toNat + k) v := by rw [rf_nat (rf_cix hc hk.1), hk.2]
theorem rf_putxe {G f : Nat → Int32} {cx : Int} {c : Int32} {v : Int32} (hc : 0 ≤ c.toInt ∧ c.toInt < 6) (h : rf_R G cx f) (hx : cx = -1 ∨ cx = c.toInt) {k : Nat} {e : Int32} (hk : (0 ≤ e.toInt ∧ e.toInt < 54) ∧ e.toInt.toNat = k) (h3 : k < 3) (hF : rf_k G c.toInt.toNat k v) : rf_R G c.toInt (upd f ((244 + (54 * c)) + e).toNatClampNeg v) ∧ True := by
  rw [rf_nat (rf_cix hc hk.1), hk.2]
  have h2 := rf_putx (c := c.toInt.toNat) (k := k) (v := v) h (by omega) (by omega) h3 hF
  have e2 : ((c.toInt.toNat : Nat) : Int) = c.toInt := by omega
  rw [e2] at h2
  exact ⟨h2, trivial⟩
theorem rf_ne {f : Nat → Int32} {c v : Int32} {k j : Nat} (hkj : j ≠ k) : rf_of (upd f (244 + 54 * c.toInt.toNat + k) v) c j = rf_of f c j := rf_upd_ne (by omega)
theorem rf_eq {f : Nat → Int32} {c v : Int32} {k : Nat} : rf_of (upd f (244 + 54 * c.toInt.toNat + k) v) c k = v := rf_upd_eq
theorem cm_lt9 {x : Int32} (h : ¬ x ≤ 0) : 0 < x := cm_lt h
theorem cm_nle9 {x : Int32} (h : x ≤ 0) : ¬ 0 < x := cm_nlt h
theorem rf_u17 {f g : Nat → Int32} {i : Nat} {v : Int32} (h : upd f i v = g) (hi : 568 ≤ i) {j : Nat} (hj : j < 568) : g j = f j := by
  rw [← h]
  exact rf_upd_ne (by omega)
theorem rf_num17 {G f : Nat → Int32} {cx : Int} {v : Int32} (h : rf_R G cx f) (hv : 0 ≤ v.toInt ∧ v.toInt ≤ 60) : rf_R G cx (upd f (17 : Int32).toNatClampNeg v) ∧ rf_sm f (upd f (17 : Int32).toNatClampNeg v) := rf_num v h (Or.inr (Or.inr ⟨by decide, hv⟩))
theorem rf_num12 {G f : Nat → Int32} {cx : Int} {v : Int32} (h : rf_R G cx f) (hv : 0 ≤ v.toInt ∧ v.toInt ≤ 30) : rf_R G cx (upd f (12 : Int32).toNatClampNeg v) ∧ rf_sm f (upd f (12 : Int32).toNatClampNeg v) := rf_num v h (Or.inl ⟨by decide, hv⟩)
theorem rf_at17 {f g : Nat → Int32} {v : Int32} (h : upd f (17 : Int32).toNatClampNeg v = g) : g 17 = v := by
  rw [← h]
  exact rf_upd_eq
theorem rf_at12 {f g : Nat → Int32} {v : Int32} (h : upd f (12 : Int32).toNatClampNeg v = g) : g 12 = v := by
  rw [← h]
  exact rf_upd_eq
theorem rf_in2 {y k : Int32} {K : Int} (hk : k.toInt = K) (h : 0 ≤ y.toInt ∧ 0 ≤ K ∧ y.toInt + K < 958) : vp_in (y + k) 958 := by
  rw [vp_in_iff, Jvm.Kit.i32_add (by omega) (by omega), hk]
  omega
theorem rf_in1 {y : Int32} (h : 0 ≤ y.toInt ∧ y.toInt < 958) : vp_in y 958 := by
  rw [vp_in_iff]
  omega
theorem rf_ge {y : Int32} (h : 568 ≤ y.toInt) : 568 ≤ y.toNatClampNeg := by
  show 568 ≤ y.toInt.toNat
  omega
theorem rf_nb {a b l k : Int32} {A B K N : Int} (ha : a.toInt = A) (hb : b.toInt = B) (hk : k.toInt = K) (hl : 0 ≤ l.toInt ∧ l.toInt ≤ N) (hN : N ≤ 60) (hA : 568 ≤ A ∧ A ≤ 800) (hB : 0 ≤ B ∧ B ≤ 5) (hK : 0 ≤ K ∧ K ≤ 5) (hs : A + B * N + K < 958) : 568 ≤ ((a + (b * l)) + k).toInt ∧ ((a + (b * l)) + k).toInt < 958 := by
  rw [rf_i2 A B ha hb (by omega) (by omega) (by omega) (by omega), hk]
  have h1 : B * l.toInt ≤ B * N := Int.mul_le_mul_of_nonneg_left hl.2 hB.1
  have h2 : 0 ≤ B * l.toInt := Int.mul_nonneg hB.1 hl.1
  omega
theorem rf_nb0 {a b l : Int32} {A B N : Int} (ha : a.toInt = A) (hb : b.toInt = B) (hl : 0 ≤ l.toInt ∧ l.toInt ≤ N) (hN : N ≤ 60) (hA : 568 ≤ A ∧ A ≤ 800) (hB : 0 ≤ B ∧ B ≤ 5) (hs : A + B * N < 958) : 568 ≤ (a + (b * l)).toInt ∧ (a + (b * l)).toInt < 958 := by
  have h := rf_nb (k := 0) ha hb (show (0 : Int32).toInt = 0 by decide) hl hN hA hB (by omega) (by omega)
  rw [Int32.add_zero] at h
  exact h
theorem rf_dec9 {x : Int32} {a b : Int} (h : a ≤ x.toInt ∧ x.toInt ≤ b) (ha : 1 ≤ a) : a - 1 ≤ (x - 1).toInt ∧ (x - 1).toInt ≤ b - 1 := by
  have o : (1 : Int32).toInt = 1 := by decide
  have h2 : x.toInt < 2147483648 := x.toInt_lt
  rw [Jvm.Kit.i32_sub (by rw [o]; omega) (by rw [o]; omega), o]
  omega
theorem rf_inc9 {x : Int32} {a b : Int} (h : a ≤ x.toInt ∧ x.toInt ≤ b) (hb : b ≤ 1000000) (ha : -1000000 ≤ a) : a + 1 ≤ (x + 1).toInt ∧ (x + 1).toInt ≤ b + 1 := by
  have o : (1 : Int32).toInt = 1 := by decide
  rw [Jvm.Kit.i32_add (by rw [o]; omega) (by rw [o]; omega), o]
  omega
theorem rf_ne60 {x n : Int32} {N : Int} (hn : n.toInt = N) (h : ¬ x = n) (hx : 0 ≤ x.toInt ∧ x.toInt ≤ N) : 0 ≤ x.toInt ∧ x.toInt ≤ N - 1 := by
  rcases Int.lt_or_le x.toInt N with h1 | h1
  · omega
  · exact absurd (Int32.toInt_inj.mp (show x.toInt = n.toInt by omega)) h
theorem rf_lp {y : Int32} {a b : Int} {n : Int32} (hn : n.toInt = b) (h : a ≤ y.toInt ∧ y.toInt ≤ b) (hg : ¬ n ≤ y) (hb : b ≤ 1000000) (ha : -1000000 ≤ a) : a ≤ (y + Int32.ofInt 1).toInt ∧ (y + Int32.ofInt 1).toInt ≤ b := by
  rw [Int32.le_iff_toInt_le, hn] at hg
  have o : (Int32.ofInt 1).toInt = 1 := by decide
  rw [Jvm.Kit.i32_add (by rw [o]; omega) (by rw [o]; omega), o]
  omega
theorem rf_ng {y n : Int32} {b : Int} (hn : n.toInt = b) (hg : ¬ n ≤ y) : y.toInt < b := by
  rw [Int32.le_iff_toInt_le, hn] at hg
  omega
theorem rf_qk {G f : Nat → Int32} {cx : Int} {c : Int32} (h : rf_R G cx f) (hc : 0 ≤ c.toInt ∧ c.toInt < (G 9).toInt) : (0 ≤ (rf_of f c 39).toInt ∧ (rf_of f c 39).toInt ≤ 4) ∧ ((G 10).toInt = 0 → (rf_of f c 39).toInt = 0) := by
  have h1 := rf_kk h hc (k := 39) (by omega) (rf_nn hc)
  exact ⟨⟨h1.1, h1.2.1⟩, h1.2.2⟩
theorem rf_q40 {G f : Nat → Int32} {cx : Int} {c : Int32} (h : rf_R G cx f) (hc : 0 ≤ c.toInt ∧ c.toInt < (G 9).toInt) : (0 ≤ (rf_of f c 40).toInt ∧ ((rf_of f c 40).toInt < (G 10).toInt ∨ (rf_of f c 40).toInt = 0)) ∧ (0 ≤ (rf_of f c 41).toInt ∧ ((rf_of f c 41).toInt < (G 10).toInt ∨ (rf_of f c 41).toInt = 0)) ∧ (0 ≤ (rf_of f c 42).toInt ∧ ((rf_of f c 42).toInt < (G 10).toInt ∨ (rf_of f c 42).toInt = 0)) ∧ (0 ≤ (rf_of f c 43).toInt ∧ ((rf_of f c 43).toInt < (G 10).toInt ∨ (rf_of f c 43).toInt = 0)) :=
  ⟨rf_kk h hc (k := 40) (by omega) (rf_nn hc), rf_kk h hc (k := 41) (by omega) (rf_nn hc), rf_kk h hc (k := 42) (by omega) (rf_nn hc), rf_kk h hc (k := 43) (by omega) (rf_nn hc)⟩
theorem rf_np {G f : Nat → Int32} {cx : Int} (h : rf_R G cx f) : 0 ≤ (G 10).toInt ∧ (G 10).toInt ≤ 4 := h.1.2.2.2.1
/-! repeats come to an end -/
def rf_w : Nat → Nat
  | 0 => 1
  | j + 1 => 5001 * rf_w j + 1
def rf_sumw (R : Nat → Nat) : Nat → Nat
  | 0 => 0
  | j + 1 => rf_sumw R j + R j * rf_w j
theorem rf_w_pos (j : Nat) : 1 ≤ rf_w j := by
  cases j with
  | zero => exact Nat.le_refl 1
  | succ j => show 1 ≤ 5001 * rf_w j + 1; omega
theorem rf_w_le {j k : Nat} (h : j ≤ k) : rf_w j ≤ rf_w k := by
  induction k with
  | zero =>
    have e : j = 0 := by omega
    rw [e]
    exact Nat.le_refl _
  | succ k ih =>
    by_cases e : j = k + 1
    · rw [e]
      exact Nat.le_refl _
    · have h1 := ih (by omega)
      show rf_w j ≤ 5001 * rf_w k + 1
      omega
theorem rf_sumw_upd {R R' : Nat → Nat} {k : Nat} : ∀ n : Nat, k < n → (∀ j : Nat, j < n → j ≠ k → R' j = R j) → rf_sumw R' n + R k * rf_w k = rf_sumw R n + R' k * rf_w k := by
  have same : ∀ n : Nat, n ≤ k → (∀ j : Nat, j < n → j ≠ k → R' j = R j) → rf_sumw R' n = rf_sumw R n := by
    intro n
    induction n with
    | zero => intro _ _; rfl
    | succ n ih =>
      intro h1 h2
      show rf_sumw R' n + R' n * rf_w n = rf_sumw R n + R n * rf_w n
      rw [ih (by omega) (fun j hj => h2 j (by omega)), h2 n (by omega) (by omega)]
  intro n
  induction n with
  | zero => intro h; omega
  | succ n ih =>
    intro h1 h2
    show rf_sumw R' n + R' n * rf_w n + R k * rf_w k = rf_sumw R n + R n * rf_w n + R' k * rf_w k
    by_cases e : k = n
    · subst e
      rw [same k (Nat.le_refl _) (fun j hj => h2 j (by omega))]
      omega
    · rw [h2 n (by omega) (by omega)]
      have h3 := ih (by omega) (fun j hj => h2 j (by omega))
      omega
def rf_rm (G : Nat → Int32) (p c : Nat) (f : Nat → Int32) (j : Nat) : Nat := ((G (99 + 37 * p + 3 * j)).toInt - (f (268 + 54 * c + j)).toInt).toNat
def rf_M (G : Nat → Int32) (p c : Nat) (f : Nat → Int32) (y : Int32) : Nat := rf_sumw (rf_rm G p c f) 12 + (rf_w 12 - rf_w y.toInt.toNat)
theorem rf_kt {G : Nat → Int32} {c k : Nat} {v : Int32} (hk : 24 ≤ k ∧ k < 36) (hv : 0 ≤ v.toInt) : rf_k G c k v := by
  have h : k = 24 ∨ k = 25 ∨ k = 26 ∨ k = 27 ∨ k = 28 ∨ k = 29 ∨ k = 30 ∨ k = 31 ∨ k = 32 ∨ k = 33 ∨ k = 34 ∨ k = 35 := by omega
  rcases h with rfl | rfl | rfl | rfl | rfl | rfl | rfl | rfl | rfl | rfl | rfl | rfl <;> exact fun _ => hv
theorem rf_kt2 {G : Nat → Int32} {c k : Nat} {v : Int32} (hk : 24 ≤ k ∧ k < 36) (h : rf_k G c k v) (hc : (c : Int) < (G 9).toInt) : 0 ≤ v.toInt := by
  have h2 : k = 24 ∨ k = 25 ∨ k = 26 ∨ k = 27 ∨ k = 28 ∨ k = 29 ∨ k = 30 ∨ k = 31 ∨ k = 32 ∨ k = 33 ∨ k = 34 ∨ k = 35 := by omega
  rcases h2 with rfl | rfl | rfl | rfl | rfl | rfl | rfl | rfl | rfl | rfl | rfl | rfl <;> exact h hc
theorem rf_ty {y : Int32} (hy : 0 ≤ y.toInt ∧ y.toInt < 12) : (24 + y).toInt = 24 + y.toInt ∧ (24 + y).toInt.toNat = 24 + y.toInt.toNat := by
  have t : (24 : Int32).toInt = 24 := by decide
  have e : (24 + y).toInt = 24 + y.toInt := by rw [Jvm.Kit.i32_add (by rw [t]; omega) (by rw [t]; omega), t]
  omega
theorem rf_y11 {y g : Int32} (h : g.toInt ≤ 12) (k : 0 ≤ y.toInt ∧ y.toInt < g.toInt) : 0 ≤ y.toInt ∧ y.toInt ≤ 11 := ⟨k.1, by omega⟩
theorem rf_y1 {y : Int32} (k : 0 ≤ y.toInt ∧ y.toInt ≤ 11) : 0 ≤ y.toInt ∧ y.toInt ≤ 12 := ⟨k.1, by omega⟩
theorem rf_y2 {y : Int32} (k : 0 ≤ y.toInt ∧ y.toInt ≤ 11) : 0 ≤ y.toInt ∧ y.toInt < 12 := ⟨k.1, by omega⟩
theorem rf_yj {y : Int32} (k : 0 ≤ y.toInt ∧ y.toInt ≤ 11) : y.toInt.toNat < 12 := by omega
theorem rf_y3 {y a g : Int32} (h : y.toInt < a.toInt) (k : g.toInt ≤ 12) (e : a = g) : y.toInt ≤ 11 := by
  subst e
  omega
theorem rf_tk {y : Int32} (k : 0 ≤ y.toInt ∧ y.toInt ≤ 11) : 24 ≤ (24 + y).toInt.toNat ∧ (24 + y).toInt.toNat < 36 := by
  have h := (rf_ty (y := y) (rf_y2 k)).2
  omega
theorem rf_ps {G f : Nat → Int32} {cx : Int} (h : rf_R G cx f) {p : Nat} (hp : (p : Int) < (G 10).toInt) : (p < 4 ∧ (1 ≤ (G (96 + 37 * p)).toInt ∧ (G (96 + 37 * p)).toInt ≤ 12)) ∧ f (96 + 37 * p) = G (96 + 37 * p) ∧ (∀ j : Nat, j < 12 → ∀ w : Nat, w ≤ 2 → f (97 + 37 * p + 3 * j + w) = G (97 + 37 * p + 3 * j + w)) := by
  have h4 := h.1.2.2.2.1
  have h5 := (h.1.2.2.2.2.2.1 p hp).1
  exact ⟨⟨by omega, h5⟩, h.2.2.2.1 _ (by omega) (by omega), fun j hj w hw => h.2.2.2.1 _ (by omega) (by omega)⟩
theorem rf_cb {G f f' : Nat → Int32} {cx : Int} {c y y' : Int32} {p : Nat} (h : rf_R G cx f) (hc : 0 ≤ c.toInt ∧ c.toInt < (G 9).toInt) (hp : (p : Int) < (G 10).toInt) (hy : 0 ≤ y.toInt ∧ y.toInt < (G (96 + 37 * p)).toInt) (hk : f (97 + 37 * p + 3 * y.toInt.toNat + 0) = 4) (hlt : ¬ f (97 + 37 * p + 3 * y.toInt.toNat + 2) ≤ rf_of f c (24 + y).toInt.toNat) (hf : f' = upd f (244 + 54 * c.toInt.toNat + (24 + y).toInt.toNat) (rf_of f c (24 + y).toInt.toNat + 1)) (hy' : y' = f' (97 + 37 * p + 3 * y.toInt.toNat + 1)) : rf_M G p c.toInt.toNat f' y' < rf_M G p c.toInt.toNat f y ∧ 0 ≤ y'.toInt ∧ y'.toInt ≤ (G (96 + 37 * p)).toInt := by
  have h6 := rf_c6 h hc
  have hps := rf_ps h hp
  have ht := rf_ty (y := y) (by omega)
  have hj : y.toInt.toNat < 12 := by omega
  have s0 := hps.2.2 y.toInt.toNat hj 0 (by omega)
  have s1 := hps.2.2 y.toInt.toNat hj 1 (by omega)
  have s2 := hps.2.2 y.toInt.toNat hj 2 (by omega)
  rw [s0] at hk
  rw [s2] at hlt
  have hfirst := (h.1.2.2.2.2.2.1 p hp).2.2 y.toInt.toNat (by omega) hk
  have hrange := h.1.2.2.2.2.2.2.2.1 (97 + 37 * p + 3 * y.toInt.toNat + 1) (by omega) (by omega)
  have hrange2 := h.1.2.2.2.2.2.2.2.1 (97 + 37 * p + 3 * y.toInt.toNat + 2) (by omega) (by omega)
  have e1 : f' (97 + 37 * p + 3 * y.toInt.toNat + 1) = G (97 + 37 * p + 3 * y.toInt.toNat + 1) := by
    rw [hf, rf_upd_ne (by omega)]
    exact s1
  rw [e1] at hy'
  have hx1 : 97 + 37 * p + 3 * y.toInt.toNat + 1 = 98 + 37 * p + 3 * y.toInt.toNat := by omega
  rw [hx1] at hy' hrange
  rw [← hy'] at hfirst hrange
  have hT : rf_of f c (24 + y).toInt.toNat = f (268 + 54 * c.toInt.toNat + y.toInt.toNat) := by
    show f (244 + 54 * c.toInt.toNat + (24 + y).toInt.toNat) = _
    rw [ht.2]
    exact congrArg f (by omega)
  have hT0 : 0 ≤ (f (268 + 54 * c.toInt.toNat + y.toInt.toNat)).toInt := by
    have q := rf_kt2 (k := 24 + y.toInt.toNat) (by omega) (h.2.2.2.2.1 c.toInt.toNat (by omega) (24 + y.toInt.toNat) (by omega)) (rf_nn hc)
    have e : 244 + 54 * c.toInt.toNat + (24 + y.toInt.toNat) = 268 + 54 * c.toInt.toNat + y.toInt.toNat := by omega
    rw [e] at q
    exact q
  rw [hT] at hf hlt
  rw [Int32.le_iff_toInt_le] at hlt
  have hx2 : 97 + 37 * p + 3 * y.toInt.toNat + 2 = 99 + 37 * p + 3 * y.toInt.toNat := by omega
  rw [hx2] at hlt hrange2
  have o : (1 : Int32).toInt = 1 := by decide
  have e2 : (f (268 + 54 * c.toInt.toNat + y.toInt.toNat) + 1).toInt = (f (268 + 54 * c.toInt.toNat + y.toInt.toNat)).toInt + 1 := by rw [Jvm.Kit.i32_add (by rw [o]; omega) (by rw [o]; omega), o]
  have hsum := rf_sumw_upd (R := rf_rm G p c.toInt.toNat f) (R' := rf_rm G p c.toInt.toNat f') (k := y.toInt.toNat) 12 hj (fun j h7 h8 => by
    unfold rf_rm
    rw [hf, ht.2, rf_upd_ne (by omega)])
  have hk' : rf_rm G p c.toInt.toNat f' y.toInt.toNat + 1 = rf_rm G p c.toInt.toNat f y.toInt.toNat := by
    unfold rf_rm
    have e3 : f' (268 + 54 * c.toInt.toNat + y.toInt.toNat) = f (268 + 54 * c.toInt.toNat + y.toInt.toNat) + 1 := by
      have e4 : 268 + 54 * c.toInt.toNat + y.toInt.toNat = 244 + 54 * c.toInt.toNat + (24 + y).toInt.toNat := by rw [ht.2]; omega
      rw [hf, e4]
      exact rf_upd_eq
    rw [e3, e2]
    omega
  rw [← hk', Nat.add_mul, Nat.one_mul] at hsum
  have w1 := rf_w_pos y'.toInt.toNat
  have w2 : rf_w y.toInt.toNat ≤ rf_w 12 := rf_w_le (by omega)
  have w3 : rf_w y'.toInt.toNat ≤ rf_w 12 := rf_w_le (by omega)
  refine ⟨?_, by omega, by omega⟩
  unfold rf_M
  generalize rf_sumw (rf_rm G p c.toInt.toNat f') 12 = a at hsum ⊢
  generalize rf_sumw (rf_rm G p c.toInt.toNat f) 12 = b at hsum ⊢
  generalize rf_rm G p c.toInt.toNat f' y.toInt.toNat * rf_w y.toInt.toNat = d at hsum
  omega
theorem rf_cp {G f f' : Nat → Int32} {cx : Int} {c y : Int32} {p : Nat} (h : rf_R G cx f) (hc : 0 ≤ c.toInt ∧ c.toInt < (G 9).toInt) (hp : (p : Int) < (G 10).toInt) (hy : 0 ≤ y.toInt ∧ y.toInt < (G (96 + 37 * p)).toInt) (hge : f (97 + 37 * p + 3 * y.toInt.toNat + 2) ≤ rf_of f c (24 + y).toInt.toNat) (hf : f' = upd f (244 + 54 * c.toInt.toNat + (24 + y).toInt.toNat) 0) : rf_M G p c.toInt.toNat f' (y + Int32.ofInt 1) < rf_M G p c.toInt.toNat f y ∧ 0 ≤ (y + Int32.ofInt 1).toInt ∧ (y + Int32.ofInt 1).toInt ≤ (G (96 + 37 * p)).toInt := by
  have h6 := rf_c6 h hc
  have hps := rf_ps h hp
  have ht := rf_ty (y := y) (by omega)
  have hj : y.toInt.toNat < 12 := by omega
  have s2 := hps.2.2 y.toInt.toNat hj 2 (by omega)
  rw [s2] at hge
  have hrange2 := h.1.2.2.2.2.2.2.2.1 (97 + 37 * p + 3 * y.toInt.toNat + 2) (by omega) (by omega)
  have o : (Int32.ofInt 1).toInt = 1 := by decide
  have e1 : (y + Int32.ofInt 1).toInt = y.toInt + 1 := by rw [Jvm.Kit.i32_add (by rw [o]; omega) (by rw [o]; omega), o]
  have hT : rf_of f c (24 + y).toInt.toNat = f (268 + 54 * c.toInt.toNat + y.toInt.toNat) := by
    show f (244 + 54 * c.toInt.toNat + (24 + y).toInt.toNat) = _
    rw [ht.2]
    exact congrArg f (by omega)
  rw [hT, Int32.le_iff_toInt_le] at hge
  have hx2 : 97 + 37 * p + 3 * y.toInt.toNat + 2 = 99 + 37 * p + 3 * y.toInt.toNat := by omega
  rw [hx2] at hge hrange2
  have hsum := rf_sumw_upd (R := rf_rm G p c.toInt.toNat f) (R' := rf_rm G p c.toInt.toNat f') (k := y.toInt.toNat) 12 hj (fun j h7 h8 => by
    unfold rf_rm
    rw [hf, ht.2, rf_upd_ne (by omega)])
  have hk0 : rf_rm G p c.toInt.toNat f y.toInt.toNat = 0 := by
    unfold rf_rm
    omega
  have hk1 : rf_rm G p c.toInt.toNat f' y.toInt.toNat ≤ 5000 := by
    unfold rf_rm
    have e3 : f' (268 + 54 * c.toInt.toNat + y.toInt.toNat) = 0 := by
      have e4 : 268 + 54 * c.toInt.toNat + y.toInt.toNat = 244 + 54 * c.toInt.toNat + (24 + y).toInt.toNat := by rw [ht.2]; omega
      rw [hf, e4]
      exact rf_upd_eq
    rw [e3, show (0 : Int32).toInt = 0 from by decide]
    omega
  rw [hk0, Nat.zero_mul, Nat.add_zero] at hsum
  have hm : rf_rm G p c.toInt.toNat f' y.toInt.toNat * rf_w y.toInt.toNat ≤ 5000 * rf_w y.toInt.toNat := Nat.mul_le_mul_right _ hk1
  have w2 : rf_w (y.toInt.toNat + 1) ≤ rf_w 12 := rf_w_le (by omega)
  have w4 : rf_w (y.toInt.toNat + 1) = 5001 * rf_w y.toInt.toNat + 1 := rfl
  have e5 : (y + Int32.ofInt 1).toInt.toNat = y.toInt.toNat + 1 := by omega
  refine ⟨?_, by omega, by omega⟩
  unfold rf_M
  rw [e5]
  generalize rf_sumw (rf_rm G p c.toInt.toNat f') 12 = a at hsum ⊢
  generalize rf_sumw (rf_rm G p c.toInt.toNat f) 12 = b at hsum ⊢
  generalize rf_rm G p c.toInt.toNat f' y.toInt.toNat * rf_w y.toInt.toNat = d at hsum hm
  omega
/-- a channel whose program and step stand -/
theorem rf_runok {G f : Nat → Int32} {c : Int32} (hc : 0 ≤ c.toInt) (ho : rf_on G f c) : rf_run G f c.toInt.toNat := by
  intro _
  have e1 : f (245 + 54 * c.toInt.toNat) = rf_of f c 1 := congrArg f (by omega)
  have e2 : f (246 + 54 * c.toInt.toNat) = rf_of f c 2 := congrArg f (by omega)
  rw [e1, e2]
  exact ⟨ho.1.1, ho.2⟩
theorem rf_runno {G f : Nat → Int32} {c : Int32} (h1 : ¬ rf_of f c 0 = 1) (h2 : ¬ rf_of f c 0 = 2) : rf_run G f c.toInt.toNat := by
  intro h
  rcases h with h | h
  · exact absurd h h1
  · exact absurd h h2
theorem rf_back9 {G f : Nat → Int32} {cx : Int} {c : Int32} (hc : 0 ≤ c.toInt) (h : rf_R G cx f) (hx : cx = -1 ∨ cx = c.toInt) (hr : rf_run G f c.toInt.toNat) : rf_R G (-1) f := by
  have e : ((c.toInt.toNat : Nat) : Int) = c.toInt := by omega
  exact rf_back (c := c.toInt.toNat) h (by omega) hr
theorem rf_q39 {G f : Nat → Int32} {cx : Int} {c : Int32} (h : rf_R G cx f) (hc : 0 ≤ c.toInt ∧ c.toInt < (G 9).toInt) (hq : 1 ≤ (rf_of f c 39).toInt) : rf_k G c.toInt.toNat 39 (rf_of f c 39 - 1) := by
  intro _
  have h1 := rf_qk h hc
  have o : (1 : Int32).toInt = 1 := by decide
  have e : (rf_of f c 39 - 1).toInt = (rf_of f c 39).toInt - 1 := by rw [Jvm.Kit.i32_sub (by rw [o]; omega) (by rw [o]; omega), o]
  show 0 ≤ (rf_of f c 39 - 1).toInt ∧ (rf_of f c 39 - 1).toInt ≤ 4 ∧ ((G 10).toInt = 0 → (rf_of f c 39 - 1).toInt = 0)
  rw [e]
  refine ⟨by omega, by omega, fun h2 => ?_⟩
  have h3 := h1.2 h2
  omega
theorem rf_p4 {G f : Nat → Int32} {cx : Int} (h : rf_R G cx f) {p : Int32} (hp : 0 ≤ p.toInt ∧ p.toInt < (G 10).toInt) : 0 ≤ p.toInt ∧ p.toInt < 4 := by
  have h1 := rf_np h
  omega
theorem rf_psn {G f : Nat → Int32} {cx : Int} (h : rf_R G cx f) {p : Int32} (hp : 0 ≤ p.toInt ∧ p.toInt < (G 10).toInt) : f (96 + 37 * p.toInt.toNat) = G (96 + 37 * p.toInt.toNat) ∧ 1 ≤ (f (96 + 37 * p.toInt.toNat)).toInt ∧ (f (96 + 37 * p.toInt.toNat)).toInt ≤ 12 := by
  have h1 := rf_ps h (p := p.toInt.toNat) (by omega)
  refine ⟨h1.2.1, ?_⟩
  rw [h1.2.1]
  exact h1.1.2
theorem rf_c01 {G f : Nat → Int32} {cx : Int} (h : rf_R G cx f) {p : Int32} (hp : 0 ≤ p.toInt ∧ p.toInt < (G 10).toInt) : ¬ f (96 + 37 * p.toInt.toNat) ≤ 0 := by
  have h1 := rf_psn h hp
  rw [Int32.le_iff_toInt_le, show (0 : Int32).toInt = 0 from by decide]
  omega
theorem rf_c02 {G f : Nat → Int32} {cx : Int} (h : rf_R G cx f) {p : Int32} (hp : 0 ≤ p.toInt ∧ p.toInt < (G 10).toInt) : ¬ f (97 + 37 * p.toInt.toNat + 3 * (0 : Int32).toInt.toNat + 0) = 4 := by
  have h1 := rf_ps h (p := p.toInt.toNat) (by omega)
  have h2 := (h.1.2.2.2.2.2.1 p.toInt.toNat (by omega)).2.1
  have e : (0 : Int32).toInt.toNat = 0 := by decide
  rw [e, h1.2.2 0 (by omega) 0 (by omega)]
  exact h2
theorem rf_c03 {G f : Nat → Int32} {cx : Int} (h : rf_R G cx f) {p : Int32} (hp : 0 ≤ p.toInt ∧ p.toInt < (G 10).toInt) : ¬ (0 : Int32) = f (96 + 37 * p.toInt.toNat) := by
  have h1 := rf_psn h hp
  intro q
  rw [← q] at h1
  exact absurd h1.2.1 (by decide)
theorem rf_pos {x : Int32} (h : ¬ x ≤ 0) : 1 ≤ x.toInt := by
  rw [Int32.le_iff_toInt_le, show (0 : Int32).toInt = 0 from by decide] at h
  omega
theorem rf_kfree {G : Nat → Int32} {c k : Nat} {v : Int32} (hk : 44 ≤ k ∧ k < 54) : rf_k G c k v := by
  have h : k = 44 ∨ k = 45 ∨ k = 46 ∨ k = 47 ∨ k = 48 ∨ k = 49 ∨ k = 50 ∨ k = 51 ∨ k = 52 ∨ k = 53 := by omega
  rcases h with rfl | rfl | rfl | rfl | rfl | rfl | rfl | rfl | rfl | rfl <;> exact fun _ => trivial
theorem rf_ylt {y n : Int32} {s : Int} (hn : n.toInt = s) (h : ¬ n ≤ y) : y.toInt < s := by
  rw [Int32.le_iff_toInt_le] at h
  omega
theorem rf_step2 {G : Nat → Int32} {c : Nat} {y : Int32} (h0 : 0 ≤ y.toInt) (h1 : y.toInt ≤ 11) : rf_k G c 2 y := fun _ => (show -1 ≤ y.toInt ∧ y.toInt ≤ 11 by omega)
theorem rf_nes {y s : Int32} (h : ¬ y = s) (h2 : y.toInt ≤ s.toInt) : y.toInt < s.toInt := by
  rcases Int.lt_or_le y.toInt s.toInt with h1 | h1
  · exact h1
  · exact absurd (Int32.toInt_inj.mp (show y.toInt = s.toInt by omega)) h
theorem rf_on1 {G f : Nat → Int32} {cx : Int} {c : Int32} (h : rf_R G cx f) (ho : rf_on G f c) : 0 ≤ ((rf_of f c 2) + 1).toInt ∧ ((rf_of f c 2) + 1).toInt ≤ (G (96 + 37 * (rf_of f c 1).toInt.toNat)).toInt := by
  have h2 := rf_onp h ho
  have h3 := ho.2
  have o : (1 : Int32).toInt = 1 := by decide
  have e : ((rf_of f c 2) + 1).toInt = (rf_of f c 2).toInt + 1 := by rw [Jvm.Kit.i32_add (by rw [o]; omega) (by rw [o]; omega), o]
  omega
theorem rf_t1 {G f : Nat → Int32} {cx : Int} {c y : Int32} (h : rf_R G cx f) (hc : 0 ≤ c.toInt ∧ c.toInt < (G 9).toInt) (hy : 0 ≤ y.toInt ∧ y.toInt < 12) {s : Int32} (hs : s.toInt ≤ 5000) (hlt : ¬ s ≤ rf_of f c (24 + y).toInt.toNat) : 0 ≤ (rf_of f c (24 + y).toInt.toNat + 1).toInt := by
  have h6 := rf_c6 h hc
  have ht := rf_ty hy
  have hT0 : 0 ≤ (rf_of f c (24 + y).toInt.toNat).toInt := by
    have q := rf_kt2 (k := (24 + y).toInt.toNat) (by omega) (h.2.2.2.2.1 c.toInt.toNat (by omega) (24 + y).toInt.toNat (by omega)) (rf_nn hc)
    exact q
  have o : (1 : Int32).toInt = 1 := by decide
  rw [Int32.le_iff_toInt_le] at hlt
  rw [Jvm.Kit.i32_add (by rw [o]; omega) (by rw [o]; omega), o]
  omega
theorem rf_sb {G f : Nat → Int32} {cx : Int} (h : rf_R G cx f) {p : Nat} (hp : (p : Int) < (G 10).toInt) {j w : Nat} (hj : j < 12) (hw : w ≤ 2) : (f (97 + 37 * p + 3 * j + w)).toInt ≤ 5000 := by
  have h1 := rf_ps h hp
  rw [h1.2.2 j hj w hw]
  exact (h.1.2.2.2.2.2.2.2.1 _ (by omega) (by omega)).2
theorem rf_rngc {v : Int32} {lo hi : Int64} {L U : Int} (hl : lo.toInt = L) (hh : hi.toInt = U) (h : ¬ cm_rng v.toInt64 lo hi = 0) : L ≤ v.toInt ∧ v.toInt ≤ U := by
  have h1 := rf_rng h
  rw [Jvm.Kit.i64_of_i32, hl, hh] at h1
  exact h1
theorem rf_qix {q : Int32} (hq : 0 ≤ q.toInt ∧ q.toInt ≤ 4) : (40 + q).toInt = 40 + q.toInt := by
  have t : (40 : Int32).toInt = 40 := by decide
  rw [Jvm.Kit.i32_add (by rw [t]; omega) (by rw [t]; omega), t]
theorem rf_kq {G : Nat → Int32} {c k : Nat} {v : Int32} (hk : 40 ≤ k ∧ k < 44) (hv : 0 ≤ v.toInt ∧ (v.toInt < (G 10).toInt ∨ v.toInt = 0)) : rf_k G c k v := by
  have h : k = 40 ∨ k = 41 ∨ k = 42 ∨ k = 43 := by omega
  rcases h with rfl | rfl | rfl | rfl <;> exact fun _ => hv
theorem rf_k39 {G : Nat → Int32} {c : Nat} {v : Int32} (h : 0 ≤ v.toInt ∧ v.toInt ≤ 4) (hp : 0 < (G 10).toInt) : rf_k G c 39 v := fun _ => (show 0 ≤ v.toInt ∧ v.toInt ≤ 4 ∧ ((G 10).toInt = 0 → v.toInt = 0) from ⟨h.1, h.2, fun q => by omega⟩)
theorem rf_n4 {x : Int32} (h : ¬ x = 4) (hx : 0 ≤ x.toInt ∧ x.toInt ≤ 4) : 0 ≤ x.toInt ∧ x.toInt ≤ 3 := by
  have h2 := rf_ne60 (n := 4) (N := 4) (by decide) h hx
  omega
theorem rf_n0 {x : Int32} (h : ¬ x = 0) (hx : 0 ≤ x.toInt) : 1 ≤ x.toInt := by
  rcases Int.lt_or_le 0 x.toInt with h1 | h1
  · omega
  · exact absurd (Int32.toInt_inj.mp (show x.toInt = (0 : Int32).toInt by rw [show (0 : Int32).toInt = 0 from by decide]; omega)) h
theorem rf_add9 {a b : Int32} {A B : Int} (ha : a.toInt = A) (hb : 0 ≤ b.toInt ∧ b.toInt ≤ B) (hA : 0 ≤ A ∧ A ≤ 1000000) (hB : B ≤ 1000000) : (a + b).toInt = A + b.toInt := by
  rw [Jvm.Kit.i32_add (by omega) (by omega), ha]
/-- halving -/
theorem rf_mid {a b : Int32} (ha : 0 ≤ a.toInt) (hb : b.toInt ≤ 100001) (hlt : ¬ b ≤ a) : a.toInt ≤ ((a + b) / 2).toInt ∧ ((a + b) / 2).toInt < b.toInt := by
  rw [Int32.le_iff_toInt_le] at hlt
  have t : (2 : Int32).toInt = 2 := by decide
  have e : (a + b).toInt = a.toInt + b.toInt := Jvm.Kit.i32_add (by omega) (by omega)
  rw [Jvm.Kit.i32_div (by omega), e, t, Int.tdiv_eq_ediv_of_nonneg (by omega)]
  omega
theorem rf_ne0 {x : Int32} (h : ¬ x = 0) : ¬ x = 0 := h
theorem rf_Req {G f h : Nat → Int32} {cx : Int} (hR : rf_R G cx f) (he : ∀ j : Nat, j < 958 → h j = f j) : rf_R G cx h := by
  obtain ⟨h1, h2, h3, h4, h5, h6⟩ := hR
  refine ⟨h1, ?_, ?_, fun j h7 h8 => ?_, fun c hc k hk => ?_, fun c hc hx => ?_⟩
  · rw [he 0 (by omega), he 1 (by omega), he 2 (by omega), he 6 (by omega), he 9 (by omega), he 10 (by omega), he 11 (by omega)]
    exact h2
  · rw [he 12 (by omega), he 16 (by omega), he 17 (by omega)]
    exact h3
  · rw [he j (by omega)]
    exact h4 j h7 h8
  · rw [he _ (by omega)]
    exact h5 c hc k hk
  · have hc6 : c < 6 := by have := h1.2.2.1; omega
    unfold rf_run
    rw [he _ (by omega), he _ (by omega), he _ (by omega)]
    exact h6 c hc hx
theorem rf_cpy {f h : Nat → Int32} {y : Int32} (hy : 0 ≤ y.toInt ∧ y.toInt < 958) (he : ∀ j : Nat, (j : Int) < y.toInt → h j = f j) : ∀ j : Nat, (j : Int) < (y + Int32.ofInt 1).toInt → upd h y.toNatClampNeg (f y.toNatClampNeg) j = f j := by
  intro j hj
  have o : (Int32.ofInt 1).toInt = 1 := by decide
  have e : (y + Int32.ofInt 1).toInt = y.toInt + 1 := by rw [Jvm.Kit.i32_add (by rw [o]; omega) (by rw [o]; omega), o]
  have en : y.toNatClampNeg = y.toInt.toNat := rfl
  rw [e] at hj
  by_cases h2 : j = y.toNatClampNeg
  · rw [h2]
    exact rf_upd_eq
  · rw [rf_upd_ne h2]
    exact he j (by omega)
theorem rf_rix {x w : Int32} {a b : Int32} {A B N : Int} (ha : a.toInt = A) (hb : b.toInt = B) (hx : 0 ≤ x.toInt ∧ x.toInt ≤ N) (hw : 0 ≤ w.toInt ∧ w.toInt ≤ 5) (hN : N ≤ 60) (hA : 568 ≤ A ∧ A ≤ 800) (hB : 0 ≤ B ∧ B ≤ 5) (hs : A + B * N + 5 < 960) (hs2 : A + B * N + w.toInt < 958) : vp_in ((a + (b * x)) + w) 958 := by
  rw [vp_in_iff, rf_i2 A B ha hb (by omega) (by omega) (by omega) (by omega)]
  have h1 : B * x.toInt ≤ B * N := Int.mul_le_mul_of_nonneg_left hx.2 hB.1
  have h2 : 0 ≤ B * x.toInt := Int.mul_nonneg hB.1 hx.1
  omega
theorem rf_p1 {x : Int32} (h : -1000 ≤ x.toInt ∧ x.toInt ≤ 1000000) : (x + 1).toInt = x.toInt + 1 := by
  have o : (1 : Int32).toInt = 1 := by decide
  rw [Jvm.Kit.i32_add (by rw [o]; omega) (by rw [o]; omega), o]
theorem rf_lth {a b : Int32} (h : ¬ b ≤ a) : a.toInt < b.toInt := by
  rw [Int32.le_iff_toInt_le] at h
  omega
theorem rf_ge2 {x : Int32} (h : 2 ≤ x) : 2 ≤ x.toInt := by
  rw [Int32.le_iff_toInt_le, show (2 : Int32).toInt = 2 from by decide] at h
  exact h
theorem rf_pg {G f : Nat → Int32} {cx : Int} {c : Int32} (h : rf_R G cx f) (hc : 0 ≤ c.toInt ∧ c.toInt < (G 9).toInt) (hn : ¬ rf_of f c 1 = -1) : 0 ≤ (rf_of f c 1).toInt ∧ (rf_of f c 1).toInt < (G 10).toInt := by
  have h1 := rf_kk h hc (k := 1) (by omega) (rf_nn hc)
  have h2 : -1 ≤ (rf_of f c 1).toInt ∧ (rf_of f c 1).toInt < (G 10).toInt := h1
  rcases Int.lt_or_le (-1) (rf_of f c 1).toInt with h3 | h3
  · omega
  · exact absurd (Int32.toInt_inj.mp (show (rf_of f c 1).toInt = (-1 : Int32).toInt by rw [show (-1 : Int32).toInt = -1 from by decide]; omega)) hn
theorem rf_l0 {x : Int32} (h : x.toInt64 = 0) : x = 0 := by
  have h2 : x.toInt64.toInt = 0 := by rw [h]; decide
  rw [Jvm.Kit.i64_of_i32] at h2
  exact Int32.toInt_inj.mp (by rw [h2]; decide)
theorem rf_rixe {x w : Int32} (hx : 0 ≤ x.toInt ∧ x.toInt ≤ 29) (hw : 0 ≤ w.toInt ∧ w.toInt ≤ 4) : ((568 + (5 * x)) + w).toInt = ((568 + 5 * x.toInt.toNat + w.toInt.toNat : Nat) : Int) := by
  rw [rf_i2 568 5 (by decide) (by decide) (by omega) (by omega) (by omega) (by omega)]
  omega
theorem rf_b8 {k n : Int32} (hn : n.toInt ≤ 800) (h : k < n) : k < Int32.ofNat 800 := by
  rw [Int32.lt_iff_toInt_lt] at h ⊢
  rw [show (Int32.ofNat 800).toInt = 800 from by decide]
  omega
theorem rf_tlt {y N : Int32} (h : y.toInt < N.toInt) : y < N := Int32.lt_iff_toInt_lt.mpr h
theorem rf_zr (a b c : Int64) : narrow .boolean (.int (cm_rng a b c)) = .int (cm_rng a b c) := by
  unfold cm_rng
  by_cases h1 : a < b
  · rw [if_pos h1]
    rfl
  · rw [if_neg h1]
    by_cases h2 : c < a
    · rw [if_pos h2]
      rfl
    · rw [if_neg h2]
      rfl
/-! the time and the settings -/
def rf_ds (f g : Nat → Int32) : Prop := ∀ j : Nat, (j < 8 ∨ (13 ≤ j ∧ j ≤ 16)) → g j = f j
def rf_d (t : Int32) (f g : Nat → Int32) : Prop := g 8 = t ∧ rf_ds f g
theorem rf_dr (f : Nat → Int32) : rf_d (f 8) f f := ⟨rfl, fun _ _ => rfl⟩
section RFD
variable {T : Int32} {f g h fa : Nat → Int32} {i : Nat} {v y p : Int32}
theorem rf_dst (a : rf_ds f g) (b : rf_ds g h) : rf_ds f h := fun j hj => (b j hj).trans (a j hj)
theorem rf_dt (a : rf_d T f g) (b : rf_d (g 8) g h) : rf_d T f h := ⟨b.1.trans a.1, rf_dst a.2 b.2⟩
theorem rf_d1 (a : rf_d T f g) (b : rf_d (g 8 + 1) g h) : rf_d (T + 1) f h := ⟨b.1.trans (congrArg (· + 1) a.1), rf_dst a.2 b.2⟩
theorem rf_du (a : rf_d T f g) (e : upd g i v = h) (hi : 17 ≤ i ∨ (9 ≤ i ∧ i ≤ 12)) : rf_d T f h := by
  rw [← e]
  exact ⟨(rf_upd_ne (by omega)).trans a.1, fun j hj => (rf_upd_ne (by omega)).trans (a.2 j hj)⟩
theorem rf_dk (a : rf_d T f g) (e : upd g i v = h) (hi : i = 8) (hv : v = g 8 + 1) : rf_d (T + 1) f h := by
  subst hi
  rw [← e, hv]
  exact ⟨rf_upd_eq.trans (congrArg (· + 1) a.1), fun j hj => (rf_upd_ne (by omega)).trans (a.2 j hj)⟩
theorem rf_dse (e : ∀ j : Nat, j < 958 → g j = f j) : rf_d (f 8) f g := ⟨e 8 (by omega), fun j hj => e j (by omega)⟩
theorem rf_dg (a : rf_d T f g) (b : rf_d (g 8) g fa) (c : rf_d (fa 8) fa h) : rf_d T f h := rf_dt (rf_dt a b) c
theorem rf_db {P : Nat} (a : rf_d T f g) (hP : 17 ≤ P) (b : ∀ j : Nat, j < P → h j = g j) : rf_d T f h := ⟨(b 8 (by omega)).trans a.1, fun j hj => (b j (by omega)).trans (a.2 j hj)⟩
theorem rf_da0 (a : rf_d T f g) : rf_d (T + 0) f g := ⟨a.1.trans (Int32.add_zero T).symm, a.2⟩
theorem rf_da1 (a : rf_d ((T + y) + 1) f g) : rf_d (T + (y + Int32.ofInt 1)) f g := ⟨a.1.trans (Int32.add_assoc T y 1), a.2⟩
/-- the time behind advance() -/
def rp_av (t p : Int32) : Int32 := if (1 ≤ p.toInt ∧ p.toInt ≤ 5000) ∧ t + p ≤ 300000 then t + p else t
theorem rp_avF {t : Int32} (h : ¬ t + p ≤ 300000) : rp_av t p = t := if_neg (fun q => h q.2)
theorem rp_avX {t : Int32} (h : ¬ (1 ≤ p.toInt ∧ p.toInt ≤ 5000)) : rp_av t p = t := if_neg (fun q => h q.1)
theorem rp_ye (b : 0 ≤ y.toInt ∧ y.toInt ≤ p.toInt) (e : p ≤ y) : y = p := by
  rw [Int32.le_iff_toInt_le] at e
  exact Int32.toInt_inj.mp (by omega)
theorem rp_avT {t tc : Int32} (r : 1 ≤ p.toInt ∧ p.toInt ≤ 5000) (h : t + p ≤ 300000) (b : (0 ≤ y.toInt ∧ y.toInt ≤ p.toInt) ∧ tc = t + y) (e : p ≤ y) : rp_av t p = tc := by
  rw [b.2, rp_ye b.1 e]
  exact if_pos ⟨r, h⟩
theorem rf_ad1 (b : 0 ≤ y.toInt ∧ y.toInt ≤ p.toInt) (h : ¬ p ≤ y) : 0 ≤ (y + Int32.ofInt 1).toInt ∧ (y + Int32.ofInt 1).toInt ≤ p.toInt := by
  have l := p.toInt_lt
  rw [Int32.le_iff_toInt_le] at h
  have o : (Int32.ofInt 1).toInt = 1 := by decide
  have e : (y + Int32.ofInt 1).toInt = y.toInt + 1 := by rw [Jvm.Kit.i32_add (by rw [o]; omega) (by rw [o]; omega), o]
  omega
theorem rf_adT (r : 1 ≤ p.toInt ∧ p.toInt ≤ 5000) (h : f 8 + p ≤ 300000) (b : 0 ≤ y.toInt ∧ y.toInt ≤ p.toInt) (e : p ≤ y) (d : rf_d (f 8 + y) f g) : rf_d (rp_av (f 8) p) f g := ⟨d.1.trans (rp_avT r h ⟨b, rfl⟩ e).symm, d.2⟩
theorem rf_adF (h : ¬ f 8 + p ≤ 300000) (d : rf_d (f 8) f g) : rf_d (rp_av (f 8) p) f g := ⟨d.1.trans (rp_avF h).symm, d.2⟩
theorem rf_adX (h : ¬ (1 ≤ p.toInt ∧ p.toInt ≤ 5000)) (d : rf_d (f 8) f g) : rf_d (rp_av (f 8) p) f g := ⟨d.1.trans (rp_avX h).symm, d.2⟩
end RFD
theorem rf_rngn {v : Int32} {lo hi : Int64} {L U : Int} (hl : lo.toInt = L) (hh : hi.toInt = U) (h : cm_rng v.toInt64 lo hi = 0) : ¬ (L ≤ v.toInt ∧ v.toInt ≤ U) := by
  unfold cm_rng at h
  by_cases a : v.toInt64 < lo
  · rw [Int64.lt_iff_toInt_lt, Jvm.Kit.i64_of_i32, hl] at a
    omega
  · rw [if_neg a] at h
    by_cases c : hi < v.toInt64
    · rw [Int64.lt_iff_toInt_lt, Jvm.Kit.i64_of_i32, hh] at c
      omega
    · rw [if_neg c] at h
      exact absurd h (by decide)
/-- the slots: which are filled, and the times in them -/
theorem rf_nsl {p : Int32} (h : cm_rng p.toInt64 0 1 = 0) : ¬ (p = 0 ∨ p = 1) := by
  have r := rf_rngn (L := 0) (U := 1) (by decide) (by decide) h
  rintro (q | q)
  · subst q
    exact r (by decide)
  · subst q
    exact r (by decide)
theorem rf_dn {y : Int32} (h : 958 ≤ y) : (958 : Int) ≤ y.toInt := by
  rw [Int32.le_iff_toInt_le, show (958 : Int32).toInt = 958 from by decide] at h
  exact h
/-- n times a full load of charge is taken off, each wears the cell -/
def q_fd (fd h2 : Int32) : Nat → Int32 → Int32 → Int32 → Int32 → Prop
  | 0, t, p, t1, p1 => t1 = t ∧ p1 = p
  | n + 1, t, p, t1, p1 => ∃ u v : Int32, q_fd fd h2 n t p u v ∧ fd ≤ u ∧ t1 = u - fd ∧ p1 = (if h2 < v - 1 then v - 1 else h2)
def q_fI (f : Nat → Int32) (c t y : Int32) (g : Nat → Int32) : Prop := (∃ n : Nat, q_fd (f 1) (rf_of f c 12 / 2) n t (rf_of f c 7) y (rf_of g c 7)) ∧ ∀ j : Nat, j ≠ 244 + 54 * c.toInt.toNat + 7 → g j = f j
theorem q_fI0 {f : Nat → Int32} {c t : Int32} : q_fI f c t t f := ⟨⟨0, rfl, rfl⟩, fun _ _ => rfl⟩
theorem q_fIs {f g h : Nat → Int32} {c t y : Int32} (I : q_fI f c t y g) (hq : ¬ y < g 1) (e : h = upd g (244 + 54 * c.toInt.toNat + 7) (if (rf_of g c 12) / 2 < (rf_of g c 7) - 1 then (rf_of g c 7) - 1 else (rf_of g c 12) / 2)) : q_fI f c t (y - g 1) h := by
  obtain ⟨⟨n, I1⟩, I2⟩ := I
  have e1 : g 1 = f 1 := I2 1 (by omega)
  have e12 : rf_of g c 12 = rf_of f c 12 := I2 _ (by omega)
  have e7 : rf_of h c 7 = (if (rf_of g c 12) / 2 < (rf_of g c 7) - 1 then (rf_of g c 7) - 1 else (rf_of g c 12) / 2) := by
    unfold rf_of
    rw [e]
    exact rf_upd_eq
  refine ⟨⟨n + 1, y, rf_of g c 7, I1, ?_, by rw [e1], by rw [e7, e12]⟩, fun j hj => ?_⟩
  · rw [e1, Int32.lt_iff_toInt_lt] at hq
    rw [Int32.le_iff_toInt_le]
    omega
  · rw [e, rf_upd_ne hj]
    exact I2 j hj
/-- places that a store leaves -/
def q_kp (B pl : Nat) (f g : Nat → Int32) : Prop := ∀ j : Nat, j < B → j ≠ pl → g j = f j
theorem q_kp0 {B pl : Nat} {f : Nat → Int32} : q_kp B pl f f := fun _ _ _ => rfl
theorem q_kpu {B pl i : Nat} {f g h : Nat → Int32} {v : Int32} (k : q_kp B pl f g) (e : upd g i v = h) (hi : B ≤ i ∨ i = pl) : q_kp B pl f h := fun j h1 h2 => by
  rw [← e, rf_upd_ne (by omega)]
  exact k j h1 h2
theorem rf_nbA {a b l k : Int32} {A B K N : Int} (ha : a.toInt = A) (hb : b.toInt = B) (hk : k.toInt = K) (hl : 0 ≤ l.toInt ∧ l.toInt ≤ N) (hN : N ≤ 60) (hA : 568 ≤ A ∧ A ≤ 800) (hB : 0 ≤ B ∧ B ≤ 5) (hK : 0 ≤ K ∧ K ≤ 5) (hs : A + B * N + K < 958) : ((a + (b * l)) + k).toInt = A + B * l.toInt + K := by
  have h1 : B * l.toInt ≤ B * N := Int.mul_le_mul_of_nonneg_left hl.2 hB.1
  have h0 : 0 ≤ B * l.toInt := Int.mul_nonneg hB.1 hl.1
  have e1 : (b * l).toInt = B * l.toInt := by rw [Jvm.Kit.i32_mul (by rw [hb]; omega) (by rw [hb]; omega), hb]
  have e2 : (a + (b * l)).toInt = A + B * l.toInt := by rw [Jvm.Kit.i32_add (by rw [ha, e1]; omega) (by rw [ha, e1]; omega), ha, e1]
  rw [Jvm.Kit.i32_add (by rw [e2, hk]; omega) (by rw [e2, hk]; omega), e2, hk]
theorem rf_pk {x k : Int32} {K : Int} (hk : k.toInt = K) (h : -1000 ≤ x.toInt ∧ x.toInt ≤ 100000) (hK : 0 ≤ K ∧ K ≤ 1000) : (x + k).toInt = x.toInt + K := by
  rw [Jvm.Kit.i32_add (by omega) (by omega), hk]
theorem rf_oi {n : Int32} (h : 0 ≤ n.toInt ∧ n.toInt ≤ 1000) : (n + Int32.ofInt 1).toInt = n.toInt + 1 := rf_p1 (by omega)
def q_eq (n : Nat) (a b : Nat → Int32) : Prop := ∀ j : Nat, j < n → b j = a j
/-- the records move down by one -/
def q_sh (f : Nat → Int32) (y : Int32) (g : Nat → Int32) : Prop := ∀ j : Nat, g j = if 568 ≤ j ∧ (j : Int) < y.toInt then f (j + 5) else f j
theorem q_sh0 {f : Nat → Int32} : q_sh f 568 f := fun j => (if_neg (by have : (568 : Int32).toInt = 568 := (by decide); omega)).symm
theorem q_shs {f g h : Nat → Int32} {y : Int32} (I : q_sh f y g) (hy : 568 ≤ y.toInt ∧ y.toInt < 713) (e : upd g y.toNatClampNeg (g (y + 5).toNatClampNeg) = h) : q_sh f (y + Int32.ofInt 1) h := by
  have e1 : (y + Int32.ofInt 1).toInt = y.toInt + 1 := rf_p1 (by omega)
  have e5 : (y + 5).toNatClampNeg = y.toInt.toNat + 5 := by
    have q := rf_pk (x := y) (k := 5) (K := 5) (by decide) (by omega) (by omega)
    show (y + 5).toInt.toNat = _
    omega
  intro j
  rw [← e, e5, I (y.toInt.toNat + 5), if_neg (by omega), e1]
  by_cases q : j = y.toInt.toNat
  · subst q
    rw [show upd g y.toNatClampNeg _ y.toInt.toNat = _ from rf_upd_eq, if_pos (by omega)]
  · rw [rf_upd_ne (show j ≠ y.toNatClampNeg from q), I j]
    by_cases z : 568 ≤ j ∧ (j : Int) < y.toInt
    · rw [if_pos z, if_pos (by omega)]
    · rw [if_neg z, if_neg (by omega)]
/-- a step over a repeat -/
def q_stp (c p u : Int32) (g : Nat → Int32) (k1 : Int32) (f1 : Nat → Int32) : Prop := ¬ (g (96 + 37 * p.toInt.toNat)) ≤ u ∧ g (97 + 37 * p.toInt.toNat + 3 * u.toInt.toNat + 0) = 4 ∧ ((¬ g (97 + 37 * p.toInt.toNat + 3 * u.toInt.toNat + 2) ≤ rf_of g c (24 + u).toInt.toNat ∧ f1 = upd g (244 + 54 * c.toInt.toNat + (24 + u).toInt.toNat) (rf_of g c (24 + u).toInt.toNat + 1) ∧ k1 = g (97 + 37 * p.toInt.toNat + 3 * u.toInt.toNat + 1)) ∨ (g (97 + 37 * p.toInt.toNat + 3 * u.toInt.toNat + 2) ≤ rf_of g c (24 + u).toInt.toNat ∧ f1 = upd g (244 + 54 * c.toInt.toNat + (24 + u).toInt.toNat) 0 ∧ k1 = u + Int32.ofInt 1))
def q_way (c p : Int32) : Nat → Int32 → (Nat → Int32) → Int32 → (Nat → Int32) → Prop
  | 0, k, f, k1, f1 => k1 = k ∧ f1 = f
  | n + 1, k, f, k1, f1 => ∃ (u : Int32) (g : Nat → Int32), q_way c p n k f u g ∧ q_stp c p u g k1 f1
def q_wy (c p k : Int32) (f : Nat → Int32) (k1 : Int32) (f1 : Nat → Int32) : Prop := ∃ n : Nat, q_way c p n k f k1 f1
theorem q_wy0 {c p k : Int32} {f : Nat → Int32} : q_wy c p k f k f := ⟨0, rfl, rfl⟩
theorem q_wys {c p k u k1 : Int32} {f g f1 : Nat → Int32} (h : q_wy c p k f u g) (s : q_stp c p u g k1 f1) : q_wy c p k f k1 f1 := by
  obtain ⟨n, w⟩ := h
  exact ⟨n + 1, u, g, w, s⟩
