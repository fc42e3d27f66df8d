/-! the reference's reader by value -/
theorem rm_rngN {v lo hi : Int64} (h : cm_rng v lo hi = 0) : ¬ (lo.toInt ≤ v.toInt ∧ v.toInt ≤ hi.toInt) := by
  unfold cm_rng at h
  by_cases h1 : v < lo
  · rw [Int64.lt_iff_toInt_lt] at h1
    omega
  · rw [if_neg h1] at h
    by_cases h2 : hi < v
    · rw [Int64.lt_iff_toInt_lt] at h2
      omega
    · rw [if_neg h2] at h
      exact absurd h (by decide)
theorem rm_let {b : Nat → Int32} {n p : Int32} (h : ¬ cm_rng (rf_bt b n p).toInt64 97 122 = 0) : rp_let b n p = true := by
  have h1 := rf_rng h
  rw [Jvm.Kit.i64_of_i32, show (97 : Int64).toInt = 97 from by decide, show (122 : Int64).toInt = 122 from by decide] at h1
  exact decide_eq_true h1
theorem rm_letN {b : Nat → Int32} {n p : Int32} (h : cm_rng (rf_bt b n p).toInt64 97 122 = 0) : ¬ rp_let b n p = true := by
  have h1 := rm_rngN h
  rw [Jvm.Kit.i64_of_i32, show (97 : Int64).toInt = 97 from by decide, show (122 : Int64).toInt = 122 from by decide] at h1
  exact fun q => h1 (of_decide_eq_true q)
theorem rm_dig {b : Nat → Int32} {n p : Int32} (h : ¬ cm_rng (rf_bt b n p).toInt64 48 57 = 0) : rp_dig b n p = true := by
  have h1 := rf_rng h
  rw [Jvm.Kit.i64_of_i32, show (48 : Int64).toInt = 48 from by decide, show (57 : Int64).toInt = 57 from by decide] at h1
  exact decide_eq_true h1
theorem rm_digN {b : Nat → Int32} {n p : Int32} (h : cm_rng (rf_bt b n p).toInt64 48 57 = 0) : ¬ rp_dig b n p = true := by
  have h1 := rm_rngN h
  rw [Jvm.Kit.i64_of_i32, show (48 : Int64).toInt = 48 from by decide, show (57 : Int64).toInt = 57 from by decide] at h1
  exact fun q => h1 (of_decide_eq_true q)
theorem rm_spc {b : Nat → Int32} {n p : Int32} (h : rf_bt b n p = 32) : rp_spc b n p = true := decide_eq_true h
theorem rm_spcN {b : Nat → Int32} {n p : Int32} (h : ¬ rf_bt b n p = 32) : ¬ rp_spc b n p = true := fun q => h (of_decide_eq_true q)
theorem rm_digB {b : Nat → Int32} {n p : Int32} (h : rp_dig b n p = true) : 48 ≤ (rf_bt b n p).toInt ∧ (rf_bt b n p).toInt ≤ 57 := of_decide_eq_true h
/-- the reference's own sum -/
theorem rm_sum {v : Int64} {x : Int32} (hv : 0 ≤ v.toInt ∧ v.toInt ≤ 100000000) (hx : 48 ≤ x.toInt ∧ x.toInt ≤ 57) : (if (((10 * v) + x.toInt64) - 48) < (100000000 : Int64) then (((10 * v) + x.toInt64) - 48) else 100000000).toInt = min (10 * v.toInt + x.toInt - 48) 100000000 := by
  have t10 : (10 : Int64).toInt = 10 := by decide
  have t48 : (48 : Int64).toInt = 48 := by decide
  have tM : (100000000 : Int64).toInt = 100000000 := by decide
  have ex : x.toInt64.toInt = x.toInt := Jvm.Kit.i64_of_i32 x
  have e1 : (10 * v).toInt = 10 * v.toInt := by rw [Jvm.Kit.i64_mul (by rw [t10]; omega) (by rw [t10]; omega), t10]
  have e2 : ((10 * v) + x.toInt64).toInt = 10 * v.toInt + x.toInt := by rw [Jvm.Kit.i64_add (by rw [e1, ex]; omega) (by rw [e1, ex]; omega), e1, ex]
  have e3 : (((10 * v) + x.toInt64) - 48).toInt = 10 * v.toInt + x.toInt - 48 := by rw [Jvm.Kit.i64_sub (by rw [e2, t48]; omega) (by rw [e2, t48]; omega), e2, t48]
  by_cases h : (((10 * v) + x.toInt64) - 48) < (100000000 : Int64)
  · rw [if_pos h, e3]
    rw [Int64.lt_iff_toInt_lt, e3, tM] at h
    omega
  · rw [if_neg h, tM]
    rw [Int64.lt_iff_toInt_lt, e3, tM] at h
    omega
/-- what a failing step leaves; what a statement that fails leaves -/
def rm_f (k p wk wr : Int32) : Prop := ¬ k = 0 ∧ wk = k ∧ wr = p
def rm_B (b : Nat → Int32) (n k p wk wr : Int32) : Prop := (¬ k = 0 ∧ wk = k ∧ wr = p) ∨ (k = 0 ∧ wk = 1 ∧ wr = rp_sk b n p ∧ ¬ rf_bt b n (rp_sk b n p) = 59 ∧ ¬ rf_bt b n (rp_sk b n p) = -1)
theorem rm_rd0 {b : Nat → Int32} {n p : Int32} {v : Int64} {lo hi : Int32} (hD : rp_dig b n (rp_sk b n p) = true) (hv : 0 ≤ v.toInt ∧ v.toInt ≤ 100000000) (h : ¬ cm_rng v lo.toInt64 hi.toInt64 = 0) {y : Int32} (he : rp_de b n (rp_sk b n p) = y ∧ rp_num b n (rp_sk b n p) 0 = v.toInt) : (rp_rk b n lo.toInt hi.toInt p = 0 ∧ y = rp_rp b n lo.toInt hi.toInt p) ∧ (lo.toInt ≤ v.toInt32.toInt ∧ v.toInt32.toInt ≤ hi.toInt) ∧ v.toInt32.toInt = rp_rv b n p := by
  have h1 := rf_rng h
  rw [Jvm.Kit.i64_of_i32, Jvm.Kit.i64_of_i32] at h1
  have e : v.toInt32.toInt = v.toInt := Jvm.Kit.i32_of_i64 (by omega) (by omega)
  have k : rp_rk b n lo.toInt hi.toInt p = 0 := by
    unfold rp_rk
    rw [if_pos hD, he.2, if_pos h1]
  refine ⟨⟨k, ?_⟩, by rw [e]; exact h1, by rw [e]; exact he.2.symm⟩
  unfold rp_rp
  rw [if_pos k]
  exact he.1.symm
theorem rm_rd2 {b : Nat → Int32} {n p : Int32} {v : Int64} {lo hi : Int32} (hD : rp_dig b n (rp_sk b n p) = true) (h : cm_rng v lo.toInt64 hi.toInt64 = 0) (he : rp_num b n (rp_sk b n p) 0 = v.toInt) : rm_f (rp_rk b n lo.toInt hi.toInt p) (rp_rp b n lo.toInt hi.toInt p) 2 (rp_sk b n p) := by
  have h1 := rm_rngN h
  rw [Jvm.Kit.i64_of_i32, Jvm.Kit.i64_of_i32] at h1
  have k : rp_rk b n lo.toInt hi.toInt p = 2 := by
    unfold rp_rk
    rw [if_pos hD, he, if_neg h1]
  refine ⟨by rw [k]; decide, k.symm, ?_⟩
  unfold rp_rp
  rw [k, if_neg (by decide)]
theorem rm_rd1 {b : Nat → Int32} {n p : Int32} {lo hi : Int} (hD : ¬ rp_dig b n (rp_sk b n p) = true) : rm_f (rp_rk b n lo hi p) (rp_rp b n lo hi p) 1 (rp_sk b n p) := by
  have k : rp_rk b n lo hi p = 1 := by
    unfold rp_rk
    rw [if_neg hD]
  refine ⟨by rw [k]; decide, k.symm, ?_⟩
  unfold rp_rp
  rw [k, if_neg (by decide)]
/-- two numbers in turn -/
theorem rm_d0 {b : Nat → Int32} {n p : Int32} {l1 h1 l2 h2 : Int} (k : rp_rk b n l1 h1 p = 0) : rp_dk b n l1 h1 l2 h2 p = rp_rk b n l2 h2 (rp_rp b n l1 h1 p) ∧ rp_dp b n l1 h1 l2 h2 p = rp_rp b n l2 h2 (rp_rp b n l1 h1 p) := ⟨if_pos k, if_pos k⟩
theorem rm_d1 {b : Nat → Int32} {n p : Int32} {l1 h1 l2 h2 : Int} (k : ¬ rp_rk b n l1 h1 p = 0) : rp_dk b n l1 h1 l2 h2 p = rp_rk b n l1 h1 p ∧ rp_dp b n l1 h1 l2 h2 p = rp_rp b n l1 h1 p := ⟨if_neg k, if_neg k⟩
theorem rm_f2 {b : Nat → Int32} {n p wk wr : Int32} {l1 h1 l2 h2 : Int} (f : rm_f (rp_rk b n l1 h1 p) (rp_rp b n l1 h1 p) wk wr) : rm_f (rp_dk b n l1 h1 l2 h2 p) (rp_dp b n l1 h1 l2 h2 p) wk wr := by
  rw [(rm_d1 f.1).1, (rm_d1 f.1).2]
  exact f
theorem rm_f3 {b : Nat → Int32} {n p wk wr : Int32} {l1 h1 l2 h2 : Int} (k : rp_rk b n l1 h1 p = 0) (f : rm_f (rp_rk b n l2 h2 (rp_rp b n l1 h1 p)) (rp_rp b n l2 h2 (rp_rp b n l1 h1 p)) wk wr) : rm_f (rp_dk b n l1 h1 l2 h2 p) (rp_dp b n l1 h1 l2 h2 p) wk wr := by
  rw [(rm_d0 k).1, (rm_d0 k).2]
  exact f
theorem rm_g3 {b : Nat → Int32} {n p : Int32} {l1 h1 l2 h2 : Int} (k : rp_rk b n l1 h1 p = 0) (k2 : rp_rk b n l2 h2 (rp_rp b n l1 h1 p) = 0) : rp_dk b n l1 h1 l2 h2 p = 0 ∧ rp_rp b n l2 h2 (rp_rp b n l1 h1 p) = rp_dp b n l1 h1 l2 h2 p := by
  rw [(rm_d0 k).1, (rm_d0 k).2]
  exact ⟨k2, rfl⟩
/-- one more behind something -/
theorem rm_k1 {k1 k2 p1 p2 wk wr : Int32} (f : rm_f k1 p1 wk wr) : rm_f (rp_k2 k1 k2) (rp_p2 k1 p1 p2) wk wr := by
  unfold rp_k2 rp_p2
  rw [if_neg f.1, if_neg f.1]
  exact f
theorem rm_k2 {k1 k2 p1 p2 wk wr : Int32} (k : k1 = 0) (f : rm_f k2 p2 wk wr) : rm_f (rp_k2 k1 k2) (rp_p2 k1 p1 p2) wk wr := by
  unfold rp_k2 rp_p2
  rw [if_pos k, if_pos k]
  exact f
theorem rm_k3 {k1 k2 p1 p2 : Int32} (k : k1 = 0) (h : k2 = 0) : rp_k2 k1 k2 = 0 ∧ p2 = rp_p2 k1 p1 p2 := by
  unfold rp_k2 rp_p2
  rw [if_pos k, if_pos k]
  exact ⟨h, rfl⟩
theorem rm_fB {b : Nat → Int32} {n k p wk wr : Int32} (f : rm_f k p wk wr) : rm_B b n k p wk wr := Or.inl f
theorem rm_fe {k k2 p p2 wk wr : Int32} (f : rm_f k p wk wr) (ek : k2 = k) (ep : p2 = p) : rm_f k2 p2 wk wr := by
  rw [ek, ep]
  exact f
/-- a letter or a digit is neither the sign between statements nor the end -/
theorem rm_letB {b : Nat → Int32} {n p : Int32} (h : rp_let b n p = true) : ¬ rf_bt b n p = 59 ∧ ¬ rf_bt b n p = -1 := by
  have d : 97 ≤ (rf_bt b n p).toInt ∧ (rf_bt b n p).toInt ≤ 122 := of_decide_eq_true h
  refine ⟨fun q => ?_, fun q => ?_⟩
  · rw [q] at d
    exact absurd d (by decide)
  · rw [q] at d
    exact absurd d (by decide)
theorem rm_digE {b : Nat → Int32} {n p : Int32} (h : rp_dig b n p = true) : ¬ rf_bt b n p = 59 ∧ ¬ rf_bt b n p = -1 := by
  have d := rm_digB h
  refine ⟨fun q => ?_, fun q => ?_⟩
  · rw [q] at d
    exact absurd d (by decide)
  · rw [q] at d
    exact absurd d (by decide)
/-! names in the row -/
def rm_W (g : Nat → Int32) (i : Nat) (w : List Int32) : Prop := (g (20 + 19 * i)).toInt = w.length ∧ ∀ j : Nat, j < w.length → g (21 + 19 * i + j) = w.getD j 0
def rm_N (N : List (List Int32)) (g : Nat → Int32) : Prop := (g 11).toInt = N.length ∧ ∀ (i : Nat) (w : List Int32), N[i]? = some w → rm_W g i w ∧ 1 ≤ w.length ∧ w.length ≤ 6
theorem rm_N0 {g : Nat → Int32} (h : g 11 = 0) : rm_N [] g := ⟨by rw [h]; decide, fun i w q => by cases q⟩
theorem rm_Wk {g h : Nat → Int32} {i : Nat} {w : List Int32} (hl : w.length ≤ 6) (e : ∀ j : Nat, 20 + 19 * i ≤ j → j < 27 + 19 * i → h j = g j) (k : rm_W g i w) : rm_W h i w := by
  refine ⟨by rw [e _ (by omega) (by omega)]; exact k.1, fun j hj => ?_⟩
  rw [e _ (by omega) (by omega)]
  exact k.2 j hj
theorem rm_Nk {g h : Nat → Int32} {N : List (List Int32)} (k : rm_N N g) (hN : N.length ≤ 4) (e11 : h 11 = g 11) (e : ∀ j : Nat, 20 ≤ j → j < 96 → h j = g j) : rm_N N h := by
  refine ⟨by rw [e11]; exact k.1, fun i w hw => ?_⟩
  have hi := (List.getElem?_eq_some_iff.mp hw).1
  have a := k.2 i w hw
  exact ⟨rm_Wk a.2.2 (fun j h1 h2 => e j (by omega) (by omega)) a.1, a.2⟩
theorem rm_Na {g h : Nat → Int32} {N : List (List Int32)} {w : List Int32} (k : rm_N N g) (hN : N.length < 4) (hw : rm_W h N.length w) (hl : 1 ≤ w.length ∧ w.length ≤ 6) (e11 : (h 11).toInt = (g 11).toInt + 1) (e : ∀ j : Nat, 20 ≤ j → j < 20 + 19 * N.length → h j = g j) : rm_N (N ++ [w]) h := by
  refine ⟨by rw [e11, k.1, List.length_append, List.length_singleton]; omega, fun i x hx => ?_⟩
  by_cases hi : i < N.length
  · rw [List.getElem?_append_left hi] at hx
    have a := k.2 i x hx
    exact ⟨rm_Wk a.2.2 (fun j h1 h2 => e j (by omega) (by omega)) a.1, a.2⟩
  · rw [List.getElem?_append_right (by omega)] at hx
    have i0 : i - N.length = 0 := by
      have := (List.getElem?_eq_some_iff.mp hx).1
      rw [List.length_singleton] at this
      omega
    rw [i0] at hx
    cases hx
    rw [show i = N.length from by omega]
    exact ⟨hw, hl⟩
/-- the word of m bytes at p -/
def rm_w (b : Nat → Int32) (p m : Int32) : List Int32 := (List.range m.toInt.toNat).map (fun i => b (p.toInt.toNat + i))
theorem rm_wl (b : Nat → Int32) (p m : Int32) : (rm_w b p m).length = m.toInt.toNat := by
  unfold rm_w
  rw [List.length_map, List.length_range]
theorem rm_wg {b : Nat → Int32} {p m : Int32} {i : Nat} (h : i < m.toInt.toNat) : (rm_w b p m).getD i 0 = b (p.toInt.toNat + i) := by
  unfold rm_w
  rw [List.getD_eq_getElem?_getD, List.getElem?_map, List.getElem?_range h]
  rfl
theorem rm_ww {b : Nat → Int32} {n p m : Int32} (h : m.toInt = (rp_we b n p).toInt - p.toInt) : rm_w b p m = rp_w b n p := by
  unfold rm_w rp_w rp_wd
  rw [h]
theorem rm_weq {b : Nat → Int32} {p m : Int32} {w : List Int32} (hl : m.toInt.toNat = w.length) (h : ∀ i : Nat, i < w.length → b (p.toInt.toNat + i) = w.getD i 0) : rm_w b p m = w := by
  apply List.ext_getElem?
  intro i
  by_cases hi : i < w.length
  · have g := rm_wg (b := b) (p := p) (m := m) (i := i) (by omega)
    have l : i < (rm_w b p m).length := by rw [rm_wl]; omega
    rw [List.getD_eq_getElem?_getD, List.getElem?_eq_getElem l] at g
    have g2 : (rm_w b p m)[i] = b (p.toInt.toNat + i) := g
    rw [List.getElem?_eq_getElem l, g2, h i hi, List.getD_eq_getElem?_getD, List.getElem?_eq_getElem hi]
    rfl
  · rw [List.getElem?_eq_none (by rw [rm_wl]; omega), List.getElem?_eq_none (by omega)]
theorem rm_wne {b : Nat → Int32} {p m : Int32} {w : List Int32} {i : Nat} (hi : i < w.length) (hm : i < m.toInt.toNat) (h : ¬ b (p.toInt.toNat + i) = w.getD i 0) : ¬ rm_w b p m = w := by
  intro q
  apply h
  rw [← q, rm_wg hm]
theorem rm_wnl {b : Nat → Int32} {p m : Int32} {w : List Int32} (h : ¬ m.toInt.toNat = w.length) : ¬ rm_w b p m = w := by
  intro q
  apply h
  rw [← rm_wl b p m, q]
/-- is it this name: on the way, k letters in -/
def rm_is (b : Nat → Int32) (p m : Int32) (w : List Int32) (r k : Int32) : Prop := (r = 0 ∧ ¬ rm_w b p m = w) ∨ (r = 1 ∧ m.toInt = w.length ∧ ∀ j : Nat, (j : Int) < k.toInt → b (p.toInt.toNat + j) = w.getD j 0)
theorem rm_is1 {b : Nat → Int32} {p m : Int32} {w : List Int32} {g : Nat → Int32} {i : Nat} (hw : rm_W g i w) (h : g (20 + 19 * i) = m) : rm_is b p m w 1 0 :=
  Or.inr ⟨rfl, by rw [← h]; exact hw.1, fun j hj => absurd hj (by have z : (0 : Int32).toInt = 0 := (by decide); omega)⟩
theorem rm_is0 {b : Nat → Int32} {p m : Int32} {w : List Int32} (h : ¬ m.toInt.toNat = w.length) : rm_is b p m w 0 0 := Or.inl ⟨rfl, rm_wnl h⟩
theorem rm_isy {b : Nat → Int32} {p m k : Int32} {w : List Int32} {r : Int32} (h : rm_is b p m w r k) (hr : ¬ r = 0) (hk : 0 ≤ k.toInt ∧ k.toInt < m.toInt ∧ k.toInt ≤ 1000) {x : Int32} (hx : x = b (p.toInt.toNat + k.toInt.toNat)) (e : w.getD k.toInt.toNat 0 = x) : rm_is b p m w 1 (k + Int32.ofInt 1) := by
  have e1 : (k + Int32.ofInt 1).toInt = k.toInt + 1 := rf_p1 (by omega)
  rcases h with q | q
  · exact absurd q.1 hr
  · refine Or.inr ⟨rfl, q.2.1, fun j hj => ?_⟩
    by_cases z : (j : Int) < k.toInt
    · exact q.2.2 j z
    · rw [show j = k.toInt.toNat from by omega, e, hx]
theorem rm_isn {b : Nat → Int32} {p m k : Int32} {w : List Int32} {r : Int32} (h : rm_is b p m w r k) (hr : ¬ r = 0) (hk : 0 ≤ k.toInt ∧ k.toInt < m.toInt) {x : Int32} (hx : x = b (p.toInt.toNat + k.toInt.toNat)) (e : ¬ w.getD k.toInt.toNat 0 = x) {k2 : Int32} : rm_is b p m w 0 k2 := by
  rcases h with q | q
  · exact absurd q.1 hr
  · refine Or.inl ⟨rfl, rm_wne (i := k.toInt.toNat) (by omega) (by omega) (fun z => e ?_)⟩
    rw [hx, z]
theorem rm_ise {b : Nat → Int32} {p m k : Int32} {w : List Int32} {r : Int32} (h : rm_is b p m w r k) (hk : r = 0 ∨ m.toInt ≤ k.toInt) : (r = 0 ∧ ¬ rm_w b p m = w) ∨ (r = 1 ∧ rm_w b p m = w) := by
  rcases h with q | q
  · exact Or.inl q
  · rcases hk with z | z
    · rw [q.1] at z
      exact absurd z (by decide)
    · exact Or.inr ⟨q.1, rm_weq (by omega) (fun j hj => q.2.2 j (by omega))⟩
/-- which name: on the way -/
def rm_nd (N : List (List Int32)) (w : List Int32) (r k : Int32) : Prop := (r = -1 ∧ ∀ (j : Nat) (x : List Int32), (j : Int) < k.toInt → N[j]? = some x → ¬ w = x) ∨ ((0 ≤ r.toInt ∧ r.toInt < N.length) ∧ w ∈ N)
theorem rm_nd0 {N : List (List Int32)} {w : List Int32} : rm_nd N w (-1) 0 := Or.inl ⟨rfl, fun j x hj => absurd hj (by have z : (0 : Int32).toInt = 0 := (by decide); omega)⟩
theorem rm_ndn {N : List (List Int32)} {w x : List Int32} {r k : Int32} (h : rm_nd N w r k) (hk : 0 ≤ k.toInt ∧ k.toInt ≤ 1000) (hx : N[k.toInt.toNat]? = some x) (hn : ¬ w = x) : rm_nd N w r (k + Int32.ofInt 1) := by
  have e1 : (k + Int32.ofInt 1).toInt = k.toInt + 1 := rf_p1 (by omega)
  rcases h with q | q
  · refine Or.inl ⟨q.1, fun j y hj hy => ?_⟩
    by_cases z : (j : Int) < k.toInt
    · exact q.2 j y z hy
    · rw [show j = k.toInt.toNat from by omega, hx] at hy
      cases hy
      exact hn
  · exact Or.inr q
theorem rm_ndy {N : List (List Int32)} {w x : List Int32} {k k2 : Int32} (hk : 0 ≤ k.toInt) (hx : N[k.toInt.toNat]? = some x) (hn : w = x) : rm_nd N w k k2 := by
  have l := (List.getElem?_eq_some_iff.mp hx).1
  exact Or.inr ⟨⟨hk, by omega⟩, by rw [hn]; exact List.mem_of_getElem? hx⟩
theorem rm_nde {N : List (List Int32)} {w : List Int32} {r k : Int32} (h : rm_nd N w r k) (hk : (N.length : Int) ≤ k.toInt) : (r = -1 ∧ ¬ w ∈ N) ∨ ((0 ≤ r.toInt ∧ r.toInt < N.length) ∧ w ∈ N) := by
  rcases h with q | q
  · refine Or.inl ⟨q.1, fun z => ?_⟩
    obtain ⟨i, hi, e⟩ := List.getElem_of_mem z
    exact q.2 i w (by omega) (by rw [List.getElem?_eq_getElem hi, e]) rfl
  · exact Or.inr q
theorem rm_nx {N : List (List Int32)} {g : Nat → Int32} {k : Int32} (h : rm_N N g) (h0 : 0 ≤ k.toInt) (hl : k.toInt < (g 11).toInt) : ∃ x : List Int32, N[k.toInt.toNat]? = some x ∧ rm_W g k.toInt.toNat x ∧ 1 ≤ x.length ∧ x.length ≤ 6 := by
  have l : k.toInt.toNat < N.length := by have := h.1; omega
  exact ⟨_, List.getElem?_eq_getElem l, h.2 _ _ (List.getElem?_eq_getElem l)⟩
theorem rm_m1 {r : Int32} {N : List (List Int32)} {w : List Int32} (h : (r = -1 ∧ ¬ w ∈ N) ∨ ((0 ≤ r.toInt ∧ r.toInt < N.length) ∧ w ∈ N)) (hr : r = -1) : ¬ w ∈ N := by
  rcases h with q | q
  · exact q.2
  · rw [hr] at q
    exact absurd q.1.1 (by decide)
theorem rm_m2 {r : Int32} {N : List (List Int32)} {w : List Int32} (h : (r = -1 ∧ ¬ w ∈ N) ∨ ((0 ≤ r.toInt ∧ r.toInt < N.length) ∧ w ∈ N)) (hr : ¬ r = -1) : (0 ≤ r.toInt ∧ r.toInt < N.length) ∧ w ∈ N := by
  rcases h with q | q
  · exact absurd q.1 hr
  · exact q
/-- a new name at its place -/
def rp_nk (b : Nat → Int32) (n : Int32) (N : List (List Int32)) (q : Int32) : Int32 := if ¬ rp_let b n q = true then 1 else if 6 < (rp_w b n q).length ∨ rp_w b n q ∈ N then 3 else 0
theorem rm_nk1 {b : Nat → Int32} {n q : Int32} {N : List (List Int32)} (h : ¬ rp_let b n q = true) : rm_f (rp_nk b n N q) q 1 q := by
  have k : rp_nk b n N q = 1 := if_pos h
  exact ⟨by rw [k]; decide, k.symm, rfl⟩
theorem rm_nk3 {b : Nat → Int32} {n q : Int32} {N : List (List Int32)} (hl : rp_let b n q = true) (h : 6 < (rp_w b n q).length ∨ rp_w b n q ∈ N) : rm_f (rp_nk b n N q) q 3 q := by
  have k : rp_nk b n N q = 3 := (if_neg (fun z => z hl)).trans (if_pos h)
  exact ⟨by rw [k]; decide, k.symm, rfl⟩
theorem rm_nk0 {b : Nat → Int32} {n q : Int32} {N : List (List Int32)} (hl : rp_let b n q = true) (h : ¬ (6 < (rp_w b n q).length ∨ rp_w b n q ∈ N)) : rp_nk b n N q = 0 := (if_neg (fun z => z hl)).trans (if_neg h)
theorem rm_sz {b : Nat → Int32} {n q : Int32} (hq : 0 ≤ q.toInt ∧ q.toInt ≤ (rp_we b n q).toInt) : ((rp_we b n q) - q).toInt = (rp_we b n q).toInt - q.toInt ∧ ((rp_w b n q).length : Int) = (rp_we b n q).toInt - q.toInt := by
  have e := Jvm.Kit.i32_sub (x := rp_we b n q) (y := q) (by omega) (by have := (rp_we b n q).toInt_lt; omega)
  refine ⟨e, ?_⟩
  rw [rp_w_len]
  omega
theorem rm_gt6 {x : Int32} (h : 6 < x) : 6 < x.toInt := by
  rw [Int32.lt_iff_toInt_lt, show (6 : Int32).toInt = 6 from by decide] at h
  exact h
theorem rm_i20 {p : Int32} (h : 0 ≤ p.toInt ∧ p.toInt < 4) : ((20 : Int32) + (19 * p)).toInt = 20 + 19 * p.toInt ∧ ((20 : Int32) + (19 * p)).toNatClampNeg = 20 + 19 * p.toInt.toNat := by
  have t20 : (20 : Int32).toInt = 20 := by decide
  have t19 : (19 : Int32).toInt = 19 := by decide
  have e1 : (19 * p).toInt = 19 * p.toInt := by rw [Jvm.Kit.i32_mul (by rw [t19]; omega) (by rw [t19]; omega), t19]
  have e2 : ((20 : Int32) + (19 * p)).toInt = 20 + 19 * p.toInt := by rw [Jvm.Kit.i32_add (by rw [e1, t20]; omega) (by rw [e1, t20]; omega), e1, t20]
  refine ⟨e2, ?_⟩
  show ((20 : Int32) + (19 * p)).toInt.toNat = _
  omega
theorem rm_a9 {x k : Int32} (hx : 0 ≤ x.toInt ∧ x.toInt ≤ 1000000) (hk : 0 ≤ k.toInt ∧ k.toInt ≤ 1000000) : (x + k).toInt = x.toInt + k.toInt := Jvm.Kit.i32_add (by omega) (by omega)
section RMI
variable {b g : Nat → Int32} {p2 p3 p4 k r k2 : Int32} {W : List Int32}
theorem rm_isX (hcv : 0 ≤ p2.toInt ∧ p2.toInt < 4) (hfm : 0 ≤ p3.toInt ∧ p3.toInt ≤ 800 ∧ p3.toInt + p4.toInt ≤ 800) (hWl : 1 ≤ W.length ∧ W.length ≤ 6) (h : rm_is b p3 p4 W r k) (hr : ¬ r = 0) (hk : 0 ≤ k.toInt) (hl : ¬ p4 ≤ k) : (k.toInt < p4.toInt ∧ p4.toInt = W.length) ∧ ((((20 : Int32) + (19 * p2)) + 1) + k).toInt = 21 + 19 * p2.toInt + k.toInt ∧ (p3 + k).toInt = p3.toInt + k.toInt := by
  have l := rf_lth hl
  have q : p4.toInt = W.length := by
    rcases h with z | z
    · exact absurd z.1 hr
    · exact z.2.1
  have e := (rm_i20 hcv).1
  have e1 : (((20 : Int32) + (19 * p2)) + 1).toInt = 21 + 19 * p2.toInt := by rw [rf_p1 (by omega), e]; omega
  refine ⟨⟨l, q⟩, ?_, rm_a9 (by omega) (by omega)⟩
  rw [rm_a9 (by omega) (by omega), e1]
theorem rm_isY (hcv : 0 ≤ p2.toInt ∧ p2.toInt < 4) (hfm : 0 ≤ p3.toInt ∧ p3.toInt ≤ 800 ∧ p3.toInt + p4.toInt ≤ 800) (hW : rm_W g p2.toInt.toNat W) (hWl : 1 ≤ W.length ∧ W.length ≤ 6) (h : rm_is b p3 p4 W r k) (hr : ¬ r = 0) (hk : 0 ≤ k.toInt) (hl : ¬ p4 ≤ k) (e : g (((((20 : Int32) + (19 * p2)) + 1) + k).toNatClampNeg) = b ((p3 + k).toNatClampNeg)) : rm_is b p3 p4 W 1 (k + Int32.ofInt 1) := by
  obtain ⟨⟨x1, x2⟩, x3, x4⟩ := rm_isX hcv hfm hWl h hr hk hl
  have i1 : ((((20 : Int32) + (19 * p2)) + 1) + k).toNatClampNeg = 21 + 19 * p2.toInt.toNat + k.toInt.toNat := by
    show ((((20 : Int32) + (19 * p2)) + 1) + k).toInt.toNat = _
    omega
  have i2 : (p3 + k).toNatClampNeg = p3.toInt.toNat + k.toInt.toNat := by
    show (p3 + k).toInt.toNat = _
    omega
  rw [i1, i2] at e
  exact rm_isy h hr (by omega) rfl ((hW.2 k.toInt.toNat (by omega)).symm.trans e)
theorem rm_isN (hcv : 0 ≤ p2.toInt ∧ p2.toInt < 4) (hfm : 0 ≤ p3.toInt ∧ p3.toInt ≤ 800 ∧ p3.toInt + p4.toInt ≤ 800) (hW : rm_W g p2.toInt.toNat W) (hWl : 1 ≤ W.length ∧ W.length ≤ 6) (h : rm_is b p3 p4 W r k) (hr : ¬ r = 0) (hk : 0 ≤ k.toInt) (hl : ¬ p4 ≤ k) (e : ¬ g (((((20 : Int32) + (19 * p2)) + 1) + k).toNatClampNeg) = b ((p3 + k).toNatClampNeg)) : rm_is b p3 p4 W 0 k2 := by
  obtain ⟨⟨x1, x2⟩, x3, x4⟩ := rm_isX hcv hfm hWl h hr hk hl
  have i1 : ((((20 : Int32) + (19 * p2)) + 1) + k).toNatClampNeg = 21 + 19 * p2.toInt.toNat + k.toInt.toNat := by
    show ((((20 : Int32) + (19 * p2)) + 1) + k).toInt.toNat = _
    omega
  have i2 : (p3 + k).toNatClampNeg = p3.toInt.toNat + k.toInt.toNat := by
    show (p3 + k).toInt.toNat = _
    omega
  rw [i1, i2] at e
  exact rm_isn h hr (by omega) rfl (fun z => e ((hW.2 k.toInt.toNat (by omega)).trans z))
theorem rm_isA (hcv : 0 ≤ p2.toInt ∧ p2.toInt < 4) (hW : rm_W g p2.toInt.toNat W) (h : g ((20 : Int32) + (19 * p2)).toNatClampNeg = p4) : rm_is b p3 p4 W 1 0 := by
  rw [(rm_i20 hcv).2] at h
  exact rm_is1 hW h
theorem rm_isB (hcv : 0 ≤ p2.toInt ∧ p2.toInt < 4) (hW : rm_W g p2.toInt.toNat W) (h4 : 0 ≤ p4.toInt) (h : ¬ g ((20 : Int32) + (19 * p2)).toNatClampNeg = p4) : rm_is b p3 p4 W 0 0 := by
  rw [(rm_i20 hcv).2] at h
  exact rm_is0 (fun q => h (Int32.toInt_inj.mp (by rw [hW.1]; omega)))
theorem rm_isC (hWl : 1 ≤ W.length ∧ W.length ≤ 6) (h : p4.toInt ≤ 0 ∨ 6 < p4.toInt) : rm_is b p3 p4 W 0 0 := rm_is0 (fun q => by omega)
end RMI
/-- is it this word: k letters in -/
def rm_iw (b : Nat → Int32) (n q : Int32) (l : List Int32) (r k : Int32) : Prop := (r = 0 ∧ ¬ rp_w b n q = l) ∨ (r = 1 ∧ (rp_we b n q).toInt - q.toInt = l.length ∧ ∀ j : Nat, (j : Int) < k.toInt → b (q.toInt.toNat + j) = l.getD j 0)
section RMIW
variable {b : Nat → Int32} {n q r k k2 x : Int32} {l : List Int32}
theorem rm_iw0 (hl : l.length < 2147483648) (hq : 0 ≤ q.toInt ∧ q.toInt ≤ (rp_we b n q).toInt) (h : ((rp_we b n q) - q) = Int32.ofNat l.length) : rm_iw b n q l 1 0 :=
  Or.inr ⟨rfl, rp_len hl hq h, fun j hj => absurd hj (by have z : (0 : Int32).toInt = 0 := (by decide); omega)⟩
theorem rm_iwn0 (hl : l.length < 2147483648) (hq : 0 ≤ q.toInt ∧ q.toInt ≤ (rp_we b n q).toInt) (h : ¬ ((rp_we b n q) - q) = Int32.ofNat l.length) : rm_iw b n q l 0 0 := Or.inl ⟨rfl, rp_wd_nl (rp_lenN hl hq h)⟩
theorem rm_iwk (hl : l.length < 2147483648) (h : rm_iw b n q l r k) (hr : ¬ r = 0) (hn : n.toInt ≤ 800) (hq : 0 ≤ q.toInt ∧ (rp_we b n q).toInt ≤ n.toInt) (hk : 0 ≤ k.toInt ∧ k.toInt ≤ 800) (hlt : ¬ rp_we b n q ≤ q + k) : (k.toInt < l.length ∧ k < Int32.ofNat l.length) ∧ (0 ≤ (q + k).toInt ∧ (q + k).toInt = q.toInt + k.toInt ∧ k.toInt < 800) ∧ rf_bt b n (q + k) = b (q.toInt.toNat + k.toInt.toNat) := by
  have hL := rf_lth hlt
  have e : (rp_we b n q).toInt - q.toInt = l.length := by
    rcases h with z | z
    · exact absurd z.1 hr
    · exact z.2.1
  have w := (rp_we b n q).toInt_lt
  have qb : q.toInt ≤ 800 := by omega
  have e1 : (q + k).toInt = q.toInt + k.toInt := rm_a9 (by omega) (by omega)
  refine ⟨⟨by omega, ?_⟩, by omega, ?_⟩
  · rw [Int32.lt_iff_toInt_lt, Int32.toInt_ofNat_of_lt hl]
    omega
  · unfold rf_bt
    rw [if_pos (Int32.lt_iff_toInt_lt.mpr (by omega))]
    show b (q + k).toInt.toNat = _
    rw [show (q + k).toInt.toNat = q.toInt.toNat + k.toInt.toNat from by omega]
theorem rm_iwy (h : rm_iw b n q l r k) (hr : ¬ r = 0) (hk : 0 ≤ k.toInt ∧ k.toInt < 800) (e : rf_bt b n (q + k) = b (q.toInt.toNat + k.toInt.toNat)) (hx : x = l.getD k.toNatClampNeg 0) (h2 : rf_bt b n (q + k) = x) : rm_iw b n q l 1 (k + Int32.ofInt 1) := by
  have e1 : (k + Int32.ofInt 1).toInt = k.toInt + 1 := rf_p1 (by omega)
  rcases h with z | z
  · exact absurd z.1 hr
  · refine Or.inr ⟨rfl, z.2.1, fun j hj => ?_⟩
    by_cases y : (j : Int) < k.toInt
    · exact z.2.2 j y
    · rw [show j = k.toInt.toNat from by omega, ← e, h2, hx]
      rfl
theorem rm_iwn (h : rm_iw b n q l r k) (hr : ¬ r = 0) (hkl : k.toInt < l.length) (hk0 : 0 ≤ k.toInt) (e : rf_bt b n (q + k) = b (q.toInt.toNat + k.toInt.toNat)) (hx : x = l.getD k.toNatClampNeg 0) (h2 : ¬ rf_bt b n (q + k) = x) : rm_iw b n q l 0 k2 := by
  rcases h with z | z
  · exact absurd z.1 hr
  · refine Or.inl ⟨rfl, rp_wd_ne (i := k.toInt.toNat) (by omega) (fun y => h2 ?_)⟩
    rw [e, hx, y]
    rfl
theorem rm_iwe (h : rm_iw b n q l r k) (hk : 0 ≤ k.toInt ∧ k.toInt ≤ 800) (hn : n.toInt ≤ 800) (hq : 0 ≤ q.toInt ∧ q.toInt ≤ n.toInt) (hx : r = 0 ∨ rp_we b n q ≤ q + k) : (r = 0 ∧ ¬ rp_w b n q = l) ∨ (r = 1 ∧ rp_w b n q = l) := by
  rcases h with z | z
  · exact Or.inl z
  · refine Or.inr ⟨z.1, rp_wd_eq (by omega) (fun i hi => z.2.2 i ?_)⟩
    rcases hx with y | y
    · rw [z.1] at y
      exact absurd y (by decide)
    · rw [Int32.le_iff_toInt_le, rm_a9 (by omega) (by omega)] at y
      omega
end RMIW
theorem rm_w1 {b : Nat → Int32} {n q : Int32} (hn : n.toInt ≤ 800) (hq : 0 ≤ q.toInt ∧ q.toInt ≤ n.toInt) (hl : rp_let b n q = true) : 1 ≤ (rp_w b n q).length := by
  have st : rp_we b n q = rp_we b n (q + 1) := rp_toS (by omega) hl
  have lt := rp_letl (b := b) (n := n) _ hq.1 hl
  have e1 : (q + 1).toInt = q.toInt + 1 := rf_p1 (by omega)
  have bd := rp_we_b (b := b) (n := n) (p := q + 1) hn (by omega)
  rw [rp_w_len, st]
  omega
theorem rm_ue {f : Nat → Int32} {i j : Nat} {v : Int32} (h : j = i) : upd f i v j = v := by
  rw [h, rf_upd_eq]
/-- a name's letters, k of m stored -/
def rm_en (b g c : Nat → Int32) (K : Nat) (q m k : Int32) : Prop := (∀ j : Nat, 20 ≤ j → j < 20 + 19 * K → c j = g j) ∧ c (20 + 19 * K) = m ∧ ∀ j : Nat, (j : Int) < k.toInt → c (21 + 19 * K + j) = b (q.toInt.toNat + j)
theorem rm_en0 {b g : Nat → Int32} {K : Nat} {q m x : Int32} (hx : x.toInt = 20 + 19 * K) : rm_en b g (upd g x.toNatClampNeg m) K q m 0 := by
  have e : x.toNatClampNeg = 20 + 19 * K := by
    show x.toInt.toNat = _
    omega
  rw [e]
  exact ⟨fun j h1 h2 => rf_upd_ne (by omega), rf_upd_eq, fun j hj => absurd hj (by have z : (0 : Int32).toInt = 0 := (by decide); omega)⟩
theorem rm_ens {b g c : Nat → Int32} {K : Nat} {q m k x y : Int32} (h : rm_en b g c K q m k) (hk : 0 ≤ k.toInt ∧ k.toInt ≤ 1000) (hx : x.toInt = 21 + 19 * K + k.toInt) (hy : y.toInt = q.toInt + k.toInt) (hq : 0 ≤ q.toInt) : rm_en b g (upd c x.toNatClampNeg (b y.toNatClampNeg)) K q m (k + Int32.ofInt 1) := by
  have e1 : (k + Int32.ofInt 1).toInt = k.toInt + 1 := rf_p1 (by omega)
  have ex : x.toNatClampNeg = 21 + 19 * K + k.toInt.toNat := by
    show x.toInt.toNat = _
    omega
  have ey : y.toNatClampNeg = q.toInt.toNat + k.toInt.toNat := by
    show y.toInt.toNat = _
    omega
  rw [ex, ey]
  refine ⟨fun j h1 h2 => by rw [rf_upd_ne (by omega)]; exact h.1 j h1 h2, by rw [rf_upd_ne (by omega)]; exact h.2.1, fun j hj => ?_⟩
  by_cases z : (j : Int) < k.toInt
  · rw [rf_upd_ne (by omega)]
    exact h.2.2 j z
  · rw [show j = k.toInt.toNat from by omega, rf_upd_eq]
theorem rm_ene {b g c : Nat → Int32} {n : Int32} {K : Nat} {q m k : Int32} (h : rm_en b g c K q m k) (hk : m.toInt ≤ k.toInt) (hm : m.toInt = (rp_we b n q).toInt - q.toInt) (h0 : 0 ≤ m.toInt) : (∀ j : Nat, 20 ≤ j → j < 20 + 19 * K → c j = g j) ∧ rm_W c K (rp_w b n q) := by
  have l := rp_w_len (b := b) (n := n) (p := q)
  refine ⟨h.1, by rw [h.2.1]; omega, fun j hj => ?_⟩
  rw [h.2.2 j (by omega), ← rm_ww hm, rm_wg (by omega)]
/-- a curve's voltages -/
def rm_cJ (b : Nat → Int32) (n : Int32) (N : List (List Int32)) (w m : Int32) (v : Int) (p : Int32) : Prop := rp_ck b n N w = rp_vk b n (11 - m.toInt.toNat) m.toInt.toNat v p ∧ rp_cp b n N w = rp_vp b n (11 - m.toInt.toNat) m.toInt.toNat v p
section RMC
variable {b : Nat → Int32} {n w m p wk wr : Int32} {N : List (List Int32)} {v : Int}
theorem rm_c4 (h : 4 ≤ N.length) : rm_f (rp_ck b n N w) (rp_cp b n N w) 4 w := by
  have a : rp_ck b n N w = 4 := if_pos h
  have c : rp_cp b n N w = w := if_pos h
  exact ⟨by rw [a]; decide, a.symm, c.symm⟩
theorem rm_cn (h : ¬ 4 ≤ N.length) (f : rm_f (rp_nk b n N (rp_q2 b n w)) (rp_q2 b n w) wk wr) : rm_f (rp_ck b n N w) (rp_cp b n N w) wk wr := by
  unfold rp_nk at f
  by_cases hl : rp_let b n (rp_q2 b n w) = true
  · rw [if_neg (fun z => z hl)] at f
    by_cases h3 : 6 < (rp_w b n (rp_q2 b n w)).length ∨ rp_w b n (rp_q2 b n w) ∈ N
    · rw [if_pos h3] at f
      refine rm_fe f ?_ ?_
      · unfold rp_ck
        rw [if_neg h, if_neg (fun z => z hl), if_pos h3]
      · unfold rp_cp
        rw [if_neg h, if_neg (fun z => z hl), if_pos h3]
    · rw [if_neg h3] at f
      exact absurd rfl f.1
  · rw [if_pos hl] at f
    refine rm_fe f ?_ ?_
    · unfold rp_ck
      rw [if_neg h, if_pos hl]
    · unfold rp_cp
      rw [if_neg h, if_pos hl]
theorem rm_nkl (h : rp_nk b n N w = 0) : rp_let b n w = true ∧ ¬ (6 < (rp_w b n w).length ∨ rp_w b n w ∈ N) := by
  unfold rp_nk at h
  by_cases hl : rp_let b n w = true
  · rw [if_neg (fun z => z hl)] at h
    by_cases h3 : 6 < (rp_w b n w).length ∨ rp_w b n w ∈ N
    · rw [if_pos h3] at h
      exact absurd h (by decide)
    · exact ⟨hl, h3⟩
  · rw [if_pos hl] at h
    exact absurd h (by decide)
theorem rm_cj0 (h : ¬ 4 ≤ N.length) (k : rp_nk b n N (rp_q2 b n w) = 0) : rm_cJ b n N w 0 (0 : Int32).toInt (rp_we b n (rp_q2 b n w)) := by
  obtain ⟨hl, h3⟩ := rm_nkl k
  have z : (0 : Int32).toInt = 0 := by decide
  refine ⟨?_, ?_⟩
  · unfold rp_ck
    rw [if_neg h, if_neg (fun z => z hl), if_neg h3, rp_z0, z]
  · unfold rp_cp
    rw [if_neg h, if_neg (fun z => z hl), if_neg h3, rp_z0, z]
theorem rm_cjs {r : Int} (J : rm_cJ b n N w m v p) (hm : 0 ≤ m.toInt ∧ m.toInt < 11) (hd : ¬ (2 ≤ m.toInt ∧ ¬ rp_dig b n (rp_sk b n p) = true)) (k : rp_rk b n v 5000 p = 0) (hr : r = rp_rv b n p) : rm_cJ b n N w (m + Int32.ofInt 1) r (rp_rp b n v 5000 p) := by
  have e : (m + Int32.ofInt 1).toInt = m.toInt + 1 := rf_p1 (by omega)
  have e1 : 11 - m.toInt.toNat = (11 - (m + Int32.ofInt 1).toInt.toNat) + 1 := by omega
  have e2 : (m + Int32.ofInt 1).toInt.toNat = m.toInt.toNat + 1 := by omega
  have hd2 : ¬ (2 ≤ m.toInt.toNat ∧ ¬ rp_dig b n (rp_sk b n p) = true) := fun z => hd ⟨by omega, z.2⟩
  obtain ⟨j1, j2⟩ := J
  rw [e1] at j1 j2
  refine ⟨?_, ?_⟩
  · rw [j1, hr, e2]
    exact (if_neg hd2).trans (if_pos k)
  · rw [j2, hr, e2]
    exact (if_neg hd2).trans (if_pos k)
theorem rm_cjf (J : rm_cJ b n N w m v p) (hm : 0 ≤ m.toInt ∧ m.toInt < 11) (hd : ¬ (2 ≤ m.toInt ∧ ¬ rp_dig b n (rp_sk b n p) = true)) (f : rm_f (rp_rk b n v 5000 p) (rp_rp b n v 5000 p) wk wr) : rm_f (rp_ck b n N w) (rp_cp b n N w) wk wr := by
  have e1 : 11 - m.toInt.toNat = (10 - m.toInt.toNat) + 1 := by omega
  have hd2 : ¬ (2 ≤ m.toInt.toNat ∧ ¬ rp_dig b n (rp_sk b n p) = true) := fun z => hd ⟨by omega, z.2⟩
  obtain ⟨j1, j2⟩ := J
  rw [e1] at j1 j2
  exact rm_fe f (j1.trans ((if_neg hd2).trans (if_neg f.1))) (j2.trans ((if_neg hd2).trans (if_neg f.1)))
theorem rm_cje (J : rm_cJ b n N w m v p) (hm : 2 ≤ m.toInt ∧ m.toInt ≤ 11) (hd : ¬ rp_dig b n (rp_sk b n p) = true) (hn : n.toInt ≤ 800) (hp : 0 ≤ p.toInt ∧ p.toInt ≤ n.toInt) : rp_ck b n N w = 0 ∧ rp_sk b n (rp_sk b n p) = rp_sk b n (rp_cp b n N w) := by
  obtain ⟨j1, j2⟩ := J
  by_cases q : m.toInt = 11
  · rw [show 11 - m.toInt.toNat = 0 from by omega] at j1 j2
    exact ⟨j1, by rw [j2, rp_sk_sk hn hp]; rfl⟩
  · have e1 : 11 - m.toInt.toNat = (10 - m.toInt.toNat) + 1 := by omega
    have hd2 : 2 ≤ m.toInt.toNat ∧ ¬ rp_dig b n (rp_sk b n p) = true := ⟨by omega, hd⟩
    rw [e1] at j1 j2
    exact ⟨j1.trans (if_pos hd2), by rw [j2.trans (if_pos hd2)]⟩
theorem rm_cj11 (J : rm_cJ b n N w m v p) (hm : m = 11) (hd : rp_dig b n (rp_sk b n p) = true) : rm_B b n (rp_ck b n N w) (rp_cp b n N w) 1 (rp_sk b n p) := by
  obtain ⟨j1, j2⟩ := J
  have e : (11 : Int32).toInt.toNat = 11 := by decide
  rw [hm, e] at j1 j2
  have j3 : rp_cp b n N w = p := j2
  rw [j3]
  exact Or.inr ⟨j1, rfl, rfl, rm_digE hd⟩
end RMC
section RML
variable {b : Nat → Int32} {n w p wk wr : Int32} {N : List (List Int32)} {nc : Int}
theorem rm_l6 (h : 6 ≤ nc) : rm_f (rp_lk b n N nc w) (rp_lp b n N nc w) 4 w := by
  have a : rp_lk b n N nc w = 4 := if_pos h
  have c : rp_lp b n N nc w = w := if_pos h
  exact ⟨by rw [a]; decide, a.symm, c.symm⟩
theorem rm_l1 (h : ¬ 6 ≤ nc) (hl : ¬ rp_let b n (rp_q2 b n w) = true) : rm_f (rp_lk b n N nc w) (rp_lp b n N nc w) 1 (rp_q2 b n w) := by
  have a : rp_lk b n N nc w = 1 := (if_neg h).trans (if_pos hl)
  have c : rp_lp b n N nc w = rp_q2 b n w := (if_neg h).trans (if_pos hl)
  exact ⟨by rw [a]; decide, a.symm, c.symm⟩
theorem rm_l3 (h : ¬ 6 ≤ nc) (hl : rp_let b n (rp_q2 b n w) = true) (hn : ¬ rp_w b n (rp_q2 b n w) ∈ N) : rm_f (rp_lk b n N nc w) (rp_lp b n N nc w) 3 (rp_q2 b n w) := by
  have a : rp_lk b n N nc w = 3 := (if_neg h).trans ((if_neg (fun z => z hl)).trans (if_pos (Or.inr hn)))
  have c : rp_lp b n N nc w = rp_q2 b n w := (if_neg h).trans ((if_neg (fun z => z hl)).trans (if_pos (Or.inr hn)))
  exact ⟨by rw [a]; decide, a.symm, c.symm⟩
theorem rm_l0 (h : ¬ 6 ≤ nc) (hl : rp_let b n (rp_q2 b n w) = true) (hw : rp_w b n (rp_q2 b n w) ∈ N ∧ (rp_w b n (rp_q2 b n w)).length ≤ 6) : rp_lk b n N nc w = rp_4k b n (rp_we b n (rp_q2 b n w)) ∧ rp_lp b n N nc w = rp_4p b n (rp_we b n (rp_q2 b n w)) := by
  have q : ¬ (6 < (rp_w b n (rp_q2 b n w)).length ∨ ¬ rp_w b n (rp_q2 b n w) ∈ N) := fun z => z.elim (fun y => by have := hw.2; omega) (fun y => y hw.1)
  exact ⟨(if_neg h).trans ((if_neg (fun z => z hl)).trans (if_neg q)), (if_neg h).trans ((if_neg (fun z => z hl)).trans (if_neg q))⟩
theorem rm_41 (f : rm_f (rp_rk b n 100 100000 p) (rp_rp b n 100 100000 p) wk wr) : rm_f (rp_4k b n p) (rp_4p b n p) wk wr := rm_k1 (rm_k1 (rm_f2 f))
theorem rm_42 (k1 : rp_rk b n 100 100000 p = 0) (f : rm_f (rp_rk b n 1 500 (rp_rp b n 100 100000 p)) (rp_rp b n 1 500 (rp_rp b n 100 100000 p)) wk wr) : rm_f (rp_4k b n p) (rp_4p b n p) wk wr := rm_k1 (rm_k1 (rm_f3 k1 f))
theorem rm_4d (k1 : rp_rk b n 100 100000 p = 0) (k2 : rp_rk b n 1 500 (rp_rp b n 100 100000 p) = 0) : rp_dk b n 100 100000 1 500 p = 0 ∧ rp_dp b n 100 100000 1 500 p = rp_rp b n 1 500 (rp_rp b n 100 100000 p) := ⟨(rm_g3 k1 k2).1, (rm_g3 k1 k2).2.symm⟩
theorem rm_43 {P : Int32} (d : rp_dk b n 100 100000 1 500 p = 0 ∧ rp_dp b n 100 100000 1 500 p = P) (f : rm_f (rp_rk b n 0 500 P) (rp_rp b n 0 500 P) wk wr) : rm_f (rp_4k b n p) (rp_4p b n p) wk wr := by
  refine rm_k1 (rm_k2 d.1 ?_)
  rw [d.2]
  exact f
theorem rm_4e {P : Int32} (d : rp_dk b n 100 100000 1 500 p = 0 ∧ rp_dp b n 100 100000 1 500 p = P) (k3 : rp_rk b n 0 500 P = 0) : rp_5k b n p = 0 ∧ rp_5p b n p = rp_rp b n 0 500 P := by
  have h := rm_k3 (k2 := rp_rk b n 0 500 (rp_dp b n 100 100000 1 500 p)) (p1 := rp_dp b n 100 100000 1 500 p) (p2 := rp_rp b n 0 500 (rp_dp b n 100 100000 1 500 p)) d.1 (by rw [d.2]; exact k3)
  refine ⟨h.1, ?_⟩
  have e : rp_5p b n p = rp_rp b n 0 500 (rp_dp b n 100 100000 1 500 p) := h.2.symm
  rw [e, d.2]
theorem rm_44 {P : Int32} (d : rp_5k b n p = 0 ∧ rp_5p b n p = P) (f : rm_f (rp_rk b n 1 200 P) (rp_rp b n 1 200 P) wk wr) : rm_f (rp_4k b n p) (rp_4p b n p) wk wr := by
  refine rm_k2 d.1 ?_
  rw [d.2]
  exact f
theorem rm_4z {P : Int32} (d : rp_5k b n p = 0 ∧ rp_5p b n p = P) (k4 : rp_rk b n 1 200 P = 0) : rp_4k b n p = 0 ∧ rp_4p b n p = rp_rp b n 1 200 P := by
  have h := rm_k3 (k2 := rp_rk b n 1 200 (rp_5p b n p)) (p1 := rp_5p b n p) (p2 := rp_rp b n 1 200 (rp_5p b n p)) d.1 (by rw [d.2]; exact k4)
  refine ⟨h.1, ?_⟩
  have e : rp_4p b n p = rp_rp b n 1 200 (rp_5p b n p) := h.2.symm
  rw [e, d.2]
end RML
/-- a program's steps, m of them in, the next word at u -/
def rm_gJ (b : Nat → Int32) (n : Int32) (np : Int) (w m u : Int32) : Prop := ∃ p : Int32, (0 ≤ p.toInt ∧ p.toInt ≤ n.toInt) ∧ u = rp_sk b n p ∧ rp_gk b n np w = rp_ssk b n (12 - m.toInt.toNat) m.toInt.toNat p ∧ rp_gp b n np w = rp_ssp b n (12 - m.toInt.toNat) m.toInt.toNat p
section RMG
variable {b : Nat → Int32} {n w m u wk wr : Int32} {np : Int}
theorem rm_g4 (h : 4 ≤ np) : rm_f (rp_gk b n np w) (rp_gp b n np w) 4 w := by
  have a : rp_gk b n np w = 4 := if_pos h
  have c : rp_gp b n np w = w := if_pos h
  exact ⟨by rw [a]; decide, a.symm, c.symm⟩
theorem rm_gj0 (h : ¬ 4 ≤ np) (hw : 0 ≤ (rp_we b n w).toInt ∧ (rp_we b n w).toInt ≤ n.toInt) : rm_gJ b n np w 0 (rp_sk b n (rp_we b n w)) := by
  refine ⟨rp_we b n w, hw, rfl, ?_, ?_⟩
  · rw [rp_z0]
    exact if_neg h
  · rw [rp_z0]
    exact if_neg h
theorem rm_gj1 (h : ¬ 4 ≤ np) (hl : ¬ rp_let b n (rp_sk b n (rp_we b n w)) = true) : rm_f (rp_gk b n np w) (rp_gp b n np w) 1 (rp_sk b n (rp_we b n w)) := by
  have a : rp_gk b n np w = 1 := (if_neg h).trans ((if_neg hl).trans (if_pos rfl))
  have c : rp_gp b n np w = rp_sk b n (rp_we b n w) := (if_neg h).trans (if_neg hl)
  exact ⟨by rw [a]; decide, a.symm, c.symm⟩
theorem rm_gjs (J : rm_gJ b n np w m u) (hm : 0 ≤ m.toInt ∧ m.toInt < 12) (hl : rp_let b n u = true) (hn : n.toInt ≤ 800) (k : rp_stk b n m.toInt u = 0) : rm_gJ b n np w (m + Int32.ofInt 1) (rp_sk b n (rp_stp b n m.toInt u)) := by
  obtain ⟨p, hp, rfl, j1, j2⟩ := J
  have e : (m + Int32.ofInt 1).toInt = m.toInt + 1 := rf_p1 (by omega)
  have e1 : 12 - m.toInt.toNat = (12 - (m + Int32.ofInt 1).toInt.toNat) + 1 := by omega
  have e2 : (m + Int32.ofInt 1).toInt.toNat = m.toInt.toNat + 1 := by omega
  have em : ((m.toInt.toNat : Nat) : Int) = m.toInt := by omega
  have s := rp_sk_b (b := b) hn hp
  have t := rp_stb (b := b) (q := rp_sk b n p) (m := m.toInt) hn (by omega)
  rw [e1] at j1 j2
  have i1 := j1.trans (if_pos hl)
  have i2 := j2.trans (if_pos hl)
  rw [em] at i1 i2
  refine ⟨_, by omega, rfl, ?_, ?_⟩
  · rw [i1, e2]
    exact if_pos k
  · rw [i2, e2]
    exact if_pos k
theorem rm_gjf (J : rm_gJ b n np w m u) (hm : 0 ≤ m.toInt ∧ m.toInt < 12) (hl : rp_let b n u = true) (f : rm_f (rp_stk b n m.toInt u) (rp_stp b n m.toInt u) wk wr) : rm_f (rp_gk b n np w) (rp_gp b n np w) wk wr := by
  obtain ⟨p, hp, rfl, j1, j2⟩ := J
  have e1 : 12 - m.toInt.toNat = (11 - m.toInt.toNat) + 1 := by omega
  have em : ((m.toInt.toNat : Nat) : Int) = m.toInt := by omega
  rw [e1] at j1 j2
  have i1 := j1.trans (if_pos hl)
  have i2 := j2.trans (if_pos hl)
  rw [em] at i1 i2
  exact rm_fe f (i1.trans (if_neg f.1)) (i2.trans (if_neg f.1))
theorem rm_gj12 (J : rm_gJ b n np w m u) (hm : m = 12) (hl : rp_let b n u = true) (h : wk = 1 ∧ wr = u) : rm_B b n (rp_gk b n np w) (rp_gp b n np w) wk wr := by
  obtain ⟨p, hp, rfl, j1, j2⟩ := J
  have e : (12 : Int32).toInt.toNat = 12 := by decide
  rw [hm, e] at j1 j2
  have j3 : rp_gp b n np w = p := j2
  rw [j3]
  exact Or.inr ⟨j1, h.1, h.2, rm_letB hl⟩
theorem rm_gje (J : rm_gJ b n np w m u) (hm : 1 ≤ m.toInt ∧ m.toInt ≤ 12) (hl : ¬ rp_let b n u = true) (hn : n.toInt ≤ 800) : rp_gk b n np w = 0 ∧ rp_sk b n u = rp_sk b n (rp_gp b n np w) := by
  obtain ⟨p, hp, rfl, j1, j2⟩ := J
  by_cases q : m.toInt = 12
  · rw [show 12 - m.toInt.toNat = 0 from by omega] at j1 j2
    have j3 : rp_gp b n np w = p := j2
    exact ⟨j1, by rw [j3, rp_sk_sk hn hp]⟩
  · have e1 : 12 - m.toInt.toNat = (11 - m.toInt.toNat) + 1 := by omega
    rw [e1] at j1 j2
    have m0 : ¬ m.toInt.toNat = 0 := by omega
    exact ⟨j1.trans ((if_neg hl).trans (if_neg m0)), by rw [j2.trans (if_neg hl)]⟩
end RMG
/-- a statement, and the text -/
def rm_X (b : Nat → Int32) (n : Int32) (g0 : Nat → Int32) (pt : Int32) (g : Nat → Int32) : Prop := ∃ (m p : Int32) (N N1 : List (List Int32)) (np nc : Int), (0 ≤ m.toInt ∧ m.toInt ≤ p.toInt ∧ p.toInt ≤ n.toInt) ∧ rp_xJ b n (rp_K b n) (rp_P b n) (rp_C b n) m N np nc p ∧ rp_tk b n N np nc (rp_sk b n p) = 0 ∧ rp_sk b n pt = rp_sk b n (rp_tp b n N np nc (rp_sk b n p)) ∧ N1 = rp_tN b n N (rp_sk b n p) ∧ rm_N N1 g ∧ (g 9).toInt = rp_tc b n (rp_sk b n p) nc ∧ (g 10).toInt = rp_tg b n (rp_sk b n p) np ∧ ∃ gp : Nat → Int32, rq_xJ b n g0 m N np nc p gp ∧ g = rq_t b n N (rp_sk b n p) gp
section RMX
variable {b : Nat → Int32} {n pt p m wk wr : Int32} {g g0 gp : Nat → Int32} {N : List (List Int32)} {np nc : Int}
theorem rm_x1 (hp : 0 ≤ m.toInt ∧ m.toInt ≤ p.toInt ∧ p.toInt ≤ n.toInt) (J : rp_xJ b n (rp_K b n) (rp_P b n) (rp_C b n) m N np nc p) (k : rp_tk b n N np nc (rp_sk b n p) = 0) (e : rp_sk b n pt = rp_sk b n (rp_tp b n N np nc (rp_sk b n p))) (hN : rm_N (rp_tN b n N (rp_sk b n p)) g) (h9 : (g 9).toInt = rp_tc b n (rp_sk b n p) nc) (h10 : (g 10).toInt = rp_tg b n (rp_sk b n p) np) (Q : rq_xJ b n g0 m N np nc p gp) (eg : g = rq_t b n N (rp_sk b n p) gp) : rm_X b n g0 pt g := ⟨m, p, N, _, np, nc, hp, J, k, e, rfl, hN, h9, h10, gp, Q, eg⟩
/-- the next statement's beginning -/
theorem rm_x2 (X : rm_X b n g0 pt g) (hn : n.toInt ≤ 800) (h : rf_bt b n (rp_sk b n pt) = 59) : ∃ (m : Int32) (N : List (List Int32)), (0 ≤ m.toInt ∧ m.toInt ≤ (rp_sk b n pt + 1).toInt ∧ (rp_sk b n pt + 1).toInt ≤ n.toInt) ∧ rp_xJ b n (rp_K b n) (rp_P b n) (rp_C b n) m N (g 10).toInt (g 9).toInt (rp_sk b n pt + 1) ∧ rm_N N g ∧ rq_xJ b n g0 m N (g 10).toInt (g 9).toInt (rp_sk b n pt + 1) g := by
  obtain ⟨m, p, N, N1, np, nc, hp, ⟨j1, j2, j3⟩, k, e, eN, hN, h9, h10, gp, Q, eg⟩ := X
  have s := rp_sk_b (b := b) (p := p) hn (by omega)
  have t := rp_tpb (b := b) (N := N) (np := np) (nc := nc) (q := rp_sk b n p) hn (by omega)
  have s2 := rp_sk_b (b := b) (p := rp_tp b n N np nc (rp_sk b n p)) hn (by omega)
  have l : (rp_sk b n pt).toInt < n.toInt := rp_btl (fun z => by rw [z] at h; exact absurd h (by decide))
  rw [← e] at s2
  have e1 : (m + Int32.ofInt 1).toInt = m.toInt + 1 := rf_p1 (by omega)
  have e2 : (rp_sk b n pt + 1).toInt = (rp_sk b n pt).toInt + 1 := rf_p1 (by omega)
  have e3 : 802 - m.toInt.toNat = (802 - (m + Int32.ofInt 1).toInt.toNat) + 1 := by omega
  rw [e3] at j1 j2 j3
  have c : rf_bt b n (rp_sk b n (rp_tp b n N np nc (rp_sk b n p))) = 59 := by rw [← e]; exact h
  unfold rq_xJ at Q
  rw [e3] at Q
  refine ⟨m + Int32.ofInt 1, N1, by omega, ⟨?_, ?_, ?_⟩, hN, ?_⟩
  · rw [j1, h9, h10, e, eN]
    exact (if_neg (fun z => z k)).trans (if_pos c)
  · rw [j2, h9, h10, e, eN]
    exact (if_neg (fun z => z k)).trans (if_pos c)
  · rw [j3, h9, h10, e, eN]
    exact if_pos c
  · unfold rq_xJ
    rw [Q, h9, h10, e, eN, eg]
    exact if_pos c
theorem rm_x3 (X : rm_X b n g0 pt g) (hn : n.toInt ≤ 800) (h : ¬ rf_bt b n (rp_sk b n pt) = 59) : (rf_bt b n (rp_sk b n pt) = -1 → rp_K b n = 0 ∧ rp_C b n = (g 9).toInt ∧ rq_x b n 802 [] 0 0 0 g0 = g) ∧ (¬ rf_bt b n (rp_sk b n pt) = -1 → rp_K b n = 1 ∧ rp_P b n = rp_sk b n pt) := by
  obtain ⟨m, p, N, N1, np, nc, hp, ⟨j1, j2, j3⟩, k, e, eN, hN, h9, h10, gp, Q, eg⟩ := X
  have e3 : 802 - m.toInt.toNat = (801 - m.toInt.toNat) + 1 := by omega
  rw [e3] at j1 j2 j3
  unfold rq_xJ at Q
  rw [e3] at Q
  rw [e] at h ⊢
  refine ⟨fun z => ⟨?_, ?_, ?_⟩, fun z => ⟨?_, ?_⟩⟩
  · exact j1.trans ((if_neg (fun z => z k)).trans ((if_neg h).trans (if_pos z)))
  · rw [h9]
    exact j3.trans (if_neg h)
  · rw [Q, eg]
    exact if_neg h
  · exact j1.trans ((if_neg (fun z => z k)).trans ((if_neg h).trans (if_neg z)))
  · exact j2.trans ((if_neg (fun z => z k)).trans (if_neg h))
/-- a statement that fails -/
theorem rm_x4 (hm : 0 ≤ m.toInt ∧ m.toInt ≤ 800) (J : rp_xJ b n (rp_K b n) (rp_P b n) (rp_C b n) m N np nc p) (f : rm_B b n (rp_tk b n N np nc (rp_sk b n p)) (rp_tp b n N np nc (rp_sk b n p)) wk wr) : ¬ wk = 0 ∧ rp_K b n = wk ∧ rp_P b n = wr := by
  obtain ⟨j1, j2, j3⟩ := J
  have e3 : 802 - m.toInt.toNat = (801 - m.toInt.toNat) + 1 := by omega
  rw [e3] at j1 j2 j3
  rcases f with ⟨k, a, c⟩ | ⟨k, a, c, d, e⟩
  · refine ⟨by rw [a]; exact k, ?_, ?_⟩
    · rw [a]
      exact j1.trans (if_pos k)
    · rw [c]
      exact j2.trans (if_pos k)
  · refine ⟨by rw [a]; decide, ?_, ?_⟩
    · rw [a]
      exact j1.trans ((if_neg (fun z => z k)).trans ((if_neg d).trans (if_neg e)))
    · rw [c]
      exact j2.trans ((if_neg (fun z => z k)).trans (if_neg d))
end RMX
/-- one to three numbers of a statement -/
theorem rm_s3a {b : Nat → Int32} {n p wk wr : Int32} {l3 h3 : Int} (f : rm_f (rp_rk b n 0 5000 p) (rp_rp b n 0 5000 p) wk wr) : rm_f (rp_3k b n l3 h3 p) (rp_3p b n l3 h3 p) wk wr := rm_k1 (rm_f2 f)
theorem rm_s3b {b : Nat → Int32} {n p wk wr : Int32} {l3 h3 : Int} (k : rp_rk b n 0 5000 p = 0) (f : rm_f (rp_rk b n (rp_rv b n p) 5000 (rp_rp b n 0 5000 p)) (rp_rp b n (rp_rv b n p) 5000 (rp_rp b n 0 5000 p)) wk wr) : rm_f (rp_3k b n l3 h3 p) (rp_3p b n l3 h3 p) wk wr := rm_k1 (rm_f3 k f)
theorem rm_s3c {b : Nat → Int32} {n p wk wr : Int32} {l3 h3 : Int} (k : rp_rk b n 0 5000 p = 0) (k2 : rp_rk b n (rp_rv b n p) 5000 (rp_rp b n 0 5000 p) = 0) (f : rm_f (rp_rk b n l3 h3 (rp_rp b n (rp_rv b n p) 5000 (rp_rp b n 0 5000 p))) (rp_rp b n l3 h3 (rp_rp b n (rp_rv b n p) 5000 (rp_rp b n 0 5000 p))) wk wr) : rm_f (rp_3k b n l3 h3 p) (rp_3p b n l3 h3 p) wk wr := by
  have d := rm_g3 k k2
  refine rm_k2 d.1 ?_
  rw [← d.2]
  exact f
theorem rm_s3z {b : Nat → Int32} {n p : Int32} {l3 h3 : Int} (k : rp_rk b n 0 5000 p = 0) (k2 : rp_rk b n (rp_rv b n p) 5000 (rp_rp b n 0 5000 p) = 0) (k3 : rp_rk b n l3 h3 (rp_rp b n (rp_rv b n p) 5000 (rp_rp b n 0 5000 p)) = 0) : rp_3k b n l3 h3 p = 0 ∧ rp_rp b n l3 h3 (rp_rp b n (rp_rv b n p) 5000 (rp_rp b n 0 5000 p)) = rp_3p b n l3 h3 p := by
  have d := rm_g3 k k2
  have h := rm_k3 (k1 := rp_dk b n 0 5000 (rp_rv b n p) 5000 p) (k2 := rp_rk b n l3 h3 (rp_dp b n 0 5000 (rp_rv b n p) 5000 p)) (p1 := rp_dp b n 0 5000 (rp_rv b n p) 5000 p) (p2 := rp_rp b n l3 h3 (rp_dp b n 0 5000 (rp_rv b n p) 5000 p)) d.1 (by rw [← d.2]; exact k3)
  refine ⟨h.1, ?_⟩
  rw [d.2]
  exact h.2
/-- the row behind a curve -/
theorem rm_cvN {g c G1 : Nat → Int32} {N : List (List Int32)} {w : List Int32} {n x : Int32} {K : Nat} (hN : rm_N N g) (h4 : ¬ 4 ≤ N.length) (hK : K = (g 11).toInt.toNat) (lo1 : ∀ j : Nat, 20 ≤ j → j < 20 + 19 * K → G1 j = g j) (hW : rm_W G1 K w) (hwl : 1 ≤ w.length ∧ w.length ≤ 6) (lo2 : ∀ j : Nat, j < 28 + 19 * K → c j = G1 j) (hx : x.toInt = 27 + 19 * (g 11).toInt) (e11 : c 11 = g 11) : rm_N (N ++ [w]) (upd (upd c x.toNatClampNeg n) (11 : Int32).toNatClampNeg ((upd c x.toNatClampNeg n) 11 + 1)) := by
  have k1 := hN.1
  have KN : K = N.length := by omega
  have ex : x.toNatClampNeg = 27 + 19 * K := by
    show x.toInt.toNat = _
    omega
  have e0 : (11 : Int32).toNatClampNeg = 11 := by decide
  rw [ex, e0, rf_upd_ne (f := c) (i := 27 + 19 * K) (j := 11) (by omega), e11]
  have st : ∀ j : Nat, 20 ≤ j → j < 27 + 19 * K → upd (upd c (27 + 19 * K) n) 11 (g 11 + 1) j = G1 j := fun j h1 h2 => by
    rw [rf_upd_ne (by omega), rf_upd_ne (by omega)]
    exact lo2 j (by omega)
  refine rm_Na (g := g) hN (by omega) ?_ hwl ?_ (fun j h1 h2 => ?_)
  · rw [← KN]
    exact rm_Wk hwl.2 (fun j h1 h2 => st j (by omega) h2) hW
  · rw [rf_upd_eq, rf_p1 (by omega)]
  · rw [st j h1 (by omega)]
    exact lo1 j h1 (by omega)
theorem rm_lt2 {x : Int32} (h : x < 2) : x.toInt < 2 := by
  rw [Int32.lt_iff_toInt_lt, show (2 : Int32).toInt = 2 from by decide] at h
  exact h
theorem rm_n11 {x : Int32} (h : ¬ x = 11) : ¬ x.toInt = 11 := fun q => h (Int32.toInt_inj.mp (q.trans (by decide)))
theorem rm_N4 {g : Nat → Int32} {N : List (List Int32)} (hN : rm_N N g) (h : ¬ g 11 = 4) (hs : (g 11).toInt ≤ 4) : ¬ 4 ≤ N.length := fun q => h (Int32.toInt_inj.mp (by have := hN.1; rw [show (4 : Int32).toInt = 4 from by decide]; omega))
theorem rm_N4e {g : Nat → Int32} {N : List (List Int32)} (hN : rm_N N g) (h : g 11 = 4) : 4 ≤ N.length := by
  have := hN.1
  rw [h, show (4 : Int32).toInt = 4 from by decide] at this
  omega
theorem rm_E6 {x : Int32} (h : x = 6) : 6 ≤ x.toInt := by
  rw [h]
  decide
theorem rm_E4 {x : Int32} (h : x = 4) : 4 ≤ x.toInt := by
  rw [h]
  decide
