/-! the two sides' descriptions are the same: what is read -/
def sd_vol (g : Nat → Int32) (R : Nat → Nat → Int32) (i n : Nat) : Prop := R 0 i = Int32.ofNat n ∧ ∀ k : Nat, k < n → g (28 + 19 * i + k) = R 1 (11 * i + k)
def sd_curs (g : Nat → Int32) (R : Nat → Nat → Int32) (c : Nat) : Prop := ∀ i : Nat, i < c → ∃ n : Nat, 2 ≤ n ∧ n ≤ 11 ∧ g (27 + 19 * i) = Int32.ofNat n ∧ sd_vol g R i n
def sd_stp (g : Nat → Int32) (R : Nat → Nat → Int32) (i n : Nat) : Prop := R 2 i = Int32.ofNat n ∧ ∀ s : Nat, s < n → g (97 + 37 * i + 3 * s) = R 3 (12 * i + s) ∧ g (98 + 37 * i + 3 * s) = R 4 (12 * i + s) ∧ g (99 + 37 * i + 3 * s) = R 5 (12 * i + s)
def sd_prg (g : Nat → Int32) (R : Nat → Nat → Int32) (c : Nat) : Prop := ∀ i : Nat, i < c → ∃ n : Nat, n ≤ 12 ∧ g (96 + 37 * i) = Int32.ofNat n ∧ sd_stp g R i n
def sd_one (g : Nat → Int32) (R : Nat → Nat → Int32) (c : fw_C) (nc k : Nat) : Prop := ∃ v : Nat, v < nc ∧ g (255 + 54 * k) = Int32.ofNat v ∧ c.1 11 = R 0 v ∧ (∀ j : Nat, 12 ≤ j → j ≤ 15 → c.1 j = g (244 + 54 * k + j)) ∧ ∀ j : Nat, j < (R 0 v).toInt.toNat → c.2.2 2 j = R 1 (11 * v + j)
def sd_nums (g : Nat → Int32) (W : fw_W) : Prop := (∀ j : Nat, j < 8 → g j = W.1 j) ∧ (∀ j : Nat, 13 ≤ j → j ≤ 16 → g j = W.1 j) ∧ g 9 = W.1 9 ∧ g 10 = W.1 10 ∧ g 11 = W.1 11
def sd_bds (g : Nat → Int32) : Prop := (0 ≤ (g 9).toInt ∧ (g 9).toInt ≤ 6) ∧ (0 ≤ (g 10).toInt ∧ (g 10).toInt ≤ 4) ∧ 0 ≤ (g 11).toInt ∧ (g 11).toInt ≤ 4
def sd (g : Nat → Int32) (W : fw_W) (x : Nat → fw_C) : Prop := sd_nums g W ∧ sd_bds g ∧ sd_curs g W.2.1 (g 11).toInt.toNat ∧ sd_prg g W.2.1 (g 10).toInt.toNat ∧ ∀ k : Nat, k < (g 9).toInt.toNat → sd_one g W.2.1 (x k) (g 11).toInt.toNat k
theorem sd_ofn {n : Nat} (h : n < 2147483648) : (Int32.ofNat n).toInt = n := Int32.toInt_ofNat_of_lt (by omega)
section SDF
variable {g g1 : Nat → Int32} {R R1 : Nat → Nat → Int32} {c c1 k : Nat} {u u1 : fw_C}
theorem sd_volF {i n : Nat} (e : ∀ j : Nat, 28 + 19 * i ≤ j → j < 28 + 19 * i + n → g1 j = g j) (e0 : R1 0 i = R 0 i) (e1 : ∀ j : Nat, 11 * i ≤ j → j < 11 * i + n → R1 1 j = R 1 j) (h : sd_vol g R i n) : sd_vol g1 R1 i n :=
  ⟨e0.trans h.1, fun k hk => by rw [e _ (by omega) (by omega), e1 _ (by omega) (by omega)]; exact h.2 k hk⟩
theorem sd_cursF (e : ∀ j : Nat, 27 ≤ j → j < 20 + 19 * c → g1 j = g j) (e0 : ∀ i : Nat, i < c → R1 0 i = R 0 i) (e1 : ∀ j : Nat, j < 11 * c → R1 1 j = R 1 j) (h : sd_curs g R c) : sd_curs g1 R1 c := by
  intro i hi
  obtain ⟨n, a, b, d, f⟩ := h i hi
  exact ⟨n, a, b, by rw [e _ (by omega) (by omega)]; exact d, sd_volF (fun j h1 h2 => e j (by omega) (by omega)) (e0 i hi) (fun j h1 h2 => e1 j (by omega)) f⟩
theorem sd_prgF (e : ∀ j : Nat, 96 ≤ j → j < 96 + 37 * c → g1 j = g j) (e2 : ∀ i : Nat, i < c → R1 2 i = R 2 i) (e3 : ∀ t : Nat, 3 ≤ t → t ≤ 5 → ∀ j : Nat, j < 12 * c → R1 t j = R t j) (h : sd_prg g R c) : sd_prg g1 R1 c := by
  intro i hi
  obtain ⟨n, b, d, f1, f2⟩ := h i hi
  refine ⟨n, b, by rw [e _ (by omega) (by omega)]; exact d, (e2 i hi).trans f1, fun s hs => ?_⟩
  rw [e _ (by omega) (by omega), e _ (by omega) (by omega), e _ (by omega) (by omega), e3 3 (by omega) (by omega) _ (by omega), e3 4 (by omega) (by omega) _ (by omega), e3 5 (by omega) (by omega) _ (by omega)]
  exact f2 s hs
theorem sd_oneF (e : ∀ j : Nat, 255 + 54 * k ≤ j → j ≤ 259 + 54 * k → g1 j = g j) (hc : c ≤ c1) (e0 : ∀ i : Nat, i < c → R1 0 i = R 0 i) (e1 : ∀ j : Nat, j < 11 * c → R1 1 j = R 1 j) (hb : ∀ i : Nat, i < c → (R 0 i).toInt.toNat ≤ 11) (h : sd_one g R u c k) : sd_one g1 R1 u c1 k := by
  obtain ⟨v, a, b, d, f, q⟩ := h
  refine ⟨v, by omega, by rw [e _ (by omega) (by omega)]; exact b, d.trans (e0 v a).symm, fun j h1 h2 => by rw [e _ (by omega) (by omega)]; exact f j h1 h2, fun j hj => ?_⟩
  rw [e0 v a] at hj
  have := hb v a
  rw [e1 _ (by omega)]
  exact q j hj
theorem sd_curb (h : sd_curs g R c) : ∀ i : Nat, i < c → (R 0 i).toInt.toNat ≤ 11 := by
  intro i hi
  obtain ⟨n, a, b, d, f⟩ := h i hi
  rw [f.1, sd_ofn (by omega)]
  omega
end SDF
/-- a setting -/
theorem sd_s {g : Nat → Int32} {W : fw_W} {x : Nat → fw_C} {j : Nat} {v : Int32} (h : sd g W x) (hj : j < 8 ∨ (13 ≤ j ∧ j ≤ 16)) : sd (upd g j v) (fw_si W j v) x := by
  obtain ⟨⟨n1, n2, n3, n4, n5⟩, b, c, p, o⟩ := h
  have hi : ∀ i : Nat, (fw_si W j v).1 i = if i = j then v else W.1 i := fun i => rfl
  have e9 : upd g j v 9 = g 9 := rf_upd_ne (by omega)
  have e10 : upd g j v 10 = g 10 := rf_upd_ne (by omega)
  have e11 : upd g j v 11 = g 11 := rf_upd_ne (by omega)
  have ef : ∀ i : Nat, 20 ≤ i → upd g j v i = g i := fun i hi => rf_upd_ne (by omega)
  refine ⟨⟨fun i hi1 => ?_, fun i hi1 hi2 => ?_, ?_, ?_, ?_⟩, ?_, ?_, ?_, fun k hk => ?_⟩
  · rw [hi]
    show (if i = j then v else g i) = _
    rw [n1 i hi1]
  · rw [hi]
    show (if i = j then v else g i) = _
    rw [n2 i hi1 hi2]
  · rw [hi, if_neg (by omega), e9]; exact n3
  · rw [hi, if_neg (by omega), e10]; exact n4
  · rw [hi, if_neg (by omega), e11]; exact n5
  · unfold sd_bds; rw [e9, e10, e11]; exact b
  · rw [e11]; exact sd_cursF (fun i h1 h2 => ef i (by omega)) (fun i _ => rfl) (fun i _ => rfl) c
  · rw [e10]; exact sd_prgF (fun i h1 h2 => ef i (by omega)) (fun i _ => rfl) (fun t _ _ i _ => rfl) p
  · rw [e9] at hk
    rw [e11]
    exact sd_oneF (fun i h1 h2 => ef i (by omega)) (Nat.le_refl _) (fun i _ => rfl) (fun i _ => rfl) (sd_curb c) (o k hk)
theorem rp_k20 {a b : Int32} (h : rp_k2 a b = 0) : a = 0 ∧ b = 0 := by
  unfold rp_k2 at h
  by_cases z : a = 0
  · rw [if_pos z] at h
    exact ⟨z, h⟩
  · rw [if_neg z] at h
    exact absurd h z
theorem sd_sets {b : Nat → Int32} {n q : Int32} {g : Nat → Int32} {W : fw_W} {x : Nat → fw_C} (h : sd g W x) (k : rp_ek b n q = 0) : sd (rq_set b n q g) (rd_set b n q W) x := by
  unfold rp_ek at k
  unfold rq_set rd_set
  split
  · exact sd_s h (by omega)
  · rename_i h1
    rw [if_neg h1] at k
    split
    · exact sd_s h (by omega)
    · rename_i h2
      rw [if_neg h2] at k
      split
      · exact sd_s (sd_s h (by omega)) (by omega)
      · rename_i h3
        rw [if_neg h3] at k
        split
        · rename_i h4
          rw [if_pos h4] at k
          rw [rd_dp (rp_k20 (rp_k20 k).1).1]
          exact sd_s (sd_s (sd_s h (by omega)) (by omega)) (by omega)
        · rename_i h4
          rw [if_neg h4] at k
          split
          · exact sd_s h (by omega)
          · rename_i h5
            rw [if_neg h5] at k
            split
            · rename_i h6
              rw [if_pos h6] at k
              rw [rd_dp (rp_k20 (rp_k20 k).1).1]
              exact sd_s (sd_s (sd_s h (by omega)) (by omega)) (by omega)
            · rename_i h6
              rw [if_neg h6] at k
              split
              · exact sd_s h (by omega)
              · exact h
/-- one more voltage, of the entry that isn't counted on the reference's side yet -/
theorem fw_atK {n K : Nat} {r : Nat → Int32} {i : Int32} (hi : i.toInt = K) (hK : K < n) : fw_at n r i = r K := by
  unfold fw_at
  rw [if_pos (by omega), show i.toInt.toNat = K from by omega]
theorem fw_ptK {n K : Nat} {r : Nat → Int32} {i v : Int32} (hi : i.toInt = K) (hK : K < n) : fw_pt n r i v = upd r K v := by
  unfold fw_pt
  rw [if_pos (by omega), show i.toInt.toNat = K from by omega]
theorem sd_on1 {m : Nat} (h : m ≤ 1000) : Int32.ofNat m + 1 = Int32.ofNat (m + 1) := by
  refine Int32.toInt.inj ?_
  rw [rf_p1 (by rw [sd_ofn (by omega)]; omega), sd_ofn (by omega), sd_ofn (by omega)]
  omega
theorem sd_idx {i a : Int32} {K m A : Nat} (hi : i.toInt = K) (ha : a.toInt = A) (hK : K < 4) (hA : A ≤ 12) (hm : m ≤ 12) : ((i * a) + Int32.ofNat m).toInt = A * K + m := by
  have e : (i * a).toInt = A * K := by
    have : (K : Int) * A ≤ 3 * 12 := Int.mul_le_mul (by omega) (by omega) (by omega) (by omega)
    have : 0 ≤ (K : Int) * A := Int.mul_nonneg (by omega) (by omega)
    rw [Jvm.Kit.i32_mul (by rw [hi, ha]; omega) (by rw [hi, ha]; omega), hi, ha, Int.mul_comm]
  have : (A : Int) * K ≤ 36 := by
    have q9 : (K : Int) * A ≤ 3 * 12 := Int.mul_le_mul (by omega) (by omega) (by omega) (by omega)
    rw [Int.mul_comm]
    omega
  have : 0 ≤ (A : Int) * K := Int.mul_nonneg (by omega) (by omega)
  rw [Jvm.Kit.i32_add (by rw [e, sd_ofn (by omega)]; omega) (by rw [e, sd_ofn (by omega)]; omega), e, sd_ofn (by omega)]
theorem sd_addV {W : fw_W} {K m : Nat} {v : Int32} (hi : ((W.1 11) - 1).toInt = K) (hK : K < 4) (h0 : W.2.1 0 K = Int32.ofNat m) (hm : m < 11) : fw_addV W v = fw_wr (fw_wr W 0 (upd (W.2.1 0) K (Int32.ofNat (m + 1)))) 1 (upd (W.2.1 1) (11 * K + m) v) := by
  have e := sd_idx (a := 11) (A := 11) (m := m) hi (by decide) hK (by omega) (by omega)
  unfold fw_addV
  rw [fw_atK hi hK, h0, sd_on1 (by omega), fw_ptK hi hK, fw_ptK (K := 11 * K + m) (by omega) (by omega)]
theorem sd_vv {b : Nat → Int32} {n : Int32} {K : Nat} (hK : K < 4) : ∀ (r m : Nat) (v : Int) (p : Int32) (g : Nat → Int32) (W : fw_W), m + r = 11 → ((W.1 11) - 1).toInt = K → sd_vol g W.2.1 K m →
    (2 ≤ rq_vn b n r m v p ∧ rq_vn b n r m v p ≤ 11) ∧ sd_vol (rq_vv b n (28 + 19 * K) r m v p g) (rd_vv b n r m v p W).2.1 K (rq_vn b n r m v p) ∧ (∀ j : Nat, (j < 28 + 19 * K ∨ 39 + 19 * K ≤ j) → rq_vv b n (28 + 19 * K) r m v p g j = g j) ∧ (∀ i : Nat, i ≠ K → (rd_vv b n r m v p W).2.1 0 i = W.2.1 0 i) ∧ (∀ j : Nat, j < 11 * K → (rd_vv b n r m v p W).2.1 1 j = W.2.1 1 j) ∧ ∀ t : Nat, 2 ≤ t → (rd_vv b n r m v p W).2.1 t = W.2.1 t
  | 0, m, v, p, g, W, hm, hi, h => by
    have e : m = 11 := by omega
    subst e
    exact ⟨⟨by show 2 ≤ 11; omega, Nat.le_refl 11⟩, h, fun _ _ => rfl, fun _ _ => rfl, fun _ _ => rfl, fun _ _ => rfl⟩
  | r + 1, m, v, p, g, W, hm, hi, h => by
    unfold rq_vn rq_vv rd_vv
    by_cases q : 2 ≤ m ∧ ¬ rp_dig b n (rp_sk b n p) = true
    · rw [if_pos q, if_pos q, if_pos q]
      exact ⟨⟨q.1, by omega⟩, h, fun _ _ => rfl, fun _ _ => rfl, fun _ _ => rfl, fun _ _ => rfl⟩
    · rw [if_neg q, if_neg q, if_neg q]
      have hW := sd_addV (v := rd_nv b n p) hi hK h.1 (by omega)
      have h2 : sd_vol (upd g (28 + 19 * K + m) (rd_nv b n p)) (fw_addV W (rd_nv b n p)).2.1 K (m + 1) := by
        rw [hW]
        refine ⟨rf_upd_eq, fun k hk => ?_⟩
        show upd g (28 + 19 * K + m) (rd_nv b n p) (28 + 19 * K + k) = upd (W.2.1 1) (11 * K + m) (rd_nv b n p) (11 * K + k)
        by_cases z : k = m
        · rw [z, rf_upd_eq, rf_upd_eq]
        · rw [rf_upd_ne (by omega), rf_upd_ne (by omega)]
          exact h.2 k (by omega)
      obtain ⟨a1, a2, a3, a4, a5, a6⟩ := sd_vv hK r (m + 1) (rp_rv b n p) (rp_rp b n v 5000 p) (upd g (28 + 19 * K + m) (rd_nv b n p)) (fw_addV W (rd_nv b n p)) (by omega) hi h2
      refine ⟨a1, a2, fun j hj => (a3 j hj).trans (rf_upd_ne (by omega)), fun i hi2 => (a4 i hi2).trans ?_, fun j hj => (a5 j hj).trans ?_, fun t ht => (a6 t ht).trans ?_⟩
      · rw [hW]
        exact rf_upd_ne hi2
      · rw [hW]
        exact rf_upd_ne (by omega)
      · rw [hW]
        show (if t = 1 then _ else if t = 0 then _ else W.2.1 t) = W.2.1 t
        rw [if_neg (by omega), if_neg (by omega)]
theorem rq_nmF {b : Nat → Int32} {q z : Int32} {P : Nat} {g : Nat → Int32} : ∀ (k : Nat) {j : Nat}, (j < P ∨ P + k < j) → rq_nm b q P z g k j = g j
  | 0, j, h => rf_upd_ne (by omega)
  | k + 1, j, h => (rf_upd_ne (by omega)).trans (rq_nmF k (by omega))
theorem rq_cntF {g : Nat → Int32} {P m c j : Nat} (h1 : j ≠ P) (h2 : j ≠ c) : rq_cnt g P m c j = g j := (rf_upd_ne h2).trans (rf_upd_ne h1)
theorem rq_cntP {g : Nat → Int32} {P m c : Nat} (h : P ≠ c) : rq_cnt g P m c P = Int32.ofNat m := (rf_upd_ne h).trans rf_upd_eq
theorem rq_cntC {g : Nat → Int32} {P m c : Nat} (h : P ≠ c) : rq_cnt g P m c c = g c + 1 := by
  unfold rq_cnt
  rw [rf_upd_eq, rf_upd_ne (fun q => h q.symm)]
theorem sd_curve {b : Nat → Int32} {n q : Int32} {g : Nat → Int32} {W : fw_W} {x : Nat → fw_C} (h : sd g W x) (h4 : (g 11).toInt < 4) (hl : (rp_we b n (rp_q2 b n q) - rp_q2 b n q).toInt ≤ 6) : sd (rq_curve b n q g) (rd_curve b n q W) x := by
  obtain ⟨⟨n1, n2, n3, n4, n5⟩, ⟨b1, b2, b3⟩, c, p, o⟩ := h
  obtain ⟨K, hK⟩ : ∃ K : Nat, (g 11).toInt = K := ⟨(g 11).toInt.toNat, by omega⟩
  have hKn : (g 11).toInt.toNat = K := by omega
  have hW11 : (W.1 11).toInt = K := by rw [← n5]; exact hK
  have x1 := rd_vvx (b := b) (n := n) 11 0 0 (rp_we b n (rp_q2 b n q)) (fw_addC W (rp_cd (rp_w b n (rp_q2 b n q))))
  have hi : (((fw_addC W (rp_cd (rp_w b n (rp_q2 b n q)))).1 11) - 1).toInt = K := by
    show ((W.1 11) + 1 - 1).toInt = K
    rw [rd_mm]
    exact hW11
  have hr0 : (fw_addC W (rp_cd (rp_w b n (rp_q2 b n q)))).2.1 0 = upd (W.2.1 0) K 0 := fw_ptK hW11 (by omega)
  have hrt : ∀ t : Nat, 1 ≤ t → (fw_addC W (rp_cd (rp_w b n (rp_q2 b n q)))).2.1 t = W.2.1 t := fun t ht => if_neg (by omega)
  have hv := sd_vv (b := b) (n := n) (K := K) (by omega) 11 0 0 (rp_we b n (rp_q2 b n q)) (rq_nm b (rp_q2 b n q) (20 + 19 * K) (rp_we b n (rp_q2 b n q) - rp_q2 b n q) g (rp_we b n (rp_q2 b n q) - rp_q2 b n q).toInt.toNat) (fw_addC W (rp_cd (rp_w b n (rp_q2 b n q)))) (by omega) hi ⟨by rw [hr0]; exact rf_upd_eq, fun k hk => absurd hk (Nat.not_lt_zero k)⟩
  obtain ⟨a1, a2, a3, a4, a5, a6⟩ := hv
  unfold rq_curve rd_curve
  rw [hKn]
  generalize rq_vn b n 11 0 0 (rp_we b n (rp_q2 b n q)) = M at a1 a2 ⊢
  generalize hV : rd_vv b n 11 0 0 (rp_we b n (rp_q2 b n q)) (fw_addC W (rp_cd (rp_w b n (rp_q2 b n q)))) = V at a2 a4 a5 a6 x1 ⊢
  have f0 : ∀ j : Nat, (j < 20 + 19 * K ∨ 27 + 19 * K ≤ j) → rq_nm b (rp_q2 b n q) (20 + 19 * K) (rp_we b n (rp_q2 b n q) - rp_q2 b n q) g (rp_we b n (rp_q2 b n q) - rp_q2 b n q).toInt.toNat j = g j := fun j hj => rq_nmF _ (by omega)
  generalize hG : rq_vv b n (28 + 19 * K) 11 0 0 (rp_we b n (rp_q2 b n q)) (rq_nm b (rp_q2 b n q) (20 + 19 * K) (rp_we b n (rp_q2 b n q) - rp_q2 b n q) g (rp_we b n (rp_q2 b n q) - rp_q2 b n q).toInt.toNat) = G at a2 a3 ⊢
  have f : ∀ j : Nat, (j < 20 + 19 * K ∨ 39 + 19 * K ≤ j) → G j = g j := fun j hj => (a3 j (by omega)).trans (f0 j (by omega))
  have gF : ∀ j : Nat, j ≠ 11 → (j < 20 + 19 * K ∨ 39 + 19 * K ≤ j) → rq_cnt G (27 + 19 * K) M 11 j = g j := fun j h1 h2 => (rq_cntF (by omega) h1).trans (f j h2)
  have g11 : rq_cnt G (27 + 19 * K) M 11 11 = g 11 + 1 := (rq_cntC (by omega)).trans (by rw [f 11 (by omega)])
  have g11i : (rq_cnt G (27 + 19 * K) M 11 11).toInt = K + 1 := by rw [g11, rf_p1 (by omega), hK]
  have g9 := gF 9 (by omega) (by omega)
  have g10 := gF 10 (by omega) (by omega)
  have V1 : ∀ j : Nat, j ≠ 11 → V.1 j = W.1 j := fun j hj => by
    rw [x1.1]
    show (if j = 11 then _ else W.1 j) = W.1 j
    rw [if_neg hj]
  have V11 : V.1 11 = W.1 11 + 1 := by rw [x1.1]; rfl
  have r0 : ∀ i : Nat, i < K → V.2.1 0 i = W.2.1 0 i := fun i hi2 => by
    rw [a4 i (by omega), hr0]
    exact rf_upd_ne (by omega)
  have r1 : ∀ j : Nat, j < 11 * K → V.2.1 1 j = W.2.1 1 j := fun j hj => by rw [a5 j hj, hrt 1 (by omega)]
  have rt : ∀ t : Nat, 2 ≤ t → V.2.1 t = W.2.1 t := fun t ht => by rw [a6 t ht, hrt t (by omega)]
  rw [hKn] at c
  refine ⟨⟨fun j hj => ?_, fun j h1 h2 => ?_, ?_, ?_, ?_⟩, ⟨?_, ?_, ?_⟩, ?_, ?_, fun k hk => ?_⟩
  · rw [gF j (by omega) (by omega), V1 j (by omega)]; exact n1 j hj
  · rw [gF j (by omega) (by omega), V1 j (by omega)]; exact n2 j h1 h2
  · rw [g9, V1 9 (by omega)]; exact n3
  · rw [g10, V1 10 (by omega)]; exact n4
  · rw [g11, V11, n5]
  · rw [g9]; exact b1
  · rw [g10]; exact b2
  · rw [g11i]; omega
  · rw [show (rq_cnt G (27 + 19 * K) M 11 11).toInt.toNat = K + 1 from by omega]
    intro i hi2
    by_cases z : i = K
    · subst z
      refine ⟨M, a1.1, a1.2, rq_cntP (by omega), sd_volF (fun j h1 h2 => rq_cntF (by omega) (by omega)) rfl (fun _ _ _ => rfl) a2⟩
    · exact sd_cursF (fun j h1 h2 => gF j (by omega) (by omega)) r0 r1 c i (by omega)
  · rw [g10]
    exact sd_prgF (fun j h1 h2 => gF j (by omega) (by omega)) (fun i _ => by rw [rt 2 (by omega)]) (fun t h1 h2 j _ => by rw [rt t (by omega)]) p
  · rw [g9] at hk
    rw [show (rq_cnt G (27 + 19 * K) M 11 11).toInt.toNat = K + 1 from by omega]
    have o2 := o k hk
    rw [hKn] at o2
    exact sd_oneF (fun j h1 h2 => gF j (by omega) (by omega)) (by omega) r0 r1 (sd_curb c) o2
/-- one more step -/
theorem sd_addS {W : fw_W} {K m : Nat} {k f s : Int32} (hi : ((W.1 10) - 1).toInt = K) (hK : K < 4) (h0 : W.2.1 2 K = Int32.ofNat m) (hm : m < 12) : fw_addS W k f s = fw_wr (fw_wr (fw_wr (fw_wr W 2 (upd (W.2.1 2) K (Int32.ofNat (m + 1)))) 3 (upd (W.2.1 3) (12 * K + m) k)) 4 (upd (W.2.1 4) (12 * K + m) f)) 5 (upd (W.2.1 5) (12 * K + m) s) := by
  have e := sd_idx (a := 12) (A := 12) (m := m) hi (by decide) hK (by omega) (by omega)
  unfold fw_addS
  rw [fw_atK hi hK, h0, sd_on1 (by omega), fw_ptK hi hK, fw_ptK (K := 12 * K + m) (by omega) (by omega), fw_ptK (K := 12 * K + m) (by omega) (by omega), fw_ptK (K := 12 * K + m) (by omega) (by omega)]
/-- a step on both sides -/
def sd_s3 (g g1 : Nat → Int32) (P : Nat) (k f s : Int32) : Prop := g1 P = k ∧ g1 (P + 1) = f ∧ g1 (P + 2) = s ∧ ∀ j : Nat, (j < P ∨ P + 3 ≤ j) → g1 j = g j
theorem sd_s3a {g : Nat → Int32} {P : Nat} {k f s : Int32} : sd_s3 g (upd (upd (upd (upd g P k) (P + 2) 0) (P + 1) f) (P + 2) s) P k f s :=
  ⟨by rw [rf_upd_ne (by omega), rf_upd_ne (by omega), rf_upd_ne (by omega), rf_upd_eq], by rw [rf_upd_ne (by omega), rf_upd_eq], rf_upd_eq, fun j hj => by rw [rf_upd_ne (by omega), rf_upd_ne (by omega), rf_upd_ne (by omega), rf_upd_ne (by omega)]⟩
theorem sd_s3b {g : Nat → Int32} {P : Nat} {k f : Int32} : sd_s3 g (upd (upd (upd g P k) (P + 2) 0) (P + 1) f) P k f 0 :=
  ⟨by rw [rf_upd_ne (by omega), rf_upd_ne (by omega), rf_upd_eq], rf_upd_eq, by rw [rf_upd_ne (by omega), rf_upd_eq], fun j hj => by rw [rf_upd_ne (by omega), rf_upd_ne (by omega), rf_upd_ne (by omega)]⟩
theorem sd_step {b : Nat → Int32} {n q : Int32} {m : Nat} {P : Nat} {g : Nat → Int32} {W : fw_W} (k : rp_stk b n m q = 0) : ∃ kd f s : Int32, rd_step b n m q W = fw_addS W kd f s ∧ sd_s3 g (rq_step b n m q P g) P kd f s := by
  unfold rp_stk at k
  unfold rd_step rq_step
  split
  · exact ⟨_, _, _, rfl, sd_s3a⟩
  · rename_i h1
    rw [if_neg h1] at k
    split
    · exact ⟨_, _, _, rfl, sd_s3a⟩
    · rename_i h2
      rw [if_neg h2] at k
      split
      · exact ⟨_, _, _, rfl, sd_s3a⟩
      · rename_i h3
        rw [if_neg h3] at k
        split
        · exact ⟨_, _, _, rfl, sd_s3b⟩
        · rename_i h4
          rw [if_neg h4] at k
          split
          · exact ⟨_, _, _, rfl, sd_s3a⟩
          · rename_i h5
            rw [if_neg h5] at k
            exact absurd k (by decide)
set_option maxHeartbeats 4000000 in
theorem sd_ss {b : Nat → Int32} {n : Int32} {K : Nat} (hK : K < 4) : ∀ (r m : Nat) (p : Int32) (g : Nat → Int32) (W : fw_W), m + r = 12 → ((W.1 10) - 1).toInt = K → sd_stp g W.2.1 K m → rp_ssk b n r m p = 0 →
    rq_sn b n r m p ≤ 12 ∧ sd_stp (rq_ss b n (97 + 37 * K) r m p g) (rd_ss b n r m p W).2.1 K (rq_sn b n r m p) ∧ (∀ j : Nat, (j < 97 + 37 * K ∨ 133 + 37 * K ≤ j) → rq_ss b n (97 + 37 * K) r m p g j = g j) ∧ (∀ i : Nat, i ≠ K → (rd_ss b n r m p W).2.1 2 i = W.2.1 2 i) ∧ (∀ t : Nat, 3 ≤ t → t ≤ 5 → ∀ j : Nat, j < 12 * K → (rd_ss b n r m p W).2.1 t j = W.2.1 t j) ∧ ∀ t : Nat, (t < 2 ∨ 6 ≤ t) → (rd_ss b n r m p W).2.1 t = W.2.1 t
  | 0, m, p, g, W, hm, hi, h, k => by
    have e : m = 12 := by omega
    subst e
    exact ⟨Nat.le_refl 12, h, fun _ _ => rfl, fun _ _ => rfl, fun _ _ _ _ _ => rfl, fun _ _ => rfl⟩
  | r + 1, m, p, g, W, hm, hi, h, k => by
    unfold rp_ssk at k
    unfold rq_sn rq_ss rd_ss
    by_cases q : rp_let b n (rp_sk b n p) = true
    · rw [if_pos q] at k
      rw [if_pos q, if_pos q, if_pos q]
      obtain ⟨k1, k2⟩ := rp_k20 k
      obtain ⟨kd, f, s, hW0, s1, s2, s3, s4⟩ := sd_step (P := 97 + 37 * K + 3 * m) (g := g) (W := W) k1
      have hW := sd_addS (k := kd) (f := f) (s := s) hi hK h.1 (by omega)
      rw [← hW0] at hW
      have h2 : sd_stp (rq_step b n m (rp_sk b n p) (97 + 37 * K + 3 * m) g) (rd_step b n m (rp_sk b n p) W).2.1 K (m + 1) := by
        rw [hW]
        refine ⟨rf_upd_eq, fun i hi2 => ?_⟩
        show _ = upd (W.2.1 3) (12 * K + m) kd (12 * K + i) ∧ _ = upd (W.2.1 4) (12 * K + m) f (12 * K + i) ∧ _ = upd (W.2.1 5) (12 * K + m) s (12 * K + i)
        by_cases z : i = m
        · rw [z, rf_upd_eq, rf_upd_eq, rf_upd_eq]
          exact ⟨s1, by have q9 := s2; rw [show 97 + 37 * K + 3 * m + 1 = 98 + 37 * K + 3 * m from by omega] at q9; exact q9, by have q9 := s3; rw [show 97 + 37 * K + 3 * m + 2 = 99 + 37 * K + 3 * m from by omega] at q9; exact q9⟩
        · rw [rf_upd_ne (by omega), rf_upd_ne (by omega), rf_upd_ne (by omega), s4 _ (by omega), s4 _ (by omega), s4 _ (by omega)]
          exact h.2 i (by omega)
      have hi' : (((rd_step b n m (rp_sk b n p) W).1 10) - 1).toInt = K := by
        rw [rd_stepx.1]
        exact hi
      obtain ⟨a1, a2, a3, a4, a5, a6⟩ := sd_ss hK r (m + 1) (rp_stp b n m (rp_sk b n p)) _ _ (by omega) hi' h2 k2
      refine ⟨a1, a2, fun j hj => (a3 j hj).trans (s4 j (by omega)), fun i hi2 => (a4 i hi2).trans ?_, fun t h1 h2 j hj => (a5 t h1 h2 j hj).trans ?_, fun t ht => (a6 t ht).trans ?_⟩
      · rw [hW]
        exact rf_upd_ne hi2
      · rw [hW]
        rcases (by omega : t = 3 ∨ t = 4 ∨ t = 5) with z | z | z <;> subst z <;> exact rf_upd_ne (by omega)
      · rw [hW]
        show (if t = 5 then _ else if t = 4 then _ else if t = 3 then _ else if t = 2 then _ else W.2.1 t) = W.2.1 t
        rw [if_neg (by omega), if_neg (by omega), if_neg (by omega), if_neg (by omega)]
    · rw [if_neg q, if_neg q, if_neg q]
      exact ⟨by omega, h, fun _ _ => rfl, fun _ _ => rfl, fun _ _ _ _ _ => rfl, fun _ _ => rfl⟩
theorem sd_prog {b : Nat → Int32} {n q : Int32} {g : Nat → Int32} {W : fw_W} {x : Nat → fw_C} (h : sd g W x) (h4 : (g 10).toInt < 4) (k : rp_ssk b n 12 0 (rp_we b n q) = 0) : sd (rq_prog b n q g) (rd_prog b n q W) x := by
  obtain ⟨⟨n1, n2, n3, n4, n5⟩, ⟨b1, b2, b3⟩, c, p, o⟩ := h
  obtain ⟨K, hK⟩ : ∃ K : Nat, (g 10).toInt = K := ⟨(g 10).toInt.toNat, by omega⟩
  have hKn : (g 10).toInt.toNat = K := by omega
  have hW10 : (W.1 10).toInt = K := by rw [← n4]; exact hK
  have x1 := rd_ssx (b := b) (n := n) 12 0 (rp_we b n q) (fw_addP W)
  have hi : (((fw_addP W).1 10) - 1).toInt = K := by
    show ((W.1 10) + 1 - 1).toInt = K
    rw [rd_mm]
    exact hW10
  have hr0 : (fw_addP W).2.1 2 = upd (W.2.1 2) K 0 := fw_ptK hW10 (by omega)
  have hrt : ∀ t : Nat, t ≠ 2 → (fw_addP W).2.1 t = W.2.1 t := fun t ht => if_neg ht
  obtain ⟨a1, a2, a3, a4, a5, a6⟩ := sd_ss (b := b) (n := n) (K := K) (by omega) 12 0 (rp_we b n q) g (fw_addP W) (by omega) hi ⟨by rw [hr0]; exact rf_upd_eq, fun s hs => absurd hs (Nat.not_lt_zero s)⟩ k
  unfold rq_prog rd_prog
  rw [hKn]
  generalize rq_sn b n 12 0 (rp_we b n q) = M at a1 a2 ⊢
  generalize rd_ss b n 12 0 (rp_we b n q) (fw_addP W) = V at a2 a4 a5 a6 x1 ⊢
  generalize rq_ss b n (97 + 37 * K) 12 0 (rp_we b n q) g = G at a2 a3 ⊢
  have gF : ∀ j : Nat, j ≠ 10 → (j < 96 + 37 * K ∨ 133 + 37 * K ≤ j) → rq_cnt G (96 + 37 * K) M 10 j = g j := fun j h1 h2 => (rq_cntF (by omega) h1).trans (a3 j (by omega))
  have g10 : rq_cnt G (96 + 37 * K) M 10 10 = g 10 + 1 := (rq_cntC (by omega)).trans (by rw [a3 10 (by omega)])
  have g10i : (rq_cnt G (96 + 37 * K) M 10 10).toInt = K + 1 := by rw [g10, rf_p1 (by omega), hK]
  have g9 := gF 9 (by omega) (by omega)
  have g11 := gF 11 (by omega) (by omega)
  have V1 : ∀ j : Nat, j ≠ 10 → V.1 j = W.1 j := fun j hj => by
    rw [x1.1]
    show (if j = 10 then _ else W.1 j) = W.1 j
    rw [if_neg hj]
  have V10 : V.1 10 = W.1 10 + 1 := by rw [x1.1]; rfl
  have r2 : ∀ i : Nat, i < K → V.2.1 2 i = W.2.1 2 i := fun i hi2 => by
    rw [a4 i (by omega), hr0]
    exact rf_upd_ne (by omega)
  have r3 : ∀ t : Nat, 3 ≤ t → t ≤ 5 → ∀ j : Nat, j < 12 * K → V.2.1 t j = W.2.1 t j := fun t h1 h2 j hj => by rw [a5 t h1 h2 j hj, hrt t (by omega)]
  have rt : ∀ t : Nat, t < 2 → V.2.1 t = W.2.1 t := fun t ht => by rw [a6 t (by omega), hrt t (by omega)]
  rw [hKn] at p
  refine ⟨⟨fun j hj => ?_, fun j h1 h2 => ?_, ?_, ?_, ?_⟩, ⟨?_, ?_, ?_⟩, ?_, ?_, fun k hk => ?_⟩
  · rw [gF j (by omega) (by omega), V1 j (by omega)]; exact n1 j hj
  · rw [gF j (by omega) (by omega), V1 j (by omega)]; exact n2 j h1 h2
  · rw [g9, V1 9 (by omega)]; exact n3
  · rw [g10, V10, n4]
  · rw [g11, V1 11 (by omega)]; exact n5
  · rw [g9]; exact b1
  · rw [g10i]; omega
  · rw [g11]; exact b3
  · rw [g11]
    exact sd_cursF (fun j h1 h2 => gF j (by omega) (by omega)) (fun i _ => by rw [rt 0 (by omega)]) (fun j _ => by rw [rt 1 (by omega)]) c
  · rw [show (rq_cnt G (96 + 37 * K) M 10 10).toInt.toNat = K + 1 from by omega]
    intro i hi2
    by_cases z : i = K
    · subst z
      refine ⟨M, a1, rq_cntP (by omega), a2.1, fun s hs => ?_⟩
      rw [rq_cntF (by omega) (by omega), rq_cntF (by omega) (by omega), rq_cntF (by omega) (by omega)]
      exact a2.2 s hs
    · exact sd_prgF (fun j h1 h2 => gF j (by omega) (by omega)) r2 r3 p i (by omega)
  · rw [g9] at hk
    rw [g11]
    exact sd_oneF (fun j h1 h2 => gF j (by omega) (by omega)) (Nat.le_refl _) (fun i _ => by rw [rt 0 (by omega)]) (fun j _ => by rw [rt 1 (by omega)]) (sd_curb c) (o k hk)
/-- which curve a cell has -/
theorem rq_ixu {N : List (List Int32)} {w : List Int32} {i : Nat} (h : ∀ j : Nat, N[j]? = some w → j = i) (hi : N[i]? = some w) : ∀ k : Nat, i < k → rq_ix N w k = Int32.ofNat i
  | 0, hk => absurd hk (Nat.not_lt_zero i)
  | k + 1, hk => by
    unfold rq_ix
    by_cases q : N[k]? = some w
    · rw [if_pos q, h k q]
    · rw [if_neg q]
      exact rq_ixu h hi k (by
        by_cases z : i = k
        · subst z; exact absurd hi q
        · omega)
theorem sd_ixe {N : List (List Int32)} {w : List Int32} {W : fw_W} (hN : rp_N N (W.1 11) W.2.2) (hD : N.Nodup) (hw : w ∈ N) : ∃ i : Nat, i < N.length ∧ rd_ix W w = Int32.ofNat i ∧ rq_ix N w N.length = Int32.ofNat i := by
  obtain ⟨i, hi, e⟩ := List.getElem_of_mem hw
  have ei : N[i]? = some w := by rw [List.getElem?_eq_getElem hi, e]
  have hu : ∀ j : Nat, N[j]? = some w → j = i := fun j hj => by
    have hl : j < N.length := (List.getElem?_eq_some_iff.mp hj).1
    exact (List.getElem?_inj hl hD).mp (hj.trans ei.symm)
  have nw := hN.2.2.2 w hw
  refine ⟨i, hi, ?_, rq_ixu hu ei _ hi⟩
  unfold rd_ix
  have hc : (W.1 11).toInt.toNat = N.length := by rw [hN.1]; omega
  rw [hc, show N.length = i + 1 + (N.length - (i + 1)) from by omega]
  refine fw_fd1 (by have := hN.2.1; omega) (fun j hj q => ?_) (hN.2.2.1 i w ei) _
  have hl : j < N.length := by omega
  have g := List.getElem?_eq_getElem hl
  rw [hN.2.2.1 j _ g] at q
  have n := hN.2.2.2 _ (List.getElem_mem hl)
  have z := rp_cdi n.1.2 n.2 nw.1.2 nw.2 q
  rw [z] at g
  exact absurd (hu j g) (by omega)
theorem rq_cellVF {b : Nat → Int32} {n p i : Int32} {X j : Nat} {g : Nat → Int32} (h : j < X + 11 ∨ X + 15 < j) : rq_cellV b n p X i g j = g j := by
  unfold rq_cellV
  rw [rf_upd_ne (by omega), rf_upd_ne (by omega), rf_upd_ne (by omega), rf_upd_ne (by omega), rf_upd_ne (by omega)]
theorem sd_cell {b : Nat → Int32} {n q : Int32} {N : List (List Int32)} {g : Nat → Int32} {W : fw_W} {x : Nat → fw_C} (h : sd g W x) (h6 : (g 9).toInt < 6) (hN : rp_N N (W.1 11) W.2.2) (hD : N.Nodup) (hw : rp_w b n (rp_q2 b n q) ∈ N) : sd (rq_cell b n N q g) (rd_cellW W) (rd_cellX b n q W x) := by
  obtain ⟨⟨n1, n2, n3, n4, n5⟩, ⟨b1, b2, b3⟩, c, p, o⟩ := h
  obtain ⟨K, hK⟩ : ∃ K : Nat, (g 9).toInt = K := ⟨(g 9).toInt.toNat, by omega⟩
  have hKn : (g 9).toInt.toNat = K := by omega
  have hW9 : (W.1 9).toInt = K := by rw [← n3]; exact hK
  have hW9n : (W.1 9).toNatClampNeg = K := by
    show (W.1 9).toInt.toNat = K
    omega
  obtain ⟨i, hi, e1, e2⟩ := sd_ixe hN hD hw
  have hcn : (g 11).toInt.toNat = N.length := by rw [n5, hN.1]; omega
  have hil : i < 4 := by have := hN.2.1; omega
  unfold rq_cell rd_cellX rd_cellC
  rw [hKn, e1, e2, hW9n]
  have hoi : (Int32.ofNat i).toInt = i := sd_ofn (by omega)
  rw [fw_atK (n := 4) hoi hil]
  generalize hG : rq_cellV b n (rp_we b n (rp_q2 b n q)) (244 + 54 * K) (Int32.ofNat i) g = G
  have f : ∀ j : Nat, (j < 255 + 54 * K ∨ 259 + 54 * K < j) → G j = g j := fun j hj => by rw [← hG]; exact rq_cellVF (by omega)
  have gF : ∀ j : Nat, j ≠ 9 → (j < 255 + 54 * K ∨ 259 + 54 * K < j) → upd G 9 (G 9 + 1) j = g j := fun j h1 h2 => (rf_upd_ne h1).trans (f j h2)
  have g9 : upd G 9 (G 9 + 1) 9 = g 9 + 1 := by rw [rf_upd_eq, f 9 (by omega)]
  have g9i : (upd G 9 (G 9 + 1) 9).toInt = K + 1 := by rw [g9, rf_p1 (by omega), hK]
  have g10 := gF 10 (by omega) (by omega)
  have g11 := gF 11 (by omega) (by omega)
  have V1 : ∀ j : Nat, j ≠ 9 → (rd_cellW W).1 j = W.1 j := fun j hj => if_neg hj
  have V9 : (rd_cellW W).1 9 = W.1 9 + 1 := rfl
  have hR : (rd_cellW W).2.1 = W.2.1 := rfl
  unfold sd
  rw [hR]
  refine ⟨⟨fun j hj => ?_, fun j h1 h2 => ?_, ?_, ?_, ?_⟩, ⟨?_, ?_, ?_⟩, ?_, ?_, fun k hk => ?_⟩
  · rw [gF j (by omega) (by omega), V1 j (by omega)]; exact n1 j hj
  · rw [gF j (by omega) (by omega), V1 j (by omega)]; exact n2 j h1 h2
  · rw [g9, V9, n3]
  · rw [g10, V1 10 (by omega)]; exact n4
  · rw [g11, V1 11 (by omega)]; exact n5
  · rw [g9i]; omega
  · rw [g10]; exact b2
  · rw [g11]; exact b3
  · rw [g11]
    exact sd_cursF (fun j h1 h2 => gF j (by omega) (by omega)) (fun _ _ => rfl) (fun _ _ => rfl) c
  · rw [g10]
    exact sd_prgF (fun j h1 h2 => gF j (by omega) (by omega)) (fun _ _ => rfl) (fun _ _ _ _ _ => rfl) p
  · rw [g11]
    rw [show (upd G 9 (G 9 + 1) 9).toInt.toNat = K + 1 from by omega] at hk
    by_cases z : k = K
    · subst z
      have ex : ∀ y : Nat → fw_C, ∀ u : fw_C, fw_sx y k u k = u := fun y u => if_pos rfl
      rw [ex]
      refine ⟨i, by omega, ?_, rfl, fun j h1 h2 => ?_, fun j hj => ?_⟩
      · rw [rf_upd_ne (by omega), ← hG]
        unfold rq_cellV
        rw [rf_upd_ne (by omega), rf_upd_ne (by omega), rf_upd_ne (by omega), rf_upd_ne (by omega), show 255 + 54 * k = 244 + 54 * k + 11 from by omega, rf_upd_eq]
      · rw [rf_upd_ne (by omega), ← hG]
        unfold rq_cellV
        rcases (by omega : j = 12 ∨ j = 13 ∨ j = 14 ∨ j = 15) with y | y | y | y <;> subst y
        · rw [rf_upd_ne (by omega), rf_upd_ne (by omega), rf_upd_ne (by omega), rf_upd_eq]; rfl
        · rw [rf_upd_ne (by omega), rf_upd_ne (by omega), rf_upd_eq]; rfl
        · rw [rf_upd_ne (by omega), rf_upd_eq]; rfl
        · rw [rf_upd_eq]; rfl
      · have hb := sd_curb c i (by omega)
        show (if j < (W.2.1 0 i).toInt.toNat ∧ j < 11 then fw_at 44 (W.2.1 1) (Int32.ofNat i * 11 + Int32.ofNat j) else _) = _
        rw [if_pos (by omega)]
        have e := sd_idx (a := 11) (A := 11) (m := j) hoi (by decide) hil (by omega) (by omega)
        exact fw_atK (K := 11 * i + j) (by omega) (by omega)
    · have ex : ∀ y : Nat → fw_C, ∀ u : fw_C, fw_sx y K u k = y k := fun y u => if_neg z
      rw [ex]
      exact sd_oneF (fun j h1 h2 => gF j (by omega) (by omega)) (Nat.le_refl _) (fun _ _ => rfl) (fun _ _ => rfl) (sd_curb c) (o k (by omega))
/-- a whole text -/
theorem sd_wl {b : Nat → Int32} {n q : Int32} (hn : n.toInt ≤ 800) (hq : 0 ≤ q.toInt ∧ q.toInt ≤ n.toInt) (h : (rp_w b n q).length ≤ 6) : (rp_we b n q - q).toInt ≤ 6 := by
  have w := rp_we_b (b := b) hn hq
  have s := rm_sz (b := b) (n := n) (q := q) ⟨hq.1, w.1⟩
  omega
theorem rp_t0' {b : Nat → Int32} {n q : Int32} (h1 : ¬ rp_wh b n q = 1) (h2 : ¬ rp_wh b n q = 2) (h3 : ¬ rp_wh b n q = 3) : rp_wh b n q = 0 := by
  unfold rp_wh at h1 h2 h3 ⊢
  by_cases a : rp_w b n q = [99, 117, 114, 118, 101]
  · rw [if_pos a] at h1; exact absurd rfl h1
  · rw [if_neg a] at h2 h3 ⊢
    by_cases c : rp_w b n q = [99, 101, 108, 108]
    · rw [if_pos c] at h2; exact absurd rfl h2
    · rw [if_neg c] at h3 ⊢
      by_cases d : rp_w b n q = [112, 114, 111, 103, 114, 97, 109]
      · rw [if_pos d] at h3; exact absurd rfl h3
      · rw [if_neg d]
theorem rp_nodN {N : List (List Int32)} {w : List Int32} (hD : N.Nodup) (h : ¬ w ∈ N) : (N ++ [w]).Nodup := by
  rw [List.nodup_append]
  refine ⟨hD, by simp, fun a ha b hb => ?_⟩
  intro e
  subst e
  exact h (by rw [← List.mem_singleton.mp hb]; exact ha)
theorem sd_t {b : Nat → Int32} {n q : Int32} {N : List (List Int32)} {np nc : Int} {g : Nat → Int32} {W : fw_W} {x : Nat → fw_C} (hn : n.toInt ≤ 800) (hq : 0 ≤ q.toInt ∧ q.toInt ≤ n.toInt) (h : sd g W x) (hN : rp_N N (W.1 11) W.2.2) (hD : N.Nodup) (e9 : (g 9).toInt = nc) (e10 : (g 10).toInt = np) (k : rp_tk b n N np nc q = 0) :
    sd (rq_t b n N q g) (rd_tW b n q (W, x)).1 (rd_tW b n q (W, x)).2 ∧ rp_N (rp_tN b n N q) ((rd_tW b n q (W, x)).1.1 11) (rd_tW b n q (W, x)).1.2.2 ∧ (rp_tN b n N q).Nodup ∧ (rq_t b n N q g 9).toInt = rp_tc b n q nc ∧ (rq_t b n N q g 10).toInt = rp_tg b n q np := by
  have e11 : (g 11).toInt = N.length := by rw [h.1.2.2.2.2]; exact hN.1
  have w0 := rp_we_b (b := b) (p := q) hn (by omega)
  have q20 : 0 ≤ (rp_q2 b n q).toInt ∧ (rp_q2 b n q).toInt ≤ n.toInt := by
    have := rp_sk_b (b := b) (p := rp_we b n q) hn (by omega)
    show 0 ≤ (rp_sk b n (rp_we b n q)).toInt ∧ (rp_sk b n (rp_we b n q)).toInt ≤ n.toInt
    omega
  have key : ∀ G : Nat → Int32, ∀ V : fw_W, ∀ y : Nat → fw_C, sd G V y → (V.1 9).toInt = rp_tc b n q nc → (V.1 10).toInt = rp_tg b n q np → (G 9).toInt = rp_tc b n q nc ∧ (G 10).toInt = rp_tg b n q np := fun G V y s a c => ⟨by rw [s.1.2.2.1]; exact a, by rw [s.1.2.2.2.1]; exact c⟩
  have W9 : (W.1 9).toInt = nc := by rw [← h.1.2.2.1]; exact e9
  have W10 : (W.1 10).toInt = np := by rw [← h.1.2.2.2.1]; exact e10
  unfold rp_tk at k
  unfold rq_t rd_tW rp_tN
  by_cases c1 : rp_wh b n q = 1
  · rw [c1] at k ⊢
    have k' : rp_ck b n N q = 0 := k
    have hB := rp_cB hn q20 hN k'
    have h4 : ¬ 4 ≤ N.length := fun z => by
      rw [show rp_ck b n N q = 4 from if_pos z] at k'
      exact absurd k' (by decide)
    have nw := hB.2.2.2 _ (List.mem_append_right N (List.mem_singleton.mpr rfl))
    have nin : ¬ rp_w b n (rp_q2 b n q) ∈ N := by
      unfold rp_ck at k'
      rw [if_neg h4] at k'
      by_cases l : ¬ rp_let b n (rp_q2 b n q) = true
      · rw [if_pos l] at k'; exact absurd k' (by decide)
      · rw [if_neg l] at k'
        intro z
        rw [if_pos (Or.inr z)] at k'
        exact absurd k' (by decide)
    have s := sd_curve (b := b) (n := n) (q := q) h (by omega) (sd_wl hn q20 nw.1.2)
    have xx := rd_curvex (b := b) (n := n) (q := q) (W := W)
    refine ⟨s, ?_, by rw [if_pos rfl]; exact rp_nodN hD nin, key _ _ _ s ?_ ?_⟩
    · rw [if_pos rfl]
      show rp_N _ ((rd_curve b n q W).1 11) (rd_curve b n q W).2.2
      rw [xx.2.2.1, xx.2.2.2]
      exact hB
    · show ((rd_curve b n q W).1 9).toInt = _
      rw [xx.1, W9]
      unfold rp_tc
      rw [if_neg (by rw [c1]; decide)]
    · show ((rd_curve b n q W).1 10).toInt = _
      rw [xx.2.1, W10]
      unfold rp_tg
      rw [if_neg (by rw [c1]; decide)]
  · by_cases c2 : rp_wh b n q = 2
    · rw [c2] at k ⊢
      have k' : rp_lk b n N nc q = 0 := k
      have h6 := rp_lk6 k'
      have hin : rp_w b n (rp_q2 b n q) ∈ N := by
        unfold rp_lk at k'
        rw [if_neg h6] at k'
        by_cases l : ¬ rp_let b n (rp_q2 b n q) = true
        · rw [if_pos l] at k'; exact absurd k' (by decide)
        · rw [if_neg l] at k'
          by_cases z : 6 < (rp_w b n (rp_q2 b n q)).length ∨ ¬ rp_w b n (rp_q2 b n q) ∈ N
          · rw [if_pos z] at k'; exact absurd k' (by decide)
          · exact Classical.not_not.mp (fun y => z (Or.inr y))
      have s := sd_cell (b := b) (n := n) (q := q) h (by omega) hN hD hin
      refine ⟨s, ?_, by rw [if_neg (by decide)]; exact hD, key _ _ _ s ?_ ?_⟩
      · rw [if_neg (by decide)]
        exact hN
      · show (W.1 9 + 1).toInt = _
        rw [rf_p1 (by have := h.2.1.1; rw [h.1.2.2.1] at this; omega), W9]
        unfold rp_tc
        rw [if_pos c2]
      · show (W.1 10).toInt = _
        rw [W10]
        unfold rp_tg
        rw [if_neg (by rw [c2]; decide)]
    · by_cases c3 : rp_wh b n q = 3
      · rw [c3] at k ⊢
        have k' : rp_gk b n np q = 0 := k
        have h4 := rp_gk4 k'
        have ks : rp_ssk b n 12 0 (rp_we b n q) = 0 := by
          unfold rp_gk at k'
          rw [if_neg h4] at k'
          exact k'
        have s := sd_prog (b := b) (n := n) (q := q) h (by omega) ks
        have xx := rd_progx (b := b) (n := n) (q := q) (W := W)
        refine ⟨s, ?_, by rw [if_neg (by decide)]; exact hD, key _ _ _ s ?_ ?_⟩
        · rw [if_neg (by decide)]
          show rp_N _ ((rd_prog b n q W).1 11) (rd_prog b n q W).2.2
          rw [xx.2.2.1, xx.2.2.2]
          exact hN
        · show ((rd_prog b n q W).1 9).toInt = _
          rw [xx.1, W9]
          unfold rp_tc
          rw [if_neg (by rw [c3]; decide)]
        · show ((rd_prog b n q W).1 10).toInt = _
          rw [xx.2.1, rf_p1 (by have := h.2.1.2.1; rw [h.1.2.2.2.1] at this; omega), W10]
          unfold rp_tg
          rw [if_pos c3]
      · have t := rp_t0' c1 c2 c3
        rw [t] at k ⊢
        have k' : rp_ek b n q = 0 := k
        have s := sd_sets (b := b) (n := n) (q := q) h k'
        have xx := rd_setx (b := b) (n := n) (q := q) (W := W)
        refine ⟨s, ?_, by rw [if_neg (by decide)]; exact hD, key _ _ _ s ?_ ?_⟩
        · rw [if_neg (by decide)]
          show rp_N _ ((rd_set b n q W).1 11) (rd_set b n q W).2.2
          rw [xx.2.2.1, xx.2.2.2]
          exact hN
        · show ((rd_set b n q W).1 9).toInt = _
          rw [xx.1, W9]
          unfold rp_tc
          rw [if_neg c2]
        · show ((rd_set b n q W).1 10).toInt = _
          rw [xx.2.1, W10]
          unfold rp_tg
          rw [if_neg c3]
/-- the names on the reference's side -/
theorem rm_NF {N : List (List Int32)} {g h : Nat → Int32} (hl : N.length ≤ 4) (e11 : h 11 = g 11) (e : ∀ j : Nat, 20 ≤ j → j < 96 → h j = g j) (k : rm_N N g) : rm_N N h := by
  refine ⟨by rw [e11]; exact k.1, fun i w hi => ?_⟩
  have il : i < N.length := (List.getElem?_eq_some_iff.mp hi).1
  obtain ⟨a, c, d⟩ := k.2 i w hi
  exact ⟨rm_Wk d (fun j h1 h2 => e j (by omega) (by omega)) a, c, d⟩
theorem rq_nmV {b : Nat → Int32} {q z : Int32} {P : Nat} {g : Nat → Int32} : ∀ k : Nat, rq_nm b q P z g k P = z ∧ ∀ j : Nat, j < k → rq_nm b q P z g k (P + 1 + j) = b (q.toInt.toNat + j)
  | 0 => ⟨rf_upd_eq, fun j hj => absurd hj (Nat.not_lt_zero j)⟩
  | k + 1 => by
    have h := rq_nmV (b := b) (q := q) (z := z) (P := P) (g := g) k
    refine ⟨(rf_upd_ne (by omega)).trans h.1, fun j hj => ?_⟩
    by_cases y : j = k
    · subst y
      exact rf_upd_eq
    · exact (rf_upd_ne (by omega)).trans (h.2 j (by omega))
theorem rq_stF {b : Nat → Int32} {n q : Int32} {m : Int} {P j : Nat} {g : Nat → Int32} (h : j < P ∨ P + 3 ≤ j) : rq_step b n m q P g j = g j := by
  unfold rq_step
  split
  · exact sd_s3a.2.2.2 j h
  · split
    · exact sd_s3a.2.2.2 j h
    · split
      · exact sd_s3a.2.2.2 j h
      · split
        · exact sd_s3b.2.2.2 j h
        · split
          · exact sd_s3a.2.2.2 j h
          · rfl
theorem rq_ssF {b : Nat → Int32} {n : Int32} {B j : Nat} (h : j < B) : ∀ (r m : Nat) (p : Int32) (g : Nat → Int32), rq_ss b n B r m p g j = g j
  | 0, _, _, _ => rfl
  | r + 1, m, p, g => by
    unfold rq_ss
    by_cases q : rp_let b n (rp_sk b n p) = true
    · rw [if_pos q, rq_ssF h r]
      exact rq_stF (by omega)
    · rw [if_neg q]
theorem rq_vvF {b : Nat → Int32} {n : Int32} {B j : Nat} (h : j < B) : ∀ (r m : Nat) (v : Int) (p : Int32) (g : Nat → Int32), rq_vv b n B r m v p g j = g j
  | 0, _, _, _, _ => rfl
  | r + 1, m, v, p, g => by
    unfold rq_vv
    by_cases q : 2 ≤ m ∧ ¬ rp_dig b n (rp_sk b n p) = true
    · rw [if_pos q]
    · rw [if_neg q, rq_vvF h r]
      exact rf_upd_ne (by omega)
theorem rq_setF {b : Nat → Int32} {n q : Int32} {j : Nat} {g : Nat → Int32} (h : j = 11 ∨ 20 ≤ j) : rq_set b n q g j = g j := by
  unfold rq_set
  split
  · exact rf_upd_ne (by omega)
  · split
    · exact rf_upd_ne (by omega)
    · split
      · rw [rf_upd_ne (by omega), rf_upd_ne (by omega)]
      · split
        · rw [rf_upd_ne (by omega), rf_upd_ne (by omega), rf_upd_ne (by omega)]
        · split
          · exact rf_upd_ne (by omega)
          · split
            · rw [rf_upd_ne (by omega), rf_upd_ne (by omega), rf_upd_ne (by omega)]
            · split
              · exact rf_upd_ne (by omega)
              · rfl
theorem rm_gd {b : Nat → Int32} {n q m : Int32} {j : Nat} (hm : m.toInt = (rp_we b n q).toInt - q.toInt) (hj : j < m.toInt.toNat) : b (q.toInt.toNat + j) = (rp_w b n q).getD j 0 := by
  rw [← rm_ww hm, rm_wg hj]
theorem rm_curve {b : Nat → Int32} {n q : Int32} {N : List (List Int32)} {g : Nat → Int32} (hn : n.toInt ≤ 800) (hq : 0 ≤ (rp_q2 b n q).toInt ∧ (rp_q2 b n q).toInt ≤ n.toInt) (k : rm_N N g) (h4 : N.length < 4) (hl : 1 ≤ (rp_w b n (rp_q2 b n q)).length ∧ (rp_w b n (rp_q2 b n q)).length ≤ 6) : rm_N (N ++ [rp_w b n (rp_q2 b n q)]) (rq_curve b n q g) := by
  have k1 := k.1
  have hK : (g 11).toInt.toNat = N.length := by omega
  have w0 := rp_we_b (b := b) hn hq
  have sz := rm_sz (b := b) (n := n) (q := rp_q2 b n q) ⟨hq.1, w0.1⟩
  unfold rq_curve
  rw [hK]
  have nv := rq_nmV (b := b) (q := rp_q2 b n q) (z := rp_we b n (rp_q2 b n q) - rp_q2 b n q) (P := 20 + 19 * N.length) (g := g) (rp_we b n (rp_q2 b n q) - rp_q2 b n q).toInt.toNat
  have nf : ∀ j : Nat, j < 20 + 19 * N.length → rq_nm b (rp_q2 b n q) (20 + 19 * N.length) (rp_we b n (rp_q2 b n q) - rp_q2 b n q) g (rp_we b n (rp_q2 b n q) - rp_q2 b n q).toInt.toNat j = g j := fun j hj => rq_nmF _ (by omega)
  generalize rq_nm b (rp_q2 b n q) (20 + 19 * N.length) (rp_we b n (rp_q2 b n q) - rp_q2 b n q) g (rp_we b n (rp_q2 b n q) - rp_q2 b n q).toInt.toNat = G0 at nv nf ⊢
  have vf : ∀ j : Nat, j < 28 + 19 * N.length → rq_vv b n (28 + 19 * N.length) 11 0 0 (rp_we b n (rp_q2 b n q)) G0 j = G0 j := fun j hj => rq_vvF hj 11 0 0 _ G0
  generalize rq_vv b n (28 + 19 * N.length) 11 0 0 (rp_we b n (rp_q2 b n q)) G0 = G at vf ⊢
  generalize rq_vn b n 11 0 0 (rp_we b n (rp_q2 b n q)) = M
  have f : ∀ j : Nat, j ≠ 11 → j < 27 + 19 * N.length → rq_cnt G (27 + 19 * N.length) M 11 j = G0 j := fun j h1 h2 => (rq_cntF (by omega) h1).trans (vf j (by omega))
  refine ⟨?_, fun i w hi => ?_⟩
  · rw [rq_cntC (by omega), vf 11 (by omega), nf 11 (by omega), rf_p1 (by omega), List.length_append]
    show _ = ((N.length + 1 : Nat) : Int)
    omega
  · by_cases z : i < N.length
    · rw [List.getElem?_append_left z] at hi
      obtain ⟨a, c, d⟩ := k.2 i w hi
      exact ⟨rm_Wk d (fun j h1 h2 => by rw [f j (by omega) (by omega), nf j (by omega)]) a, c, d⟩
    · have il : i < (N ++ [rp_w b n (rp_q2 b n q)]).length := (List.getElem?_eq_some_iff.mp hi).1
      rw [List.length_append] at il
      have ei : i = N.length := by
        have : [rp_w b n (rp_q2 b n q)].length = 1 := rfl
        omega
      subst ei
      rw [List.getElem?_append_right (Nat.le_refl _), Nat.sub_self] at hi
      have hw : rp_w b n (rp_q2 b n q) = w := Option.some.inj hi
      rw [← hw]
      refine ⟨⟨?_, fun j hj => ?_⟩, hl⟩
      · rw [f _ (by omega) (by omega), nv.1]
        omega
      · have e := nv.2 j (by omega)
        rw [f _ (by omega) (by omega), show 21 + 19 * N.length + j = 20 + 19 * N.length + 1 + j from by omega, e]
        exact rm_gd sz.1 (by omega)
theorem rm_ta {b : Nat → Int32} {n q : Int32} {N : List (List Int32)} {np nc : Int} {g : Nat → Int32} (hn : n.toInt ≤ 800) (hq : 0 ≤ q.toInt ∧ q.toInt ≤ n.toInt) (k : rm_N N g) (kk : rp_ck b n N q = 0) : rm_N (N ++ [rp_w b n (rp_q2 b n q)]) (rq_curve b n q g) := by
  have w0 := rp_we_b (b := b) (p := q) hn hq
  have q20 : 0 ≤ (rp_q2 b n q).toInt ∧ (rp_q2 b n q).toInt ≤ n.toInt := by
    have := rp_sk_b (b := b) (p := rp_we b n q) hn (by omega)
    show 0 ≤ (rp_sk b n (rp_we b n q)).toInt ∧ (rp_sk b n (rp_we b n q)).toInt ≤ n.toInt
    omega
  have k' := kk
  unfold rp_ck at k'
  by_cases z4 : 4 ≤ N.length
  · rw [if_pos z4] at k'; exact absurd k' (by decide)
  · rw [if_neg z4] at k'
    by_cases l : ¬ rp_let b n (rp_q2 b n q) = true
    · rw [if_pos l] at k'; exact absurd k' (by decide)
    · rw [if_neg l] at k'
      by_cases z : 6 < (rp_w b n (rp_q2 b n q)).length ∨ rp_w b n (rp_q2 b n q) ∈ N
      · rw [if_pos z] at k'; exact absurd k' (by decide)
      · exact rm_curve hn q20 k (by omega) ⟨rm_w1 hn q20 (Classical.not_not.mp l), by omega⟩
theorem rm_tb {b : Nat → Int32} {n q : Int32} {N : List (List Int32)} {g : Nat → Int32} (h4 : N.length ≤ 4) (k : rm_N N g) : rm_N N (rq_cell b n N q g) := by
  unfold rq_cell
  exact rm_NF h4 ((rf_upd_ne (by omega)).trans (rq_cellVF (by omega))) (fun j h1 h2 => (rf_upd_ne (by omega)).trans (rq_cellVF (by omega))) k
theorem rm_tc {b : Nat → Int32} {n q : Int32} {N : List (List Int32)} {g : Nat → Int32} (h4 : N.length ≤ 4) (k : rm_N N g) : rm_N N (rq_prog b n q g) := by
  unfold rq_prog
  refine rm_NF h4 ((rq_cntF (by omega) (by omega)).trans ?_) (fun j h1 h2 => (rq_cntF (by omega) (by omega)).trans ?_) k
  · generalize (12 : Nat) = m
    exact rq_ssF (by omega) m 0 _ g
  · generalize (12 : Nat) = m
    exact rq_ssF (by omega) m 0 _ g
theorem rm_t {b : Nat → Int32} {n q : Int32} {N : List (List Int32)} {np nc : Int} {g : Nat → Int32} (hn : n.toInt ≤ 800) (hq : 0 ≤ q.toInt ∧ q.toInt ≤ n.toInt) (k : rm_N N g) (h4 : N.length ≤ 4) (h9 : 0 ≤ (g 9).toInt) (h10 : 0 ≤ (g 10).toInt) (kk : rp_tk b n N np nc q = 0) : rm_N (rp_tN b n N q) (rq_t b n N q g) := by
  unfold rp_tk at kk
  unfold rq_t rp_tN
  by_cases c1 : rp_wh b n q = 1
  · rw [c1] at kk ⊢
    rw [if_pos rfl]
    exact rm_ta (np := np) (nc := nc) hn hq k kk
  · by_cases c2 : rp_wh b n q = 2
    · rw [c2, if_neg (by decide)]
      exact rm_tb h4 k
    · by_cases c3 : rp_wh b n q = 3
      · rw [c3, if_neg (by decide)]
        exact rm_tc h4 k
      · rw [rp_t0' c1 c2 c3, if_neg (by decide)]
        exact rm_NF h4 (rq_setF (Or.inl rfl)) (fun j h1 h2 => rq_setF (Or.inr h1)) k
set_option maxHeartbeats 4000000 in
theorem sd_x {b : Nat → Int32} {n : Int32} (hn : n.toInt ≤ 800) : ∀ (r : Nat) (N : List (List Int32)) (np nc : Int) (p : Int32) (g : Nat → Int32) (W : fw_W) (x : Nat → fw_C), (0 ≤ p.toInt ∧ p.toInt ≤ n.toInt) → sd g W x → rp_N N (W.1 11) W.2.2 → N.Nodup → rm_N N g → (g 9).toInt = nc → (g 10).toInt = np → rp_xk b n r N np nc p = 0 →
    ∃ N1 : List (List Int32), sd (rq_x b n r N np nc p g) (rd_x b n r N np nc p (W, x)).1 (rd_x b n r N np nc p (W, x)).2 ∧ rp_N N1 ((rd_x b n r N np nc p (W, x)).1.1 11) (rd_x b n r N np nc p (W, x)).1.2.2 ∧ N1.Nodup ∧ rm_N N1 (rq_x b n r N np nc p g)
  | 0, N, np, nc, p, g, W, x, hp, h, hN, hD, hm, e9, e10, k => absurd k (by show ¬ (1 : Int32) = 0; decide)
  | r + 1, N, np, nc, p, g, W, x, hp, h, hN, hD, hm, e9, e10, k => by
    have s := rp_sk_b (b := b) (p := p) hn hp
    have t := rp_tpb (b := b) (N := N) (np := np) (nc := nc) (q := rp_sk b n p) hn (by omega)
    have s2 := rp_sk_b (b := b) (p := rp_tp b n N np nc (rp_sk b n p)) hn (by omega)
    unfold rp_xk at k
    by_cases k0 : rp_tk b n N np nc (rp_sk b n p) = 0
    · rw [if_neg (fun z => z k0)] at k
      obtain ⟨a1, a2, a3, a4, a5⟩ := sd_t hn (by omega) h hN hD e9 e10 k0
      have m1 := rm_t (g := g) hn (by omega) hm hN.2.1 h.2.1.1.1 h.2.1.2.1.1 k0
      unfold rq_x rd_x
      by_cases c : rf_bt b n (rp_sk b n (rp_tp b n N np nc (rp_sk b n p))) = 59
      · rw [if_pos c] at k
        rw [if_pos c, if_pos c]
        have l : (rp_sk b n (rp_tp b n N np nc (rp_sk b n p))).toInt < n.toInt := rp_btl (fun z => by rw [z] at c; exact absurd c (by decide))
        have e2 : (rp_sk b n (rp_tp b n N np nc (rp_sk b n p)) + 1).toInt = (rp_sk b n (rp_tp b n N np nc (rp_sk b n p))).toInt + 1 := rf_p1 (by omega)
        exact sd_x hn r _ _ _ _ _ (rd_tW b n (rp_sk b n p) (W, x)).1 (rd_tW b n (rp_sk b n p) (W, x)).2 (by omega) a1 a2 a3 m1 a4 a5 k
      · rw [if_neg c, if_neg c]
        exact ⟨_, a1, a2, a3, m1⟩
    · rw [if_pos k0] at k
      exact absurd k k0
/-! behind load() -/
theorem rq_begF {f : Nat → Int32} {P j : Nat} {q : Int32} (h : j < P ∨ P + 54 ≤ j ∨ (P + 11 ≤ j ∧ j ≤ P + 15)) : rq_beg f P q j = f j := by
  unfold rq_beg
  rw [rf_upd_ne (by omega), rf_upd_ne (by omega), rf_upd_ne (by omega), rf_upd_ne (by omega), rf_upd_ne (by omega), rf_upd_ne (by omega), rf_upd_ne (by omega), rf_upd_ne (by omega)]
  unfold rf_bz
  rw [if_neg (by omega)]
theorem rq_ldF {g : Nat → Int32} {j : Nat} (h : j < 244 ∨ ∃ k : Nat, 255 + 54 * k ≤ j ∧ j ≤ 259 + 54 * k) : ∀ n : Nat, rq_ld g n j = g j
  | 0 => rfl
  | n + 1 => by
    refine (rq_begF ?_).trans (rq_ldF h n)
    rcases h with h | ⟨k, h1, h2⟩
    · exact Or.inl (by omega)
    · by_cases q : k < n
      · exact Or.inl (by omega)
      · by_cases q2 : k = n
        · exact Or.inr (Or.inr (by omega))
        · exact Or.inr (Or.inl (by omega))
/-- the description of a world, as another has it -/
def sd_W (W V : fw_W) : Prop := (∀ j : Nat, (j < 8 ∨ (9 ≤ j ∧ j ≤ 11) ∨ (13 ≤ j ∧ j ≤ 16)) → V.1 j = W.1 j) ∧ (∀ i : Nat, i < 4 → V.2.1 0 i = W.2.1 0 i) ∧ (∀ i : Nat, i < 44 → V.2.1 1 i = W.2.1 1 i) ∧ (∀ i : Nat, i < 4 → V.2.1 2 i = W.2.1 2 i) ∧ (∀ t : Nat, 3 ≤ t → t ≤ 5 → ∀ i : Nat, i < 48 → V.2.1 t i = W.2.1 t i) ∧ ∀ i : Nat, i < 4 → V.2.2 i = W.2.2 i
def sd_C (c d : fw_C) : Prop := (∀ j : Nat, 11 ≤ j → j ≤ 15 → d.1 j = c.1 j) ∧ ∀ j : Nat, j < 11 → d.2.2 2 j = c.2.2 2 j
def sd_X (n : Nat) (x y : Nat → fw_C) : Prop := ∀ k : Nat, k < n → sd_C (x k) (y k)
def sd_f (f h : Nat → Int32) : Prop := (∀ j : Nat, j < 244 → j ≠ 8 → j ≠ 12 → (j < 17 ∨ 20 ≤ j) → h j = f j) ∧ ∀ k j : Nat, k < (f 9).toInt.toNat → 255 + 54 * k ≤ j → j ≤ 259 + 54 * k → h j = f j
theorem sd_Wr {W : fw_W} : sd_W W W := ⟨fun _ _ => rfl, fun _ _ => rfl, fun _ _ => rfl, fun _ _ => rfl, fun _ _ _ _ _ => rfl, fun _ _ => rfl⟩
theorem sd_Wt {W V U : fw_W} (a : sd_W W V) (b : sd_W V U) : sd_W W U := ⟨fun j h => (b.1 j h).trans (a.1 j h), fun i h => (b.2.1 i h).trans (a.2.1 i h), fun i h => (b.2.2.1 i h).trans (a.2.2.1 i h), fun i h => (b.2.2.2.1 i h).trans (a.2.2.2.1 i h), fun t h1 h2 i h => (b.2.2.2.2.1 t h1 h2 i h).trans (a.2.2.2.2.1 t h1 h2 i h), fun i h => (b.2.2.2.2.2 i h).trans (a.2.2.2.2.2 i h)⟩
theorem sd_Cr {c : fw_C} : sd_C c c := ⟨fun _ _ _ => rfl, fun _ _ => rfl⟩
theorem sd_Ct {c d e : fw_C} (a : sd_C c d) (b : sd_C d e) : sd_C c e := ⟨fun j h1 h2 => (b.1 j h1 h2).trans (a.1 j h1 h2), fun j h => (b.2 j h).trans (a.2 j h)⟩
theorem sd_Xr {n : Nat} {x : Nat → fw_C} : sd_X n x x := fun _ _ => sd_Cr
theorem sd_Xt {n : Nat} {x y z : Nat → fw_C} (a : sd_X n x y) (b : sd_X n y z) : sd_X n x z := fun k h => sd_Ct (a k h) (b k h)
theorem sd_Xs {n k : Nat} {x : Nat → fw_C} {c : fw_C} (h : sd_C (x k) c) : sd_X n x (fw_sx x k c) := fun j _ => by
  unfold fw_sx
  by_cases q : j = k
  · rw [if_pos q, q]; exact h
  · rw [if_neg q]; exact sd_Cr
/-- sd holds of what has the same description -/
theorem sd_to {f h : Nat → Int32} {W V : fw_W} {x y : Nat → fw_C} (s : sd f W x) (a : sd_f f h) (b : sd_W W V) (c : sd_X (f 9).toInt.toNat x y) : sd h V y := by
  obtain ⟨⟨n1, n2, n3, n4, n5⟩, ⟨b1, b2, b3⟩, cu, p, o⟩ := s
  have h9 := a.1 9 (by omega) (by omega) (by omega) (by omega)
  have h10 := a.1 10 (by omega) (by omega) (by omega) (by omega)
  have h11 := a.1 11 (by omega) (by omega) (by omega) (by omega)
  refine ⟨⟨fun j hj => ?_, fun j j1 j2 => ?_, ?_, ?_, ?_⟩, ?_, ?_, ?_, fun k hk => ?_⟩
  · rw [a.1 j (by omega) (by omega) (by omega) (by omega), b.1 j (by omega)]; exact n1 j hj
  · rw [a.1 j (by omega) (by omega) (by omega) (by omega), b.1 j (by omega)]; exact n2 j j1 j2
  · rw [h9, b.1 9 (by omega)]; exact n3
  · rw [h10, b.1 10 (by omega)]; exact n4
  · rw [h11, b.1 11 (by omega)]; exact n5
  · unfold sd_bds; rw [h9, h10, h11]; exact ⟨b1, b2, b3⟩
  · rw [h11]; exact sd_cursF (fun j j1 j2 => a.1 j (by omega) (by omega) (by omega) (by omega)) (fun i hi => b.2.1 i (by omega)) (fun j hj => b.2.2.1 j (by omega)) cu
  · rw [h10]; exact sd_prgF (fun j j1 j2 => a.1 j (by omega) (by omega) (by omega) (by omega)) (fun i hi => b.2.2.2.1 i (by omega)) (fun t t1 t2 j hj => b.2.2.2.2.1 t t1 t2 j (by omega)) p
  · rw [h9] at hk
    rw [h11]
    have o2 := sd_oneF (fun j j1 j2 => a.2 k j hk j1 j2) (Nat.le_refl _) (fun i hi => b.2.1 i (by omega)) (fun j hj => b.2.2.1 j (by omega)) (sd_curb cu) (o k hk)
    obtain ⟨v, e1, e2, e3, e4, e5⟩ := o2
    obtain ⟨c1, c2⟩ := c k hk
    have hv := sd_curb cu v e1
    rw [← b.2.1 v (by omega)] at hv
    exact ⟨v, e1, e2, (c1 11 (by omega) (by omega)).trans e3, fun j j1 j2 => (c1 j (by omega) (by omega)).trans (e4 j j1 j2), fun j hj => (c2 j (by omega)).trans (e5 j hj)⟩
theorem rp_Nto {N : List (List Int32)} {c c1 : Int32} {nf nf1 : Nat → Int64} (h : rp_N N c nf) (e : c1 = c) (e2 : ∀ i : Nat, i < 4 → nf1 i = nf i) : rp_N N c1 nf1 := by
  obtain ⟨a, b, d, f⟩ := h
  exact ⟨by rw [e]; exact a, b, fun i w hi => (e2 i (by have := (List.getElem?_eq_some_iff.mp hi).1; omega)).trans (d i w hi), f⟩
/-- names, the same on both sides -/
def sd_N (f : Nat → Int32) (W : fw_W) : Prop := ∃ N : List (List Int32), rp_N N (W.1 11) W.2.2 ∧ N.Nodup ∧ rm_N N f
theorem sd_Nto {f h : Nat → Int32} {W V : fw_W} (s : sd_N f W) (a : sd_f f h) (b : sd_W W V) : sd_N h V := by
  obtain ⟨N, h1, h2, h3⟩ := s
  exact ⟨N, rp_Nto h1 (b.1 11 (by omega)) b.2.2.2.2.2, h2, rm_NF h1.2.1 (a.1 11 (by omega) (by omega) (by omega) (by omega)) (fun j j1 j2 => a.1 j (by omega) (by omega) (by omega) (by omega)) h3⟩
theorem cm_cpyl {α : Type} {n i : Nat} {f g : Nat → α} (h : i < n) : cm_cpy n f g i = f i := if_pos h
theorem sd_copy {va vb va1 : fw_W} {xa xb xa1 : Nat → fw_C} (h : t_copyFrom va vb xa xb va1 xa1) : sd_W vb va1 ∧ ∀ n : Nat, (n : Int) ≤ (vb.1 9).toInt → sd_X n xb xa1 := by
  obtain ⟨W, hW, y, x, ⟨⟨y0, y1⟩, hc, _⟩, hy, V, hV, e1, e2⟩ := h
  subst e1 e2 hV hW
  refine ⟨⟨fun j hj => ?_, fun i hi => ?_, fun i hi => ?_, fun i hi => ?_, fun t t1 t2 i hi => ?_, fun i hi => ?_⟩, fun n hn k hk => ?_⟩
  · show (if j = 17 then _ else if j = 19 then _ else if j = 12 then _ else if j = 18 then _ else if j = 17 then _ else if j = 19 then _ else if j = 12 then _ else if j = 18 then _ else vb.1 j) = vb.1 j
    rw [if_neg (by omega), if_neg (by omega), if_neg (by omega), if_neg (by omega), if_neg (by omega), if_neg (by omega), if_neg (by omega), if_neg (by omega)]
  · exact cm_cpyl hi
  · exact cm_cpyl hi
  · exact cm_cpyl hi
  · rcases (by omega : t = 3 ∨ t = 4 ∨ t = 5) with z | z | z <;> subst z <;> exact cm_cpyl hi
  · exact cm_cpyl hi
  · have hy2 : (vb.1 9).toInt ≤ y.toInt := Int32.le_iff_toInt_le.mp hy
    have t : xa1 k = _ := hc.1 k (by omega)
    rw [t]
    exact ⟨fun j _ _ => rfl, fun j hj => cm_cpyl hj⟩
theorem sd_ins {W : fw_W} {x x1 : Nat → fw_C} (h : t_insertCells W x x1) : ∀ n : Nat, (n : Int) ≤ (W.1 9).toInt → sd_X n x x1 := by
  obtain ⟨y, x2, ⟨⟨y0, y1⟩, hc, _⟩, hy, e⟩ := h
  subst e
  intro n hn k hk
  have hy2 : (W.1 9).toInt ≤ y.toInt := Int32.le_iff_toInt_le.mp hy
  obtain ⟨_, _, _, _, _, _, _, _, _, _, _, _, _, _, _, _, _, _, _, _, _, _, _, _, _, _, _, _, _, _, _, t⟩ := hc.1 k (by omega)
  rw [t]
  refine ⟨fun j j1 j2 => ?_, fun j _ => rfl⟩
  rcases (by omega : j = 11 ∨ j = 12 ∨ j = 13 ∨ j = 14 ∨ j = 15) with z | z | z | z | z <;> subst z <;> rfl
theorem sd_0 {g0 : Nat → Int32} {vb W : fw_W} {x : Nat → fw_C} (e : q_eq 958 rq_W0 g0) (h : t_clear vb W) : sd g0 W x ∧ rp_N [] (W.1 11) W.2.2 ∧ rm_N [] g0 ∧ g0 9 = 0 ∧ g0 10 = 0 := by
  obtain ⟨V, hV, e1⟩ := h
  subst e1 hV
  have g9 : g0 9 = 0 := e 9 (by omega)
  have g10 : g0 10 = 0 := e 10 (by omega)
  have g11 : g0 11 = 0 := e 11 (by omega)
  refine ⟨⟨⟨fun j hj => ?_, fun j j1 j2 => ?_, g9, g10, g11⟩, ⟨?_, ?_, ?_⟩, ?_, ?_, ?_⟩, rp_N0 _, rm_N0 g11, g9, g10⟩
  · rw [e j (by omega)]
    rcases (by omega : j = 0 ∨ j = 1 ∨ j = 2 ∨ j = 3 ∨ j = 4 ∨ j = 5 ∨ j = 6 ∨ j = 7) with z | z | z | z | z | z | z | z <;> subst z <;> rfl
  · rw [e j (by omega)]
    rcases (by omega : j = 13 ∨ j = 14 ∨ j = 15 ∨ j = 16) with z | z | z | z <;> subst z <;> rfl
  · rw [g9]; decide
  · rw [g10]; decide
  · rw [g11]; decide
  · rw [g11]; exact fun i hi => absurd hi (by rw [show (0 : Int32).toInt.toNat = 0 from by decide]; omega)
  · rw [g10]; exact fun i hi => absurd hi (by rw [show (0 : Int32).toInt.toNat = 0 from by decide]; omega)
  · rw [g9]; exact fun i hi => absurd hi (by rw [show (0 : Int32).toInt.toNat = 0 from by decide]; omega)
theorem sd_load {b : Nat → Int32} {n : Int32} (hn : n.toInt ≤ 800) (h0 : 0 ≤ n.toInt) {va vb W0 W va1 : fw_W} {xa xb x x2 xa1 : Nat → fw_C} {f1 : Nat → Int32} {su1 : Nat → Int64} (hc : t_clear vb W0) (hr : (W, x) = rd_x b n 802 [] 0 0 0 (W0, xb)) (hk : rp_K b n = 0) (hi : t_insertCells W x x2) (hp : t_copyFrom va W xa x2 va1 xa1) (hL : rq_L b n f1 su1) : sd f1 va1 xa1 ∧ sd_N f1 va1 := by
  obtain ⟨g0, g, q0, hg, hl, hf, _⟩ := hL
  obtain ⟨s0, n0, m0, e9, e10⟩ := sd_0 (x := xb) q0 hc
  have z : (0 : Int32).toInt = 0 := by decide
  obtain ⟨N1, a1, a2, a3, a4⟩ := sd_x hn 802 [] 0 0 0 g0 W0 xb (by rw [z]; omega) s0 n0 List.nodup_nil m0 (by rw [e9]; exact z) (by rw [e10]; exact z) hk
  rw [← hr, ← hg] at a1
  rw [← hr] at a2
  rw [← hg] at a4
  have c9 : (g 9).toInt = (W.1 9).toInt := by rw [a1.1.2.2.1]
  have gb := a1.2.1.1
  have ff : sd_f g f1 := ⟨fun j j1 _ _ _ => (hf j (by omega)).trans (rq_ldF (Or.inl j1) _), fun k j k6 j1 j2 => (hf j (by omega)).trans (rq_ldF (Or.inr ⟨k, j1, j2⟩) _)⟩
  obtain ⟨w1, w2⟩ := sd_copy hp
  have xx : sd_X (g 9).toInt.toNat x xa1 := sd_Xt (sd_ins hi _ (by omega)) (w2 _ (by omega))
  exact ⟨sd_to a1 ff w1 xx, sd_Nto ⟨N1, a2, a3, a4⟩ ff w1⟩
/-- the reference keeps its description -/
theorem sd_fR {G f h : Nat → Int32} (a : rf_R G (-1) f) (b : rf_R G (-1) h) (c : rf_ds f h) : sd_f f h := by
  have c9 := a.1.2.2.1
  have e9 : f 9 = G 9 := a.2.1.2.2.2.2.1
  refine ⟨fun j j1 j8 j12 j2 => ?_, fun k j hk j1 j2 => ?_⟩
  · by_cases q : 20 ≤ j
    · exact (b.2.2.2.1 j q j1).trans (a.2.2.2.1 j q j1).symm
    · by_cases z : j = 9 ∨ j = 10 ∨ j = 11
      · rcases z with z | z | z
        · subst z; exact (b.2.1.2.2.2.2.1).trans (a.2.1.2.2.2.2.1).symm
        · subst z; exact (b.2.1.2.2.2.2.2.1).trans (a.2.1.2.2.2.2.2.1).symm
        · subst z; exact (b.2.1.2.2.2.2.2.2).trans (a.2.1.2.2.2.2.2.2).symm
      · exact c j (by omega)
  · rw [e9] at hk
    have k6 : k < 6 := by omega
    have kl : (k : Int) < (G 9).toInt := by omega
    rcases (by omega : j = 244 + 54 * k + 11 ∨ j = 244 + 54 * k + 12 ∨ j = 244 + 54 * k + 13 ∨ j = 244 + 54 * k + 14 ∨ j = 244 + 54 * k + 15) with z | z | z | z | z <;> subst z
    · exact (b.2.2.2.2.1 k k6 11 (by omega) kl).trans (a.2.2.2.2.1 k k6 11 (by omega) kl).symm
    · exact (b.2.2.2.2.1 k k6 12 (by omega) kl).trans (a.2.2.2.2.1 k k6 12 (by omega) kl).symm
    · exact (b.2.2.2.2.1 k k6 13 (by omega) kl).trans (a.2.2.2.2.1 k k6 13 (by omega) kl).symm
    · exact (b.2.2.2.2.1 k k6 14 (by omega) kl).trans (a.2.2.2.2.1 k k6 14 (by omega) kl).symm
    · exact (b.2.2.2.2.1 k k6 15 (by omega) kl).trans (a.2.2.2.2.1 k k6 15 (by omega) kl).symm
theorem sd_fq {f h : Nat → Int32} (a : q_eq 958 f h) (c9 : (f 9).toInt ≤ 6) : sd_f f h := ⟨fun j j1 _ _ _ => a j (by omega), fun k j hk j1 j2 => a j (by omega)⟩
/-- a setting that is laid down later -/
theorem sd_cc {f : Nat → Int32} {W : fw_W} {x : Nat → fw_C} (s : sd f W x) : 0 ≤ (W.1 9).toInt ∧ (W.1 9).toInt ≤ 6 := by
  have h := s.2.1.1
  rw [s.1.2.2.1] at h
  exact h
theorem sd_pc {f : Nat → Int32} {W : fw_W} {x : Nat → fw_C} (s : sd f W x) : 0 ≤ (W.1 10).toInt := by
  have h := s.2.1.2.1.1
  rw [s.1.2.2.2.1] at h
  exact h
