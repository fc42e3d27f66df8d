/-! append: what the two loops over the bytes of a long leave -/
def ty_apr (bl : Int32) (b : Int64) : Int32 := if bl + cm_cnt b 8 ≤ 800 then bl + cm_cn2 b 8 else -2
def ty_apb (bl : Int32) (b : Int64) : Int32 := if bl + cm_cnt b 8 ≤ 800 then bl + cm_cn2 b 8 else bl
theorem ty_ap0 {y4 : Int32} {i : Nat} (hi : i ≤ 8) (e : y4 = cm_sh i) (hg : ¬ y4 < 0) : i < 8 := by
  rcases Nat.lt_or_ge i 8 with h | h
  · exact h
  · have e8 : i = 8 := by omega
    subst e8
    rw [e] at hg
    exact absurd (by decide : cm_sh 8 < 0) hg
theorem ty_ap9 {y4 : Int32} {i : Nat} (hi : i ≤ 8) (e : y4 = cm_sh i) (hn : y4 < 0) : i = 8 := by
  rcases Nat.lt_or_ge i 8 with h | h
  · rw [e] at hn
    exact absurd hn (cm_sh_nn i h)
  · omega
theorem ty_ap1 {b : Int64} {y3 y4 : Int32} (h : ∃ i9 : Nat, i9 ≤ 8 ∧ y4 = cm_sh i9 ∧ y3 = cm_cnt b i9) (hg : ¬ y4 < 0) (hb : lg_cmp (cm_byte b y4) 0 = 0) : ∃ i9 : Nat, i9 ≤ 8 ∧ y4 + Int32.ofInt (-8) = cm_sh i9 ∧ y3 = cm_cnt b i9 := by
  obtain ⟨i, hi, e4, e3⟩ := h
  have hlt := ty_ap0 hi e4 hg
  subst e4
  exact ⟨i + 1, hlt, rfl, e3.trans (show (if lg_cmp (cm_byte b (cm_sh i)) 0 = 0 then cm_cnt b i else cm_cnt b i + 1) = cm_cnt b i from if_pos hb).symm⟩
theorem ty_ap2 {b : Int64} {y3 y4 : Int32} (h : ∃ i9 : Nat, i9 ≤ 8 ∧ y4 = cm_sh i9 ∧ y3 = cm_cnt b i9) (hg : ¬ y4 < 0) (hb : ¬ lg_cmp (cm_byte b y4) 0 = 0) : ∃ i9 : Nat, i9 ≤ 8 ∧ y4 + Int32.ofInt (-8) = cm_sh i9 ∧ y3 + Int32.ofInt 1 = cm_cnt b i9 := by
  obtain ⟨i, hi, e4, e3⟩ := h
  have hlt := ty_ap0 hi e4 hg
  subst e4
  refine ⟨i + 1, hlt, rfl, ?_⟩
  rw [e3]
  exact (show (if lg_cmp (cm_byte b (cm_sh i)) 0 = 0 then cm_cnt b i else cm_cnt b i + 1) = cm_cnt b i + 1 from if_neg hb).symm
theorem ty_ap3 {b : Int64} {y3 y4 : Int32} (h : ∃ i9 : Nat, i9 ≤ 8 ∧ y4 = cm_sh i9 ∧ y3 = cm_cnt b i9) (hn : y4 < 0) : y3 = cm_cnt b 8 := by
  obtain ⟨i, hi, e4, e3⟩ := h
  have e8 := ty_ap9 hi e4 hn
  subst e8
  exact e3
theorem ty_ap7 {b : Int64} {bl : Int32} (h : bl + cm_cnt b 8 ≤ 800) : bl + cm_cn2 b 8 = ty_apr bl b ∧ bl + cm_cn2 b 8 = ty_apb bl b := ⟨(if_pos h).symm, (if_pos h).symm⟩
theorem ty_ap8 {b : Int64} {bl : Int32} (h : ¬ bl + cm_cnt b 8 ≤ 800) : -2 = ty_apr bl b ∧ bl = ty_apb bl b := ⟨(if_neg h).symm, (if_neg h).symm⟩
/-- the byte at a place of the text -/
def rf_bt (b : Nat → Int32) (mn k : Int32) : Int32 := if k < mn then b k.toNatClampNeg else -1
def rp_adv (g : Int32 → Bool) : Nat → Int32 → Int32
  | 0, p => p
  | k + 1, p => if g p = true then rp_adv g k (p + 1) else p
/-- the first place from p on where g isn't so -/
def rp_to (g : Int32 → Bool) (p : Int32) : Int32 := rp_adv g (801 - p.toInt).toNat p
theorem rp_to_eq {g : Int32 → Bool} {p : Int32} (h : 0 ≤ p.toInt ∧ p.toInt ≤ 800) : rp_to g p = if g p = true then rp_to g (p + 1) else p := by
  have e : (p + 1).toInt = p.toInt + 1 := rf_p1 (by omega)
  unfold rp_to
  rw [e, show (801 - p.toInt).toNat = (801 - (p.toInt + 1)).toNat + 1 from by omega]
  rfl
theorem rp_adv_le {g : Int32 → Bool} {n : Int32} (hn : n.toInt ≤ 800) (hg : ∀ k : Int32, 0 ≤ k.toInt → g k = true → k.toInt < n.toInt) : ∀ (j : Nat) (p : Int32), 0 ≤ p.toInt → p.toInt ≤ n.toInt → p.toInt ≤ (rp_adv g j p).toInt ∧ (rp_adv g j p).toInt ≤ n.toInt
  | 0, p, _, h => ⟨Int.le_refl _, h⟩
  | j + 1, p, h0, h => by
    show p.toInt ≤ (if g p = true then rp_adv g j (p + 1) else p).toInt ∧ (if g p = true then rp_adv g j (p + 1) else p).toInt ≤ n.toInt
    by_cases hp : g p = true
    · rw [if_pos hp]
      have l := hg p h0 hp
      have e : (p + 1).toInt = p.toInt + 1 := rf_p1 (by omega)
      have r := rp_adv_le hn hg j (p + 1) (by omega) (by omega)
      omega
    · rw [if_neg hp]
      exact ⟨Int.le_refl _, h⟩
theorem rp_adv_st {g : Int32 → Bool} {n : Int32} (hn : n.toInt ≤ 800) (hg : ∀ k : Int32, 0 ≤ k.toInt → g k = true → k.toInt < n.toInt) : ∀ (j : Nat) (p : Int32), 0 ≤ p.toInt → n.toInt - p.toInt < (j : Int) → g (rp_adv g j p) = false
  | 0, p, h0, h => by
    by_cases hp : g p = true
    · have l := hg p h0 hp
      omega
    · exact Bool.eq_false_iff.mpr hp
  | j + 1, p, h0, h => by
    show g (if g p = true then rp_adv g j (p + 1) else p) = false
    by_cases hp : g p = true
    · rw [if_pos hp]
      have l := hg p h0 hp
      have e : (p + 1).toInt = p.toInt + 1 := rf_p1 (by omega)
      exact rp_adv_st hn hg j (p + 1) (by omega) (by omega)
    · rw [if_neg hp]
      exact Bool.eq_false_iff.mpr hp
theorem rp_btl {b : Nat → Int32} {n k : Int32} (h : ¬ rf_bt b n k = -1) : k.toInt < n.toInt := by
  unfold rf_bt at h
  by_cases h1 : k < n
  · exact Int32.lt_iff_toInt_lt.mp h1
  · rw [if_neg h1] at h
    exact absurd rfl h
def rp_spc (b : Nat → Int32) (n p : Int32) : Bool := decide (rf_bt b n p = 32)
def rp_let (b : Nat → Int32) (n p : Int32) : Bool := decide (97 ≤ (rf_bt b n p).toInt ∧ (rf_bt b n p).toInt ≤ 122)
def rp_dig (b : Nat → Int32) (n p : Int32) : Bool := decide (48 ≤ (rf_bt b n p).toInt ∧ (rf_bt b n p).toInt ≤ 57)
theorem rp_spcl {b : Nat → Int32} {n : Int32} (k : Int32) (_ : 0 ≤ k.toInt) (h : rp_spc b n k = true) : k.toInt < n.toInt := rp_btl (fun q => by
  have h1 : rf_bt b n k = 32 := of_decide_eq_true h
  rw [q] at h1
  exact absurd h1 (by decide))
theorem rp_letl {b : Nat → Int32} {n : Int32} (k : Int32) (_ : 0 ≤ k.toInt) (h : rp_let b n k = true) : k.toInt < n.toInt := rp_btl (fun q => by
  have h1 : 97 ≤ (rf_bt b n k).toInt ∧ (rf_bt b n k).toInt ≤ 122 := of_decide_eq_true h
  rw [q] at h1
  exact absurd h1 (by decide))
theorem rp_digl {b : Nat → Int32} {n : Int32} (k : Int32) (_ : 0 ≤ k.toInt) (h : rp_dig b n k = true) : k.toInt < n.toInt := rp_btl (fun q => by
  have h1 : 48 ≤ (rf_bt b n k).toInt ∧ (rf_bt b n k).toInt ≤ 57 := of_decide_eq_true h
  rw [q] at h1
  exact absurd h1 (by decide))
/-- behind spaces, behind a word, behind digits -/
def rp_sk (b : Nat → Int32) (n p : Int32) : Int32 := rp_to (rp_spc b n) p
def rp_we (b : Nat → Int32) (n p : Int32) : Int32 := rp_to (rp_let b n) p
def rp_de (b : Nat → Int32) (n p : Int32) : Int32 := rp_to (rp_dig b n) p
theorem rp_sk_b {b : Nat → Int32} {n p : Int32} (hn : n.toInt ≤ 800) (hp : 0 ≤ p.toInt ∧ p.toInt ≤ n.toInt) : p.toInt ≤ (rp_sk b n p).toInt ∧ (rp_sk b n p).toInt ≤ n.toInt := rp_adv_le hn rp_spcl _ p hp.1 hp.2
theorem rp_we_b {b : Nat → Int32} {n p : Int32} (hn : n.toInt ≤ 800) (hp : 0 ≤ p.toInt ∧ p.toInt ≤ n.toInt) : p.toInt ≤ (rp_we b n p).toInt ∧ (rp_we b n p).toInt ≤ n.toInt := rp_adv_le hn rp_letl _ p hp.1 hp.2
theorem rp_de_b {b : Nat → Int32} {n p : Int32} (hn : n.toInt ≤ 800) (hp : 0 ≤ p.toInt ∧ p.toInt ≤ n.toInt) : p.toInt ≤ (rp_de b n p).toInt ∧ (rp_de b n p).toInt ≤ n.toInt := rp_adv_le hn rp_digl _ p hp.1 hp.2
theorem rp_sk_st {b : Nat → Int32} {n p : Int32} (hn : n.toInt ≤ 800) (hp : 0 ≤ p.toInt ∧ p.toInt ≤ n.toInt) : rp_spc b n (rp_sk b n p) = false := rp_adv_st hn rp_spcl _ p hp.1 (by omega)
theorem rp_sk_id {b : Nat → Int32} {n p : Int32} (hp : 0 ≤ p.toInt ∧ p.toInt ≤ 800) (h : rp_spc b n p = false) : rp_sk b n p = p := by
  show rp_to _ p = p
  rw [rp_to_eq hp, if_neg (by rw [h]; decide)]
theorem rp_sk_sk {b : Nat → Int32} {n p : Int32} (hn : n.toInt ≤ 800) (hp : 0 ≤ p.toInt ∧ p.toInt ≤ n.toInt) : rp_sk b n (rp_sk b n p) = rp_sk b n p := by
  have h := rp_sk_b (b := b) hn hp
  exact rp_sk_id (by omega) (rp_sk_st hn hp)
/-- the number that is read from p on, v what is read already; more than any range has is as good as any more -/
def rp_nm (b : Nat → Int32) (n : Int32) : Nat → Int32 → Int → Int
  | 0, _, v => v
  | k + 1, p, v => if rp_dig b n p = true then rp_nm b n k (p + 1) (min (10 * v + (rf_bt b n p).toInt - 48) 100000000) else v
def rp_num (b : Nat → Int32) (n p : Int32) (v : Int) : Int := rp_nm b n (801 - p.toInt).toNat p v
theorem rp_num_eq {b : Nat → Int32} {n p : Int32} {v : Int} (h : 0 ≤ p.toInt ∧ p.toInt ≤ 800) : rp_num b n p v = if rp_dig b n p = true then rp_num b n (p + 1) (min (10 * v + (rf_bt b n p).toInt - 48) 100000000) else v := by
  have e : (p + 1).toInt = p.toInt + 1 := rf_p1 (by omega)
  unfold rp_num
  rw [e, show (801 - p.toInt).toNat = (801 - (p.toInt + 1)).toNat + 1 from by omega]
  rfl
/-- a number is read: what is wrong (0: nothing), where it ends or what is wrong begins, its value -/
def rp_rk (b : Nat → Int32) (n : Int32) (lo hi : Int) (p : Int32) : Int32 := if rp_dig b n (rp_sk b n p) = true then (if lo ≤ rp_num b n (rp_sk b n p) 0 ∧ rp_num b n (rp_sk b n p) 0 ≤ hi then 0 else 2) else 1
def rp_rp (b : Nat → Int32) (n : Int32) (lo hi : Int) (p : Int32) : Int32 := if rp_rk b n lo hi p = 0 then rp_de b n (rp_sk b n p) else rp_sk b n p
def rp_rv (b : Nat → Int32) (n p : Int32) : Int := rp_num b n (rp_sk b n p) 0
/-- the word at p: its letters -/
def rp_wd (b : Nat → Int32) (p e : Int32) : List Int32 := (List.range (e.toInt - p.toInt).toNat).map (fun i => b (p.toInt.toNat + i))
def rp_w (b : Nat → Int32) (n p : Int32) : List Int32 := rp_wd b p (rp_we b n p)
/-- two steps, the second where the first is well -/
def rp_k2 (k1 k2 : Int32) : Int32 := if k1 = 0 then k2 else k1
def rp_p2 (k1 p1 p2 : Int32) : Int32 := if k1 = 0 then p2 else p1
/-- two numbers, one behind another: what is wrong, and where -/
def rp_dk (b : Nat → Int32) (n : Int32) (l1 h1 l2 h2 : Int) (p : Int32) : Int32 := rp_k2 (rp_rk b n l1 h1 p) (rp_rk b n l2 h2 (rp_rp b n l1 h1 p))
def rp_dp (b : Nat → Int32) (n : Int32) (l1 h1 l2 h2 : Int) (p : Int32) : Int32 := rp_p2 (rp_rk b n l1 h1 p) (rp_rp b n l1 h1 p) (rp_rp b n l2 h2 (rp_rp b n l1 h1 p))
/-- a step with number m, its word at q -/
def rp_stk (b : Nat → Int32) (n : Int32) (m : Int) (q : Int32) : Int32 :=
  if rp_w b n q = [99, 104, 97, 114, 103, 101] then rp_dk b n 1 5000 0 5000 (rp_we b n q)
  else if rp_w b n q = [104, 111, 108, 100] then rp_dk b n 0 5000 1 5000 (rp_we b n q)
  else if rp_w b n q = [100, 105, 115, 99, 104, 97, 114, 103, 101] then rp_dk b n 1 5000 0 5000 (rp_we b n q)
  else if rp_w b n q = [114, 101, 115, 116] then rp_rk b n 1 5000 (rp_we b n q)
  else if rp_w b n q = [114, 101, 112, 101, 97, 116] then rp_dk b n 0 (m - 1) 1 50 (rp_we b n q)
  else 1
def rp_stp (b : Nat → Int32) (n : Int32) (m : Int) (q : Int32) : Int32 :=
  if rp_w b n q = [99, 104, 97, 114, 103, 101] then rp_dp b n 1 5000 0 5000 (rp_we b n q)
  else if rp_w b n q = [104, 111, 108, 100] then rp_dp b n 0 5000 1 5000 (rp_we b n q)
  else if rp_w b n q = [100, 105, 115, 99, 104, 97, 114, 103, 101] then rp_dp b n 1 5000 0 5000 (rp_we b n q)
  else if rp_w b n q = [114, 101, 115, 116] then rp_rp b n 1 5000 (rp_we b n q)
  else if rp_w b n q = [114, 101, 112, 101, 97, 116] then rp_dp b n 0 (m - 1) 1 50 (rp_we b n q)
  else q
/-- the steps of a program from number m on, r the most that may come; where they end spaces are left as they are -/
def rp_ssk (b : Nat → Int32) (n : Int32) : Nat → Nat → Int32 → Int32
  | 0, _, _ => 0
  | r + 1, m, p => if rp_let b n (rp_sk b n p) = true then rp_k2 (rp_stk b n m (rp_sk b n p)) (rp_ssk b n r (m + 1) (rp_stp b n m (rp_sk b n p))) else if m = 0 then 1 else 0
def rp_ssp (b : Nat → Int32) (n : Int32) : Nat → Nat → Int32 → Int32
  | 0, _, p => p
  | r + 1, m, p => if rp_let b n (rp_sk b n p) = true then rp_p2 (rp_stk b n m (rp_sk b n p)) (rp_stp b n m (rp_sk b n p)) (rp_ssp b n r (m + 1) (rp_stp b n m (rp_sk b n p))) else rp_sk b n p
/-- the voltages of a curve from number m on, v the least that may come -/
def rp_vk (b : Nat → Int32) (n : Int32) : Nat → Nat → Int → Int32 → Int32
  | 0, _, _, _ => 0
  | r + 1, m, v, p => if 2 ≤ m ∧ ¬ rp_dig b n (rp_sk b n p) = true then 0 else rp_k2 (rp_rk b n v 5000 p) (rp_vk b n r (m + 1) (rp_rv b n p) (rp_rp b n v 5000 p))
def rp_vp (b : Nat → Int32) (n : Int32) : Nat → Nat → Int → Int32 → Int32
  | 0, _, _, p => p
  | r + 1, m, v, p => if 2 ≤ m ∧ ¬ rp_dig b n (rp_sk b n p) = true then rp_sk b n p else rp_p2 (rp_rk b n v 5000 p) (rp_rp b n v 5000 p) (rp_vp b n r (m + 1) (rp_rv b n p) (rp_rp b n v 5000 p))
/-- the place of the word behind a statement's own, which stands at q -/
def rp_q2 (b : Nat → Int32) (n q : Int32) : Int32 := rp_sk b n (rp_we b n q)
/-- a curve, N the names so far -/
def rp_ck (b : Nat → Int32) (n : Int32) (N : List (List Int32)) (q : Int32) : Int32 :=
  if 4 ≤ N.length then 4
  else if ¬ rp_let b n (rp_q2 b n q) = true then 1
  else if 6 < (rp_w b n (rp_q2 b n q)).length ∨ rp_w b n (rp_q2 b n q) ∈ N then 3
  else rp_vk b n 11 0 0 (rp_we b n (rp_q2 b n q))
def rp_cp (b : Nat → Int32) (n : Int32) (N : List (List Int32)) (q : Int32) : Int32 :=
  if 4 ≤ N.length then q
  else if ¬ rp_let b n (rp_q2 b n q) = true then rp_q2 b n q
  else if 6 < (rp_w b n (rp_q2 b n q)).length ∨ rp_w b n (rp_q2 b n q) ∈ N then rp_q2 b n q
  else rp_vp b n 11 0 0 (rp_we b n (rp_q2 b n q))
/-- a cell's four numbers -/
def rp_5k (b : Nat → Int32) (n p : Int32) : Int32 := rp_k2 (rp_dk b n 100 100000 1 500 p) (rp_rk b n 0 500 (rp_dp b n 100 100000 1 500 p))
def rp_5p (b : Nat → Int32) (n p : Int32) : Int32 := rp_p2 (rp_dk b n 100 100000 1 500 p) (rp_dp b n 100 100000 1 500 p) (rp_rp b n 0 500 (rp_dp b n 100 100000 1 500 p))
def rp_4k (b : Nat → Int32) (n p : Int32) : Int32 := rp_k2 (rp_5k b n p) (rp_rk b n 1 200 (rp_5p b n p))
def rp_4p (b : Nat → Int32) (n p : Int32) : Int32 := rp_p2 (rp_5k b n p) (rp_5p b n p) (rp_rp b n 1 200 (rp_5p b n p))
def rp_lk (b : Nat → Int32) (n : Int32) (N : List (List Int32)) (nc : Int) (q : Int32) : Int32 :=
  if 6 ≤ nc then 4
  else if ¬ rp_let b n (rp_q2 b n q) = true then 1
  else if 6 < (rp_w b n (rp_q2 b n q)).length ∨ ¬ rp_w b n (rp_q2 b n q) ∈ N then 3
  else rp_4k b n (rp_we b n (rp_q2 b n q))
def rp_lp (b : Nat → Int32) (n : Int32) (N : List (List Int32)) (nc : Int) (q : Int32) : Int32 :=
  if 6 ≤ nc then q
  else if ¬ rp_let b n (rp_q2 b n q) = true then rp_q2 b n q
  else if 6 < (rp_w b n (rp_q2 b n q)).length ∨ ¬ rp_w b n (rp_q2 b n q) ∈ N then rp_q2 b n q
  else rp_4p b n (rp_we b n (rp_q2 b n q))
def rp_gk (b : Nat → Int32) (n : Int32) (np : Int) (q : Int32) : Int32 := if 4 ≤ np then 4 else rp_ssk b n 12 0 (rp_we b n q)
def rp_gp (b : Nat → Int32) (n : Int32) (np : Int) (q : Int32) : Int32 := if 4 ≤ np then q else rp_ssp b n 12 0 (rp_we b n q)
/-- three numbers, the second not less than the first -/
def rp_3k (b : Nat → Int32) (n : Int32) (l3 h3 : Int) (p : Int32) : Int32 := rp_k2 (rp_dk b n 0 5000 (rp_rv b n p) 5000 p) (rp_rk b n l3 h3 (rp_dp b n 0 5000 (rp_rv b n p) 5000 p))
def rp_3p (b : Nat → Int32) (n : Int32) (l3 h3 : Int) (p : Int32) : Int32 := rp_p2 (rp_dk b n 0 5000 (rp_rv b n p) 5000 p) (rp_dp b n 0 5000 (rp_rv b n p) 5000 p) (rp_rp b n l3 h3 (rp_dp b n 0 5000 (rp_rv b n p) 5000 p))
/-- the numbers that hold for all channels -/
def rp_ek (b : Nat → Int32) (n q : Int32) : Int32 :=
  if rp_w b n q = [101, 102, 102, 105, 99, 105, 101, 110, 99, 121] then rp_rk b n 500 1000 (rp_we b n q)
  else if rp_w b n q = [102, 97, 100, 101] then rp_rk b n 100 1000000 (rp_we b n q)
  else if rp_w b n q = [104, 101, 97, 116] then rp_dk b n 1 10000 0 (min 100 (rp_rv b n (rp_we b n q))) (rp_we b n q)
  else if rp_w b n q = [108, 105, 109, 105, 116, 115] then rp_3k b n 250 1000 (rp_we b n q)
  else if rp_w b n q = [97, 109, 98, 105, 101, 110, 116] then rp_rk b n 0 500 (rp_we b n q)
  else if rp_w b n q = [119, 97, 114, 110] then rp_3k b n 0 1000 (rp_we b n q)
  else if rp_w b n q = [100, 101, 114, 97, 116, 101] then rp_rk b n 0 200 (rp_we b n q)
  else 1
def rp_ep (b : Nat → Int32) (n q : Int32) : Int32 :=
  if rp_w b n q = [101, 102, 102, 105, 99, 105, 101, 110, 99, 121] then rp_rp b n 500 1000 (rp_we b n q)
  else if rp_w b n q = [102, 97, 100, 101] then rp_rp b n 100 1000000 (rp_we b n q)
  else if rp_w b n q = [104, 101, 97, 116] then rp_dp b n 1 10000 0 (min 100 (rp_rv b n (rp_we b n q))) (rp_we b n q)
  else if rp_w b n q = [108, 105, 109, 105, 116, 115] then rp_3p b n 250 1000 (rp_we b n q)
  else if rp_w b n q = [97, 109, 98, 105, 101, 110, 116] then rp_rp b n 0 500 (rp_we b n q)
  else if rp_w b n q = [119, 97, 114, 110] then rp_3p b n 0 1000 (rp_we b n q)
  else if rp_w b n q = [100, 101, 114, 97, 116, 101] then rp_rp b n 0 200 (rp_we b n q)
  else q
/-- what statement stands at q: 1 a curve, 2 a cell, 3 a program, 0 another -/
def rp_wh (b : Nat → Int32) (n q : Int32) : Nat :=
  if rp_w b n q = [99, 117, 114, 118, 101] then 1 else if rp_w b n q = [99, 101, 108, 108] then 2 else if rp_w b n q = [112, 114, 111, 103, 114, 97, 109] then 3 else 0
def rp_tk (b : Nat → Int32) (n : Int32) (N : List (List Int32)) (np nc : Int) (q : Int32) : Int32 :=
  match rp_wh b n q with
  | 1 => rp_ck b n N q
  | 2 => rp_lk b n N nc q
  | 3 => rp_gk b n np q
  | _ => rp_ek b n q
def rp_tp (b : Nat → Int32) (n : Int32) (N : List (List Int32)) (np nc : Int) (q : Int32) : Int32 :=
  match rp_wh b n q with
  | 1 => rp_cp b n N q
  | 2 => rp_lp b n N nc q
  | 3 => rp_gp b n np q
  | _ => rp_ep b n q
def rp_tN (b : Nat → Int32) (n : Int32) (N : List (List Int32)) (q : Int32) : List (List Int32) := if rp_wh b n q = 1 then N ++ [rp_w b n (rp_q2 b n q)] else N
def rp_tc (b : Nat → Int32) (n q : Int32) (nc : Int) : Int := if rp_wh b n q = 2 then nc + 1 else nc
def rp_tg (b : Nat → Int32) (n q : Int32) (np : Int) : Int := if rp_wh b n q = 3 then np + 1 else np
/-- the text from p on: what is wrong, and where; how many cells -/
def rp_xk (b : Nat → Int32) (n : Int32) : Nat → List (List Int32) → Int → Int → Int32 → Int32
  | 0, _, _, _, _ => 1
  | r + 1, N, np, nc, p =>
    if ¬ rp_tk b n N np nc (rp_sk b n p) = 0 then rp_tk b n N np nc (rp_sk b n p)
    else if rf_bt b n (rp_sk b n (rp_tp b n N np nc (rp_sk b n p))) = 59 then rp_xk b n r (rp_tN b n N (rp_sk b n p)) (rp_tg b n (rp_sk b n p) np) (rp_tc b n (rp_sk b n p) nc) (rp_sk b n (rp_tp b n N np nc (rp_sk b n p)) + 1)
    else if rf_bt b n (rp_sk b n (rp_tp b n N np nc (rp_sk b n p))) = -1 then 0 else 1
def rp_xp (b : Nat → Int32) (n : Int32) : Nat → List (List Int32) → Int → Int → Int32 → Int32
  | 0, _, _, _, p => p
  | r + 1, N, np, nc, p =>
    if ¬ rp_tk b n N np nc (rp_sk b n p) = 0 then rp_tp b n N np nc (rp_sk b n p)
    else if rf_bt b n (rp_sk b n (rp_tp b n N np nc (rp_sk b n p))) = 59 then rp_xp b n r (rp_tN b n N (rp_sk b n p)) (rp_tg b n (rp_sk b n p) np) (rp_tc b n (rp_sk b n p) nc) (rp_sk b n (rp_tp b n N np nc (rp_sk b n p)) + 1)
    else rp_sk b n (rp_tp b n N np nc (rp_sk b n p))
def rp_xc (b : Nat → Int32) (n : Int32) : Nat → List (List Int32) → Int → Int → Int32 → Int
  | 0, _, _, nc, _ => nc
  | r + 1, N, np, nc, p =>
    if rf_bt b n (rp_sk b n (rp_tp b n N np nc (rp_sk b n p))) = 59 then rp_xc b n r (rp_tN b n N (rp_sk b n p)) (rp_tg b n (rp_sk b n p) np) (rp_tc b n (rp_sk b n p) nc) (rp_sk b n (rp_tp b n N np nc (rp_sk b n p)) + 1)
    else rp_tc b n (rp_sk b n p) nc
/-- the byte at the place as the class reads it: 0 behind the text -/
def rp_nx (b : Nat → Int32) (n k : Int32) : Int32 := if k < n then b k.toNatClampNeg else 0
def rp_at (b : Nat → Int32) (k : Int32) : Int32 := if 0 ≤ k.toInt ∧ k.toInt < 800 then b k.toNatClampNeg else 0
/-- an error stays; else what is wrong (k: 0, nothing) becomes the error, at p -/
def rp_o (er ep er1 ep1 k p : Int32) (ok : Prop) : Prop := (¬ er = 0 → er1 = er ∧ ep1 = ep) ∧ (er = 0 → (k = 0 ∧ er1 = 0 ∧ ep1 = ep ∧ ok) ∨ (¬ k = 0 ∧ er1 = k ∧ ep1 = p))
def rp_wk (b : Nat → Int32) (n q : Int32) : Int32 := if rp_let b n q = true then 0 else 1
theorem rp_vin {y : Int32} (h : 0 ≤ y.toInt ∧ y.toInt < 800) : vp_in y 800 := by
  rw [vp_in_iff]
  omega
theorem rp_neg {y : Int32} (h : y < 0) (h0 : 0 ≤ y.toInt) : False := by
  rw [Int32.lt_iff_toInt_lt, show (0 : Int32).toInt = 0 from by decide] at h
  omega
theorem rp_nn {y : Int32} (h : ¬ y < 0) : 0 ≤ y.toInt := by
  rw [Int32.lt_iff_toInt_lt, show (0 : Int32).toInt = 0 from by decide] at h
  omega
theorem rp_big {y : Int32} (h : (800 : Int32) ≤ y) (h0 : y.toInt < 800) : False := by
  rw [Int32.le_iff_toInt_le, show (800 : Int32).toInt = 800 from by decide] at h
  omega
theorem rp_sml {y : Int32} (h : y < (800 : Int32)) : y.toInt < 800 := by
  rw [Int32.lt_iff_toInt_lt, show (800 : Int32).toInt = 800 from by decide] at h
  exact h
theorem rp_nsml {y : Int32} (h : ¬ y < (800 : Int32)) : 800 ≤ y.toInt := by
  rw [Int32.lt_iff_toInt_lt, show (800 : Int32).toInt = 800 from by decide] at h
  omega
theorem rp_in1 {x lo hi : Int32} {L U : Int} (hl : lo.toInt = L) (hu : hi.toInt = U) (h3 : ¬ x < lo) (h9 : ¬ hi < x) : L ≤ x.toInt ∧ x.toInt ≤ U := by
  rw [Int32.lt_iff_toInt_lt] at h3 h9
  omega
theorem rp_out1 {x lo : Int32} {L U : Int} (hl : lo.toInt = L) (h : x < lo) : ¬ (L ≤ x.toInt ∧ x.toInt ≤ U) := by
  rw [Int32.lt_iff_toInt_lt] at h
  omega
theorem rp_out2 {x hi : Int32} {L U : Int} (hu : hi.toInt = U) (h : hi < x) : ¬ (L ≤ x.toInt ∧ x.toInt ≤ U) := by
  rw [Int32.lt_iff_toInt_lt] at h
  omega
theorem rp_nxb {b : Nat → Int32} {n p : Int32} (h : p.toInt < n.toInt) : rp_nx b n p = rf_bt b n p := by
  unfold rp_nx rf_bt
  rw [if_pos (Int32.lt_iff_toInt_lt.mpr h), if_pos (Int32.lt_iff_toInt_lt.mpr h)]
theorem rp_bte {b : Nat → Int32} {n p : Int32} (h : n ≤ p) : rf_bt b n p = -1 := by
  unfold rf_bt
  rw [if_neg]
  rw [Int32.le_iff_toInt_le] at h
  rw [Int32.lt_iff_toInt_lt]
  omega
/-- what the class's byte tells of a letter or a digit the text's byte tells too -/
theorem rp_nxl {b : Nat → Int32} {n p : Int32} {L U : Int} (hL : 1 ≤ L) : (L ≤ (rp_nx b n p).toInt ∧ (rp_nx b n p).toInt ≤ U) ↔ (L ≤ (rf_bt b n p).toInt ∧ (rf_bt b n p).toInt ≤ U) := by
  by_cases h : p < n
  · rw [rp_nxb (Int32.lt_iff_toInt_lt.mp h)]
  · unfold rp_nx rf_bt
    rw [if_neg h, if_neg h, show (0 : Int32).toInt = 0 from by decide, show (-1 : Int32).toInt = -1 from by decide]
    omega
theorem rp_letI {b : Nat → Int32} {n p : Int32} (h : 97 ≤ (rp_nx b n p).toInt ∧ (rp_nx b n p).toInt ≤ 122) : rp_let b n p = true := decide_eq_true ((rp_nxl (by omega)).mp h)
theorem rp_letN {b : Nat → Int32} {n p : Int32} (h : ¬ (97 ≤ (rp_nx b n p).toInt ∧ (rp_nx b n p).toInt ≤ 122)) : ¬ rp_let b n p = true := fun q => h ((rp_nxl (by omega)).mpr (of_decide_eq_true q))
theorem rp_digI {b : Nat → Int32} {n p : Int32} (h : 48 ≤ (rp_nx b n p).toInt ∧ (rp_nx b n p).toInt ≤ 57) : rp_dig b n p = true := decide_eq_true ((rp_nxl (by omega)).mp h)
theorem rp_digN {b : Nat → Int32} {n p : Int32} (h : ¬ (48 ≤ (rp_nx b n p).toInt ∧ (rp_nx b n p).toInt ≤ 57)) : ¬ rp_dig b n p = true := fun q => h ((rp_nxl (by omega)).mpr (of_decide_eq_true q))
theorem rp_notE {b : Nat → Int32} {n p : Int32} (h : n ≤ p) : ¬ rp_let b n p = true ∧ ¬ rp_dig b n p = true ∧ ¬ rp_spc b n p = true := by
  have e := rp_bte (b := b) h
  refine ⟨fun q => ?_, fun q => ?_, fun q => ?_⟩
  · have h1 : 97 ≤ (rf_bt b n p).toInt ∧ (rf_bt b n p).toInt ≤ 122 := of_decide_eq_true q
    rw [e] at h1
    exact absurd h1 (by decide)
  · have h1 : 48 ≤ (rf_bt b n p).toInt ∧ (rf_bt b n p).toInt ≤ 57 := of_decide_eq_true q
    rw [e] at h1
    exact absurd h1 (by decide)
  · have h1 : rf_bt b n p = 32 := of_decide_eq_true q
    rw [e] at h1
    exact absurd h1 (by decide)
theorem rp_spcN {b : Nat → Int32} {n p : Int32} (hl : p.toInt < n.toInt) (h : ¬ rp_nx b n p = 32) : ¬ rp_spc b n p = true := fun q => h (by rw [rp_nxb hl]; exact of_decide_eq_true q)
theorem rp_spcI {b : Nat → Int32} {n p : Int32} (hl : p.toInt < n.toInt) (h : rp_nx b n p = 32) : rp_spc b n p = true := decide_eq_true (by rw [← rp_nxb hl]; exact h)
theorem rp_toS {g : Int32 → Bool} {p : Int32} (hp : 0 ≤ p.toInt ∧ p.toInt ≤ 800) (h : g p = true) : rp_to g p = rp_to g (p + 1) := by rw [rp_to_eq hp, if_pos h]
theorem rp_toE {g : Int32 → Bool} {p : Int32} (hp : 0 ≤ p.toInt ∧ p.toInt ≤ 800) (h : ¬ g p = true) : rp_to g p = p := by rw [rp_to_eq hp, if_neg h]
theorem rp_numS {b : Nat → Int32} {n p : Int32} {v : Int} (hp : 0 ≤ p.toInt ∧ p.toInt ≤ 800) (h : rp_dig b n p = true) : rp_num b n p v = rp_num b n (p + 1) (min (10 * v + (rf_bt b n p).toInt - 48) 100000000) := by rw [rp_num_eq hp, if_pos h]
theorem rp_numE {b : Nat → Int32} {n p : Int32} {v : Int} (hp : 0 ≤ p.toInt ∧ p.toInt ≤ 800) (h : ¬ rp_dig b n p = true) : rp_num b n p v = v := by rw [rp_num_eq hp, if_neg h]
/-- the class's own sum, which never passes an int -/
theorem rp_sum {v x : Int32} (hv : 0 ≤ v.toInt ∧ v.toInt ≤ 100000000) (hx : 48 ≤ x.toInt ∧ x.toInt ≤ 57) : (if (100000000 : Int32) < (((v * 10) + x) - 48) then 100000000 else (((v * 10) + x) - 48)).toInt = min (10 * v.toInt + x.toInt - 48) 100000000 := by
  have t10 : (10 : Int32).toInt = 10 := by decide
  have t48 : (48 : Int32).toInt = 48 := by decide
  have tM : (100000000 : Int32).toInt = 100000000 := by decide
  have e1 : (v * 10).toInt = v.toInt * 10 := by rw [Jvm.Kit.i32_mul (by rw [t10]; omega) (by rw [t10]; omega), t10]
  have e2 : ((v * 10) + x).toInt = v.toInt * 10 + x.toInt := by rw [Jvm.Kit.i32_add (by rw [e1]; omega) (by rw [e1]; omega), e1]
  have e3 : (((v * 10) + x) - 48).toInt = v.toInt * 10 + x.toInt - 48 := by rw [Jvm.Kit.i32_sub (by rw [e2, t48]; omega) (by rw [e2, t48]; omega), e2, t48]
  by_cases h : (100000000 : Int32) < (((v * 10) + x) - 48)
  · rw [if_pos h, tM]
    rw [Int32.lt_iff_toInt_lt, e3, tM] at h
    omega
  · rw [if_neg h, e3]
    rw [Int32.lt_iff_toInt_lt, e3, tM] at h
    omega
theorem rp_wd_len (b : Nat → Int32) (p e : Int32) : (rp_wd b p e).length = (e.toInt - p.toInt).toNat := by
  unfold rp_wd
  rw [List.length_map, List.length_range]
theorem rp_wd_get {b : Nat → Int32} {p e : Int32} {i : Nat} (h : i < (e.toInt - p.toInt).toNat) : (rp_wd b p e)[i]? = some (b (p.toInt.toNat + i)) := by
  unfold rp_wd
  rw [List.getElem?_map, List.getElem?_range h]
  rfl
theorem rp_wd_eq {b : Nat → Int32} {p e : Int32} {l : List Int32} (hl : (e.toInt - p.toInt).toNat = l.length) (h : ∀ i : Nat, i < l.length → b (p.toInt.toNat + i) = l.getD i 0) : rp_wd b p e = l := by
  apply List.ext_getElem?
  intro i
  by_cases hi : i < l.length
  · rw [rp_wd_get (by omega), h i hi, List.getD_eq_getElem?_getD, List.getElem?_eq_getElem hi]
    rfl
  · rw [List.getElem?_eq_none (by rw [rp_wd_len]; omega), List.getElem?_eq_none (by omega)]
theorem rp_wd_ne {b : Nat → Int32} {p e : Int32} {l : List Int32} {i : Nat} (hi : i < l.length) (h : ¬ b (p.toInt.toNat + i) = l.getD i 0) : ¬ rp_wd b p e = l := by
  intro q
  have hl : (rp_wd b p e).length = l.length := by rw [q]
  rw [rp_wd_len] at hl
  have g := rp_wd_get (b := b) (p := p) (e := e) (i := i) (by omega)
  rw [q, List.getElem?_eq_getElem hi] at g
  apply h
  rw [List.getD_eq_getElem?_getD, List.getElem?_eq_getElem hi, g]
  rfl
theorem rp_wd_nl {b : Nat → Int32} {p e : Int32} {l : List Int32} (h : ¬ (e.toInt - p.toInt).toNat = l.length) : ¬ rp_wd b p e = l := by
  intro q
  apply h
  rw [← rp_wd_len b p e, q]
/-- a name as one number -/
def rp_cd (l : List Int32) : Int64 := l.foldl (fun c x => (c * 256) + x.toInt64) 0
theorem rp_cds (l : List Int32) (x : Int32) : rp_cd (l ++ [x]) = (rp_cd l * 256) + x.toInt64 := by
  unfold rp_cd
  rw [List.foldl_append]
  rfl
theorem rp_wds {b : Nat → Int32} {p y : Int32} (h0 : 0 ≤ p.toInt) (h : p.toInt ≤ y.toInt ∧ y.toInt ≤ 800) : rp_wd b p (y + 1) = rp_wd b p y ++ [b y.toNatClampNeg] := by
  have e : (y + 1).toInt = y.toInt + 1 := rf_p1 (by omega)
  unfold rp_wd
  rw [e, show (y.toInt + 1 - p.toInt).toNat = (y.toInt - p.toInt).toNat + 1 from by omega, List.range_succ, List.map_append]
  show _ ++ [b (p.toInt.toNat + (y.toInt - p.toInt).toNat)] = _
  rw [show p.toInt.toNat + (y.toInt - p.toInt).toNat = y.toInt.toNat from by omega]
  rfl
theorem rp_wd0 {b : Nat → Int32} {p : Int32} : rp_wd b p p = [] := by
  unfold rp_wd
  rw [show (p.toInt - p.toInt).toNat = 0 from by omega]
  rfl
theorem rp_atb {b : Nat → Int32} {k : Int32} (h : 0 ≤ k.toInt ∧ k.toInt < 800) : rp_at b k = b k.toNatClampNeg := if_pos h
/-- two steps of the reader; the second speaks of places only where the first is well -/
theorem rp_rno {b : Nat → Int32} {n p er ep v y lo hi : Int32} (hD : rp_dig b n (rp_sk b n p) = true) (h0 : er = 0) (hg : lo.toInt ≤ v.toInt ∧ v.toInt ≤ hi.toInt) (he : rp_de b n (rp_sk b n p) = y ∧ rp_num b n (rp_sk b n p) 0 = v.toInt) : rp_o er ep er ep (rp_rk b n lo.toInt hi.toInt p) (rp_rp b n lo.toInt hi.toInt p) (y = rp_rp b n lo.toInt hi.toInt p ∧ v.toInt = rp_rv b n p) := by
  have k : rp_rk b n lo.toInt hi.toInt p = 0 := by
    unfold rp_rk
    rw [if_pos hD, he.2, if_pos hg]
  refine ⟨fun _ => ⟨rfl, rfl⟩, fun _ => Or.inl ⟨k, h0, rfl, ?_, he.2.symm⟩⟩
  unfold rp_rp
  rw [if_pos k]
  exact he.1.symm
theorem rp_rnb {b : Nat → Int32} {n p er ep e1 p1 v y lo hi : Int32} {ok : Prop} (hD : rp_dig b n (rp_sk b n p) = true) (hg : ¬ (lo.toInt ≤ v.toInt ∧ v.toInt ≤ hi.toInt)) (he : rp_de b n (rp_sk b n p) = y ∧ rp_num b n (rp_sk b n p) 0 = v.toInt) (hf : rp_o er ep e1 p1 2 (rp_sk b n p) True) : rp_o er ep e1 p1 (rp_rk b n lo.toInt hi.toInt p) (rp_rp b n lo.toInt hi.toInt p) ok := by
  have k : rp_rk b n lo.toInt hi.toInt p = 2 := by
    unfold rp_rk
    rw [if_pos hD, he.2, if_neg hg]
  refine ⟨hf.1, fun z => Or.inr ?_⟩
  rcases hf.2 z with q | q
  · exact absurd q.1 (by decide)
  · rw [k]
    refine ⟨by decide, q.2.1, q.2.2.trans ?_⟩
    unfold rp_rp
    rw [k, if_neg (by decide)]
theorem rp_rnn {b : Nat → Int32} {n p er ep e1 p1 : Int32} {lo hi : Int} {ok : Prop} (hN : ¬ rp_dig b n (rp_sk b n p) = true) (hf : rp_o er ep e1 p1 1 (rp_sk b n p) True) : rp_o er ep e1 p1 (rp_rk b n lo hi p) (rp_rp b n lo hi p) ok := by
  have k : rp_rk b n lo hi p = 1 := if_neg hN
  refine ⟨hf.1, fun z => Or.inr ?_⟩
  rcases hf.2 z with q | q
  · exact absurd q.1 (by decide)
  · rw [k]
    refine ⟨by decide, q.2.1, q.2.2.trans ?_⟩
    unfold rp_rp
    rw [k, if_neg (by decide)]
theorem rp_rne {er ep e1 p1 k q k2 q2 : Int32} {ok ok2 : Prop} (h : ¬ er = 0) (hf : rp_o er ep e1 p1 k q ok) : rp_o er ep e1 p1 k2 q2 ok2 := ⟨hf.1, fun z => absurd z h⟩
theorem rp_lt2 {x lo hi : Int32} (h : x < lo ∨ ¬ x ≤ hi) : ¬ (lo.toInt ≤ x.toInt ∧ x.toInt ≤ hi.toInt) := by
  rw [Int32.lt_iff_toInt_lt, Int32.le_iff_toInt_le] at h
  omega
theorem rp_gel {x lo hi : Int32} (h1 : ¬ x < lo) (h2 : x ≤ hi) : lo.toInt ≤ x.toInt ∧ x.toInt ≤ hi.toInt := by
  rw [Int32.lt_iff_toInt_lt] at h1
  rw [Int32.le_iff_toInt_le] at h2
  omega
theorem rp_len {pl wst : Int32} {m : Nat} (hm : m < 2147483648) (hw : 0 ≤ wst.toInt ∧ wst.toInt ≤ pl.toInt) (h : (pl - wst) = Int32.ofNat m) : pl.toInt - wst.toInt = m := by
  have e := congrArg Int32.toInt h
  have := pl.toInt_lt
  rw [Jvm.Kit.i32_sub (by omega) (by omega), Int32.toInt_ofNat_of_lt hm] at e
  exact e
theorem rp_lenN {pl wst : Int32} {m : Nat} (hm : m < 2147483648) (hw : 0 ≤ wst.toInt ∧ wst.toInt ≤ pl.toInt) (h : ¬ (pl - wst) = Int32.ofNat m) : ¬ (pl.toInt - wst.toInt).toNat = m := by
  intro q
  apply h
  apply Int32.toInt_inj.mp
  have := pl.toInt_lt
  rw [Jvm.Kit.i32_sub (by omega) (by omega), Int32.toInt_ofNat_of_lt hm]
  omega
theorem rp_wix {wst k : Int32} (hw : 0 ≤ wst.toInt ∧ 0 ≤ k.toInt ∧ wst.toInt + k.toInt < 800) : (wst + k).toNatClampNeg = wst.toInt.toNat + k.toInt.toNat ∧ 0 ≤ (wst + k).toInt ∧ (wst + k).toInt < 800 := by
  have e : (wst + k).toInt = wst.toInt + k.toInt := Jvm.Kit.i32_add (by omega) (by omega)
  refine ⟨?_, by omega, by omega⟩
  show (wst + k).toInt.toNat = _
  omega
theorem rp_wis {b : Nat → Int32} {wst k r : Int32} {l : List Int32} (hw : 0 ≤ wst.toInt ∧ 0 ≤ k.toInt ∧ wst.toInt + k.toInt < 800) (inv : ∀ j : Nat, (j : Int) < k.toInt → b (wst.toInt.toNat + j) = l.getD j 0) (h : rp_at b (wst + k) = r) (hr : r = l.getD k.toNatClampNeg 0) : ∀ j : Nat, (j : Int) < (k + Int32.ofInt 1).toInt → b (wst.toInt.toNat + j) = l.getD j 0 := by
  have e : (k + Int32.ofInt 1).toInt = k.toInt + 1 := rf_p1 (by omega)
  have x := rp_wix hw
  rw [rp_atb ⟨x.2.1, x.2.2⟩, x.1, hr] at h
  intro j hj
  by_cases q : (j : Int) < k.toInt
  · exact inv j q
  · rw [show j = k.toInt.toNat from by omega]
    exact h
theorem rp_win {b : Nat → Int32} {wst pl k r : Int32} {l : List Int32} (hw : 0 ≤ wst.toInt ∧ 0 ≤ k.toInt ∧ wst.toInt + k.toInt < 800) (hk : k.toInt < l.length) (h : ¬ rp_at b (wst + k) = r) (hr : r = l.getD k.toNatClampNeg 0) : ¬ rp_wd b wst pl = l := by
  have x := rp_wix hw
  rw [rp_atb ⟨x.2.1, x.2.2⟩, x.1, hr] at h
  exact rp_wd_ne (i := k.toInt.toNat) (by omega) h
theorem rp_kl {k : Int32} {m : Nat} (hm : m < 2147483648) (h : ¬ Int32.ofNat m ≤ k) : k.toInt < m := by
  rw [Int32.le_iff_toInt_le, Int32.toInt_ofNat_of_lt hm] at h
  omega
theorem rp_kg {k : Int32} {m : Nat} (hm : m < 2147483648) (h : Int32.ofNat m ≤ k) : (m : Int) ≤ k.toInt := by
  rw [Int32.le_iff_toInt_le, Int32.toInt_ofNat_of_lt hm] at h
  exact h
section RPF
variable {sp : Nat} {ps : rp_PS sp} {cu na pr ch : Nat} {cnt nc np : Int32} {nf : Nat → Int64} {ws : va_W}
end RPF
theorem rp_lc0 {a b : Int64} (h : lg_cmp a b = 0) : a = b := by
  unfold lg_cmp at h
  by_cases h1 : a > b
  · rw [if_pos h1] at h
    exact absurd h (by decide)
  · rw [if_neg h1] at h
    by_cases h2 : a = b
    · exact h2
    · rw [if_neg h2] at h
      exact absurd h (by decide)
theorem rp_lc1 {a b : Int64} (h : ¬ lg_cmp a b = 0) : ¬ a = b := fun q => h (by rw [q]; exact cm_lceq b)
theorem rp_seq {er ep e1 p1 e2 p2 k1 P1 q1 q2 K P : Int32} {B : Prop} (a : rp_o er ep e1 p1 k1 P1 (q1 = P1 ∧ B)) (hs : ¬ e1 = 0 → e2 = e1 ∧ p2 = p1) (c : q1 = P1 → B → rp_o e1 p1 e2 p2 K P (q2 = P)) : rp_o er ep e2 p2 (rp_k2 k1 K) (rp_p2 k1 P1 P) (q2 = rp_p2 k1 P1 P) := by
  refine ⟨fun h => ?_, fun h => ?_⟩
  · obtain ⟨x, y⟩ := a.1 h
    have d := hs (by rw [x]; exact h)
    exact ⟨d.1.trans x, d.2.trans y⟩
  · rcases a.2 h with ⟨k, e, f, g, hB⟩ | ⟨k, e, f⟩
    · unfold rp_k2 rp_p2
      rw [if_pos k, if_pos k]
      rcases (c g hB).2 e with ⟨k2, x, y, z⟩ | ⟨k2, x, y⟩
      · exact Or.inl ⟨k2, x, y.trans f, z⟩
      · exact Or.inr ⟨k2, x, y⟩
    · have n : ¬ e1 = 0 := fun z => k (e.symm.trans z)
      have d := hs n
      unfold rp_k2 rp_p2
      rw [if_neg k, if_neg k]
      exact Or.inr ⟨k, d.1.trans e, d.2.trans f⟩
theorem rp_ow {er ep e1 p1 k q : Int32} {A B : Prop} (h : rp_o er ep e1 p1 k q A) (w : A → B) : rp_o er ep e1 p1 k q B := ⟨h.1, fun z => (h.2 z).elim (fun x => Or.inl ⟨x.1, x.2.1, x.2.2.1, w x.2.2.2⟩) Or.inr⟩
theorem rp_ofail {er ep e1 p1 k q : Int32} {ok ok2 : Prop} (hk : ¬ k = 0) (h : rp_o er ep e1 p1 k q ok) : rp_o er ep e1 p1 k q ok2 := ⟨h.1, fun z => (h.2 z).elim (fun x => absurd x.1 hk) Or.inr⟩
theorem rp_mm1 {x : Int32} (h : 0 ≤ x.toInt) : (x - 1).toInt = x.toInt - 1 := by
  have o : (1 : Int32).toInt = 1 := by decide
  have := x.toInt_lt
  rw [Jvm.Kit.i32_sub (by rw [o]; omega) (by rw [o]; omega), o]
theorem rp_min100 {x : Int32} : (if x < (100 : Int32) then x else 100).toInt = min 100 x.toInt := by
  have t : (100 : Int32).toInt = 100 := by decide
  by_cases h : x < (100 : Int32)
  · rw [if_pos h]
    rw [Int32.lt_iff_toInt_lt, t] at h
    omega
  · rw [if_neg h, t]
    rw [Int32.lt_iff_toInt_lt, t] at h
    omega
theorem rp_rk_sk {b : Nat → Int32} {n p : Int32} {lo hi : Int} (hn : n.toInt ≤ 800) (hp : 0 ≤ p.toInt ∧ p.toInt ≤ n.toInt) : rp_rk b n lo hi (rp_sk b n p) = rp_rk b n lo hi p ∧ rp_rp b n lo hi (rp_sk b n p) = rp_rp b n lo hi p ∧ rp_rv b n (rp_sk b n p) = rp_rv b n p := by
  have e := rp_sk_sk (b := b) hn hp
  have k : rp_rk b n lo hi (rp_sk b n p) = rp_rk b n lo hi p := by
    unfold rp_rk
    rw [e]
  refine ⟨k, ?_, ?_⟩
  · unfold rp_rp
    rw [k, e]
  · unfold rp_rv
    rw [e]
/-- a name: one to six letters -/
def rp_nmd (w : List Int32) : Prop := (1 ≤ w.length ∧ w.length ≤ 6) ∧ ∀ x ∈ w, 97 ≤ x.toInt ∧ x.toInt ≤ 122
def rp_N (N : List (List Int32)) (cnt : Int32) (nf : Nat → Int64) : Prop := cnt.toInt = N.length ∧ N.length ≤ 4 ∧ (∀ (i : Nat) (w : List Int32), N[i]? = some w → nf i = rp_cd w) ∧ ∀ w ∈ N, rp_nmd w
/-- a name's number as a whole number -/
def rp_cz (l : List Int32) : Nat := l.foldl (fun c x => c * 256 + x.toInt.toNat) 0
theorem rp_czs (l : List Int32) (x : Int32) : rp_cz (l ++ [x]) = rp_cz l * 256 + x.toInt.toNat := by
  unfold rp_cz
  rw [List.foldl_append]
  rfl
theorem rp_cdr : ∀ m : List Int32, m.length ≤ 6 → (∀ x ∈ m, 97 ≤ x.toInt ∧ x.toInt ≤ 122) → (rp_cd m.reverse).toInt = rp_cz m.reverse ∧ rp_cz m.reverse < 256 ^ m.length
  | [], _, _ => ⟨by decide, by decide⟩
  | x :: m, hl, hx => by
    rw [List.length_cons] at hl
    obtain ⟨e, lt⟩ := rp_cdr m (by omega) (fun y hy => hx y (List.mem_cons_of_mem _ hy))
    have bx := hx x List.mem_cons_self
    have p6 : 256 ^ m.length ≤ 256 ^ 5 := Nat.pow_le_pow_right (by decide) (by omega)
    have t : (256 : Int64).toInt = 256 := by decide
    have p5 : (256 : Nat) ^ 5 = 1099511627776 := by decide
    have e1 : (rp_cd m.reverse * 256).toInt = (rp_cz m.reverse : Int) * 256 := by rw [Jvm.Kit.i64_mul (by rw [e, t]; omega) (by rw [e, t]; omega), e, t]
    have e2 : x.toInt64.toInt = x.toInt := Jvm.Kit.i64_of_i32 x
    rw [List.reverse_cons]
    refine ⟨?_, ?_⟩
    · rw [rp_cds, rp_czs, Jvm.Kit.i64_add (by rw [e1, e2]; omega) (by rw [e1, e2]; omega), e1, e2]
      omega
    · rw [rp_czs, List.length_cons, Nat.pow_succ]
      omega
theorem rp_czi : ∀ m1 m2 : List Int32, (∀ x ∈ m1, 97 ≤ x.toInt ∧ x.toInt ≤ 122) → (∀ x ∈ m2, 97 ≤ x.toInt ∧ x.toInt ≤ 122) → rp_cz m1.reverse = rp_cz m2.reverse → m1 = m2
  | [], [], _, _, _ => rfl
  | [], y :: m2, _, h2, h => by
    have b := h2 y List.mem_cons_self
    rw [List.reverse_cons, rp_czs] at h
    have z : rp_cz ([] : List Int32).reverse = 0 := rfl
    omega
  | x :: m1, [], h1, _, h => by
    have b := h1 x List.mem_cons_self
    rw [List.reverse_cons, rp_czs] at h
    have z : rp_cz ([] : List Int32).reverse = 0 := rfl
    omega
  | x :: m1, y :: m2, h1, h2, h => by
    have a := h1 x List.mem_cons_self
    have b := h2 y List.mem_cons_self
    rw [List.reverse_cons, List.reverse_cons, rp_czs, rp_czs] at h
    have e : m1 = m2 := rp_czi m1 m2 (fun z hz => h1 z (List.mem_cons_of_mem _ hz)) (fun z hz => h2 z (List.mem_cons_of_mem _ hz)) (by omega)
    have f : x = y := Int32.toInt_inj.mp (by omega)
    rw [e, f]
theorem rp_cdi {l1 l2 : List Int32} (h1 : l1.length ≤ 6) (k1 : ∀ x ∈ l1, 97 ≤ x.toInt ∧ x.toInt ≤ 122) (h2 : l2.length ≤ 6) (k2 : ∀ x ∈ l2, 97 ≤ x.toInt ∧ x.toInt ≤ 122) (h : rp_cd l1 = rp_cd l2) : l1 = l2 := by
  have a := rp_cdr l1.reverse (by rw [List.length_reverse]; exact h1) (fun x hx => k1 x (List.mem_reverse.mp hx))
  have b := rp_cdr l2.reverse (by rw [List.length_reverse]; exact h2) (fun x hx => k2 x (List.mem_reverse.mp hx))
  rw [List.reverse_reverse] at a b
  have e : l1.reverse = l2.reverse := rp_czi _ _ (fun x hx => k1 x (List.mem_reverse.mp hx)) (fun x hx => k2 x (List.mem_reverse.mp hx)) (by rw [List.reverse_reverse, List.reverse_reverse]; have := congrArg Int64.toInt h; omega)
  exact List.reverse_inj.mp e
/-- what find() says of a name -/
theorem rp_fno {N : List (List Int32)} {cnt : Int32} {nf : Nat → Int64} {w : List Int32} (hN : rp_N N cnt nf) (h : ∀ i : Nat, (i : Int) < cnt.toInt → ¬ nf i = rp_cd w) : ¬ w ∈ N := by
  intro q
  obtain ⟨i, hi, e⟩ := List.getElem_of_mem q
  exact h i (by rw [hN.1]; omega) (hN.2.2.1 i w (by rw [List.getElem?_eq_getElem hi, e]))
theorem rp_fyes {N : List (List Int32)} {cnt : Int32} {nf : Nat → Int64} {w : List Int32} (hN : rp_N N cnt nf) (hw : w.length ≤ 6 ∧ ∀ x ∈ w, 97 ≤ x.toInt ∧ x.toInt ≤ 122) (h : ∃ i : Nat, (i : Int) < cnt.toInt ∧ nf i = rp_cd w) : w ∈ N := by
  obtain ⟨i, hi, e⟩ := h
  rw [hN.1] at hi
  have hl : i < N.length := by omega
  have g := List.getElem?_eq_getElem hl
  have m := List.getElem_mem hl
  have n := hN.2.2.2 _ m
  rw [hN.2.2.1 i _ g] at e
  rw [← rp_cdi n.1.2 n.2 hw.1 hw.2 e]
  exact m
/-- the letters of a word -/
theorem rp_adv_all {g : Int32 → Bool} {n : Int32} (hn : n.toInt ≤ 800) (hg : ∀ k : Int32, 0 ≤ k.toInt → g k = true → k.toInt < n.toInt) : ∀ (j : Nat) (p : Int32), 0 ≤ p.toInt → p.toInt ≤ n.toInt → ∀ i : Int32, p.toInt ≤ i.toInt → i.toInt < (rp_adv g j p).toInt → g i = true
  | 0, p, h0, h, i, h1, h2 => absurd h2 (by show ¬ i.toInt < p.toInt; omega)
  | j + 1, p, h0, h, i, h1, h2 => by
    have h3 : i.toInt < (if g p = true then rp_adv g j (p + 1) else p).toInt := h2
    by_cases hp : g p = true
    · rw [if_pos hp] at h3
      have l := hg p h0 hp
      have e : (p + 1).toInt = p.toInt + 1 := rf_p1 (by omega)
      by_cases q : i.toInt = p.toInt
      · rw [Int32.toInt_inj.mp q]
        exact hp
      · exact rp_adv_all hn hg j (p + 1) (by omega) (by omega) i (by omega) h3
    · rw [if_neg hp] at h3
      omega
theorem rp_w_let {b : Nat → Int32} {n p : Int32} (hn : n.toInt ≤ 800) (hp : 0 ≤ p.toInt ∧ p.toInt ≤ n.toInt) : ∀ x ∈ rp_w b n p, 97 ≤ x.toInt ∧ x.toInt ≤ 122 := by
  intro x hx
  unfold rp_w rp_wd at hx
  obtain ⟨i, hi, e⟩ := List.mem_map.mp hx
  rw [List.mem_range] at hi
  have r := rp_we_b (b := b) hn hp
  have hk : (Int32.ofNat (p.toInt.toNat + i)).toInt = ((p.toInt.toNat + i : Nat) : Int) := Int32.toInt_ofNat_of_lt (by omega)
  have g := rp_adv_all hn (rp_letl (b := b)) _ p hp.1 hp.2 (Int32.ofNat (p.toInt.toNat + i)) (by omega) (by rw [hk]; show ((p.toInt.toNat + i : Nat) : Int) < (rp_we b n p).toInt; omega)
  have d : 97 ≤ (rf_bt b n (Int32.ofNat (p.toInt.toNat + i))).toInt ∧ (rf_bt b n (Int32.ofNat (p.toInt.toNat + i))).toInt ≤ 122 := of_decide_eq_true g
  have lt := rp_letl (b := b) (n := n) (Int32.ofNat (p.toInt.toNat + i)) (by omega) g
  have eb : rf_bt b n (Int32.ofNat (p.toInt.toNat + i)) = b (p.toInt.toNat + i) := by
    unfold rf_bt
    rw [if_pos (Int32.lt_iff_toInt_lt.mpr lt)]
    show b (Int32.ofNat (p.toInt.toNat + i)).toInt.toNat = _
    rw [hk, show (((p.toInt.toNat + i : Nat) : Int)).toNat = p.toInt.toNat + i from by omega]
  rw [eb] at d
  rw [← e]
  exact d
theorem rp_11 {x : Int32} (h : ¬ (11 : Int32) ≤ x) : x.toInt < 11 := by
  rw [Int32.le_iff_toInt_le, show (11 : Int32).toInt = 11 from by decide] at h
  omega
theorem rp_11g {x : Int32} (h : (11 : Int32) ≤ x) : 11 ≤ x.toInt := by
  rw [Int32.le_iff_toInt_le, show (11 : Int32).toInt = 11 from by decide] at h
  exact h
theorem rp_12 {x : Int32} (h : ¬ (12 : Int32) ≤ x) : x.toInt < 12 := by
  rw [Int32.le_iff_toInt_le, show (12 : Int32).toInt = 12 from by decide] at h
  omega
theorem rp_12g {x : Int32} (h : (12 : Int32) ≤ x) : 12 ≤ x.toInt := by
  rw [Int32.le_iff_toInt_le, show (12 : Int32).toInt = 12 from by decide] at h
  exact h
theorem rp_nle6 {x : Int32} (h : ¬ x ≤ (6 : Int32)) : (6 : Int32) < x := by
  rw [Int32.le_iff_toInt_le] at h
  rw [Int32.lt_iff_toInt_lt]
  omega
theorem rp_le6x {x : Int32} (h : x ≤ (6 : Int32)) : ¬ (6 : Int32) < x := by
  rw [Int32.le_iff_toInt_le] at h
  rw [Int32.lt_iff_toInt_lt]
  omega
/-! a curve and a program, step by step -/
def rp_cJ (b : Nat → Int32) (n : Int32) (N : List (List Int32)) (w : Int32) (er ep ep0 m : Int32) (v : Int) (p : Int32) : Prop :=
  (¬ er = 0 → ¬ rp_ck b n N w = 0 ∧ er = rp_ck b n N w ∧ ep = rp_cp b n N w) ∧
  (er = 0 → ep = ep0 ∧ rp_ck b n N w = rp_vk b n (11 - m.toInt.toNat) m.toInt.toNat v p ∧ rp_cp b n N w = rp_vp b n (11 - m.toInt.toNat) m.toInt.toNat v p)
theorem rp_z0 : (0 : Int32).toInt.toNat = 0 := by decide
theorem rp_cj12 {b : Nat → Int32} {n w er ep e1 p1 e2 p2 pl : Int32} {N : List (List Int32)} (h4 : ¬ 4 ≤ N.length) (her : er = 0) (o1 : rp_o er ep e1 p1 (rp_wk b n (rp_q2 b n w)) (rp_q2 b n w) True) (bad : 6 < (rp_w b n (rp_q2 b n w)).length ∨ rp_w b n (rp_q2 b n w) ∈ N) (o2 : rp_o e1 p1 e2 p2 3 (rp_q2 b n w) True) : rp_cJ b n N w e2 p2 ep 0 0 pl := by
  by_cases hl : rp_let b n (rp_q2 b n w) = true
  · have k : rp_wk b n (rp_q2 b n w) = 0 := if_pos hl
    have c : rp_ck b n N w = 3 := by
      unfold rp_ck
      rw [if_neg h4, if_neg (fun q => q hl), if_pos bad]
    have d : rp_cp b n N w = rp_q2 b n w := by
      unfold rp_cp
      rw [if_neg h4, if_neg (fun q => q hl), if_pos bad]
    rcases o1.2 her with x | x
    · rcases o2.2 x.2.1 with y | y
      · exact absurd y.1 (by decide)
      · refine ⟨fun _ => ⟨by rw [c]; decide, y.2.1.trans c.symm, y.2.2.trans d.symm⟩, fun z => ?_⟩
        rw [y.2.1] at z
        exact absurd z (by decide)
    · exact absurd k x.1
  · have k : rp_wk b n (rp_q2 b n w) = 1 := if_neg hl
    have c : rp_ck b n N w = 1 := by
      unfold rp_ck
      rw [if_neg h4, if_pos hl]
    have d : rp_cp b n N w = rp_q2 b n w := by
      unfold rp_cp
      rw [if_neg h4, if_pos hl]
    rcases o1.2 her with x | x
    · rw [k] at x
      exact absurd x.1 (by decide)
    · have e : e1 = 1 := x.2.1.trans k
      have y := o2.1 (by rw [e]; decide)
      refine ⟨fun _ => ⟨by rw [c]; decide, (y.1.trans e).trans c.symm, (y.2.trans x.2.2).trans d.symm⟩, fun z => ?_⟩
      rw [y.1, e] at z
      exact absurd z (by decide)
theorem rp_cj3 {b : Nat → Int32} {n w er ep e1 p1 : Int32} {N : List (List Int32)} (h4 : ¬ 4 ≤ N.length) (her : er = 0) (o1 : rp_o er ep e1 p1 (rp_wk b n (rp_q2 b n w)) (rp_q2 b n w) True) (ok : ¬ (6 < (rp_w b n (rp_q2 b n w)).length ∨ rp_w b n (rp_q2 b n w) ∈ N)) : rp_cJ b n N w e1 p1 ep 0 0 (rp_we b n (rp_q2 b n w)) := by
  by_cases hl : rp_let b n (rp_q2 b n w) = true
  · have k : rp_wk b n (rp_q2 b n w) = 0 := if_pos hl
    rcases o1.2 her with x | x
    · refine ⟨fun z => absurd x.2.1 z, fun _ => ⟨x.2.2.1, ?_, ?_⟩⟩
      · unfold rp_ck
        rw [if_neg h4, if_neg (fun q => q hl), if_neg ok, rp_z0]
      · unfold rp_cp
        rw [if_neg h4, if_neg (fun q => q hl), if_neg ok, rp_z0]
    · exact absurd k x.1
  · have k : rp_wk b n (rp_q2 b n w) = 1 := if_neg hl
    have c : rp_ck b n N w = 1 := by
      unfold rp_ck
      rw [if_neg h4, if_pos hl]
    have d : rp_cp b n N w = rp_q2 b n w := by
      unfold rp_cp
      rw [if_neg h4, if_pos hl]
    rcases o1.2 her with x | x
    · rw [k] at x
      exact absurd x.1 (by decide)
    · have e : e1 = 1 := x.2.1.trans k
      refine ⟨fun _ => ⟨by rw [c]; decide, e.trans c.symm, x.2.2.trans d.symm⟩, fun z => ?_⟩
      rw [e] at z
      exact absurd z (by decide)
theorem rp_cjs {b : Nat → Int32} {n w er ep ep0 e1 p1 m p q : Int32} {v r : Int} {N : List (List Int32)} (J : rp_cJ b n N w er ep ep0 m v p) (her : er = 0) (hm : 0 ≤ m.toInt ∧ m.toInt < 11) (hd : ¬ (2 ≤ m.toInt ∧ ¬ rp_dig b n (rp_sk b n p) = true)) (o : rp_o er ep e1 p1 (rp_rk b n v 5000 p) (rp_rp b n v 5000 p) (q = rp_rp b n v 5000 p ∧ r = rp_rv b n p)) : rp_cJ b n N w e1 p1 ep0 (m + Int32.ofInt 1) r q := by
  obtain ⟨hep, hk, hp⟩ := J.2 her
  have e : (m + Int32.ofInt 1).toInt = m.toInt + 1 := rf_p1 (by omega)
  have e1' : 11 - m.toInt.toNat = (11 - (m + Int32.ofInt 1).toInt.toNat) + 1 := by omega
  have e2' : (m + Int32.ofInt 1).toInt.toNat = m.toInt.toNat + 1 := by omega
  have hd2 : ¬ (2 ≤ m.toInt.toNat ∧ ¬ rp_dig b n (rp_sk b n p) = true) := fun z => hd ⟨by omega, z.2⟩
  have hk2 : rp_ck b n N w = rp_k2 (rp_rk b n v 5000 p) (rp_vk b n (11 - (m + Int32.ofInt 1).toInt.toNat) (m.toInt.toNat + 1) (rp_rv b n p) (rp_rp b n v 5000 p)) := by
    rw [hk, e1']
    exact if_neg hd2
  have hp2 : rp_cp b n N w = rp_p2 (rp_rk b n v 5000 p) (rp_rp b n v 5000 p) (rp_vp b n (11 - (m + Int32.ofInt 1).toInt.toNat) (m.toInt.toNat + 1) (rp_rv b n p) (rp_rp b n v 5000 p)) := by
    rw [hp, e1']
    exact if_neg hd2
  rcases o.2 her with ⟨k, a, c, d1, d2⟩ | ⟨k, a, c⟩
  · refine ⟨fun z => absurd a z, fun _ => ⟨c.trans hep, ?_, ?_⟩⟩
    · rw [hk2, d1, d2, e2']
      exact if_pos k
    · rw [hp2, d1, d2, e2']
      exact if_pos k
  · have hc : rp_ck b n N w = rp_rk b n v 5000 p := hk2.trans (if_neg k)
    have hq : rp_cp b n N w = rp_rp b n v 5000 p := hp2.trans (if_neg k)
    refine ⟨fun _ => ⟨by rw [hc]; exact k, a.trans hc.symm, c.trans hq.symm⟩, fun z => absurd (a.symm.trans z) k⟩
/-- how a curve ends -/
theorem rp_ce1 {b : Nat → Int32} {n w er0 er ep ep0 m p : Int32} {v : Int} {N : List (List Int32)} {B : Prop} (h0 : er0 = 0) (J : rp_cJ b n N w er ep ep0 m v p) (hm : ¬ er = 0 ∨ 11 ≤ m.toInt) (hB : rp_ck b n N w = 0 → B) : rp_o er0 ep0 er ep (rp_ck b n N w) (rp_cp b n N w) (B ∧ rp_sk b n p = rp_sk b n (rp_cp b n N w)) := by
  refine ⟨fun z => absurd h0 z, fun _ => ?_⟩
  by_cases her : er = 0
  · obtain ⟨hep, hk, hp⟩ := J.2 her
    have hm2 : 11 - m.toInt.toNat = 0 := by
      rcases hm with q | q
      · exact absurd her q
      · omega
    rw [hm2] at hk hp
    exact Or.inl ⟨hk, her, hep, hB hk, by rw [hp]; rfl⟩
  · obtain ⟨a, c, d⟩ := J.1 her
    exact Or.inr ⟨a, c, d⟩
theorem rp_ce2 {b : Nat → Int32} {n w er0 er ep ep0 m p : Int32} {v : Int} {N : List (List Int32)} {B : Prop} (h0 : er0 = 0) (J : rp_cJ b n N w er ep ep0 m v p) (her : er = 0) (hm : 2 ≤ m.toInt ∧ m.toInt < 11) (hd : ¬ rp_dig b n (rp_sk b n p) = true) (hB : rp_ck b n N w = 0 → B) : rp_o er0 ep0 er ep (rp_ck b n N w) (rp_cp b n N w) (B ∧ rp_sk b n (rp_sk b n p) = rp_sk b n (rp_cp b n N w)) := by
  obtain ⟨hep, hk, hp⟩ := J.2 her
  have e1 : 11 - m.toInt.toNat = (10 - m.toInt.toNat) + 1 := by omega
  have c : 2 ≤ m.toInt.toNat ∧ ¬ rp_dig b n (rp_sk b n p) = true := ⟨by omega, hd⟩
  rw [e1] at hk hp
  have hk2 : rp_ck b n N w = 0 := hk.trans (if_pos c)
  have hp2 : rp_cp b n N w = rp_sk b n p := hp.trans (if_pos c)
  exact ⟨fun z => absurd h0 z, fun _ => Or.inl ⟨hk2, her, hep, hB hk2, by rw [hp2]⟩⟩
def rp_gJ (b : Nat → Int32) (n : Int32) (np : Int) (w : Int32) (er ep ep0 m p : Int32) : Prop :=
  (¬ er = 0 → ¬ rp_gk b n np w = 0 ∧ er = rp_gk b n np w ∧ ep = rp_gp b n np w) ∧
  (er = 0 → ep = ep0 ∧ rp_gk b n np w = rp_ssk b n (12 - m.toInt.toNat) m.toInt.toNat p ∧ rp_gp b n np w = rp_ssp b n (12 - m.toInt.toNat) m.toInt.toNat p)
theorem rp_gj0 {b : Nat → Int32} {n w er ep p : Int32} {np : Int} (h4 : ¬ 4 ≤ np) (her : er = 0) (hp : p = rp_we b n w) : rp_gJ b n np w er ep ep 0 p := by
  refine ⟨fun z => absurd her z, fun _ => ⟨rfl, ?_, ?_⟩⟩
  · unfold rp_gk
    rw [if_neg h4, rp_z0, hp]
  · unfold rp_gp
    rw [if_neg h4, rp_z0, hp]
theorem rp_gjs {b : Nat → Int32} {n w er ep ep0 e1 p1 e2 p2 m p q : Int32} {np : Int} (J : rp_gJ b n np w er ep ep0 m p) (her : er = 0) (hm : 0 ≤ m.toInt ∧ m.toInt < 12) (hd : rp_let b n (rp_sk b n p) = true ∨ m.toInt = 0) (o1 : rp_o er ep e1 p1 (rp_wk b n (rp_sk b n p)) (rp_sk b n p) True) (o2 : rp_o e1 p1 e2 p2 (rp_stk b n m.toInt (rp_sk b n p)) (rp_stp b n m.toInt (rp_sk b n p)) (q = rp_stp b n m.toInt (rp_sk b n p))) : rp_gJ b n np w e2 p2 ep0 (m + Int32.ofInt 1) q := by
  obtain ⟨hep, hk, hp⟩ := J.2 her
  have e : (m + Int32.ofInt 1).toInt = m.toInt + 1 := rf_p1 (by omega)
  have e1' : 12 - m.toInt.toNat = (12 - (m + Int32.ofInt 1).toInt.toNat) + 1 := by omega
  have e2' : (m + Int32.ofInt 1).toInt.toNat = m.toInt.toNat + 1 := by omega
  have em : ((m.toInt.toNat : Nat) : Int) = m.toInt := by omega
  rw [e1'] at hk hp
  by_cases hl : rp_let b n (rp_sk b n p) = true
  · have k : rp_wk b n (rp_sk b n p) = 0 := if_pos hl
    have hk2 : rp_gk b n np w = rp_k2 (rp_stk b n m.toInt (rp_sk b n p)) (rp_ssk b n (12 - (m + Int32.ofInt 1).toInt.toNat) (m.toInt.toNat + 1) (rp_stp b n m.toInt (rp_sk b n p))) := by
      have h := hk.trans (if_pos hl)
      rw [em] at h
      exact h
    have hp2 : rp_gp b n np w = rp_p2 (rp_stk b n m.toInt (rp_sk b n p)) (rp_stp b n m.toInt (rp_sk b n p)) (rp_ssp b n (12 - (m + Int32.ofInt 1).toInt.toNat) (m.toInt.toNat + 1) (rp_stp b n m.toInt (rp_sk b n p))) := by
      have h := hp.trans (if_pos hl)
      rw [em] at h
      exact h
    rcases o1.2 her with x | x
    · rcases o2.2 x.2.1 with ⟨k2, a, c, d⟩ | ⟨k2, a, c⟩
      · refine ⟨fun z => absurd a z, fun _ => ⟨(c.trans x.2.2.1).trans hep, ?_, ?_⟩⟩
        · rw [hk2, d, e2']
          exact if_pos k2
        · rw [hp2, d, e2']
          exact if_pos k2
      · have hc : rp_gk b n np w = rp_stk b n m.toInt (rp_sk b n p) := hk2.trans (if_neg k2)
        have hq : rp_gp b n np w = rp_stp b n m.toInt (rp_sk b n p) := hp2.trans (if_neg k2)
        exact ⟨fun _ => ⟨by rw [hc]; exact k2, a.trans hc.symm, c.trans hq.symm⟩, fun z => absurd (a.symm.trans z) k2⟩
    · exact absurd k x.1
  · have k : rp_wk b n (rp_sk b n p) = 1 := if_neg hl
    have m0 : m.toInt.toNat = 0 := by
      rcases hd with q | q
      · exact absurd q hl
      · omega
    have hc : rp_gk b n np w = 1 := (hk.trans (if_neg hl)).trans (if_pos m0)
    have hq : rp_gp b n np w = rp_sk b n p := hp.trans (if_neg hl)
    rcases o1.2 her with x | x
    · rw [k] at x
      exact absurd x.1 (by decide)
    · have e : e1 = 1 := x.2.1.trans k
      have y := o2.1 (by rw [e]; decide)
      refine ⟨fun _ => ⟨by rw [hc]; decide, (y.1.trans e).trans hc.symm, (y.2.trans x.2.2).trans hq.symm⟩, fun z => ?_⟩
      rw [y.1, e] at z
      exact absurd z (by decide)
theorem rp_ge1 {b : Nat → Int32} {n w er0 er ep ep0 m p : Int32} {np : Int} (h0 : er0 = 0) (J : rp_gJ b n np w er ep ep0 m p) (hm : ¬ er = 0 ∨ 12 ≤ m.toInt) : rp_o er0 ep0 er ep (rp_gk b n np w) (rp_gp b n np w) (rp_sk b n p = rp_sk b n (rp_gp b n np w)) := by
  refine ⟨fun z => absurd h0 z, fun _ => ?_⟩
  by_cases her : er = 0
  · obtain ⟨hep, hk, hp⟩ := J.2 her
    have hm2 : 12 - m.toInt.toNat = 0 := by
      rcases hm with q | q
      · exact absurd her q
      · omega
    rw [hm2] at hk hp
    exact Or.inl ⟨hk, her, hep, by rw [hp]; rfl⟩
  · obtain ⟨a, c, d⟩ := J.1 her
    exact Or.inr ⟨a, c, d⟩
theorem rp_ge2 {b : Nat → Int32} {n w er0 er ep ep0 m p : Int32} {np : Int} (h0 : er0 = 0) (J : rp_gJ b n np w er ep ep0 m p) (her : er = 0) (hm : 1 ≤ m.toInt ∧ m.toInt < 12) (hd : ¬ rp_let b n (rp_sk b n p) = true) : rp_o er0 ep0 er ep (rp_gk b n np w) (rp_gp b n np w) (rp_sk b n (rp_sk b n p) = rp_sk b n (rp_gp b n np w)) := by
  obtain ⟨hep, hk, hp⟩ := J.2 her
  have e1 : 12 - m.toInt.toNat = (11 - m.toInt.toNat) + 1 := by omega
  rw [e1] at hk hp
  have m0 : ¬ m.toInt.toNat = 0 := by omega
  have hk2 : rp_gk b n np w = 0 := (hk.trans (if_neg hd)).trans (if_neg m0)
  have hp2 : rp_gp b n np w = rp_sk b n p := hp.trans (if_neg hd)
  exact ⟨fun z => absurd h0 z, fun _ => Or.inl ⟨hk2, her, hep, by rw [hp2]⟩⟩
theorem rp_osk {b : Nat → Int32} {n p q er ep e1 p1 : Int32} {lo hi r : Int} (hn : n.toInt ≤ 800) (hp : 0 ≤ p.toInt ∧ p.toInt ≤ n.toInt) (o : rp_o er ep e1 p1 (rp_rk b n lo hi (rp_sk b n p)) (rp_rp b n lo hi (rp_sk b n p)) (q = rp_rp b n lo hi (rp_sk b n p) ∧ r = rp_rv b n (rp_sk b n p))) : rp_o er ep e1 p1 (rp_rk b n lo hi p) (rp_rp b n lo hi p) (q = rp_rp b n lo hi p ∧ r = rp_rv b n p) := by
  have h := rp_rk_sk (b := b) (lo := lo) (hi := hi) hn hp
  rw [h.1, h.2.1, h.2.2] at o
  exact o
theorem rp_w_len {b : Nat → Int32} {n p : Int32} : (rp_w b n p).length = ((rp_we b n p).toInt - p.toInt).toNat := rp_wd_len _ _ _
theorem rp_gt6 {b : Nat → Int32} {n p : Int32} (h0 : 0 ≤ p.toInt) (hb : p.toInt ≤ (rp_we b n p).toInt) (h : (6 : Int32) < ((rp_we b n p) - p)) : 6 < (rp_w b n p).length := by
  have := (rp_we b n p).toInt_lt
  rw [Int32.lt_iff_toInt_lt, Jvm.Kit.i32_sub (by omega) (by omega), show (6 : Int32).toInt = 6 from by decide] at h
  rw [rp_w_len]
  omega
theorem rp_le6 {b : Nat → Int32} {n p : Int32} (h0 : 0 ≤ p.toInt) (hb : p.toInt ≤ (rp_we b n p).toInt) (h : ¬ (6 : Int32) < ((rp_we b n p) - p)) : ¬ 6 < (rp_w b n p).length := by
  have := (rp_we b n p).toInt_lt
  rw [Int32.lt_iff_toInt_lt, Jvm.Kit.i32_sub (by omega) (by omega), show (6 : Int32).toInt = 6 from by decide] at h
  rw [rp_w_len]
  omega
theorem rp_lt4 {x : Int32} (h : x < (4 : Int32)) : x.toInt < 4 := by
  rw [Int32.lt_iff_toInt_lt, show (4 : Int32).toInt = 4 from by decide] at h
  exact h
theorem rp_nlt4 {x : Int32} (h : ¬ x < (4 : Int32)) : 4 ≤ x.toInt := by
  rw [Int32.lt_iff_toInt_lt, show (4 : Int32).toInt = 4 from by decide] at h
  omega
theorem rp_ce0 {b : Nat → Int32} {n w er ep e1 p1 : Int32} {N : List (List Int32)} {ok : Prop} (h4 : 4 ≤ N.length) (o : rp_o er ep e1 p1 4 w True) : rp_o er ep e1 p1 (rp_ck b n N w) (rp_cp b n N w) ok := by
  rw [show rp_ck b n N w = 4 from if_pos h4, show rp_cp b n N w = w from if_pos h4]
  exact rp_ofail (by decide) o
theorem rp_ge0 {b : Nat → Int32} {n w er ep e1 p1 : Int32} {np : Int} {ok : Prop} (h4 : 4 ≤ np) (o : rp_o er ep e1 p1 4 w True) : rp_o er ep e1 p1 (rp_gk b n np w) (rp_gp b n np w) ok := by
  rw [show rp_gk b n np w = 4 from if_pos h4, show rp_gp b n np w = w from if_pos h4]
  exact rp_ofail (by decide) o
/-- the names with the new one -/
theorem rp_cB {b : Nat → Int32} {n w cnt : Int32} {nf : Nat → Int64} {N : List (List Int32)} (hn : n.toInt ≤ 800) (hq : 0 ≤ (rp_q2 b n w).toInt ∧ (rp_q2 b n w).toInt ≤ n.toInt) (hN : rp_N N cnt nf) (h : rp_ck b n N w = 0) : rp_N (N ++ [rp_w b n (rp_q2 b n w)]) (cnt + 1) (vp_updL nf cnt.toNatClampNeg (rp_cd (rp_w b n (rp_q2 b n w)))) := by
  unfold rp_ck at h
  by_cases h4 : 4 ≤ N.length
  · rw [if_pos h4] at h
    exact absurd h (by decide)
  rw [if_neg h4] at h
  by_cases hl : rp_let b n (rp_q2 b n w) = true
  · rw [if_neg (fun q => q hl)] at h
    by_cases h6 : 6 < (rp_w b n (rp_q2 b n w)).length ∨ rp_w b n (rp_q2 b n w) ∈ N
    · rw [if_pos h6] at h
      exact absurd h (by decide)
    · obtain ⟨c1, c2, c3, c4⟩ := hN
      have e : (cnt + 1).toInt = cnt.toInt + 1 := rf_p1 (by omega)
      have ec : cnt.toNatClampNeg = N.length := by
        show cnt.toInt.toNat = _
        omega
      have l1 : 1 ≤ (rp_w b n (rp_q2 b n w)).length := by
        have st : rp_we b n (rp_q2 b n w) = rp_we b n (rp_q2 b n w + 1) := rp_toS (by omega) hl
        have lt := rp_letl (b := b) (n := n) _ hq.1 hl
        have e1 : (rp_q2 b n w + 1).toInt = (rp_q2 b n w).toInt + 1 := rf_p1 (by omega)
        have bd := rp_we_b (b := b) (n := n) (p := rp_q2 b n w + 1) hn (by omega)
        rw [rp_w_len, st]
        omega
      refine ⟨by rw [e, c1, List.length_append, List.length_singleton]; omega, by rw [List.length_append, List.length_singleton]; omega, fun i x hx => ?_, fun x hx => ?_⟩
      · rw [ec]
        by_cases hi : i < N.length
        · rw [List.getElem?_append_left hi] at hx
          show (if i = N.length then _ else nf i) = _
          rw [if_neg (by omega)]
          exact c3 i x hx
        · rw [List.getElem?_append_right (by omega)] at hx
          have i0 : i - N.length = 0 := by
            have := (List.getElem?_eq_some_iff.mp hx).1
            rw [List.length_singleton] at this
            omega
          rw [i0] at hx
          cases hx
          show (if i = N.length then _ else nf i) = _
          rw [if_pos (by omega)]
      · rcases List.mem_append.mp hx with q | q
        · exact c4 x q
        · rw [List.mem_singleton.mp q]
          exact ⟨⟨l1, by omega⟩, rp_w_let hn hq⟩
  · rw [if_pos hl] at h
    exact absurd h (by decide)
theorem rp_n6i {x : Int32} (h : x < (6 : Int32)) : x.toInt < 6 := by
  rw [Int32.lt_iff_toInt_lt, show (6 : Int32).toInt = 6 from by decide] at h
  exact h
theorem rp_n6j {x : Int32} (h : ¬ x < (6 : Int32)) : 6 ≤ x.toInt := by
  rw [Int32.lt_iff_toInt_lt, show (6 : Int32).toInt = 6 from by decide] at h
  omega
theorem rp_le0 {b : Nat → Int32} {n w er ep e1 p1 : Int32} {N : List (List Int32)} {nc : Int} {ok : Prop} (h6 : 6 ≤ nc) (o : rp_o er ep e1 p1 4 w True) : rp_o er ep e1 p1 (rp_lk b n N nc w) (rp_lp b n N nc w) ok := by
  rw [show rp_lk b n N nc w = 4 from if_pos h6, show rp_lp b n N nc w = w from if_pos h6]
  exact rp_ofail (by decide) o
theorem rp_lbad {b : Nat → Int32} {n w er ep e1 p1 e2 p2 : Int32} {N : List (List Int32)} {nc : Int} {ok : Prop} (h6 : ¬ 6 ≤ nc) (her : er = 0) (o1 : rp_o er ep e1 p1 (rp_wk b n (rp_q2 b n w)) (rp_q2 b n w) True) (bad : 6 < (rp_w b n (rp_q2 b n w)).length ∨ ¬ rp_w b n (rp_q2 b n w) ∈ N) (o2 : rp_o e1 p1 e2 p2 3 (rp_q2 b n w) True) : rp_o er ep e2 p2 (rp_lk b n N nc w) (rp_lp b n N nc w) ok := by
  refine ⟨fun z => absurd her z, fun _ => Or.inr ?_⟩
  by_cases hl : rp_let b n (rp_q2 b n w) = true
  · have k : rp_wk b n (rp_q2 b n w) = 0 := if_pos hl
    have c : rp_lk b n N nc w = 3 := by
      unfold rp_lk
      rw [if_neg h6, if_neg (fun q => q hl), if_pos bad]
    have d : rp_lp b n N nc w = rp_q2 b n w := by
      unfold rp_lp
      rw [if_neg h6, if_neg (fun q => q hl), if_pos bad]
    rcases o1.2 her with x | x
    · rcases o2.2 x.2.1 with y | y
      · exact absurd y.1 (by decide)
      · rw [c, d]
        exact ⟨by decide, y.2.1, y.2.2⟩
    · exact absurd k x.1
  · have k : rp_wk b n (rp_q2 b n w) = 1 := if_neg hl
    have c : rp_lk b n N nc w = 1 := by
      unfold rp_lk
      rw [if_neg h6, if_pos hl]
    have d : rp_lp b n N nc w = rp_q2 b n w := by
      unfold rp_lp
      rw [if_neg h6, if_pos hl]
    rcases o1.2 her with x | x
    · rw [k] at x
      exact absurd x.1 (by decide)
    · have e : e1 = 1 := x.2.1.trans k
      have y := o2.1 (by rw [e]; decide)
      rw [c, d]
      exact ⟨by decide, y.1.trans e, y.2.trans x.2.2⟩
theorem rp_lgood {b : Nat → Int32} {n w er ep e1 p1 e2 p2 pl cnt : Int32} {nf : Nat → Int64} {N : List (List Int32)} {nc : Int} {B : Prop} (h6 : ¬ 6 ≤ nc) (her : er = 0) (hN : rp_N N cnt nf) (hq : 0 ≤ (rp_q2 b n w).toInt ∧ (rp_q2 b n w).toInt ≤ 800) (o1 : rp_o er ep e1 p1 (rp_wk b n (rp_q2 b n w)) (rp_q2 b n w) True) (hw : rp_w b n (rp_q2 b n w) ∈ N) (o : rp_o e1 p1 e2 p2 (rp_4k b n (rp_we b n (rp_q2 b n w))) (rp_4p b n (rp_we b n (rp_q2 b n w))) (pl = rp_4p b n (rp_we b n (rp_q2 b n w)))) (hB : B) : rp_o er ep e2 p2 (rp_lk b n N nc w) (rp_lp b n N nc w) (B ∧ rp_sk b n pl = rp_sk b n (rp_lp b n N nc w)) := by
  have nm := hN.2.2.2 _ hw
  have hl : rp_let b n (rp_q2 b n w) = true := by
    by_cases q : rp_let b n (rp_q2 b n w) = true
    · exact q
    · have e : rp_we b n (rp_q2 b n w) = rp_q2 b n w := rp_toE hq q
      have l := nm.1.1
      rw [rp_w_len, e] at l
      omega
  have k : rp_wk b n (rp_q2 b n w) = 0 := if_pos hl
  have ok : ¬ (6 < (rp_w b n (rp_q2 b n w)).length ∨ ¬ rp_w b n (rp_q2 b n w) ∈ N) := fun z => z.elim (fun y => by have := nm.1.2; omega) (fun y => y hw)
  have c : rp_lk b n N nc w = rp_4k b n (rp_we b n (rp_q2 b n w)) := by
    unfold rp_lk
    rw [if_neg h6, if_neg (fun q => q hl), if_neg ok]
  have d : rp_lp b n N nc w = rp_4p b n (rp_we b n (rp_q2 b n w)) := by
    unfold rp_lp
    rw [if_neg h6, if_neg (fun q => q hl), if_neg ok]
  rw [c, d]
  refine ⟨fun z => absurd her z, fun _ => ?_⟩
  rcases o1.2 her with x | x
  · rcases o.2 x.2.1 with ⟨a1, a2, a3, a4⟩ | ⟨a1, a2, a3⟩
    · exact Or.inl ⟨a1, a2, a3.trans x.2.2.1, hB, by rw [a4]⟩
    · exact Or.inr ⟨a1, a2, a3⟩
  · exact absurd k x.1
/-! a statement, and the text -/
theorem rp_t1 {b : Nat → Int32} {n q : Int32} {N : List (List Int32)} {np nc : Int} (h : rp_wh b n q = 1) : rp_tk b n N np nc q = rp_ck b n N q ∧ rp_tp b n N np nc q = rp_cp b n N q ∧ rp_tN b n N q = N ++ [rp_w b n (rp_q2 b n q)] ∧ rp_tc b n q nc = nc ∧ rp_tg b n q np = np :=
  ⟨by unfold rp_tk; rw [h]; rfl, by unfold rp_tp; rw [h]; rfl, by unfold rp_tN; rw [if_pos h], by unfold rp_tc; rw [if_neg (by rw [h]; decide)], by unfold rp_tg; rw [if_neg (by rw [h]; decide)]⟩
theorem rp_t2 {b : Nat → Int32} {n q : Int32} {N : List (List Int32)} {np nc : Int} (h : rp_wh b n q = 2) : rp_tk b n N np nc q = rp_lk b n N nc q ∧ rp_tp b n N np nc q = rp_lp b n N nc q ∧ rp_tN b n N q = N ∧ rp_tc b n q nc = nc + 1 ∧ rp_tg b n q np = np :=
  ⟨by unfold rp_tk; rw [h]; rfl, by unfold rp_tp; rw [h]; rfl, by unfold rp_tN; rw [if_neg (by rw [h]; decide)], by unfold rp_tc; rw [if_pos h], by unfold rp_tg; rw [if_neg (by rw [h]; decide)]⟩
theorem rp_t3 {b : Nat → Int32} {n q : Int32} {N : List (List Int32)} {np nc : Int} (h : rp_wh b n q = 3) : rp_tk b n N np nc q = rp_gk b n np q ∧ rp_tp b n N np nc q = rp_gp b n np q ∧ rp_tN b n N q = N ∧ rp_tc b n q nc = nc ∧ rp_tg b n q np = np + 1 :=
  ⟨by unfold rp_tk; rw [h]; rfl, by unfold rp_tp; rw [h]; rfl, by unfold rp_tN; rw [if_neg (by rw [h]; decide)], by unfold rp_tc; rw [if_neg (by rw [h]; decide)], by unfold rp_tg; rw [if_pos h]⟩
theorem rp_t0 {b : Nat → Int32} {n q : Int32} {N : List (List Int32)} {np nc : Int} (h : rp_wh b n q = 0) : rp_tk b n N np nc q = rp_ek b n q ∧ rp_tp b n N np nc q = rp_ep b n q ∧ rp_tN b n N q = N ∧ rp_tc b n q nc = nc ∧ rp_tg b n q np = np :=
  ⟨by unfold rp_tk; rw [h]; rfl, by unfold rp_tp; rw [h]; rfl, by unfold rp_tN; rw [if_neg (by rw [h]; decide)], by unfold rp_tc; rw [if_neg (by rw [h]; decide)], by unfold rp_tg; rw [if_neg (by rw [h]; decide)]⟩
/-- a word that isn't empty begins with a letter -/
theorem rp_wl {b : Nat → Int32} {n q : Int32} {x : Int32} {l : List Int32} (hq : 0 ≤ q.toInt ∧ q.toInt ≤ 800) (h : rp_w b n q = x :: l) : rp_let b n q = true := by
  by_cases p : rp_let b n q = true
  · exact p
  · have e : rp_we b n q = q := rp_toE hq p
    have w : (rp_w b n q).length = 0 := by
      rw [rp_w_len, e]
      omega
    rw [h] at w
    cases w
theorem rp_wk0 {b : Nat → Int32} {n q er ep e1 p1 : Int32} (her : er = 0) (o : rp_o er ep e1 p1 (rp_wk b n q) q True) (hl : rp_let b n q = true) : e1 = 0 ∧ p1 = ep := by
  rcases o.2 her with x | x
  · exact ⟨x.2.1, x.2.2.1⟩
  · exact absurd (if_pos hl) x.1
theorem rp_we0 {b : Nat → Int32} {n q : Int32} (h : ¬ rp_let b n q = true) (hq : 0 ≤ q.toInt ∧ q.toInt ≤ 800) : rp_ek b n q = 1 ∧ rp_ep b n q = q := by
  have e : rp_we b n q = q := rp_toE hq h
  have w : rp_w b n q = [] := by
    unfold rp_w
    rw [e]
    exact rp_wd0
  refine ⟨?_, ?_⟩
  · unfold rp_ek
    rw [w]
    simp
  · unfold rp_ep
    rw [w]
    simp
/-- what a statement leaves: the outcome, and what is known of the world behind it -/
def rp_sO (b : Nat → Int32) (n q : Int32) (N : List (List Int32)) (np nc : Int) (ep0 er ep pl cnt nc1 np1 : Int32) (nf : Nat → Int64) (N1 : List (List Int32)) : Prop :=
  rp_o 0 ep0 er ep (rp_tk b n N np nc q) (rp_tp b n N np nc q) ((N1 = rp_tN b n N q ∧ rp_N N1 cnt nf ∧ nc1.toInt = rp_tc b n q nc ∧ np1.toInt = rp_tg b n q np ∧ (0 ≤ nc1.toInt ∧ nc1.toInt ≤ 6) ∧ 0 ≤ np1.toInt ∧ np1.toInt ≤ 4) ∧ rp_sk b n pl = rp_sk b n (rp_tp b n N np nc q))
theorem rp_lk6 {b : Nat → Int32} {n q : Int32} {N : List (List Int32)} {nc : Int} (h : rp_lk b n N nc q = 0) : ¬ 6 ≤ nc := by
  intro z
  rw [show rp_lk b n N nc q = 4 from if_pos z] at h
  exact absurd h (by decide)
theorem rp_gk4 {b : Nat → Int32} {n q : Int32} {np : Int} (h : rp_gk b n np q = 0) : ¬ 4 ≤ np := by
  intro z
  rw [show rp_gk b n np q = 4 from if_pos z] at h
  exact absurd h (by decide)
theorem rp_ok0 {er ep e1 p1 k q : Int32} {A B : Prop} (h : rp_o er ep e1 p1 k q A) (w : k = 0 → A → B) : rp_o er ep e1 p1 k q B := ⟨h.1, fun z => (h.2 z).elim (fun x => Or.inl ⟨x.1, x.2.1, x.2.2.1, w x.1 x.2.2.2⟩) Or.inr⟩
section RPT
variable {b : Nat → Int32} {n q : Int32} {N : List (List Int32)} {np nc cnt : Int32} {nf : Nat → Int64} {ep0 e1 p1 er ep pl : Int32}
theorem rp_s1 {cnt1 : Int32} {nf1 : Nat → Int64} (h : rp_wh b n q = 1) (hnc : 0 ≤ nc.toInt ∧ nc.toInt ≤ 6) (hnp : 0 ≤ np.toInt ∧ np.toInt ≤ 4) (o : rp_o 0 ep0 er ep (rp_ck b n N q) (rp_cp b n N q) (rp_N (N ++ [rp_w b n (rp_q2 b n q)]) cnt1 nf1 ∧ rp_sk b n pl = rp_sk b n (rp_cp b n N q))) : rp_sO b n q N np.toInt nc.toInt ep0 er ep pl cnt1 nc np nf1 (N ++ [rp_w b n (rp_q2 b n q)]) := by
  have t := rp_t1 (N := N) (np := np.toInt) (nc := nc.toInt) h
  unfold rp_sO
  rw [t.1, t.2.1, t.2.2.1, t.2.2.2.1, t.2.2.2.2]
  exact rp_ow o (fun z => ⟨⟨rfl, z.1, rfl, rfl, hnc, hnp⟩, z.2⟩)
theorem rp_s2 {nc1 : Int32} (h : rp_wh b n q = 2) (hN : rp_N N cnt nf) (hnc : 0 ≤ nc.toInt ∧ nc.toInt ≤ 6) (hnp : 0 ≤ np.toInt ∧ np.toInt ≤ 4) (o : rp_o 0 ep0 er ep (rp_lk b n N nc.toInt q) (rp_lp b n N nc.toInt q) (nc1 = nc + 1 ∧ rp_sk b n pl = rp_sk b n (rp_lp b n N nc.toInt q))) : rp_sO b n q N np.toInt nc.toInt ep0 er ep pl cnt nc1 np nf N := by
  have t := rp_t2 (N := N) (np := np.toInt) (nc := nc.toInt) h
  unfold rp_sO
  rw [t.1, t.2.1, t.2.2.1, t.2.2.2.1, t.2.2.2.2]
  have e : (nc + 1).toInt = nc.toInt + 1 := rf_p1 (by omega)
  refine rp_ok0 o (fun k z => ⟨⟨rfl, hN, by rw [z.1, e], rfl, ?_, hnp⟩, z.2⟩)
  have := rp_lk6 k
  rw [z.1, e]
  omega
theorem rp_s3 {np1 : Int32} (h : rp_wh b n q = 3) (hN : rp_N N cnt nf) (hnc : 0 ≤ nc.toInt ∧ nc.toInt ≤ 6) (hnp : 0 ≤ np.toInt ∧ np.toInt ≤ 4) (o : rp_o 0 ep0 er ep (rp_gk b n np.toInt q) (rp_gp b n np.toInt q) (np1 = np + 1 ∧ rp_sk b n pl = rp_sk b n (rp_gp b n np.toInt q))) : rp_sO b n q N np.toInt nc.toInt ep0 er ep pl cnt nc np1 nf N := by
  have t := rp_t3 (N := N) (np := np.toInt) (nc := nc.toInt) h
  unfold rp_sO
  rw [t.1, t.2.1, t.2.2.1, t.2.2.2.1, t.2.2.2.2]
  have e : (np + 1).toInt = np.toInt + 1 := rf_p1 (by omega)
  refine rp_ok0 o (fun k z => ⟨⟨rfl, hN, rfl, by rw [z.1, e], hnc, ?_⟩, z.2⟩)
  have := rp_gk4 k
  rw [z.1, e]
  omega
theorem rp_s0 (h : rp_wh b n q = 0) (hN : rp_N N cnt nf) (hnc : 0 ≤ nc.toInt ∧ nc.toInt ≤ 6) (hnp : 0 ≤ np.toInt ∧ np.toInt ≤ 4) (hq : 0 ≤ q.toInt ∧ q.toInt ≤ 800) (o1 : rp_o 0 ep0 e1 p1 (rp_wk b n q) q True) (o : rp_o e1 p1 er ep (rp_ek b n q) (rp_ep b n q) (pl = rp_ep b n q)) : rp_sO b n q N np.toInt nc.toInt ep0 er ep pl cnt nc np nf N := by
  have t := rp_t0 (N := N) (np := np.toInt) (nc := nc.toInt) h
  unfold rp_sO
  rw [t.1, t.2.1, t.2.2.1, t.2.2.2.1, t.2.2.2.2]
  by_cases hl : rp_let b n q = true
  · obtain ⟨a, c⟩ := rp_wk0 rfl o1 hl
    subst a
    subst c
    exact rp_ow o (fun z => ⟨⟨rfl, hN, rfl, rfl, hnc, hnp⟩, by rw [z]⟩)
  · obtain ⟨a, c⟩ := rp_we0 hl hq
    rw [a, c]
    have k : rp_wk b n q = 1 := if_neg hl
    rw [k] at o1
    rcases o1.2 rfl with x | x
    · exact absurd x.1 (by decide)
    · have y := o.1 (by rw [x.2.1]; decide)
      exact ⟨fun z => absurd rfl z, fun _ => Or.inr ⟨by decide, y.1.trans x.2.1, y.2.trans x.2.2⟩⟩
end RPT
/-- the text from p on, m statements in: what is still to be said is what was to be said -/
def rp_xJ (b : Nat → Int32) (n K0 P0 : Int32) (C0 : Int) (m : Int32) (N : List (List Int32)) (np nc : Int) (p : Int32) : Prop :=
  K0 = rp_xk b n (802 - m.toInt.toNat) N np nc p ∧ P0 = rp_xp b n (802 - m.toInt.toNat) N np nc p ∧ C0 = rp_xc b n (802 - m.toInt.toNat) N np nc p
theorem rp_xs {b : Nat → Int32} {n K0 P0 m p q er ep ep0 pl cnt nc1 np1 : Int32} {C0 np nc : Int} {N N1 : List (List Int32)} {nf : Nat → Int64} (J : rp_xJ b n K0 P0 C0 m N np nc p) (hm : 0 ≤ m.toInt ∧ m.toInt ≤ 800) (hq : q = rp_sk b n p) (o : rp_sO b n q N np nc ep0 er ep pl cnt nc1 np1 nf N1) (her : er = 0) (h59 : rf_bt b n (rp_sk b n pl) = 59) : rp_xJ b n K0 P0 C0 (m + Int32.ofInt 1) N1 np1.toInt nc1.toInt (rp_sk b n pl + 1) ∧ ep = ep0 ∧ rp_N N1 cnt nf ∧ (0 ≤ nc1.toInt ∧ nc1.toInt ≤ 6) ∧ 0 ≤ np1.toInt ∧ np1.toInt ≤ 4 := by
  obtain ⟨j1, j2, j3⟩ := J
  have e : (m + Int32.ofInt 1).toInt = m.toInt + 1 := rf_p1 (by omega)
  have e1 : 802 - m.toInt.toNat = (802 - (m + Int32.ofInt 1).toInt.toNat) + 1 := by omega
  rw [e1] at j1 j2 j3
  subst hq
  rcases o.2 rfl with ⟨k, _, f, ⟨g1, g2, g3, g4, g5, g6⟩, g7⟩ | ⟨k, a, _⟩
  · have c : rf_bt b n (rp_sk b n (rp_tp b n N np nc (rp_sk b n p))) = 59 := by rw [← g7]; exact h59
    refine ⟨⟨?_, ?_, ?_⟩, f, g2, g5, g6⟩
    · rw [j1, g1, g3, g4, g7]
      exact (if_neg (fun z => z k)).trans (if_pos c)
    · rw [j2, g1, g3, g4, g7]
      exact (if_neg (fun z => z k)).trans (if_pos c)
    · rw [j3, g1, g3, g4, g7]
      exact if_pos c
  · exact absurd (a.symm.trans her) k
/-- the text ends -/
theorem rp_xe {b : Nat → Int32} {n K0 P0 m p q er ep ep0 pl cnt nc1 np1 : Int32} {C0 np nc : Int} {N N1 : List (List Int32)} {nf : Nat → Int64} (J : rp_xJ b n K0 P0 C0 m N np nc p) (hm : 0 ≤ m.toInt ∧ m.toInt ≤ 800) (hq : q = rp_sk b n p) (o : rp_sO b n q N np nc ep0 er ep pl cnt nc1 np1 nf N1) (h59 : er = 0 → ¬ rf_bt b n (rp_sk b n pl) = 59) : (¬ er = 0 → K0 = er ∧ P0 = ep) ∧ (er = 0 → (rf_bt b n (rp_sk b n pl) = -1 → K0 = 0 ∧ C0 = nc1.toInt) ∧ (¬ rf_bt b n (rp_sk b n pl) = -1 → K0 = 1 ∧ P0 = rp_sk b n pl)) := by
  obtain ⟨j1, j2, j3⟩ := J
  have e1 : 802 - m.toInt.toNat = (801 - m.toInt.toNat) + 1 := by omega
  rw [e1] at j1 j2 j3
  subst hq
  rcases o.2 rfl with ⟨k, a, f, ⟨g1, g2, g3, g4, g5, g6⟩, g7⟩ | ⟨k, a, f⟩
  · refine ⟨fun z => absurd a z, fun _ => ?_⟩
    have c : ¬ rf_bt b n (rp_sk b n (rp_tp b n N np nc (rp_sk b n p))) = 59 := by rw [← g7]; exact h59 a
    rw [g7]
    refine ⟨fun z => ⟨?_, ?_⟩, fun z => ⟨?_, ?_⟩⟩
    · rw [j1]
      exact (if_neg (fun y => y k)).trans ((if_neg c).trans (if_pos z))
    · rw [j3, g3]
      exact if_neg c
    · rw [j1]
      exact (if_neg (fun y => y k)).trans ((if_neg c).trans (if_neg z))
    · rw [j2]
      exact (if_neg (fun y => y k)).trans (if_neg c)
  · refine ⟨fun _ => ⟨?_, ?_⟩, fun z => absurd (a.symm.trans z) k⟩
    · rw [j1, a]
      exact if_pos k
    · rw [j2, f]
      exact if_pos k
/-! a statement that is well ends behind where it began; the whole text -/
theorem rp_rb {b : Nat → Int32} {n p : Int32} {lo hi : Int} (hn : n.toInt ≤ 800) (hp : 0 ≤ p.toInt ∧ p.toInt ≤ n.toInt) : p.toInt ≤ (rp_rp b n lo hi p).toInt ∧ (rp_rp b n lo hi p).toInt ≤ n.toInt := by
  have a := rp_sk_b (b := b) hn hp
  have d := rp_de_b (b := b) (p := rp_sk b n p) hn (by omega)
  unfold rp_rp
  by_cases h : rp_rk b n lo hi p = 0
  · rw [if_pos h]
    omega
  · rw [if_neg h]
    omega
theorem rp_p2b {k p q r n : Int32} (h1 : r.toInt ≤ p.toInt ∧ p.toInt ≤ n.toInt) (h2 : r.toInt ≤ q.toInt ∧ q.toInt ≤ n.toInt) : r.toInt ≤ (rp_p2 k p q).toInt ∧ (rp_p2 k p q).toInt ≤ n.toInt := by
  unfold rp_p2
  by_cases h : k = 0
  · rw [if_pos h]
    exact h2
  · rw [if_neg h]
    exact h1
theorem rp_db {b : Nat → Int32} {n p : Int32} {l1 h1 l2 h2 : Int} (hn : n.toInt ≤ 800) (hp : 0 ≤ p.toInt ∧ p.toInt ≤ n.toInt) : p.toInt ≤ (rp_dp b n l1 h1 l2 h2 p).toInt ∧ (rp_dp b n l1 h1 l2 h2 p).toInt ≤ n.toInt := by
  have a := rp_rb (b := b) (lo := l1) (hi := h1) hn hp
  have c := rp_rb (b := b) (p := rp_rp b n l1 h1 p) (lo := l2) (hi := h2) hn (by omega)
  exact rp_p2b a (by omega)
theorem rp_stb {b : Nat → Int32} {n q : Int32} {m : Int} (hn : n.toInt ≤ 800) (hq : 0 ≤ q.toInt ∧ q.toInt ≤ n.toInt) : q.toInt ≤ (rp_stp b n m q).toInt ∧ (rp_stp b n m q).toInt ≤ n.toInt := by
  have w := rp_we_b (b := b) hn hq
  have hw : 0 ≤ (rp_we b n q).toInt ∧ (rp_we b n q).toInt ≤ n.toInt := by omega
  have a1 := rp_db (b := b) (l1 := 1) (h1 := 5000) (l2 := 0) (h2 := 5000) hn hw
  have a2 := rp_db (b := b) (l1 := 0) (h1 := 5000) (l2 := 1) (h2 := 5000) hn hw
  have a3 := rp_rb (b := b) (lo := 1) (hi := 5000) hn hw
  have a4 := rp_db (b := b) (l1 := 0) (h1 := m - 1) (l2 := 1) (h2 := 50) hn hw
  unfold rp_stp
  split
  · omega
  split
  · omega
  split
  · omega
  split
  · omega
  split
  · omega
  · omega
theorem rp_ssb {b : Nat → Int32} {n : Int32} (hn : n.toInt ≤ 800) : ∀ (r m : Nat) (p : Int32), 0 ≤ p.toInt ∧ p.toInt ≤ n.toInt → p.toInt ≤ (rp_ssp b n r m p).toInt ∧ (rp_ssp b n r m p).toInt ≤ n.toInt
  | 0, m, p, hp => ⟨Int.le_refl _, hp.2⟩
  | r + 1, m, p, hp => by
    have a := rp_sk_b (b := b) hn hp
    have s := rp_stb (b := b) (q := rp_sk b n p) (m := m) hn (by omega)
    have i := rp_ssb (b := b) hn r (m + 1) (rp_stp b n m (rp_sk b n p)) (by omega)
    show p.toInt ≤ (if rp_let b n (rp_sk b n p) = true then rp_p2 (rp_stk b n m (rp_sk b n p)) (rp_stp b n m (rp_sk b n p)) (rp_ssp b n r (m + 1) (rp_stp b n m (rp_sk b n p))) else rp_sk b n p).toInt ∧ (if rp_let b n (rp_sk b n p) = true then rp_p2 (rp_stk b n m (rp_sk b n p)) (rp_stp b n m (rp_sk b n p)) (rp_ssp b n r (m + 1) (rp_stp b n m (rp_sk b n p))) else rp_sk b n p).toInt ≤ n.toInt
    by_cases h : rp_let b n (rp_sk b n p) = true
    · rw [if_pos h]
      exact rp_p2b (by omega) (by omega)
    · rw [if_neg h]
      omega
theorem rp_vb {b : Nat → Int32} {n : Int32} (hn : n.toInt ≤ 800) : ∀ (r m : Nat) (v : Int) (p : Int32), 0 ≤ p.toInt ∧ p.toInt ≤ n.toInt → p.toInt ≤ (rp_vp b n r m v p).toInt ∧ (rp_vp b n r m v p).toInt ≤ n.toInt
  | 0, m, v, p, hp => ⟨Int.le_refl _, hp.2⟩
  | r + 1, m, v, p, hp => by
    have a := rp_sk_b (b := b) hn hp
    have s := rp_rb (b := b) (lo := v) (hi := 5000) hn hp
    have i := rp_vb (b := b) hn r (m + 1) (rp_rv b n p) (rp_rp b n v 5000 p) (by omega)
    show p.toInt ≤ (if 2 ≤ m ∧ ¬ rp_dig b n (rp_sk b n p) = true then rp_sk b n p else rp_p2 (rp_rk b n v 5000 p) (rp_rp b n v 5000 p) (rp_vp b n r (m + 1) (rp_rv b n p) (rp_rp b n v 5000 p))).toInt ∧ (if 2 ≤ m ∧ ¬ rp_dig b n (rp_sk b n p) = true then rp_sk b n p else rp_p2 (rp_rk b n v 5000 p) (rp_rp b n v 5000 p) (rp_vp b n r (m + 1) (rp_rv b n p) (rp_rp b n v 5000 p))).toInt ≤ n.toInt
    by_cases h : 2 ≤ m ∧ ¬ rp_dig b n (rp_sk b n p) = true
    · rw [if_pos h]
      omega
    · rw [if_neg h]
      exact rp_p2b (by omega) (by omega)
theorem rp_q2b {b : Nat → Int32} {n q : Int32} (hn : n.toInt ≤ 800) (hq : 0 ≤ q.toInt ∧ q.toInt ≤ n.toInt) : (q.toInt ≤ (rp_q2 b n q).toInt ∧ (rp_q2 b n q).toInt ≤ n.toInt) ∧ q.toInt ≤ (rp_we b n (rp_q2 b n q)).toInt ∧ (rp_we b n (rp_q2 b n q)).toInt ≤ n.toInt := by
  have w := rp_we_b (b := b) hn hq
  have s := rp_sk_b (b := b) (p := rp_we b n q) hn (by omega)
  have s2 : q.toInt ≤ (rp_q2 b n q).toInt ∧ (rp_q2 b n q).toInt ≤ n.toInt := by
    show q.toInt ≤ (rp_sk b n (rp_we b n q)).toInt ∧ (rp_sk b n (rp_we b n q)).toInt ≤ n.toInt
    omega
  have w2 := rp_we_b (b := b) (p := rp_q2 b n q) hn (by omega)
  omega
theorem rp_cpb {b : Nat → Int32} {n q : Int32} {N : List (List Int32)} (hn : n.toInt ≤ 800) (hq : 0 ≤ q.toInt ∧ q.toInt ≤ n.toInt) : q.toInt ≤ (rp_cp b n N q).toInt ∧ (rp_cp b n N q).toInt ≤ n.toInt := by
  have a := rp_q2b (b := b) hn hq
  have v := rp_vb (b := b) hn 11 0 0 (rp_we b n (rp_q2 b n q)) (by omega)
  unfold rp_cp
  split
  · omega
  split
  · omega
  split
  · omega
  · omega
theorem rp_lpb {b : Nat → Int32} {n q : Int32} {N : List (List Int32)} {nc : Int} (hn : n.toInt ≤ 800) (hq : 0 ≤ q.toInt ∧ q.toInt ≤ n.toInt) : q.toInt ≤ (rp_lp b n N nc q).toInt ∧ (rp_lp b n N nc q).toInt ≤ n.toInt := by
  have a := rp_q2b (b := b) hn hq
  have a1 := rp_db (b := b) (p := rp_we b n (rp_q2 b n q)) (l1 := 100) (h1 := 100000) (l2 := 1) (h2 := 500) hn (by omega)
  have a2 := rp_rb (b := b) (p := rp_dp b n 100 100000 1 500 (rp_we b n (rp_q2 b n q))) (lo := 0) (hi := 500) hn (by omega)
  have a3 : (rp_we b n (rp_q2 b n q)).toInt ≤ (rp_5p b n (rp_we b n (rp_q2 b n q))).toInt ∧ (rp_5p b n (rp_we b n (rp_q2 b n q))).toInt ≤ n.toInt := rp_p2b (by omega) (by omega)
  have a4 := rp_rb (b := b) (p := rp_5p b n (rp_we b n (rp_q2 b n q))) (lo := 1) (hi := 200) hn (by omega)
  have a5 : (rp_we b n (rp_q2 b n q)).toInt ≤ (rp_4p b n (rp_we b n (rp_q2 b n q))).toInt ∧ (rp_4p b n (rp_we b n (rp_q2 b n q))).toInt ≤ n.toInt := rp_p2b (by omega) (by omega)
  unfold rp_lp
  split
  · omega
  split
  · omega
  split
  · omega
  · omega
theorem rp_gpb {b : Nat → Int32} {n q : Int32} {np : Int} (hn : n.toInt ≤ 800) (hq : 0 ≤ q.toInt ∧ q.toInt ≤ n.toInt) : q.toInt ≤ (rp_gp b n np q).toInt ∧ (rp_gp b n np q).toInt ≤ n.toInt := by
  have w := rp_we_b (b := b) hn hq
  have s := rp_ssb (b := b) hn 12 0 (rp_we b n q) (by omega)
  unfold rp_gp
  split
  · omega
  · omega
theorem rp_3pb {b : Nat → Int32} {n p : Int32} {l3 h3 : Int} (hn : n.toInt ≤ 800) (hp : 0 ≤ p.toInt ∧ p.toInt ≤ n.toInt) : p.toInt ≤ (rp_3p b n l3 h3 p).toInt ∧ (rp_3p b n l3 h3 p).toInt ≤ n.toInt := by
  have a1 := rp_db (b := b) (l1 := 0) (h1 := 5000) (l2 := rp_rv b n p) (h2 := 5000) hn hp
  have a2 := rp_rb (b := b) (p := rp_dp b n 0 5000 (rp_rv b n p) 5000 p) (lo := l3) (hi := h3) hn (by omega)
  exact rp_p2b a1 (by omega)
theorem rp_epb {b : Nat → Int32} {n q : Int32} (hn : n.toInt ≤ 800) (hq : 0 ≤ q.toInt ∧ q.toInt ≤ n.toInt) : q.toInt ≤ (rp_ep b n q).toInt ∧ (rp_ep b n q).toInt ≤ n.toInt := by
  have w := rp_we_b (b := b) hn hq
  have hw : 0 ≤ (rp_we b n q).toInt ∧ (rp_we b n q).toInt ≤ n.toInt := by omega
  have a1 := rp_rb (b := b) (lo := 500) (hi := 1000) hn hw
  have a2 := rp_rb (b := b) (lo := 100) (hi := 1000000) hn hw
  have a3 := rp_db (b := b) (l1 := 1) (h1 := 10000) (l2 := 0) (h2 := min 100 (rp_rv b n (rp_we b n q))) hn hw
  have a4 := rp_3pb (b := b) (l3 := 250) (h3 := 1000) hn hw
  have a5 := rp_rb (b := b) (lo := 0) (hi := 500) hn hw
  have a6 := rp_3pb (b := b) (l3 := 0) (h3 := 1000) hn hw
  have a7 := rp_rb (b := b) (lo := 0) (hi := 200) hn hw
  unfold rp_ep
  split
  · omega
  split
  · omega
  split
  · omega
  split
  · omega
  split
  · omega
  split
  · omega
  split
  · omega
  · omega
theorem rp_tpb {b : Nat → Int32} {n q : Int32} {N : List (List Int32)} {np nc : Int} (hn : n.toInt ≤ 800) (hq : 0 ≤ q.toInt ∧ q.toInt ≤ n.toInt) : q.toInt ≤ (rp_tp b n N np nc q).toInt ∧ (rp_tp b n N np nc q).toInt ≤ n.toInt := by
  unfold rp_tp
  split
  · exact rp_cpb hn hq
  · exact rp_lpb hn hq
  · exact rp_gpb hn hq
  · exact rp_epb hn hq
theorem rp_sOb {b : Nat → Int32} {n q : Int32} {N N1 : List (List Int32)} {np nc : Int} {ep0 ep pl cnt nc1 np1 : Int32} {nf : Nat → Int64} (hn : n.toInt ≤ 800) (hq : 0 ≤ q.toInt ∧ q.toInt ≤ n.toInt) (o : rp_sO b n q N np nc ep0 0 ep pl cnt nc1 np1 nf N1) : q.toInt ≤ (rp_sk b n pl).toInt ∧ (rp_sk b n pl).toInt ≤ n.toInt := by
  rcases o.2 rfl with ⟨k, a, f, g, g7⟩ | ⟨k, a, f⟩
  · have t := rp_tpb (b := b) (N := N) (np := np) (nc := nc) hn hq
    have s := rp_sk_b (b := b) (p := rp_tp b n N np nc q) hn (by omega)
    rw [g7]
    omega
  · exact absurd a.symm k
theorem rp_nx59 {b : Nat → Int32} {n p : Int32} (h : rp_nx b n p = 59) : rf_bt b n p = 59 ∧ p.toInt < n.toInt := by
  unfold rp_nx at h
  by_cases q : p < n
  · rw [if_pos q] at h
    refine ⟨?_, Int32.lt_iff_toInt_lt.mp q⟩
    unfold rf_bt
    rw [if_pos q]
    exact h
  · rw [if_neg q] at h
    exact absurd h (by decide)
theorem rp_nx5n {b : Nat → Int32} {n p : Int32} (h : ¬ rp_nx b n p = 59) : ¬ rf_bt b n p = 59 := by
  intro z
  apply h
  have l := rp_btl (k := p) (fun y => by rw [y] at z; exact absurd z (by decide))
  rw [rp_nxb l]
  exact z
/-- the bytes of a text -/
def rp_by (b : Nat → Int32) (n : Int32) : Prop := ∀ j : Nat, (j : Int) < n.toInt → 1 ≤ (b j).toInt ∧ (b j).toInt ≤ 255
theorem rp_byn {b : Nat → Int32} {n p : Int32} (h : rp_by b n) (hp : 0 ≤ p.toInt) (hl : p.toInt < n.toInt) : ¬ rf_bt b n p = -1 := by
  unfold rf_bt
  rw [if_pos (Int32.lt_iff_toInt_lt.mpr hl)]
  intro z
  have k := h p.toNatClampNeg (by show ((p.toInt.toNat : Nat) : Int) < _; omega)
  rw [z, show (-1 : Int32).toInt = -1 from by decide] at k
  omega
/-- the text: what is wrong (0: nothing), where, how many cells -/
def rp_K (b : Nat → Int32) (n : Int32) : Int32 := rp_xk b n 802 [] 0 0 0
def rp_P (b : Nat → Int32) (n : Int32) : Int32 := rp_xp b n 802 [] 0 0 0
def rp_C (b : Nat → Int32) (n : Int32) : Int := rp_xc b n 802 [] 0 0 0
/-- what load() answers -/
def rp_A (b : Nat → Int32) (n : Int32) : Int32 := if rp_K b n = 0 then Int32.ofInt (rp_C b n) else -100 - rp_P b n
def rp_T (b : Nat → Int32) (n er ep nc : Int32) : Prop := (er = 0 → rp_K b n = 0 ∧ rp_C b n = nc.toInt) ∧ (¬ er = 0 → rp_K b n = er ∧ rp_P b n = ep)
theorem rp_J0 (b : Nat → Int32) (n : Int32) : rp_xJ b n (rp_K b n) (rp_P b n) (rp_C b n) 0 [] (0 : Int32).toInt (0 : Int32).toInt 0 := by
  have z : (0 : Int32).toInt = 0 := by decide
  unfold rp_xJ
  rw [z]
  exact ⟨rfl, rfl, rfl⟩
theorem rp_N0 (nf : Nat → Int64) : rp_N [] 0 nf := ⟨by decide, by decide, (fun i w h => by cases h), (fun w h => absurd h List.not_mem_nil)⟩
section RPX
variable {b : Nat → Int32} {n m p q ep ep0 er pl cnt nc1 np1 e2 p2 : Int32} {np nc : Int} {N N1 : List (List Int32)} {nf : Nat → Int64}
/-- the end: an error, the text's own end, or a byte that can't stand there -/
theorem rp_e1 (J : rp_xJ b n (rp_K b n) (rp_P b n) (rp_C b n) m N np nc p) (hm : 0 ≤ m.toInt ∧ m.toInt ≤ 800) (hq : q = rp_sk b n p) (o : rp_sO b n q N np nc ep0 er ep pl cnt nc1 np1 nf N1) (h : ¬ er = 0) (f : rp_o er ep e2 p2 1 (rp_sk b n pl) True) : rp_T b n e2 p2 nc1 := by
  have x := (rp_xe J hm hq o (fun z => absurd z h)).1 h
  have y := f.1 h
  rw [y.1, y.2]
  exact ⟨fun z => absurd z h, fun _ => x⟩
theorem rp_e1n (J : rp_xJ b n (rp_K b n) (rp_P b n) (rp_C b n) m N np nc p) (hm : 0 ≤ m.toInt ∧ m.toInt ≤ 800) (hq : q = rp_sk b n p) (o : rp_sO b n q N np nc ep0 er ep pl cnt nc1 np1 nf N1) (h : ¬ er = 0) : rp_T b n er ep nc1 := by
  have x := (rp_xe J hm hq o (fun z => absurd z h)).1 h
  exact ⟨fun z => absurd z h, fun _ => x⟩
theorem rp_e2 (J : rp_xJ b n (rp_K b n) (rp_P b n) (rp_C b n) m N np nc p) (hm : 0 ≤ m.toInt ∧ m.toInt ≤ 800) (hq : q = rp_sk b n p) (o : rp_sO b n q N np nc ep0 0 ep pl cnt nc1 np1 nf N1) (h : ¬ rp_nx b n (rp_sk b n pl) = 59) (hb : rp_by b n) (h0 : 0 ≤ (rp_sk b n pl).toInt) (hl : ¬ n ≤ rp_sk b n pl) (f : rp_o 0 ep e2 p2 1 (rp_sk b n pl) True) : rp_T b n e2 p2 nc1 := by
  have x := ((rp_xe J hm hq o (fun _ => rp_nx5n h)).2 rfl).2 (rp_byn hb h0 (rf_lth hl))
  rcases f.2 rfl with y | y
  · exact absurd y.1 (by decide)
  · rw [y.2.1, y.2.2]
    exact ⟨fun z => absurd z (by decide), fun _ => x⟩
theorem rp_e3 (J : rp_xJ b n (rp_K b n) (rp_P b n) (rp_C b n) m N np nc p) (hm : 0 ≤ m.toInt ∧ m.toInt ≤ 800) (hq : q = rp_sk b n p) (o : rp_sO b n q N np nc ep0 0 ep pl cnt nc1 np1 nf N1) (h : ¬ rp_nx b n (rp_sk b n pl) = 59) (hl : n ≤ rp_sk b n pl) : rp_T b n 0 ep nc1 := by
  have x := ((rp_xe J hm hq o (fun _ => rp_nx5n h)).2 rfl).1 (rp_bte hl)
  exact ⟨fun _ => x, fun z => absurd rfl z⟩
theorem rp_xn (J : rp_xJ b n (rp_K b n) (rp_P b n) (rp_C b n) m N np nc p) (hn : n.toInt ≤ 800) (hm : 0 ≤ m.toInt ∧ m.toInt ≤ p.toInt ∧ p.toInt ≤ n.toInt) (hq : q = rp_sk b n p) (o : rp_sO b n q N np nc ep0 0 ep pl cnt nc1 np1 nf N1) (h : rp_nx b n (rp_sk b n pl) = 59) :
    (0 ≤ (m + Int32.ofInt 1).toInt ∧ (m + Int32.ofInt 1).toInt ≤ (rp_sk b n pl + 1).toInt ∧ (rp_sk b n pl + 1).toInt ≤ n.toInt) ∧ rp_xJ b n (rp_K b n) (rp_P b n) (rp_C b n) (m + Int32.ofInt 1) N1 np1.toInt nc1.toInt (rp_sk b n pl + 1) ∧ rp_N N1 cnt nf ∧ (0 ≤ nc1.toInt ∧ nc1.toInt ≤ 6) ∧ 0 ≤ np1.toInt ∧ np1.toInt ≤ 4 := by
  have s := rp_xs J (by omega) hq o rfl (rp_nx59 h).1
  have a := rp_sk_b (b := b) (n := n) (p := p) hn (by omega)
  have t := rp_sOb hn (by rw [hq]; omega) o
  have l := (rp_nx59 h).2
  have e1 : (m + Int32.ofInt 1).toInt = m.toInt + 1 := rf_p1 (by omega)
  have e2 : (rp_sk b n pl + 1).toInt = (rp_sk b n pl).toInt + 1 := rf_p1 (by rw [hq] at t; omega)
  exact ⟨by rw [e1, e2]; rw [hq] at t; omega, s.1, s.2.2⟩
end RPX
theorem rp_A0 {b : Nat → Int32} {n ep nc er : Int32} (h : rp_T b n er ep nc) (h0 : er = 0) : nc = rp_A b n := by
  have x := h.1 h0
  unfold rp_A
  rw [if_pos x.1, x.2, Int32.ofInt_toInt]
theorem rp_A1 {b : Nat → Int32} {n ep nc er : Int32} (h : rp_T b n er ep nc) (h0 : ¬ er = 0) : -100 - ep = rp_A b n := by
  have x := h.2 h0
  unfold rp_A
  rw [if_neg (by rw [x.1]; exact h0), x.2]
section RPG
variable {sp : Nat} {ps : rp_PS sp} {cu na pr ch : Nat} {nf : Nat → Int64} {x y z : Prop} {ws : va_W}
end RPG
theorem rf_vin {y : Int32} {n : Nat} (h : 0 ≤ y.toInt ∧ y.toInt < n) : vp_in y n := by
  rw [vp_in_iff]
  omega
theorem rf_and255 (x : Int64) : 0 ≤ (x &&& 255).toInt ∧ (x &&& 255).toInt ≤ 255 := by
  have h : (x &&& 255).toBitVec.toNat ≤ 255 := by
    have e : (x &&& 255).toBitVec = x.toBitVec &&& (255 : Int64).toBitVec := rfl
    have z : (255 : Int64).toBitVec.toNat = 255 := by decide
    rw [e, BitVec.toNat_and, z]
    exact Nat.and_le_right
  have t : (x &&& 255).toInt = ((x &&& 255).toBitVec.toNat : Int) := BitVec.toInt_eq_toNat_of_lt (by omega)
  omega
theorem rf_cbb (b : Int64) (y : Int32) : lg_cmp (cm_byte b y) 0 = 0 ↔ (cm_byte b y).toInt32 = 0 := by
  have h : 0 ≤ (cm_byte b y).toInt ∧ (cm_byte b y).toInt ≤ 255 := rf_and255 _
  have z : (0 : Int64).toInt = 0 := by decide
  generalize cm_byte b y = v at h ⊢
  have e : v.toInt32.toInt = v.toInt := Jvm.Kit.i32_of_i64 (by omega) (by omega)
  refine ⟨fun q => ?_, fun q => ?_⟩
  · have a := (lg_cmp_gt v 0)
    have n : ¬ (0 : Int64) < v := fun p => by
      have := a.mpr p
      rw [q] at this
      exact absurd this (by decide)
    rw [Int64.lt_iff_toInt_lt, z] at n
    exact Int32.toInt_inj.mp (by rw [e, show (0 : Int32).toInt = 0 from by decide]; omega)
  · have e2 : v = 0 := Int64.toInt_inj.mp (by rw [z, ← e, q]; decide)
    rw [e2]
    exact cm_lceq 0
theorem rf_cc (b : Int64) : ∀ i : Nat, cm_cnt b i = cm_cn2 b i
  | 0 => rfl
  | i + 1 => by
    show (if lg_cmp (cm_byte b (cm_sh i)) 0 = 0 then cm_cnt b i else cm_cnt b i + 1) = (if (cm_byte b (cm_sh i)).toInt32 = 0 then cm_cn2 b i else cm_cn2 b i + 1)
    rw [rf_cc b i]
    by_cases h : (cm_byte b (cm_sh i)).toInt32 = 0
    · rw [if_pos h, if_pos ((rf_cbb _ _).mpr h)]
    · rw [if_neg h, if_neg (fun q => h ((rf_cbb _ _).mp q))]
theorem rf_cs (b : Int64) (i : Nat) (hi : i < 8) : (cm_cn2 b i).toInt ≤ (cm_cn2 b (i + 1)).toInt ∧ (¬ (cm_byte b (cm_sh i)).toInt32 = 0 → (cm_cn2 b (i + 1)).toInt = (cm_cn2 b i).toInt + 1) := by
  have l := cm_cn2_le b i (by omega)
  show (cm_cn2 b i).toInt ≤ (if (cm_byte b (cm_sh i)).toInt32 = 0 then cm_cn2 b i else cm_cn2 b i + 1).toInt ∧ (¬ (cm_byte b (cm_sh i)).toInt32 = 0 → (if (cm_byte b (cm_sh i)).toInt32 = 0 then cm_cn2 b i else cm_cn2 b i + 1).toInt = (cm_cn2 b i).toInt + 1)
  by_cases h : (cm_byte b (cm_sh i)).toInt32 = 0
  · rw [if_pos h]
    exact ⟨Int.le_refl _, fun q => absurd h q⟩
  · rw [if_neg h, rf_p1 (by omega)]
    exact ⟨by omega, fun _ => rfl⟩
theorem rf_cm (b : Int64) : ∀ k i : Nat, i + k ≤ 8 → (cm_cn2 b i).toInt ≤ (cm_cn2 b (i + k)).toInt
  | 0, i, _ => Int.le_refl _
  | k + 1, i, h => Int.le_trans (rf_cm b k i (by omega)) (rf_cs b (i + k) (by omega)).1
theorem rf_ap8 {mn : Int32} {b : Int64} (hm : 0 ≤ mn.toInt ∧ mn.toInt ≤ 800) (h : mn + cm_cnt b 8 ≤ 800) : mn.toInt + (cm_cn2 b 8).toInt ≤ 800 ∧ ∀ i : Nat, i ≤ 8 → (mn + cm_cn2 b i).toInt = mn.toInt + (cm_cn2 b i).toInt := by
  have a : ∀ i : Nat, i ≤ 8 → (mn + cm_cn2 b i).toInt = mn.toInt + (cm_cn2 b i).toInt := fun i hi => by
    have l := cm_cn2_le b i hi
    exact Jvm.Kit.i32_add (by omega) (by omega)
  rw [rf_cc, Int32.le_iff_toInt_le, a 8 (by omega), show (800 : Int32).toInt = 800 from by decide] at h
  exact ⟨h, a⟩
theorem rf_api {mn yb y4 : Int32} {b : Int64} (hm : 0 ≤ mn.toInt ∧ mn.toInt ≤ 800) (h : mn + cm_cnt b 8 ≤ 800) (hx : ∃ i9 : Nat, i9 ≤ 8 ∧ y4 = cm_sh i9 ∧ yb = mn + cm_cn2 b i9) (hg : ¬ y4 < 0) (hb : ¬ (cm_byte b y4).toInt32 = 0) : vp_in yb 800 := by
  obtain ⟨i, hi, e4, e3⟩ := hx
  have hlt := ty_ap0 hi e4 hg
  have a := rf_ap8 hm h
  rw [e4] at hb
  have s := (rf_cs b i hlt).2 hb
  have m := rf_cm b (8 - (i + 1)) (i + 1) (by omega)
  have l := cm_cn2_le b i hi
  rw [show i + 1 + (8 - (i + 1)) = 8 from by omega] at m
  refine rf_vin ?_
  rw [e3, a.2 i hi]
  omega
theorem rf_apb {mn : Int32} {b : Int64} (hm : 0 ≤ mn.toInt ∧ mn.toInt ≤ 800) : 0 ≤ (ty_apb mn b).toInt ∧ (ty_apb mn b).toInt ≤ 800 := by
  unfold ty_apb
  by_cases h : mn + cm_cnt b 8 ≤ 800
  · rw [if_pos h]
    have a := rf_ap8 hm h
    have l := cm_cn2_le b 8 (by omega)
    rw [a.2 8 (by omega)]
    omega
  · rw [if_neg h]
    exact hm
