/-! append: what the two loops over the bytes of a long leave -/
def ty_apr (bl : Int32) (b : Int64) : Int32 := if bl + cm_cnt b 8 ≤ 800 then bl + cm_cn2 b 8 else -2
def ty_apb (bl : Int32) (b : Int64) : Int32 := if bl + cm_cnt b 8 ≤ 800 then bl + cm_cn2 b 8 else bl
theorem ty_ap0 {y4 : Int32} {i : Nat} (hi : i ≤ 8) (e : y4 = cm_sh i) (hg : ¬ y4 < 0) : i < 8 := sorry
theorem ty_ap9 {y4 : Int32} {i : Nat} (hi : i ≤ 8) (e : y4 = cm_sh i) (hn : y4 < 0) : i = 8 := sorry
theorem ty_ap1 {b : Int64} {y3 y4 : Int32} (h : ∃ i9 : Nat, i9 ≤ 8 ∧ y4 = cm_sh i9 ∧ y3 = cm_cnt b i9) (hg : ¬ y4 < 0) (hb : lg_cmp (cm_byte b y4) 0 = 0) : ∃ i9 : Nat, i9 ≤ 8 ∧ y4 + Int32.ofInt (-8) = cm_sh i9 ∧ y3 = cm_cnt b i9 := sorry
theorem ty_ap2 {b : Int64} {y3 y4 : Int32} (h : ∃ i9 : Nat, i9 ≤ 8 ∧ y4 = cm_sh i9 ∧ y3 = cm_cnt b i9) (hg : ¬ y4 < 0) (hb : ¬ lg_cmp (cm_byte b y4) 0 = 0) : ∃ i9 : Nat, i9 ≤ 8 ∧ y4 + Int32.ofInt (-8) = cm_sh i9 ∧ y3 + Int32.ofInt 1 = cm_cnt b i9 := sorry
theorem ty_ap3 {b : Int64} {y3 y4 : Int32} (h : ∃ i9 : Nat, i9 ≤ 8 ∧ y4 = cm_sh i9 ∧ y3 = cm_cnt b i9) (hn : y4 < 0) : y3 = cm_cnt b 8 := sorry
theorem ty_ap7 {b : Int64} {bl : Int32} (h : bl + cm_cnt b 8 ≤ 800) : bl + cm_cn2 b 8 = ty_apr bl b ∧ bl + cm_cn2 b 8 = ty_apb bl b := sorry
theorem ty_ap8 {b : Int64} {bl : Int32} (h : ¬ bl + cm_cnt b 8 ≤ 800) : -2 = ty_apr bl b ∧ bl = ty_apb bl b := sorry
/-- the byte at a place of the text -/
def rf_bt (b : Nat → Int32) (mn k : Int32) : Int32 := if k < mn then b k.toNatClampNeg else -1
def rp_adv (g : Int32 → Bool) : Nat → Int32 → Int32
  | 0, p => p
  | k + 1, p => if g p = true then rp_adv g k (p + 1) else p
/-- the first place from p on where g isn't so -/
def rp_to (g : Int32 → Bool) (p : Int32) : Int32 := rp_adv g (801 - p.toInt).toNat p
theorem rp_to_eq {g : Int32 → Bool} {p : Int32} (h : 0 ≤ p.toInt ∧ p.toInt ≤ 800) : rp_to g p = if g p = true then rp_to g (p + 1) else p := sorry
theorem rp_adv_le {g : Int32 → Bool} {n : Int32} (hn : n.toInt ≤ 800) (hg : ∀ k : Int32, 0 ≤ k.toInt → g k = true → k.toInt < n.toInt) : ∀ (j : Nat) (p : Int32), 0 ≤ p.toInt → p.toInt ≤ n.toInt → p.toInt ≤ (rp_adv g j p).toInt ∧ (rp_adv g j p).toInt ≤ n.toInt := sorry
theorem rp_adv_st {g : Int32 → Bool} {n : Int32} (hn : n.toInt ≤ 800) (hg : ∀ k : Int32, 0 ≤ k.toInt → g k = true → k.toInt < n.toInt) : ∀ (j : Nat) (p : Int32), 0 ≤ p.toInt → n.toInt - p.toInt < (j : Int) → g (rp_adv g j p) = false := sorry
theorem rp_btl {b : Nat → Int32} {n k : Int32} (h : ¬ rf_bt b n k = -1) : k.toInt < n.toInt := sorry
def rp_spc (b : Nat → Int32) (n p : Int32) : Bool := decide (rf_bt b n p = 32)
def rp_let (b : Nat → Int32) (n p : Int32) : Bool := decide (97 ≤ (rf_bt b n p).toInt ∧ (rf_bt b n p).toInt ≤ 122)
def rp_dig (b : Nat → Int32) (n p : Int32) : Bool := decide (48 ≤ (rf_bt b n p).toInt ∧ (rf_bt b n p).toInt ≤ 57)
theorem rp_spcl {b : Nat → Int32} {n : Int32} (k : Int32) (_ : 0 ≤ k.toInt) (h : rp_spc b n k = true) : k.toInt < n.toInt := sorry
theorem rp_letl {b : Nat → Int32} {n : Int32} (k : Int32) (_ : 0 ≤ k.toInt) (h : rp_let b n k = true) : k.toInt < n.toInt := sorry
theorem rp_digl {b : Nat → Int32} {n : Int32} (k : Int32) (_ : 0 ≤ k.toInt) (h : rp_dig b n k = true) : k.toInt < n.toInt := sorry
/-- behind spaces, behind a word, behind digits -/
def rp_sk (b : Nat → Int32) (n p : Int32) : Int32 := rp_to (rp_spc b n) p
def rp_we (b : Nat → Int32) (n p : Int32) : Int32 := rp_to (rp_let b n) p
def rp_de (b : Nat → Int32) (n p : Int32) : Int32 := rp_to (rp_dig b n) p
theorem rp_sk_b {b : Nat → Int32} {n p : Int32} (hn : n.toInt ≤ 800) (hp : 0 ≤ p.toInt ∧ p.toInt ≤ n.toInt) : p.toInt ≤ (rp_sk b n p).toInt ∧ (rp_sk b n p).toInt ≤ n.toInt := sorry
theorem rp_we_b {b : Nat → Int32} {n p : Int32} (hn : n.toInt ≤ 800) (hp : 0 ≤ p.toInt ∧ p.toInt ≤ n.toInt) : p.toInt ≤ (rp_we b n p).toInt ∧ (rp_we b n p).toInt ≤ n.toInt := sorry
theorem rp_de_b {b : Nat → Int32} {n p : Int32} (hn : n.toInt ≤ 800) (hp : 0 ≤ p.toInt ∧ p.toInt ≤ n.toInt) : p.toInt ≤ (rp_de b n p).toInt ∧ (rp_de b n p).toInt ≤ n.toInt := sorry
theorem rp_sk_st {b : Nat → Int32} {n p : Int32} (hn : n.toInt ≤ 800) (hp : 0 ≤ p.toInt ∧ p.toInt ≤ n.toInt) : rp_spc b n (rp_sk b n p) = false := sorry
theorem rp_sk_id {b : Nat → Int32} {n p : Int32} (hp : 0 ≤ p.toInt ∧ p.toInt ≤ 800) (h : rp_spc b n p = false) : rp_sk b n p = p := sorry
theorem rp_sk_sk {b : Nat → Int32} {n p : Int32} (hn : n.toInt ≤ 800) (hp : 0 ≤ p.toInt ∧ p.toInt ≤ n.toInt) : rp_sk b n (rp_sk b n p) = rp_sk b n p := sorry
/-- the number that is read from p on, v what is read already; more than any range has is as good as any more -/
def rp_nm (b : Nat → Int32) (n : Int32) : Nat → Int32 → Int → Int
  | 0, _, v => v
  | k + 1, p, v => if rp_dig b n p = true then rp_nm b n k (p + 1) (min (10 * v + (rf_bt b n p).toInt - 48) 100000000) else v
def rp_num (b : Nat → Int32) (n p : Int32) (v : Int) : Int := rp_nm b n (801 - p.toInt).toNat p v
theorem rp_num_eq {b : Nat → Int32} {n p : Int32} {v : Int} (h : 0 ≤ p.toInt ∧ p.toInt ≤ 800) : rp_num b n p v = if rp_dig b n p = true then rp_num b n (p + 1) (min (10 * v + (rf_bt b n p).toInt - 48) 100000000) else v := sorry
/-- a number is read: what is wrong (0: nothing), where it ends or what is wrong begins, its value -/
def rp_rk (b : Nat → Int32) (n : Int32) (lo hi : Int) (p : Int32) : Int32 := if rp_dig b n (rp_sk b n p) = true then (if lo ≤ rp_num b n (rp_sk b n p) 0 ∧ rp_num b n (rp_sk b n p) 0 ≤ hi then 0 else 2) else 1
def rp_rp (b : Nat → Int32) (n : Int32) (lo hi : Int) (p : Int32) : Int32 := if rp_rk b n lo hi p = 0 then rp_de b n (rp_sk b n p) else rp_sk b n p
def rp_rv (b : Nat → Int32) (n p : Int32) : Int := rp_num b n (rp_sk b n p) 0
theorem rp_rk0 {b : Nat → Int32} {n : Int32} {lo hi : Int} {p : Int32} (h : rp_rk b n lo hi p = 0) : rp_dig b n (rp_sk b n p) = true ∧ lo ≤ rp_rv b n p ∧ rp_rv b n p ≤ hi := sorry
/-- the word at p: its letters -/
def rp_wd (b : Nat → Int32) (p e : Int32) : List Int32 := (List.range (e.toInt - p.toInt).toNat).map (fun i => b (p.toInt.toNat + i))
def rp_w (b : Nat → Int32) (n p : Int32) : List Int32 := rp_wd b p (rp_we b n p)
/-- two steps, the second where the first is well -/
def rp_k2 (k1 k2 : Int32) : Int32 := if k1 = 0 then k2 else k1
def rp_p2 (k1 p1 p2 : Int32) : Int32 := if k1 = 0 then p2 else p1
/-- two numbers, one behind another: what is wrong, and where -/
def rp_dk (b : Nat → Int32) (n : Int32) (l1 h1 l2 h2 : Int) (p : Int32) : Int32 := rp_k2 (rp_rk b n l1 h1 p) (rp_rk b n l2 h2 (rp_rp b n l1 h1 p))
def rp_dp (b : Nat → Int32) (n : Int32) (l1 h1 l2 h2 : Int) (p : Int32) : Int32 := rp_p2 (rp_rk b n l1 h1 p) (rp_rp b n l1 h1 p) (rp_rp b n l2 h2 (rp_rp b n l1 h1 p))
/-- a step with number m, its word at q -/
def rp_stk (b : Nat → Int32) (n : Int32) (m : Int) (q : Int32) : Int32 :=
  if rp_w b n q = [99, 104, 97, 114, 103, 101] then rp_dk b n 1 5000 0 5000 (rp_we b n q)
  else if rp_w b n q = [104, 111, 108, 100] then rp_dk b n 0 5000 1 5000 (rp_we b n q)
  else if rp_w b n q = [100, 105, 115, 99, 104, 97, 114, 103, 101] then rp_dk b n 1 5000 0 5000 (rp_we b n q)
  else if rp_w b n q = [114, 101, 115, 116] then rp_rk b n 1 5000 (rp_we b n q)
  else if rp_w b n q = [114, 101, 112, 101, 97, 116] then rp_dk b n 0 (m - 1) 1 50 (rp_we b n q)
  else 1
def rp_stp (b : Nat → Int32) (n : Int32) (m : Int) (q : Int32) : Int32 :=
  if rp_w b n q = [99, 104, 97, 114, 103, 101] then rp_dp b n 1 5000 0 5000 (rp_we b n q)
  else if rp_w b n q = [104, 111, 108, 100] then rp_dp b n 0 5000 1 5000 (rp_we b n q)
  else if rp_w b n q = [100, 105, 115, 99, 104, 97, 114, 103, 101] then rp_dp b n 1 5000 0 5000 (rp_we b n q)
  else if rp_w b n q = [114, 101, 115, 116] then rp_rp b n 1 5000 (rp_we b n q)
  else if rp_w b n q = [114, 101, 112, 101, 97, 116] then rp_dp b n 0 (m - 1) 1 50 (rp_we b n q)
  else q
/-- the steps of a program from number m on, r the most that may come; where they end spaces are left as they are -/
def rp_ssk (b : Nat → Int32) (n : Int32) : Nat → Nat → Int32 → Int32
  | 0, _, _ => 0
  | r + 1, m, p => if rp_let b n (rp_sk b n p) = true then rp_k2 (rp_stk b n m (rp_sk b n p)) (rp_ssk b n r (m + 1) (rp_stp b n m (rp_sk b n p))) else if m = 0 then 1 else 0
def rp_ssp (b : Nat → Int32) (n : Int32) : Nat → Nat → Int32 → Int32
  | 0, _, p => p
  | r + 1, m, p => if rp_let b n (rp_sk b n p) = true then rp_p2 (rp_stk b n m (rp_sk b n p)) (rp_stp b n m (rp_sk b n p)) (rp_ssp b n r (m + 1) (rp_stp b n m (rp_sk b n p))) else rp_sk b n p
/-- the voltages of a curve from number m on, v the least that may come -/
def rp_vk (b : Nat → Int32) (n : Int32) : Nat → Nat → Int → Int32 → Int32
  | 0, _, _, _ => 0
  | r + 1, m, v, p => if 2 ≤ m ∧ ¬ rp_dig b n (rp_sk b n p) = true then 0 else rp_k2 (rp_rk b n v 5000 p) (rp_vk b n r (m + 1) (rp_rv b n p) (rp_rp b n v 5000 p))
def rp_vp (b : Nat → Int32) (n : Int32) : Nat → Nat → Int → Int32 → Int32
  | 0, _, _, p => p
  | r + 1, m, v, p => if 2 ≤ m ∧ ¬ rp_dig b n (rp_sk b n p) = true then rp_sk b n p else rp_p2 (rp_rk b n v 5000 p) (rp_rp b n v 5000 p) (rp_vp b n r (m + 1) (rp_rv b n p) (rp_rp b n v 5000 p))
/-- the place of the word behind a statement's own, which stands at q -/
def rp_q2 (b : Nat → Int32) (n q : Int32) : Int32 := rp_sk b n (rp_we b n q)
/-- a curve, N the names so far -/
def rp_ck (b : Nat → Int32) (n : Int32) (N : List (List Int32)) (q : Int32) : Int32 :=
  if 4 ≤ N.length then 4
  else if ¬ rp_let b n (rp_q2 b n q) = true then 1
  else if 6 < (rp_w b n (rp_q2 b n q)).length ∨ rp_w b n (rp_q2 b n q) ∈ N then 3
  else rp_vk b n 11 0 0 (rp_we b n (rp_q2 b n q))
def rp_cp (b : Nat → Int32) (n : Int32) (N : List (List Int32)) (q : Int32) : Int32 :=
  if 4 ≤ N.length then q
  else if ¬ rp_let b n (rp_q2 b n q) = true then rp_q2 b n q
  else if 6 < (rp_w b n (rp_q2 b n q)).length ∨ rp_w b n (rp_q2 b n q) ∈ N then rp_q2 b n q
  else rp_vp b n 11 0 0 (rp_we b n (rp_q2 b n q))
/-- a cell's four numbers -/
def rp_5k (b : Nat → Int32) (n p : Int32) : Int32 := rp_k2 (rp_dk b n 100 100000 1 500 p) (rp_rk b n 0 500 (rp_dp b n 100 100000 1 500 p))
def rp_5p (b : Nat → Int32) (n p : Int32) : Int32 := rp_p2 (rp_dk b n 100 100000 1 500 p) (rp_dp b n 100 100000 1 500 p) (rp_rp b n 0 500 (rp_dp b n 100 100000 1 500 p))
def rp_4k (b : Nat → Int32) (n p : Int32) : Int32 := rp_k2 (rp_5k b n p) (rp_rk b n 1 200 (rp_5p b n p))
def rp_4p (b : Nat → Int32) (n p : Int32) : Int32 := rp_p2 (rp_5k b n p) (rp_5p b n p) (rp_rp b n 1 200 (rp_5p b n p))
def rp_lk (b : Nat → Int32) (n : Int32) (N : List (List Int32)) (nc : Int) (q : Int32) : Int32 :=
  if 6 ≤ nc then 4
  else if ¬ rp_let b n (rp_q2 b n q) = true then 1
  else if 6 < (rp_w b n (rp_q2 b n q)).length ∨ ¬ rp_w b n (rp_q2 b n q) ∈ N then 3
  else rp_4k b n (rp_we b n (rp_q2 b n q))
def rp_lp (b : Nat → Int32) (n : Int32) (N : List (List Int32)) (nc : Int) (q : Int32) : Int32 :=
  if 6 ≤ nc then q
  else if ¬ rp_let b n (rp_q2 b n q) = true then rp_q2 b n q
  else if 6 < (rp_w b n (rp_q2 b n q)).length ∨ ¬ rp_w b n (rp_q2 b n q) ∈ N then rp_q2 b n q
  else rp_4p b n (rp_we b n (rp_q2 b n q))
def rp_gk (b : Nat → Int32) (n : Int32) (np : Int) (q : Int32) : Int32 := if 4 ≤ np then 4 else rp_ssk b n 12 0 (rp_we b n q)
def rp_gp (b : Nat → Int32) (n : Int32) (np : Int) (q : Int32) : Int32 := if 4 ≤ np then q else rp_ssp b n 12 0 (rp_we b n q)
/-- three numbers, the second not less than the first -/
def rp_3k (b : Nat → Int32) (n : Int32) (l3 h3 : Int) (p : Int32) : Int32 := rp_k2 (rp_dk b n 0 5000 (rp_rv b n p) 5000 p) (rp_rk b n l3 h3 (rp_dp b n 0 5000 (rp_rv b n p) 5000 p))
def rp_3p (b : Nat → Int32) (n : Int32) (l3 h3 : Int) (p : Int32) : Int32 := rp_p2 (rp_dk b n 0 5000 (rp_rv b n p) 5000 p) (rp_dp b n 0 5000 (rp_rv b n p) 5000 p) (rp_rp b n l3 h3 (rp_dp b n 0 5000 (rp_rv b n p) 5000 p))
/-- the numbers that hold for all channels -/
def rp_ek (b : Nat → Int32) (n q : Int32) : Int32 :=
  if rp_w b n q = [101, 102, 102, 105, 99, 105, 101, 110, 99, 121] then rp_rk b n 500 1000 (rp_we b n q)
  else if rp_w b n q = [102, 97, 100, 101] then rp_rk b n 100 1000000 (rp_we b n q)
  else if rp_w b n q = [104, 101, 97, 116] then rp_dk b n 1 10000 0 (min 100 (rp_rv b n (rp_we b n q))) (rp_we b n q)
  else if rp_w b n q = [108, 105, 109, 105, 116, 115] then rp_3k b n 250 1000 (rp_we b n q)
  else if rp_w b n q = [97, 109, 98, 105, 101, 110, 116] then rp_rk b n 0 500 (rp_we b n q)
  else if rp_w b n q = [119, 97, 114, 110] then rp_3k b n 0 1000 (rp_we b n q)
  else if rp_w b n q = [100, 101, 114, 97, 116, 101] then rp_rk b n 0 200 (rp_we b n q)
  else 1
def rp_ep (b : Nat → Int32) (n q : Int32) : Int32 :=
  if rp_w b n q = [101, 102, 102, 105, 99, 105, 101, 110, 99, 121] then rp_rp b n 500 1000 (rp_we b n q)
  else if rp_w b n q = [102, 97, 100, 101] then rp_rp b n 100 1000000 (rp_we b n q)
  else if rp_w b n q = [104, 101, 97, 116] then rp_dp b n 1 10000 0 (min 100 (rp_rv b n (rp_we b n q))) (rp_we b n q)
  else if rp_w b n q = [108, 105, 109, 105, 116, 115] then rp_3p b n 250 1000 (rp_we b n q)
  else if rp_w b n q = [97, 109, 98, 105, 101, 110, 116] then rp_rp b n 0 500 (rp_we b n q)
  else if rp_w b n q = [119, 97, 114, 110] then rp_3p b n 0 1000 (rp_we b n q)
  else if rp_w b n q = [100, 101, 114, 97, 116, 101] then rp_rp b n 0 200 (rp_we b n q)
  else q
/-- what statement stands at q: 1 a curve, 2 a cell, 3 a program, 0 another -/
def rp_wh (b : Nat → Int32) (n q : Int32) : Nat :=
  if rp_w b n q = [99, 117, 114, 118, 101] then 1 else if rp_w b n q = [99, 101, 108, 108] then 2 else if rp_w b n q = [112, 114, 111, 103, 114, 97, 109] then 3 else 0
def rp_tk (b : Nat → Int32) (n : Int32) (N : List (List Int32)) (np nc : Int) (q : Int32) : Int32 :=
  match rp_wh b n q with
  | 1 => rp_ck b n N q
  | 2 => rp_lk b n N nc q
  | 3 => rp_gk b n np q
  | _ => rp_ek b n q
def rp_tp (b : Nat → Int32) (n : Int32) (N : List (List Int32)) (np nc : Int) (q : Int32) : Int32 :=
  match rp_wh b n q with
  | 1 => rp_cp b n N q
  | 2 => rp_lp b n N nc q
  | 3 => rp_gp b n np q
  | _ => rp_ep b n q
def rp_tN (b : Nat → Int32) (n : Int32) (N : List (List Int32)) (q : Int32) : List (List Int32) := if rp_wh b n q = 1 then N ++ [rp_w b n (rp_q2 b n q)] else N
def rp_tc (b : Nat → Int32) (n q : Int32) (nc : Int) : Int := if rp_wh b n q = 2 then nc + 1 else nc
def rp_tg (b : Nat → Int32) (n q : Int32) (np : Int) : Int := if rp_wh b n q = 3 then np + 1 else np
/-- the text from p on: what is wrong, and where; how many cells -/
def rp_xk (b : Nat → Int32) (n : Int32) : Nat → List (List Int32) → Int → Int → Int32 → Int32
  | 0, _, _, _, _ => 1
  | r + 1, N, np, nc, p =>
    if ¬ rp_tk b n N np nc (rp_sk b n p) = 0 then rp_tk b n N np nc (rp_sk b n p)
    else if rf_bt b n (rp_sk b n (rp_tp b n N np nc (rp_sk b n p))) = 59 then rp_xk b n r (rp_tN b n N (rp_sk b n p)) (rp_tg b n (rp_sk b n p) np) (rp_tc b n (rp_sk b n p) nc) (rp_sk b n (rp_tp b n N np nc (rp_sk b n p)) + 1)
    else if rf_bt b n (rp_sk b n (rp_tp b n N np nc (rp_sk b n p))) = -1 then 0 else 1
def rp_xp (b : Nat → Int32) (n : Int32) : Nat → List (List Int32) → Int → Int → Int32 → Int32
  | 0, _, _, _, p => p
  | r + 1, N, np, nc, p =>
    if ¬ rp_tk b n N np nc (rp_sk b n p) = 0 then rp_tp b n N np nc (rp_sk b n p)
    else if rf_bt b n (rp_sk b n (rp_tp b n N np nc (rp_sk b n p))) = 59 then rp_xp b n r (rp_tN b n N (rp_sk b n p)) (rp_tg b n (rp_sk b n p) np) (rp_tc b n (rp_sk b n p) nc) (rp_sk b n (rp_tp b n N np nc (rp_sk b n p)) + 1)
    else rp_sk b n (rp_tp b n N np nc (rp_sk b n p))
def rp_xc (b : Nat → Int32) (n : Int32) : Nat → List (List Int32) → Int → Int → Int32 → Int
  | 0, _, _, nc, _ => nc
  | r + 1, N, np, nc, p =>
    if rf_bt b n (rp_sk b n (rp_tp b n N np nc (rp_sk b n p))) = 59 then rp_xc b n r (rp_tN b n N (rp_sk b n p)) (rp_tg b n (rp_sk b n p) np) (rp_tc b n (rp_sk b n p) nc) (rp_sk b n (rp_tp b n N np nc (rp_sk b n p)) + 1)
    else rp_tc b n (rp_sk b n p) nc
/-- the byte at the place as the class reads it: 0 behind the text -/
def rp_nx (b : Nat → Int32) (n k : Int32) : Int32 := if k < n then b k.toNatClampNeg else 0
def rp_at (b : Nat → Int32) (k : Int32) : Int32 := if 0 ≤ k.toInt ∧ k.toInt < 800 then b k.toNatClampNeg else 0
/-- an error stays; else what is wrong (k: 0, nothing) becomes the error, at p -/
def rp_o (er ep er1 ep1 k p : Int32) (ok : Prop) : Prop := (¬ er = 0 → er1 = er ∧ ep1 = ep) ∧ (er = 0 → (k = 0 ∧ er1 = 0 ∧ ep1 = ep ∧ ok) ∨ (¬ k = 0 ∧ er1 = k ∧ ep1 = p))
def rp_wk (b : Nat → Int32) (n q : Int32) : Int32 := if rp_let b n q = true then 0 else 1
theorem rp_vin {y : Int32} (h : 0 ≤ y.toInt ∧ y.toInt < 800) : vp_in y 800 := sorry
theorem rp_neg {y : Int32} (h : y < 0) (h0 : 0 ≤ y.toInt) : False := sorry
theorem rp_nn {y : Int32} (h : ¬ y < 0) : 0 ≤ y.toInt := sorry
theorem rp_big {y : Int32} (h : (800 : Int32) ≤ y) (h0 : y.toInt < 800) : False := sorry
theorem rp_sml {y : Int32} (h : y < (800 : Int32)) : y.toInt < 800 := sorry
theorem rp_nsml {y : Int32} (h : ¬ y < (800 : Int32)) : 800 ≤ y.toInt := sorry
theorem rp_in1 {x lo hi : Int32} {L U : Int} (hl : lo.toInt = L) (hu : hi.toInt = U) (h3 : ¬ x < lo) (h9 : ¬ hi < x) : L ≤ x.toInt ∧ x.toInt ≤ U := sorry
theorem rp_out1 {x lo : Int32} {L U : Int} (hl : lo.toInt = L) (h : x < lo) : ¬ (L ≤ x.toInt ∧ x.toInt ≤ U) := sorry
theorem rp_out2 {x hi : Int32} {L U : Int} (hu : hi.toInt = U) (h : hi < x) : ¬ (L ≤ x.toInt ∧ x.toInt ≤ U) := sorry
theorem rp_nxb {b : Nat → Int32} {n p : Int32} (h : p.toInt < n.toInt) : rp_nx b n p = rf_bt b n p := sorry
theorem rp_bte {b : Nat → Int32} {n p : Int32} (h : n ≤ p) : rf_bt b n p = -1 := sorry
/-- what the class's byte tells of a letter or a digit the text's byte tells too -/
theorem rp_nxl {b : Nat → Int32} {n p : Int32} {L U : Int} (hL : 1 ≤ L) : (L ≤ (rp_nx b n p).toInt ∧ (rp_nx b n p).toInt ≤ U) ↔ (L ≤ (rf_bt b n p).toInt ∧ (rf_bt b n p).toInt ≤ U) := sorry
theorem rp_letI {b : Nat → Int32} {n p : Int32} (h : 97 ≤ (rp_nx b n p).toInt ∧ (rp_nx b n p).toInt ≤ 122) : rp_let b n p = true := sorry
theorem rp_letN {b : Nat → Int32} {n p : Int32} (h : ¬ (97 ≤ (rp_nx b n p).toInt ∧ (rp_nx b n p).toInt ≤ 122)) : ¬ rp_let b n p = true := sorry
theorem rp_digI {b : Nat → Int32} {n p : Int32} (h : 48 ≤ (rp_nx b n p).toInt ∧ (rp_nx b n p).toInt ≤ 57) : rp_dig b n p = true := sorry
theorem rp_digN {b : Nat → Int32} {n p : Int32} (h : ¬ (48 ≤ (rp_nx b n p).toInt ∧ (rp_nx b n p).toInt ≤ 57)) : ¬ rp_dig b n p = true := sorry
theorem rp_notE {b : Nat → Int32} {n p : Int32} (h : n ≤ p) : ¬ rp_let b n p = true ∧ ¬ rp_dig b n p = true ∧ ¬ rp_spc b n p = true := sorry
theorem rp_spcN {b : Nat → Int32} {n p : Int32} (hl : p.toInt < n.toInt) (h : ¬ rp_nx b n p = 32) : ¬ rp_spc b n p = true := sorry
theorem rp_spcI {b : Nat → Int32} {n p : Int32} (hl : p.toInt < n.toInt) (h : rp_nx b n p = 32) : rp_spc b n p = true := sorry
theorem rp_toS {g : Int32 → Bool} {p : Int32} (hp : 0 ≤ p.toInt ∧ p.toInt ≤ 800) (h : g p = true) : rp_to g p = rp_to g (p + 1) := sorry
theorem rp_toE {g : Int32 → Bool} {p : Int32} (hp : 0 ≤ p.toInt ∧ p.toInt ≤ 800) (h : ¬ g p = true) : rp_to g p = p := sorry
theorem rp_numS {b : Nat → Int32} {n p : Int32} {v : Int} (hp : 0 ≤ p.toInt ∧ p.toInt ≤ 800) (h : rp_dig b n p = true) : rp_num b n p v = rp_num b n (p + 1) (min (10 * v + (rf_bt b n p).toInt - 48) 100000000) := sorry
theorem rp_numE {b : Nat → Int32} {n p : Int32} {v : Int} (hp : 0 ≤ p.toInt ∧ p.toInt ≤ 800) (h : ¬ rp_dig b n p = true) : rp_num b n p v = v := sorry
/-- the class's own sum, which never passes an int -/
theorem rp_sum {v x : Int32} (hv : 0 ≤ v.toInt ∧ v.toInt ≤ 100000000) (hx : 48 ≤ x.toInt ∧ x.toInt ≤ 57) : (if (100000000 : Int32) < (((v * 10) + x) - 48) then 100000000 else (((v * 10) + x) - 48)).toInt = min (10 * v.toInt + x.toInt - 48) 100000000 := sorry
theorem rp_wd_len (b : Nat → Int32) (p e : Int32) : (rp_wd b p e).length = (e.toInt - p.toInt).toNat := sorry
theorem rp_wd_get {b : Nat → Int32} {p e : Int32} {i : Nat} (h : i < (e.toInt - p.toInt).toNat) : (rp_wd b p e)[i]? = some (b (p.toInt.toNat + i)) := sorry
theorem rp_wd_eq {b : Nat → Int32} {p e : Int32} {l : List Int32} (hl : (e.toInt - p.toInt).toNat = l.length) (h : ∀ i : Nat, i < l.length → b (p.toInt.toNat + i) = l.getD i 0) : rp_wd b p e = l := sorry
theorem rp_wd_ne {b : Nat → Int32} {p e : Int32} {l : List Int32} {i : Nat} (hi : i < l.length) (h : ¬ b (p.toInt.toNat + i) = l.getD i 0) : ¬ rp_wd b p e = l := sorry
theorem rp_wd_nl {b : Nat → Int32} {p e : Int32} {l : List Int32} (h : ¬ (e.toInt - p.toInt).toNat = l.length) : ¬ rp_wd b p e = l := sorry
/-- a name as one number -/
def rp_cd (l : List Int32) : Int64 := l.foldl (fun c x => (c * 256) + x.toInt64) 0
theorem rp_cds (l : List Int32) (x : Int32) : rp_cd (l ++ [x]) = (rp_cd l * 256) + x.toInt64 := sorry
theorem rp_wds {b : Nat → Int32} {p y : Int32} (h0 : 0 ≤ p.toInt) (h : p.toInt ≤ y.toInt ∧ y.toInt ≤ 800) : rp_wd b p (y + 1) = rp_wd b p y ++ [b y.toNatClampNeg] := sorry
theorem rp_wd0 {b : Nat → Int32} {p : Int32} : rp_wd b p p = [] := sorry
theorem rp_atb {b : Nat → Int32} {k : Int32} (h : 0 ≤ k.toInt ∧ k.toInt < 800) : rp_at b k = b k.toNatClampNeg := sorry
/-- two steps of the reader; the second speaks of places only where the first is well -/
theorem rp_rno {b : Nat → Int32} {n p er ep v y lo hi : Int32} (hD : rp_dig b n (rp_sk b n p) = true) (h0 : er = 0) (hg : lo.toInt ≤ v.toInt ∧ v.toInt ≤ hi.toInt) (he : rp_de b n (rp_sk b n p) = y ∧ rp_num b n (rp_sk b n p) 0 = v.toInt) : rp_o er ep er ep (rp_rk b n lo.toInt hi.toInt p) (rp_rp b n lo.toInt hi.toInt p) (y = rp_rp b n lo.toInt hi.toInt p ∧ v.toInt = rp_rv b n p) := sorry
theorem rp_rnb {b : Nat → Int32} {n p er ep e1 p1 v y lo hi : Int32} {ok : Prop} (hD : rp_dig b n (rp_sk b n p) = true) (hg : ¬ (lo.toInt ≤ v.toInt ∧ v.toInt ≤ hi.toInt)) (he : rp_de b n (rp_sk b n p) = y ∧ rp_num b n (rp_sk b n p) 0 = v.toInt) (hf : rp_o er ep e1 p1 2 (rp_sk b n p) True) : rp_o er ep e1 p1 (rp_rk b n lo.toInt hi.toInt p) (rp_rp b n lo.toInt hi.toInt p) ok := sorry
theorem rp_rnn {b : Nat → Int32} {n p er ep e1 p1 : Int32} {lo hi : Int} {ok : Prop} (hN : ¬ rp_dig b n (rp_sk b n p) = true) (hf : rp_o er ep e1 p1 1 (rp_sk b n p) True) : rp_o er ep e1 p1 (rp_rk b n lo hi p) (rp_rp b n lo hi p) ok := sorry
theorem rp_rne {er ep e1 p1 k q k2 q2 : Int32} {ok ok2 : Prop} (h : ¬ er = 0) (hf : rp_o er ep e1 p1 k q ok) : rp_o er ep e1 p1 k2 q2 ok2 := sorry
theorem rp_lt2 {x lo hi : Int32} (h : x < lo ∨ ¬ x ≤ hi) : ¬ (lo.toInt ≤ x.toInt ∧ x.toInt ≤ hi.toInt) := sorry
theorem rp_gel {x lo hi : Int32} (h1 : ¬ x < lo) (h2 : x ≤ hi) : lo.toInt ≤ x.toInt ∧ x.toInt ≤ hi.toInt := sorry
theorem rp_len {pl wst : Int32} {m : Nat} (hm : m < 2147483648) (hw : 0 ≤ wst.toInt ∧ wst.toInt ≤ pl.toInt) (h : (pl - wst) = Int32.ofNat m) : pl.toInt - wst.toInt = m := sorry
theorem rp_lenN {pl wst : Int32} {m : Nat} (hm : m < 2147483648) (hw : 0 ≤ wst.toInt ∧ wst.toInt ≤ pl.toInt) (h : ¬ (pl - wst) = Int32.ofNat m) : ¬ (pl.toInt - wst.toInt).toNat = m := sorry
theorem rp_wix {wst k : Int32} (hw : 0 ≤ wst.toInt ∧ 0 ≤ k.toInt ∧ wst.toInt + k.toInt < 800) : (wst + k).toNatClampNeg = wst.toInt.toNat + k.toInt.toNat ∧ 0 ≤ (wst + k).toInt ∧ (wst + k).toInt < 800 := sorry
theorem rp_wis {b : Nat → Int32} {wst k r : Int32} {l : List Int32} (hw : 0 ≤ wst.toInt ∧ 0 ≤ k.toInt ∧ wst.toInt + k.toInt < 800) (inv : ∀ j : Nat, (j : Int) < k.toInt → b (wst.toInt.toNat + j) = l.getD j 0) (h : rp_at b (wst + k) = r) (hr : r = l.getD k.toNatClampNeg 0) : ∀ j : Nat, (j : Int) < (k + Int32.ofInt 1).toInt → b (wst.toInt.toNat + j) = l.getD j 0 := sorry
theorem rp_win {b : Nat → Int32} {wst pl k r : Int32} {l : List Int32} (hw : 0 ≤ wst.toInt ∧ 0 ≤ k.toInt ∧ wst.toInt + k.toInt < 800) (hk : k.toInt < l.length) (h : ¬ rp_at b (wst + k) = r) (hr : r = l.getD k.toNatClampNeg 0) : ¬ rp_wd b wst pl = l := sorry
theorem rp_kl {k : Int32} {m : Nat} (hm : m < 2147483648) (h : ¬ Int32.ofNat m ≤ k) : k.toInt < m := sorry
theorem rp_kg {k : Int32} {m : Nat} (hm : m < 2147483648) (h : Int32.ofNat m ≤ k) : (m : Int) ≤ k.toInt := sorry
section RPF
variable {sp : Nat} {ps : rp_PS sp} {cu na pr ch : Nat} {cnt nc np : Int32} {nf : Nat → Int64} {ws : va_W}
end RPF
theorem rp_lc0 {a b : Int64} (h : lg_cmp a b = 0) : a = b := sorry
theorem rp_lc1 {a b : Int64} (h : ¬ lg_cmp a b = 0) : ¬ a = b := sorry
theorem rp_seq {er ep e1 p1 e2 p2 k1 P1 q1 q2 K P : Int32} {B : Prop} (a : rp_o er ep e1 p1 k1 P1 (q1 = P1 ∧ B)) (hs : ¬ e1 = 0 → e2 = e1 ∧ p2 = p1) (c : q1 = P1 → B → rp_o e1 p1 e2 p2 K P (q2 = P)) : rp_o er ep e2 p2 (rp_k2 k1 K) (rp_p2 k1 P1 P) (q2 = rp_p2 k1 P1 P) := sorry
theorem rp_ow {er ep e1 p1 k q : Int32} {A B : Prop} (h : rp_o er ep e1 p1 k q A) (w : A → B) : rp_o er ep e1 p1 k q B := sorry
theorem rp_ofail {er ep e1 p1 k q : Int32} {ok ok2 : Prop} (hk : ¬ k = 0) (h : rp_o er ep e1 p1 k q ok) : rp_o er ep e1 p1 k q ok2 := sorry
theorem rp_mm1 {x : Int32} (h : 0 ≤ x.toInt) : (x - 1).toInt = x.toInt - 1 := sorry
theorem rp_min100 {x : Int32} : (if x < (100 : Int32) then x else 100).toInt = min 100 x.toInt := sorry
theorem rp_rk_sk {b : Nat → Int32} {n p : Int32} {lo hi : Int} (hn : n.toInt ≤ 800) (hp : 0 ≤ p.toInt ∧ p.toInt ≤ n.toInt) : rp_rk b n lo hi (rp_sk b n p) = rp_rk b n lo hi p ∧ rp_rp b n lo hi (rp_sk b n p) = rp_rp b n lo hi p ∧ rp_rv b n (rp_sk b n p) = rp_rv b n p := sorry
/-- a name: one to six letters -/
def rp_nmd (w : List Int32) : Prop := (1 ≤ w.length ∧ w.length ≤ 6) ∧ ∀ x ∈ w, 97 ≤ x.toInt ∧ x.toInt ≤ 122
def rp_N (N : List (List Int32)) (cnt : Int32) (nf : Nat → Int64) : Prop := cnt.toInt = N.length ∧ N.length ≤ 4 ∧ (∀ (i : Nat) (w : List Int32), N[i]? = some w → nf i = rp_cd w) ∧ ∀ w ∈ N, rp_nmd w
/-- a name's number as a whole number -/
def rp_cz (l : List Int32) : Nat := l.foldl (fun c x => c * 256 + x.toInt.toNat) 0
theorem rp_czs (l : List Int32) (x : Int32) : rp_cz (l ++ [x]) = rp_cz l * 256 + x.toInt.toNat := sorry
theorem rp_cdr : ∀ m : List Int32, m.length ≤ 6 → (∀ x ∈ m, 97 ≤ x.toInt ∧ x.toInt ≤ 122) → (rp_cd m.reverse).toInt = rp_cz m.reverse ∧ rp_cz m.reverse < 256 ^ m.length := sorry
theorem rp_czi : ∀ m1 m2 : List Int32, (∀ x ∈ m1, 97 ≤ x.toInt ∧ x.toInt ≤ 122) → (∀ x ∈ m2, 97 ≤ x.toInt ∧ x.toInt ≤ 122) → rp_cz m1.reverse = rp_cz m2.reverse → m1 = m2 := sorry
theorem rp_cdi {l1 l2 : List Int32} (h1 : l1.length ≤ 6) (k1 : ∀ x ∈ l1, 97 ≤ x.toInt ∧ x.toInt ≤ 122) (h2 : l2.length ≤ 6) (k2 : ∀ x ∈ l2, 97 ≤ x.toInt ∧ x.toInt ≤ 122) (h : rp_cd l1 = rp_cd l2) : l1 = l2 := sorry
/-- what find() says of a name -/
theorem rp_fno {N : List (List Int32)} {cnt : Int32} {nf : Nat → Int64} {w : List Int32} (hN : rp_N N cnt nf) (h : ∀ i : Nat, (i : Int) < cnt.toInt → ¬ nf i = rp_cd w) : ¬ w ∈ N := sorry
theorem rp_fyes {N : List (List Int32)} {cnt : Int32} {nf : Nat → Int64} {w : List Int32} (hN : rp_N N cnt nf) (hw : w.length ≤ 6 ∧ ∀ x ∈ w, 97 ≤ x.toInt ∧ x.toInt ≤ 122) (h : ∃ i : Nat, (i : Int) < cnt.toInt ∧ nf i = rp_cd w) : w ∈ N := sorry
/-- the letters of a word -/
theorem rp_adv_all {g : Int32 → Bool} {n : Int32} (hn : n.toInt ≤ 800) (hg : ∀ k : Int32, 0 ≤ k.toInt → g k = true → k.toInt < n.toInt) : ∀ (j : Nat) (p : Int32), 0 ≤ p.toInt → p.toInt ≤ n.toInt → ∀ i : Int32, p.toInt ≤ i.toInt → i.toInt < (rp_adv g j p).toInt → g i = true := sorry
theorem rp_w_let {b : Nat → Int32} {n p : Int32} (hn : n.toInt ≤ 800) (hp : 0 ≤ p.toInt ∧ p.toInt ≤ n.toInt) : ∀ x ∈ rp_w b n p, 97 ≤ x.toInt ∧ x.toInt ≤ 122 := sorry
theorem rp_11 {x : Int32} (h : ¬ (11 : Int32) ≤ x) : x.toInt < 11 := sorry
theorem rp_11g {x : Int32} (h : (11 : Int32) ≤ x) : 11 ≤ x.toInt := sorry
theorem rp_12 {x : Int32} (h : ¬ (12 : Int32) ≤ x) : x.toInt < 12 := sorry
theorem rp_12g {x : Int32} (h : (12 : Int32) ≤ x) : 12 ≤ x.toInt := sorry
theorem rp_nle6 {x : Int32} (h : ¬ x ≤ (6 : Int32)) : (6 : Int32) < x := sorry
theorem rp_le6x {x : Int32} (h : x ≤ (6 : Int32)) : ¬ (6 : Int32) < x := sorry
/-! a curve and a program, step by step -/
def rp_cJ (b : Nat → Int32) (n : Int32) (N : List (List Int32)) (w : Int32) (er ep ep0 m : Int32) (v : Int) (p : Int32) : Prop :=
  (¬ er = 0 → ¬ rp_ck b n N w = 0 ∧ er = rp_ck b n N w ∧ ep = rp_cp b n N w) ∧
  (er = 0 → ep = ep0 ∧ rp_ck b n N w = rp_vk b n (11 - m.toInt.toNat) m.toInt.toNat v p ∧ rp_cp b n N w = rp_vp b n (11 - m.toInt.toNat) m.toInt.toNat v p)
theorem rp_z0 : (0 : Int32).toInt.toNat = 0 := sorry
theorem rp_cj12 {b : Nat → Int32} {n w er ep e1 p1 e2 p2 pl : Int32} {N : List (List Int32)} (h4 : ¬ 4 ≤ N.length) (her : er = 0) (o1 : rp_o er ep e1 p1 (rp_wk b n (rp_q2 b n w)) (rp_q2 b n w) True) (bad : 6 < (rp_w b n (rp_q2 b n w)).length ∨ rp_w b n (rp_q2 b n w) ∈ N) (o2 : rp_o e1 p1 e2 p2 3 (rp_q2 b n w) True) : rp_cJ b n N w e2 p2 ep 0 0 pl := sorry
theorem rp_cj3 {b : Nat → Int32} {n w er ep e1 p1 : Int32} {N : List (List Int32)} (h4 : ¬ 4 ≤ N.length) (her : er = 0) (o1 : rp_o er ep e1 p1 (rp_wk b n (rp_q2 b n w)) (rp_q2 b n w) True) (ok : ¬ (6 < (rp_w b n (rp_q2 b n w)).length ∨ rp_w b n (rp_q2 b n w) ∈ N)) : rp_cJ b n N w e1 p1 ep 0 0 (rp_we b n (rp_q2 b n w)) := sorry
theorem rp_cjs {b : Nat → Int32} {n w er ep ep0 e1 p1 m p q : Int32} {v r : Int} {N : List (List Int32)} (J : rp_cJ b n N w er ep ep0 m v p) (her : er = 0) (hm : 0 ≤ m.toInt ∧ m.toInt < 11) (hd : ¬ (2 ≤ m.toInt ∧ ¬ rp_dig b n (rp_sk b n p) = true)) (o : rp_o er ep e1 p1 (rp_rk b n v 5000 p) (rp_rp b n v 5000 p) (q = rp_rp b n v 5000 p ∧ r = rp_rv b n p)) : rp_cJ b n N w e1 p1 ep0 (m + Int32.ofInt 1) r q := sorry
/-- how a curve ends -/
theorem rp_ce1 {b : Nat → Int32} {n w er0 er ep ep0 m p : Int32} {v : Int} {N : List (List Int32)} {B : Prop} (h0 : er0 = 0) (J : rp_cJ b n N w er ep ep0 m v p) (hm : ¬ er = 0 ∨ 11 ≤ m.toInt) (hB : rp_ck b n N w = 0 → B) : rp_o er0 ep0 er ep (rp_ck b n N w) (rp_cp b n N w) (B ∧ rp_sk b n p = rp_sk b n (rp_cp b n N w)) := sorry
theorem rp_ce2 {b : Nat → Int32} {n w er0 er ep ep0 m p : Int32} {v : Int} {N : List (List Int32)} {B : Prop} (h0 : er0 = 0) (J : rp_cJ b n N w er ep ep0 m v p) (her : er = 0) (hm : 2 ≤ m.toInt ∧ m.toInt < 11) (hd : ¬ rp_dig b n (rp_sk b n p) = true) (hB : rp_ck b n N w = 0 → B) : rp_o er0 ep0 er ep (rp_ck b n N w) (rp_cp b n N w) (B ∧ rp_sk b n (rp_sk b n p) = rp_sk b n (rp_cp b n N w)) := sorry
def rp_gJ (b : Nat → Int32) (n : Int32) (np : Int) (w : Int32) (er ep ep0 m p : Int32) : Prop :=
  (¬ er = 0 → ¬ rp_gk b n np w = 0 ∧ er = rp_gk b n np w ∧ ep = rp_gp b n np w) ∧
  (er = 0 → ep = ep0 ∧ rp_gk b n np w = rp_ssk b n (12 - m.toInt.toNat) m.toInt.toNat p ∧ rp_gp b n np w = rp_ssp b n (12 - m.toInt.toNat) m.toInt.toNat p)
theorem rp_gj0 {b : Nat → Int32} {n w er ep p : Int32} {np : Int} (h4 : ¬ 4 ≤ np) (her : er = 0) (hp : p = rp_we b n w) : rp_gJ b n np w er ep ep 0 p := sorry
theorem rp_gjs {b : Nat → Int32} {n w er ep ep0 e1 p1 e2 p2 m p q : Int32} {np : Int} (J : rp_gJ b n np w er ep ep0 m p) (her : er = 0) (hm : 0 ≤ m.toInt ∧ m.toInt < 12) (hd : rp_let b n (rp_sk b n p) = true ∨ m.toInt = 0) (o1 : rp_o er ep e1 p1 (rp_wk b n (rp_sk b n p)) (rp_sk b n p) True) (o2 : rp_o e1 p1 e2 p2 (rp_stk b n m.toInt (rp_sk b n p)) (rp_stp b n m.toInt (rp_sk b n p)) (q = rp_stp b n m.toInt (rp_sk b n p))) : rp_gJ b n np w e2 p2 ep0 (m + Int32.ofInt 1) q := sorry
theorem rp_ge1 {b : Nat → Int32} {n w er0 er ep ep0 m p : Int32} {np : Int} (h0 : er0 = 0) (J : rp_gJ b n np w er ep ep0 m p) (hm : ¬ er = 0 ∨ 12 ≤ m.toInt) : rp_o er0 ep0 er ep (rp_gk b n np w) (rp_gp b n np w) (rp_sk b n p = rp_sk b n (rp_gp b n np w)) := sorry
theorem rp_ge2 {b : Nat → Int32} {n w er0 er ep ep0 m p : Int32} {np : Int} (h0 : er0 = 0) (J : rp_gJ b n np w er ep ep0 m p) (her : er = 0) (hm : 1 ≤ m.toInt ∧ m.toInt < 12) (hd : ¬ rp_let b n (rp_sk b n p) = true) : rp_o er0 ep0 er ep (rp_gk b n np w) (rp_gp b n np w) (rp_sk b n (rp_sk b n p) = rp_sk b n (rp_gp b n np w)) := sorry
theorem rp_osk {b : Nat → Int32} {n p q er ep e1 p1 : Int32} {lo hi r : Int} (hn : n.toInt ≤ 800) (hp : 0 ≤ p.toInt ∧ p.toInt ≤ n.toInt) (o : rp_o er ep e1 p1 (rp_rk b n lo hi (rp_sk b n p)) (rp_rp b n lo hi (rp_sk b n p)) (q = rp_rp b n lo hi (rp_sk b n p) ∧ r = rp_rv b n (rp_sk b n p))) : rp_o er ep e1 p1 (rp_rk b n lo hi p) (rp_rp b n lo hi p) (q = rp_rp b n lo hi p ∧ r = rp_rv b n p) := sorry
theorem rp_w_len {b : Nat → Int32} {n p : Int32} : (rp_w b n p).length = ((rp_we b n p).toInt - p.toInt).toNat := sorry
theorem rp_gt6 {b : Nat → Int32} {n p : Int32} (h0 : 0 ≤ p.toInt) (hb : p.toInt ≤ (rp_we b n p).toInt) (h : (6 : Int32) < ((rp_we b n p) - p)) : 6 < (rp_w b n p).length := sorry
theorem rp_le6 {b : Nat → Int32} {n p : Int32} (h0 : 0 ≤ p.toInt) (hb : p.toInt ≤ (rp_we b n p).toInt) (h : ¬ (6 : Int32) < ((rp_we b n p) - p)) : ¬ 6 < (rp_w b n p).length := sorry
theorem rp_lt4 {x : Int32} (h : x < (4 : Int32)) : x.toInt < 4 := sorry
theorem rp_nlt4 {x : Int32} (h : ¬ x < (4 : Int32)) : 4 ≤ x.toInt := sorry
theorem rp_ce0 {b : Nat → Int32} {n w er ep e1 p1 : Int32} {N : List (List Int32)} {ok : Prop} (h4 : 4 ≤ N.length) (o : rp_o er ep e1 p1 4 w True) : rp_o er ep e1 p1 (rp_ck b n N w) (rp_cp b n N w) ok := sorry
theorem rp_ge0 {b : Nat → Int32} {n w er ep e1 p1 : Int32} {np : Int} {ok : Prop} (h4 : 4 ≤ np) (o : rp_o er ep e1 p1 4 w True) : rp_o er ep e1 p1 (rp_gk b n np w) (rp_gp b n np w) ok := sorry
/-- the names with the new one -/
theorem rp_cB {b : Nat → Int32} {n w cnt : Int32} {nf : Nat → Int64} {N : List (List Int32)} (hn : n.toInt ≤ 800) (hq : 0 ≤ (rp_q2 b n w).toInt ∧ (rp_q2 b n w).toInt ≤ n.toInt) (hN : rp_N N cnt nf) (h : rp_ck b n N w = 0) : rp_N (N ++ [rp_w b n (rp_q2 b n w)]) (cnt + 1) (vp_updL nf cnt.toNatClampNeg (rp_cd (rp_w b n (rp_q2 b n w)))) := sorry
theorem rp_n6i {x : Int32} (h : x < (6 : Int32)) : x.toInt < 6 := sorry
theorem rp_n6j {x : Int32} (h : ¬ x < (6 : Int32)) : 6 ≤ x.toInt := sorry
theorem rp_le0 {b : Nat → Int32} {n w er ep e1 p1 : Int32} {N : List (List Int32)} {nc : Int} {ok : Prop} (h6 : 6 ≤ nc) (o : rp_o er ep e1 p1 4 w True) : rp_o er ep e1 p1 (rp_lk b n N nc w) (rp_lp b n N nc w) ok := sorry
theorem rp_lbad {b : Nat → Int32} {n w er ep e1 p1 e2 p2 : Int32} {N : List (List Int32)} {nc : Int} {ok : Prop} (h6 : ¬ 6 ≤ nc) (her : er = 0) (o1 : rp_o er ep e1 p1 (rp_wk b n (rp_q2 b n w)) (rp_q2 b n w) True) (bad : 6 < (rp_w b n (rp_q2 b n w)).length ∨ ¬ rp_w b n (rp_q2 b n w) ∈ N) (o2 : rp_o e1 p1 e2 p2 3 (rp_q2 b n w) True) : rp_o er ep e2 p2 (rp_lk b n N nc w) (rp_lp b n N nc w) ok := sorry
theorem rp_lgood {b : Nat → Int32} {n w er ep e1 p1 e2 p2 pl cnt : Int32} {nf : Nat → Int64} {N : List (List Int32)} {nc : Int} {B : Prop} (h6 : ¬ 6 ≤ nc) (her : er = 0) (hN : rp_N N cnt nf) (hq : 0 ≤ (rp_q2 b n w).toInt ∧ (rp_q2 b n w).toInt ≤ 800) (o1 : rp_o er ep e1 p1 (rp_wk b n (rp_q2 b n w)) (rp_q2 b n w) True) (hw : rp_w b n (rp_q2 b n w) ∈ N) (o : rp_o e1 p1 e2 p2 (rp_4k b n (rp_we b n (rp_q2 b n w))) (rp_4p b n (rp_we b n (rp_q2 b n w))) (pl = rp_4p b n (rp_we b n (rp_q2 b n w)))) (hB : B) : rp_o er ep e2 p2 (rp_lk b n N nc w) (rp_lp b n N nc w) (B ∧ rp_sk b n pl = rp_sk b n (rp_lp b n N nc w)) := sorry
/-! a statement, and the text -/
theorem rp_t1 {b : Nat → Int32} {n q : Int32} {N : List (List Int32)} {np nc : Int} (h : rp_wh b n q = 1) : rp_tk b n N np nc q = rp_ck b n N q ∧ rp_tp b n N np nc q = rp_cp b n N q ∧ rp_tN b n N q = N ++ [rp_w b n (rp_q2 b n q)] ∧ rp_tc b n q nc = nc ∧ rp_tg b n q np = np := sorry
theorem rp_t2 {b : Nat → Int32} {n q : Int32} {N : List (List Int32)} {np nc : Int} (h : rp_wh b n q = 2) : rp_tk b n N np nc q = rp_lk b n N nc q ∧ rp_tp b n N np nc q = rp_lp b n N nc q ∧ rp_tN b n N q = N ∧ rp_tc b n q nc = nc + 1 ∧ rp_tg b n q np = np := sorry
theorem rp_t3 {b : Nat → Int32} {n q : Int32} {N : List (List Int32)} {np nc : Int} (h : rp_wh b n q = 3) : rp_tk b n N np nc q = rp_gk b n np q ∧ rp_tp b n N np nc q = rp_gp b n np q ∧ rp_tN b n N q = N ∧ rp_tc b n q nc = nc ∧ rp_tg b n q np = np + 1 := sorry
theorem rp_t0 {b : Nat → Int32} {n q : Int32} {N : List (List Int32)} {np nc : Int} (h : rp_wh b n q = 0) : rp_tk b n N np nc q = rp_ek b n q ∧ rp_tp b n N np nc q = rp_ep b n q ∧ rp_tN b n N q = N ∧ rp_tc b n q nc = nc ∧ rp_tg b n q np = np := sorry
/-- a word that isn't empty begins with a letter -/
theorem rp_wl {b : Nat → Int32} {n q : Int32} {x : Int32} {l : List Int32} (hq : 0 ≤ q.toInt ∧ q.toInt ≤ 800) (h : rp_w b n q = x :: l) : rp_let b n q = true := sorry
theorem rp_wk0 {b : Nat → Int32} {n q er ep e1 p1 : Int32} (her : er = 0) (o : rp_o er ep e1 p1 (rp_wk b n q) q True) (hl : rp_let b n q = true) : e1 = 0 ∧ p1 = ep := sorry
theorem rp_we0 {b : Nat → Int32} {n q : Int32} (h : ¬ rp_let b n q = true) (hq : 0 ≤ q.toInt ∧ q.toInt ≤ 800) : rp_ek b n q = 1 ∧ rp_ep b n q = q := sorry
/-- what a statement leaves: the outcome, and what is known of the world behind it -/
def rp_sO (b : Nat → Int32) (n q : Int32) (N : List (List Int32)) (np nc : Int) (ep0 er ep pl cnt nc1 np1 : Int32) (nf : Nat → Int64) (N1 : List (List Int32)) : Prop :=
  rp_o 0 ep0 er ep (rp_tk b n N np nc q) (rp_tp b n N np nc q) ((N1 = rp_tN b n N q ∧ rp_N N1 cnt nf ∧ nc1.toInt = rp_tc b n q nc ∧ np1.toInt = rp_tg b n q np ∧ (0 ≤ nc1.toInt ∧ nc1.toInt ≤ 6) ∧ 0 ≤ np1.toInt ∧ np1.toInt ≤ 4) ∧ rp_sk b n pl = rp_sk b n (rp_tp b n N np nc q))
theorem rp_lk6 {b : Nat → Int32} {n q : Int32} {N : List (List Int32)} {nc : Int} (h : rp_lk b n N nc q = 0) : ¬ 6 ≤ nc := sorry
theorem rp_gk4 {b : Nat → Int32} {n q : Int32} {np : Int} (h : rp_gk b n np q = 0) : ¬ 4 ≤ np := sorry
theorem rp_ok0 {er ep e1 p1 k q : Int32} {A B : Prop} (h : rp_o er ep e1 p1 k q A) (w : k = 0 → A → B) : rp_o er ep e1 p1 k q B := sorry
section RPT
variable {b : Nat → Int32} {n q : Int32} {N : List (List Int32)} {np nc cnt : Int32} {nf : Nat → Int64} {ep0 e1 p1 er ep pl : Int32}
theorem rp_s1 {cnt1 : Int32} {nf1 : Nat → Int64} (h : rp_wh b n q = 1) (hnc : 0 ≤ nc.toInt ∧ nc.toInt ≤ 6) (hnp : 0 ≤ np.toInt ∧ np.toInt ≤ 4) (o : rp_o 0 ep0 er ep (rp_ck b n N q) (rp_cp b n N q) (rp_N (N ++ [rp_w b n (rp_q2 b n q)]) cnt1 nf1 ∧ rp_sk b n pl = rp_sk b n (rp_cp b n N q))) : rp_sO b n q N np.toInt nc.toInt ep0 er ep pl cnt1 nc np nf1 (N ++ [rp_w b n (rp_q2 b n q)]) := sorry
theorem rp_s2 {nc1 : Int32} (h : rp_wh b n q = 2) (hN : rp_N N cnt nf) (hnc : 0 ≤ nc.toInt ∧ nc.toInt ≤ 6) (hnp : 0 ≤ np.toInt ∧ np.toInt ≤ 4) (o : rp_o 0 ep0 er ep (rp_lk b n N nc.toInt q) (rp_lp b n N nc.toInt q) (nc1 = nc + 1 ∧ rp_sk b n pl = rp_sk b n (rp_lp b n N nc.toInt q))) : rp_sO b n q N np.toInt nc.toInt ep0 er ep pl cnt nc1 np nf N := sorry
theorem rp_s3 {np1 : Int32} (h : rp_wh b n q = 3) (hN : rp_N N cnt nf) (hnc : 0 ≤ nc.toInt ∧ nc.toInt ≤ 6) (hnp : 0 ≤ np.toInt ∧ np.toInt ≤ 4) (o : rp_o 0 ep0 er ep (rp_gk b n np.toInt q) (rp_gp b n np.toInt q) (np1 = np + 1 ∧ rp_sk b n pl = rp_sk b n (rp_gp b n np.toInt q))) : rp_sO b n q N np.toInt nc.toInt ep0 er ep pl cnt nc np1 nf N := sorry
theorem rp_s0 (h : rp_wh b n q = 0) (hN : rp_N N cnt nf) (hnc : 0 ≤ nc.toInt ∧ nc.toInt ≤ 6) (hnp : 0 ≤ np.toInt ∧ np.toInt ≤ 4) (hq : 0 ≤ q.toInt ∧ q.toInt ≤ 800) (o1 : rp_o 0 ep0 e1 p1 (rp_wk b n q) q True) (o : rp_o e1 p1 er ep (rp_ek b n q) (rp_ep b n q) (pl = rp_ep b n q)) : rp_sO b n q N np.toInt nc.toInt ep0 er ep pl cnt nc np nf N := sorry
end RPT
/-- the text from p on, m statements in: what is still to be said is what was to be said -/
def rp_xJ (b : Nat → Int32) (n K0 P0 : Int32) (C0 : Int) (m : Int32) (N : List (List Int32)) (np nc : Int) (p : Int32) : Prop :=
  K0 = rp_xk b n (802 - m.toInt.toNat) N np nc p ∧ P0 = rp_xp b n (802 - m.toInt.toNat) N np nc p ∧ C0 = rp_xc b n (802 - m.toInt.toNat) N np nc p
theorem rp_xs {b : Nat → Int32} {n K0 P0 m p q er ep ep0 pl cnt nc1 np1 : Int32} {C0 np nc : Int} {N N1 : List (List Int32)} {nf : Nat → Int64} (J : rp_xJ b n K0 P0 C0 m N np nc p) (hm : 0 ≤ m.toInt ∧ m.toInt ≤ 800) (hq : q = rp_sk b n p) (o : rp_sO b n q N np nc ep0 er ep pl cnt nc1 np1 nf N1) (her : er = 0) (h59 : rf_bt b n (rp_sk b n pl) = 59) : rp_xJ b n K0 P0 C0 (m + Int32.ofInt 1) N1 np1.toInt nc1.toInt (rp_sk b n pl + 1) ∧ ep = ep0 ∧ rp_N N1 cnt nf ∧ (0 ≤ nc1.toInt ∧ nc1.toInt ≤ 6) ∧ 0 ≤ np1.toInt ∧ np1.toInt ≤ 4 := sorry
/-- the text ends -/
theorem rp_xe {b : Nat → Int32} {n K0 P0 m p q er ep ep0 pl cnt nc1 np1 : Int32} {C0 np nc : Int} {N N1 : List (List Int32)} {nf : Nat → Int64} (J : rp_xJ b n K0 P0 C0 m N np nc p) (hm : 0 ≤ m.toInt ∧ m.toInt ≤ 800) (hq : q = rp_sk b n p) (o : rp_sO b n q N np nc ep0 er ep pl cnt nc1 np1 nf N1) (h59 : er = 0 → ¬ rf_bt b n (rp_sk b n pl) = 59) : (¬ er = 0 → K0 = er ∧ P0 = ep) ∧ (er = 0 → (rf_bt b n (rp_sk b n pl) = -1 → K0 = 0 ∧ C0 = nc1.toInt) ∧ (¬ rf_bt b n (rp_sk b n pl) = -1 → K0 = 1 ∧ P0 = rp_sk b n pl)) := sorry
/-! a statement that is well ends behind where it began; the whole text -/
theorem rp_rb {b : Nat → Int32} {n p : Int32} {lo hi : Int} (hn : n.toInt ≤ 800) (hp : 0 ≤ p.toInt ∧ p.toInt ≤ n.toInt) : p.toInt ≤ (rp_rp b n lo hi p).toInt ∧ (rp_rp b n lo hi p).toInt ≤ n.toInt := sorry
theorem rp_p2b {k p q r n : Int32} (h1 : r.toInt ≤ p.toInt ∧ p.toInt ≤ n.toInt) (h2 : r.toInt ≤ q.toInt ∧ q.toInt ≤ n.toInt) : r.toInt ≤ (rp_p2 k p q).toInt ∧ (rp_p2 k p q).toInt ≤ n.toInt := sorry
theorem rp_db {b : Nat → Int32} {n p : Int32} {l1 h1 l2 h2 : Int} (hn : n.toInt ≤ 800) (hp : 0 ≤ p.toInt ∧ p.toInt ≤ n.toInt) : p.toInt ≤ (rp_dp b n l1 h1 l2 h2 p).toInt ∧ (rp_dp b n l1 h1 l2 h2 p).toInt ≤ n.toInt := sorry
theorem rp_stb {b : Nat → Int32} {n q : Int32} {m : Int} (hn : n.toInt ≤ 800) (hq : 0 ≤ q.toInt ∧ q.toInt ≤ n.toInt) : q.toInt ≤ (rp_stp b n m q).toInt ∧ (rp_stp b n m q).toInt ≤ n.toInt := sorry
theorem rp_ssb {b : Nat → Int32} {n : Int32} (hn : n.toInt ≤ 800) : ∀ (r m : Nat) (p : Int32), 0 ≤ p.toInt ∧ p.toInt ≤ n.toInt → p.toInt ≤ (rp_ssp b n r m p).toInt ∧ (rp_ssp b n r m p).toInt ≤ n.toInt := sorry
theorem rp_vb {b : Nat → Int32} {n : Int32} (hn : n.toInt ≤ 800) : ∀ (r m : Nat) (v : Int) (p : Int32), 0 ≤ p.toInt ∧ p.toInt ≤ n.toInt → p.toInt ≤ (rp_vp b n r m v p).toInt ∧ (rp_vp b n r m v p).toInt ≤ n.toInt := sorry
theorem rp_q2b {b : Nat → Int32} {n q : Int32} (hn : n.toInt ≤ 800) (hq : 0 ≤ q.toInt ∧ q.toInt ≤ n.toInt) : (q.toInt ≤ (rp_q2 b n q).toInt ∧ (rp_q2 b n q).toInt ≤ n.toInt) ∧ q.toInt ≤ (rp_we b n (rp_q2 b n q)).toInt ∧ (rp_we b n (rp_q2 b n q)).toInt ≤ n.toInt := sorry
theorem rp_cpb {b : Nat → Int32} {n q : Int32} {N : List (List Int32)} (hn : n.toInt ≤ 800) (hq : 0 ≤ q.toInt ∧ q.toInt ≤ n.toInt) : q.toInt ≤ (rp_cp b n N q).toInt ∧ (rp_cp b n N q).toInt ≤ n.toInt := sorry
theorem rp_lpb {b : Nat → Int32} {n q : Int32} {N : List (List Int32)} {nc : Int} (hn : n.toInt ≤ 800) (hq : 0 ≤ q.toInt ∧ q.toInt ≤ n.toInt) : q.toInt ≤ (rp_lp b n N nc q).toInt ∧ (rp_lp b n N nc q).toInt ≤ n.toInt := sorry
theorem rp_gpb {b : Nat → Int32} {n q : Int32} {np : Int} (hn : n.toInt ≤ 800) (hq : 0 ≤ q.toInt ∧ q.toInt ≤ n.toInt) : q.toInt ≤ (rp_gp b n np q).toInt ∧ (rp_gp b n np q).toInt ≤ n.toInt := sorry
theorem rp_3pb {b : Nat → Int32} {n p : Int32} {l3 h3 : Int} (hn : n.toInt ≤ 800) (hp : 0 ≤ p.toInt ∧ p.toInt ≤ n.toInt) : p.toInt ≤ (rp_3p b n l3 h3 p).toInt ∧ (rp_3p b n l3 h3 p).toInt ≤ n.toInt := sorry
theorem rp_epb {b : Nat → Int32} {n q : Int32} (hn : n.toInt ≤ 800) (hq : 0 ≤ q.toInt ∧ q.toInt ≤ n.toInt) : q.toInt ≤ (rp_ep b n q).toInt ∧ (rp_ep b n q).toInt ≤ n.toInt := sorry
theorem rp_tpb {b : Nat → Int32} {n q : Int32} {N : List (List Int32)} {np nc : Int} (hn : n.toInt ≤ 800) (hq : 0 ≤ q.toInt ∧ q.toInt ≤ n.toInt) : q.toInt ≤ (rp_tp b n N np nc q).toInt ∧ (rp_tp b n N np nc q).toInt ≤ n.toInt := sorry
theorem rp_sOb {b : Nat → Int32} {n q : Int32} {N N1 : List (List Int32)} {np nc : Int} {ep0 ep pl cnt nc1 np1 : Int32} {nf : Nat → Int64} (hn : n.toInt ≤ 800) (hq : 0 ≤ q.toInt ∧ q.toInt ≤ n.toInt) (o : rp_sO b n q N np nc ep0 0 ep pl cnt nc1 np1 nf N1) : q.toInt ≤ (rp_sk b n pl).toInt ∧ (rp_sk b n pl).toInt ≤ n.toInt := sorry
theorem rp_nx59 {b : Nat → Int32} {n p : Int32} (h : rp_nx b n p = 59) : rf_bt b n p = 59 ∧ p.toInt < n.toInt := sorry
theorem rp_nx5n {b : Nat → Int32} {n p : Int32} (h : ¬ rp_nx b n p = 59) : ¬ rf_bt b n p = 59 := sorry
/-- the bytes of a text -/
def rp_by (b : Nat → Int32) (n : Int32) : Prop := ∀ j : Nat, (j : Int) < n.toInt → 1 ≤ (b j).toInt ∧ (b j).toInt ≤ 255
theorem rp_byn {b : Nat → Int32} {n p : Int32} (h : rp_by b n) (hp : 0 ≤ p.toInt) (hl : p.toInt < n.toInt) : ¬ rf_bt b n p = -1 := sorry
/-- the text: what is wrong (0: nothing), where, how many cells -/
def rp_K (b : Nat → Int32) (n : Int32) : Int32 := rp_xk b n 802 [] 0 0 0
def rp_P (b : Nat → Int32) (n : Int32) : Int32 := rp_xp b n 802 [] 0 0 0
def rp_C (b : Nat → Int32) (n : Int32) : Int := rp_xc b n 802 [] 0 0 0
/-- what load() answers -/
def rp_A (b : Nat → Int32) (n : Int32) : Int32 := if rp_K b n = 0 then Int32.ofInt (rp_C b n) else -100 - rp_P b n
def rp_T (b : Nat → Int32) (n er ep nc : Int32) : Prop := (er = 0 → rp_K b n = 0 ∧ rp_C b n = nc.toInt) ∧ (¬ er = 0 → rp_K b n = er ∧ rp_P b n = ep)
theorem rp_J0 (b : Nat → Int32) (n : Int32) : rp_xJ b n (rp_K b n) (rp_P b n) (rp_C b n) 0 [] (0 : Int32).toInt (0 : Int32).toInt 0 := sorry
theorem rp_N0 (nf : Nat → Int64) : rp_N [] 0 nf := sorry
section RPX
variable {b : Nat → Int32} {n m p q ep ep0 er pl cnt nc1 np1 e2 p2 : Int32} {np nc : Int} {N N1 : List (List Int32)} {nf : Nat → Int64}
/-- the end: an error, the text's own end, or a byte that can't stand there -/
theorem rp_e1 (J : rp_xJ b n (rp_K b n) (rp_P b n) (rp_C b n) m N np nc p) (hm : 0 ≤ m.toInt ∧ m.toInt ≤ 800) (hq : q = rp_sk b n p) (o : rp_sO b n q N np nc ep0 er ep pl cnt nc1 np1 nf N1) (h : ¬ er = 0) (f : rp_o er ep e2 p2 1 (rp_sk b n pl) True) : rp_T b n e2 p2 nc1 := sorry
theorem rp_e1n (J : rp_xJ b n (rp_K b n) (rp_P b n) (rp_C b n) m N np nc p) (hm : 0 ≤ m.toInt ∧ m.toInt ≤ 800) (hq : q = rp_sk b n p) (o : rp_sO b n q N np nc ep0 er ep pl cnt nc1 np1 nf N1) (h : ¬ er = 0) : rp_T b n er ep nc1 := sorry
theorem rp_e2 (J : rp_xJ b n (rp_K b n) (rp_P b n) (rp_C b n) m N np nc p) (hm : 0 ≤ m.toInt ∧ m.toInt ≤ 800) (hq : q = rp_sk b n p) (o : rp_sO b n q N np nc ep0 0 ep pl cnt nc1 np1 nf N1) (h : ¬ rp_nx b n (rp_sk b n pl) = 59) (hb : rp_by b n) (h0 : 0 ≤ (rp_sk b n pl).toInt) (hl : ¬ n ≤ rp_sk b n pl) (f : rp_o 0 ep e2 p2 1 (rp_sk b n pl) True) : rp_T b n e2 p2 nc1 := sorry
theorem rp_e3 (J : rp_xJ b n (rp_K b n) (rp_P b n) (rp_C b n) m N np nc p) (hm : 0 ≤ m.toInt ∧ m.toInt ≤ 800) (hq : q = rp_sk b n p) (o : rp_sO b n q N np nc ep0 0 ep pl cnt nc1 np1 nf N1) (h : ¬ rp_nx b n (rp_sk b n pl) = 59) (hl : n ≤ rp_sk b n pl) : rp_T b n 0 ep nc1 := sorry
theorem rp_xn (J : rp_xJ b n (rp_K b n) (rp_P b n) (rp_C b n) m N np nc p) (hn : n.toInt ≤ 800) (hm : 0 ≤ m.toInt ∧ m.toInt ≤ p.toInt ∧ p.toInt ≤ n.toInt) (hq : q = rp_sk b n p) (o : rp_sO b n q N np nc ep0 0 ep pl cnt nc1 np1 nf N1) (h : rp_nx b n (rp_sk b n pl) = 59) :
    (0 ≤ (m + Int32.ofInt 1).toInt ∧ (m + Int32.ofInt 1).toInt ≤ (rp_sk b n pl + 1).toInt ∧ (rp_sk b n pl + 1).toInt ≤ n.toInt) ∧ rp_xJ b n (rp_K b n) (rp_P b n) (rp_C b n) (m + Int32.ofInt 1) N1 np1.toInt nc1.toInt (rp_sk b n pl + 1) ∧ rp_N N1 cnt nf ∧ (0 ≤ nc1.toInt ∧ nc1.toInt ≤ 6) ∧ 0 ≤ np1.toInt ∧ np1.toInt ≤ 4 := sorry
end RPX
theorem rp_A0 {b : Nat → Int32} {n ep nc er : Int32} (h : rp_T b n er ep nc) (h0 : er = 0) : nc = rp_A b n := sorry
theorem rp_A1 {b : Nat → Int32} {n ep nc er : Int32} (h : rp_T b n er ep nc) (h0 : ¬ er = 0) : -100 - ep = rp_A b n := sorry
section RPG
variable {sp : Nat} {ps : rp_PS sp} {cu na pr ch : Nat} {nf : Nat → Int64} {x y z : Prop} {ws : va_W}
end RPG
theorem rf_vin {y : Int32} {n : Nat} (h : 0 ≤ y.toInt ∧ y.toInt < n) : vp_in y n := sorry
theorem rf_and255 (x : Int64) : 0 ≤ (x &&& 255).toInt ∧ (x &&& 255).toInt ≤ 255 := sorry
theorem rf_cbb (b : Int64) (y : Int32) : lg_cmp (cm_byte b y) 0 = 0 ↔ (cm_byte b y).toInt32 = 0 := sorry
theorem rf_cc (b : Int64) : ∀ i : Nat, cm_cnt b i = cm_cn2 b i := sorry
theorem rf_cs (b : Int64) (i : Nat) (hi : i < 8) : (cm_cn2 b i).toInt ≤ (cm_cn2 b (i + 1)).toInt ∧ (¬ (cm_byte b (cm_sh i)).toInt32 = 0 → (cm_cn2 b (i + 1)).toInt = (cm_cn2 b i).toInt + 1) := sorry
theorem rf_cm (b : Int64) : ∀ k i : Nat, i + k ≤ 8 → (cm_cn2 b i).toInt ≤ (cm_cn2 b (i + k)).toInt := sorry
theorem rf_ap8 {mn : Int32} {b : Int64} (hm : 0 ≤ mn.toInt ∧ mn.toInt ≤ 800) (h : mn + cm_cnt b 8 ≤ 800) : mn.toInt + (cm_cn2 b 8).toInt ≤ 800 ∧ ∀ i : Nat, i ≤ 8 → (mn + cm_cn2 b i).toInt = mn.toInt + (cm_cn2 b i).toInt := sorry
theorem rf_api {mn yb y4 : Int32} {b : Int64} (hm : 0 ≤ mn.toInt ∧ mn.toInt ≤ 800) (h : mn + cm_cnt b 8 ≤ 800) (hx : ∃ i9 : Nat, i9 ≤ 8 ∧ y4 = cm_sh i9 ∧ yb = mn + cm_cn2 b i9) (hg : ¬ y4 < 0) (hb : ¬ (cm_byte b y4).toInt32 = 0) : vp_in yb 800 := sorry
theorem rf_apb {mn : Int32} {b : Int64} (hm : 0 ≤ mn.toInt ∧ mn.toInt ≤ 800) : 0 ≤ (ty_apb mn b).toInt ∧ (ty_apb mn b).toInt ≤ 800 := sorry
