def rp_lt (b : Nat → Int32) (n t : Int32) : Int32 := if rp_K b n = 0 then 0 else t
/-! what is read, by value -/
def rd_nv (b : Nat → Int32) (n p : Int32) : Int32 := Int32.ofInt (rp_rv b n p)
theorem rd_nvE {b : Nat → Int32} {n p r : Int32} (h : r.toInt = rp_rv b n p) : r = rd_nv b n p := by
  unfold rd_nv
  rw [← h, Int32.ofInt_toInt]
/-- the reference's fresh row behind a setting -/
def rq_set (b : Nat → Int32) (n q : Int32) (g : Nat → Int32) : Nat → Int32 :=
  if rp_w b n q = [101, 102, 102, 105, 99, 105, 101, 110, 99, 121] then upd g 0 (rd_nv b n (rp_we b n q))
  else if rp_w b n q = [102, 97, 100, 101] then upd g 1 (rd_nv b n (rp_we b n q))
  else if rp_w b n q = [104, 101, 97, 116] then upd (upd g 2 (rd_nv b n (rp_we b n q))) 3 (rd_nv b n (rp_rp b n 1 10000 (rp_we b n q)))
  else if rp_w b n q = [108, 105, 109, 105, 116, 115] then upd (upd (upd g 4 (rd_nv b n (rp_we b n q))) 5 (rd_nv b n (rp_rp b n 0 5000 (rp_we b n q)))) 6 (rd_nv b n (rp_rp b n (rp_rv b n (rp_we b n q)) 5000 (rp_rp b n 0 5000 (rp_we b n q))))
  else if rp_w b n q = [97, 109, 98, 105, 101, 110, 116] then upd g 7 (rd_nv b n (rp_we b n q))
  else if rp_w b n q = [119, 97, 114, 110] then upd (upd (upd g 13 (rd_nv b n (rp_we b n q))) 14 (rd_nv b n (rp_rp b n 0 5000 (rp_we b n q)))) 15 (rd_nv b n (rp_rp b n (rp_rv b n (rp_we b n q)) 5000 (rp_rp b n 0 5000 (rp_we b n q))))
  else if rp_w b n q = [100, 101, 114, 97, 116, 101] then upd g 16 (rd_nv b n (rp_we b n q))
  else g
/-- behind a step, whose place is P -/
def rq_step (b : Nat → Int32) (n : Int32) (m : Int) (q : Int32) (P : Nat) (g : Nat → Int32) : Nat → Int32 :=
  if rp_w b n q = [99, 104, 97, 114, 103, 101] then upd (upd (upd (upd g P 0) (P + 2) 0) (P + 1) (rd_nv b n (rp_we b n q))) (P + 2) (rd_nv b n (rp_rp b n 1 5000 (rp_we b n q)))
  else if rp_w b n q = [104, 111, 108, 100] then upd (upd (upd (upd g P 1) (P + 2) 0) (P + 1) (rd_nv b n (rp_we b n q))) (P + 2) (rd_nv b n (rp_rp b n 0 5000 (rp_we b n q)))
  else if rp_w b n q = [100, 105, 115, 99, 104, 97, 114, 103, 101] then upd (upd (upd (upd g P 2) (P + 2) 0) (P + 1) (rd_nv b n (rp_we b n q))) (P + 2) (rd_nv b n (rp_rp b n 1 5000 (rp_we b n q)))
  else if rp_w b n q = [114, 101, 115, 116] then upd (upd (upd g P 3) (P + 2) 0) (P + 1) (rd_nv b n (rp_we b n q))
  else if rp_w b n q = [114, 101, 112, 101, 97, 116] then upd (upd (upd (upd g P 4) (P + 2) 0) (P + 1) (rd_nv b n (rp_we b n q))) (P + 2) (rd_nv b n (rp_rp b n 0 (m - 1) (rp_we b n q)))
  else g
/-- the steps, from the m-th on; B is the first one's place -/
def rq_ss (b : Nat → Int32) (n : Int32) (B : Nat) : Nat → Nat → Int32 → (Nat → Int32) → Nat → Int32
  | 0, _, _, g => g
  | r + 1, m, p, g => if rp_let b n (rp_sk b n p) = true then rq_ss b n B r (m + 1) (rp_stp b n m (rp_sk b n p)) (rq_step b n m (rp_sk b n p) (B + 3 * m) g) else g
/-- how many there are -/
def rq_sn (b : Nat → Int32) (n : Int32) : Nat → Nat → Int32 → Nat
  | 0, m, _ => m
  | r + 1, m, p => if rp_let b n (rp_sk b n p) = true then rq_sn b n r (m + 1) (rp_stp b n m (rp_sk b n p)) else m
/-- an entry's number of numbers is laid down, and the entry counted -/
def rq_cnt (g : Nat → Int32) (P : Nat) (m : Nat) (c : Nat) : Nat → Int32 := upd (upd g P (Int32.ofNat m)) c ((upd g P (Int32.ofNat m)) c + 1)
def rq_prog (b : Nat → Int32) (n q : Int32) (g : Nat → Int32) : Nat → Int32 :=
  rq_cnt (rq_ss b n (97 + 37 * (g 10).toInt.toNat) 12 0 (rp_we b n q) g) (96 + 37 * (g 10).toInt.toNat) (rq_sn b n 12 0 (rp_we b n q)) 10
/-- a name, whose place is P -/
def rq_nm (b : Nat → Int32) (q : Int32) (P : Nat) (z : Int32) (g : Nat → Int32) : Nat → Nat → Int32
  | 0 => upd g P z
  | k + 1 => upd (rq_nm b q P z g k) (P + 1 + k) (b (q.toInt.toNat + k))
/-- the voltages, from the m-th on; B is the first one's place -/
def rq_vv (b : Nat → Int32) (n : Int32) (B : Nat) : Nat → Nat → Int → Int32 → (Nat → Int32) → Nat → Int32
  | 0, _, _, _, g => g
  | r + 1, m, v, p, g => if 2 ≤ m ∧ ¬ rp_dig b n (rp_sk b n p) = true then g else rq_vv b n B r (m + 1) (rp_rv b n p) (rp_rp b n v 5000 p) (upd g (B + m) (rd_nv b n p))
def rq_vn (b : Nat → Int32) (n : Int32) : Nat → Nat → Int → Int32 → Nat
  | 0, m, _, _ => m
  | r + 1, m, v, p => if 2 ≤ m ∧ ¬ rp_dig b n (rp_sk b n p) = true then m else rq_vn b n r (m + 1) (rp_rv b n p) (rp_rp b n v 5000 p)
def rq_curve (b : Nat → Int32) (n q : Int32) (g : Nat → Int32) : Nat → Int32 :=
  rq_cnt (rq_vv b n (28 + 19 * (g 11).toInt.toNat) 11 0 0 (rp_we b n (rp_q2 b n q)) (rq_nm b (rp_q2 b n q) (20 + 19 * (g 11).toInt.toNat) (rp_we b n (rp_q2 b n q) - rp_q2 b n q) g (rp_we b n (rp_q2 b n q) - rp_q2 b n q).toInt.toNat)) (27 + 19 * (g 11).toInt.toNat) (rq_vn b n 11 0 0 (rp_we b n (rp_q2 b n q))) 11
/-- the last of the first k names that is w -/
def rq_ix (N : List (List Int32)) (w : List Int32) : Nat → Int32
  | 0 => -1
  | k + 1 => if N[k]? = some w then Int32.ofNat k else rq_ix N w k
def rq_cellV (b : Nat → Int32) (n p : Int32) (X : Nat) (i : Int32) (g : Nat → Int32) : Nat → Int32 :=
  upd (upd (upd (upd (upd g (X + 11) i) (X + 12) (rd_nv b n p)) (X + 13) (rd_nv b n (rp_rp b n 100 100000 p))) (X + 14) (rd_nv b n (rp_rp b n 1 500 (rp_rp b n 100 100000 p)))) (X + 15) (rd_nv b n (rp_rp b n 0 500 (rp_rp b n 1 500 (rp_rp b n 100 100000 p))))
def rq_cell (b : Nat → Int32) (n : Int32) (N : List (List Int32)) (q : Int32) (g : Nat → Int32) : Nat → Int32 :=
  upd (rq_cellV b n (rp_we b n (rp_q2 b n q)) (244 + 54 * (g 9).toInt.toNat) (rq_ix N (rp_w b n (rp_q2 b n q)) N.length) g) 9 ((rq_cellV b n (rp_we b n (rp_q2 b n q)) (244 + 54 * (g 9).toInt.toNat) (rq_ix N (rp_w b n (rp_q2 b n q)) N.length) g) 9 + 1)
def rq_t (b : Nat → Int32) (n : Int32) (N : List (List Int32)) (q : Int32) (g : Nat → Int32) : Nat → Int32 :=
  match rp_wh b n q with
  | 1 => rq_curve b n q g
  | 2 => rq_cell b n N q g
  | 3 => rq_prog b n q g
  | _ => rq_set b n q g
/-- a text from p on -/
def rq_x (b : Nat → Int32) (n : Int32) : Nat → List (List Int32) → Int → Int → Int32 → (Nat → Int32) → Nat → Int32
  | 0, _, _, _, _, g => g
  | r + 1, N, np, nc, p, g =>
    if rf_bt b n (rp_sk b n (rp_tp b n N np nc (rp_sk b n p))) = 59 then rq_x b n r (rp_tN b n N (rp_sk b n p)) (rp_tg b n (rp_sk b n p) np) (rp_tc b n (rp_sk b n p) nc) (rp_sk b n (rp_tp b n N np nc (rp_sk b n p)) + 1) (rq_t b n N (rp_sk b n p) g)
    else rq_t b n N (rp_sk b n p) g
theorem rq_u {g : Nat → Int32} {P : Int32} {Q : Nat} {v : Int32} (h : P.toInt = Q) : upd g P.toNatClampNeg v = upd g Q v := by
  have e : P.toNatClampNeg = Q := by
    show P.toInt.toNat = Q
    omega
  rw [e]
theorem rq_u2 {g : Nat → Int32} {P : Int32} {Q : Nat} {v : Int32} (h : P.toInt = Q) : upd g P.toInt.toNat v = upd g Q v := rq_u h
theorem rq_set_eff {b : Nat → Int32} {n q : Int32} {g : Nat → Int32} (hw : rp_w b n q = [101, 102, 102, 105, 99, 105, 101, 110, 99, 121]) : rq_set b n q g = upd g 0 (rd_nv b n (rp_we b n q)) := by
  unfold rq_set
  rw [hw, if_pos rfl]
theorem rq_set_fad {b : Nat → Int32} {n q : Int32} {g : Nat → Int32} (hw : rp_w b n q = [102, 97, 100, 101]) : rq_set b n q g = upd g 1 (rd_nv b n (rp_we b n q)) := by
  unfold rq_set
  rw [hw, if_neg (by decide), if_pos rfl]
theorem rq_set_hea {b : Nat → Int32} {n q : Int32} {g : Nat → Int32} (hw : rp_w b n q = [104, 101, 97, 116]) : rq_set b n q g = upd (upd g 2 (rd_nv b n (rp_we b n q))) 3 (rd_nv b n (rp_rp b n 1 10000 (rp_we b n q))) := by
  unfold rq_set
  rw [hw, if_neg (by decide), if_neg (by decide), if_pos rfl]
theorem rq_set_lim {b : Nat → Int32} {n q : Int32} {g : Nat → Int32} (hw : rp_w b n q = [108, 105, 109, 105, 116, 115]) : rq_set b n q g = upd (upd (upd g 4 (rd_nv b n (rp_we b n q))) 5 (rd_nv b n (rp_rp b n 0 5000 (rp_we b n q)))) 6 (rd_nv b n (rp_rp b n (rp_rv b n (rp_we b n q)) 5000 (rp_rp b n 0 5000 (rp_we b n q)))) := by
  unfold rq_set
  rw [hw, if_neg (by decide), if_neg (by decide), if_neg (by decide), if_pos rfl]
theorem rq_set_amb {b : Nat → Int32} {n q : Int32} {g : Nat → Int32} (hw : rp_w b n q = [97, 109, 98, 105, 101, 110, 116]) : rq_set b n q g = upd g 7 (rd_nv b n (rp_we b n q)) := by
  unfold rq_set
  rw [hw, if_neg (by decide), if_neg (by decide), if_neg (by decide), if_neg (by decide), if_pos rfl]
theorem rq_set_war {b : Nat → Int32} {n q : Int32} {g : Nat → Int32} (hw : rp_w b n q = [119, 97, 114, 110]) : rq_set b n q g = upd (upd (upd g 13 (rd_nv b n (rp_we b n q))) 14 (rd_nv b n (rp_rp b n 0 5000 (rp_we b n q)))) 15 (rd_nv b n (rp_rp b n (rp_rv b n (rp_we b n q)) 5000 (rp_rp b n 0 5000 (rp_we b n q)))) := by
  unfold rq_set
  rw [hw, if_neg (by decide), if_neg (by decide), if_neg (by decide), if_neg (by decide), if_neg (by decide), if_pos rfl]
theorem rq_set_der {b : Nat → Int32} {n q : Int32} {g : Nat → Int32} (hw : rp_w b n q = [100, 101, 114, 97, 116, 101]) : rq_set b n q g = upd g 16 (rd_nv b n (rp_we b n q)) := by
  unfold rq_set
  rw [hw, if_neg (by decide), if_neg (by decide), if_neg (by decide), if_neg (by decide), if_neg (by decide), if_neg (by decide), if_pos rfl]
theorem rq_step_chg {b : Nat → Int32} {n q : Int32} {m : Int} {P : Nat} {g : Nat → Int32} (hw : rp_w b n q = [99, 104, 97, 114, 103, 101]) : rq_step b n m q P g = upd (upd (upd (upd g P 0) (P + 2) 0) (P + 1) (rd_nv b n (rp_we b n q))) (P + 2) (rd_nv b n (rp_rp b n 1 5000 (rp_we b n q))) := by
  unfold rq_step
  rw [hw, if_pos rfl]
theorem rq_step_hld {b : Nat → Int32} {n q : Int32} {m : Int} {P : Nat} {g : Nat → Int32} (hw : rp_w b n q = [104, 111, 108, 100]) : rq_step b n m q P g = upd (upd (upd (upd g P 1) (P + 2) 0) (P + 1) (rd_nv b n (rp_we b n q))) (P + 2) (rd_nv b n (rp_rp b n 0 5000 (rp_we b n q))) := by
  unfold rq_step
  rw [hw, if_neg (by decide), if_pos rfl]
theorem rq_step_dis {b : Nat → Int32} {n q : Int32} {m : Int} {P : Nat} {g : Nat → Int32} (hw : rp_w b n q = [100, 105, 115, 99, 104, 97, 114, 103, 101]) : rq_step b n m q P g = upd (upd (upd (upd g P 2) (P + 2) 0) (P + 1) (rd_nv b n (rp_we b n q))) (P + 2) (rd_nv b n (rp_rp b n 1 5000 (rp_we b n q))) := by
  unfold rq_step
  rw [hw, if_neg (by decide), if_neg (by decide), if_pos rfl]
theorem rq_step_rst {b : Nat → Int32} {n q : Int32} {m : Int} {P : Nat} {g : Nat → Int32} (hw : rp_w b n q = [114, 101, 115, 116]) : rq_step b n m q P g = upd (upd (upd g P 3) (P + 2) 0) (P + 1) (rd_nv b n (rp_we b n q)) := by
  unfold rq_step
  rw [hw, if_neg (by decide), if_neg (by decide), if_neg (by decide), if_pos rfl]
theorem rq_step_rpt {b : Nat → Int32} {n q : Int32} {m : Int} {P : Nat} {g : Nat → Int32} (hw : rp_w b n q = [114, 101, 112, 101, 97, 116]) : rq_step b n m q P g = upd (upd (upd (upd g P 4) (P + 2) 0) (P + 1) (rd_nv b n (rp_we b n q))) (P + 2) (rd_nv b n (rp_rp b n 0 (m - 1) (rp_we b n q))) := by
  unfold rq_step
  rw [hw, if_neg (by decide), if_neg (by decide), if_neg (by decide), if_neg (by decide), if_pos rfl]
section RQ
variable {b : Nat → Int32} {n p q a c : Int32} {g d d1 d2 d3 d4 : Nat → Int32} {v w x y z : Int32} {P B : Nat}
theorem rq_st1 (hp : 0 ≤ p.toInt ∧ p.toInt ≤ 900) (e1 : d = upd (upd (upd g p.toNatClampNeg x) (p + 2).toNatClampNeg 0) (p + 1).toInt.toNat v) (hv : v.toInt = rp_rv b n a) : d = upd (upd (upd g p.toInt.toNat x) (p.toInt.toNat + 2) 0) (p.toInt.toNat + 1) (rd_nv b n a) := by
  have k1 : (p + 1).toInt = p.toInt + 1 := rf_p1 (by omega)
  have k2 : (p + 2).toInt = p.toInt + 2 := by
    have t : (2 : Int32).toInt = 2 := by decide
    rw [Jvm.Kit.i32_add (by rw [t]; omega) (by rw [t]; omega), t]
  have n1 : (p + 1).toInt.toNat = p.toInt.toNat + 1 := by omega
  have n2 : (p + 2).toNatClampNeg = p.toInt.toNat + 2 := by
    show (p + 2).toInt.toNat = _
    omega
  have n0 : p.toNatClampNeg = p.toInt.toNat := rfl
  rw [e1, n0, n1, n2, rd_nvE hv]
theorem rq_st2 (hp : 0 ≤ p.toInt ∧ p.toInt ≤ 900) (e1 : d1 = d) (e2 : d2 = upd d1 (p + 2).toInt.toNat w) (hw : w.toInt = rp_rv b n c) : d2 = upd d (p.toInt.toNat + 2) (rd_nv b n c) := by
  have k2 : (p + 2).toInt = p.toInt + 2 := by
    have t : (2 : Int32).toInt = 2 := by decide
    rw [Jvm.Kit.i32_add (by rw [t]; omega) (by rw [t]; omega), t]
  have n2 : (p + 2).toInt.toNat = p.toInt.toNat + 2 := by omega
  rw [e2, e1, n2, rd_nvE hw]
/-- a setting's number -/
theorem rq_s1 {i : Int32} {k : Nat} (hi : i.toInt = k) (e1 : d1 = d) (e : d2 = upd d1 i.toInt.toNat v) (hv : v.toInt = rp_rv b n a) : d2 = upd d k (rd_nv b n a) := by
  rw [e, e1, rq_u2 hi, rd_nvE hv]
/-- a name, letter by letter -/
theorem rq_nm0 (h : x.toInt = P) : upd g x.toNatClampNeg z = rq_nm b q P z g (0 : Int32).toInt.toNat := by
  rw [show (0 : Int32).toInt.toNat = 0 from by decide]
  exact rq_u h
theorem rq_nms (J : d = rq_nm b q P z g y.toInt.toNat) (hy : 0 ≤ y.toInt ∧ y.toInt ≤ 1000) (hq : 0 ≤ q.toInt) (h1 : ((x + 1) + y).toInt = P + 1 + y.toInt) (h2 : (q + y).toInt = q.toInt + y.toInt) : upd d ((x + 1) + y).toNatClampNeg (b (q + y).toNatClampNeg) = rq_nm b q P z g (y + Int32.ofInt 1).toInt.toNat := by
  have e : (y + Int32.ofInt 1).toInt = y.toInt + 1 := rf_p1 (by omega)
  have n1 : ((x + 1) + y).toNatClampNeg = P + 1 + y.toInt.toNat := by
    show ((x + 1) + y).toInt.toNat = _
    omega
  have n2 : (q + y).toNatClampNeg = q.toInt.toNat + y.toInt.toNat := by
    show (q + y).toInt.toNat = _
    omega
  rw [n1, n2, e, show (y.toInt + 1).toNat = y.toInt.toNat + 1 from by omega, J]
  rfl
/-- voltages -/
def rq_vJ (b : Nat → Int32) (n : Int32) (B : Nat) (p0 : Int32) (g0 : Nat → Int32) (m : Int32) (v : Int) (p : Int32) (g : Nat → Int32) : Prop := rq_vv b n B 11 0 0 p0 g0 = rq_vv b n B (11 - m.toInt.toNat) m.toInt.toNat v p g ∧ rq_vn b n 11 0 0 p0 = rq_vn b n (11 - m.toInt.toNat) m.toInt.toNat v p
theorem rq_vJ0 : rq_vJ b n B p g 0 (0 : Int32).toInt p g := by
  unfold rq_vJ
  rw [show (0 : Int32).toInt = 0 from by decide]
  exact ⟨rfl, rfl⟩
theorem rq_vs {m r : Int32} {l : Int} {p0 : Int32} {g0 : Nat → Int32} (J : rq_vJ b n B p0 g0 m l p g) (hm : 0 ≤ m.toInt ∧ m.toInt < 11) (hd : ¬ (2 ≤ m.toInt ∧ ¬ rp_dig b n (rp_sk b n p) = true)) (hx : x.toInt = B + m.toInt) (e : d = upd g x.toInt.toNat v) (hv : v.toInt = rp_rv b n p) (hr : r.toInt = rp_rv b n p) : rq_vJ b n B p0 g0 (m + Int32.ofInt 1) r.toInt (rp_rp b n l 5000 p) d := by
  have e1 : (m + Int32.ofInt 1).toInt = m.toInt + 1 := rf_p1 (by omega)
  have e3 : 11 - m.toInt.toNat = (11 - (m.toInt.toNat + 1)) + 1 := by omega
  have e4 : x.toInt.toNat = B + m.toInt.toNat := by omega
  have c : ¬ (2 ≤ m.toInt.toNat ∧ ¬ rp_dig b n (rp_sk b n p) = true) := fun z => hd ⟨by omega, z.2⟩
  obtain ⟨j1, j2⟩ := J
  rw [e3] at j1 j2
  unfold rq_vJ
  rw [e1, show (m.toInt + 1).toNat = m.toInt.toNat + 1 from by omega, hr, e, e4, rd_nvE hv]
  exact ⟨j1.trans (if_neg c), j2.trans (if_neg c)⟩
theorem rq_ve {m : Int32} {l : Int} {p0 : Int32} {g0 : Nat → Int32} (J : rq_vJ b n B p0 g0 m l p g) (hm : 2 ≤ m.toInt ∧ m.toInt ≤ 11) (hd : ¬ rp_dig b n (rp_sk b n p) = true) : rq_vv b n B 11 0 0 p0 g0 = g ∧ Int32.ofNat (rq_vn b n 11 0 0 p0) = m := by
  obtain ⟨j1, j2⟩ := J
  have em : Int32.ofNat m.toInt.toNat = m := by
    refine Int32.toInt.inj ?_
    rw [Int32.toInt_ofNat_of_lt (by omega)]
    omega
  by_cases h : m.toInt = 11
  · rw [show 11 - m.toInt.toNat = 0 from by omega] at j1 j2
    exact ⟨j1, by rw [j2]; exact em⟩
  · rw [show 11 - m.toInt.toNat = (10 - m.toInt.toNat) + 1 from by omega] at j1 j2
    have c : 2 ≤ m.toInt.toNat ∧ ¬ rp_dig b n (rp_sk b n p) = true := ⟨by omega, hd⟩
    exact ⟨j1.trans (if_pos c), by rw [j2.trans (if_pos c)]; exact em⟩
/-- an entry is counted -/
theorem rq_cntE {m : Int32} {k : Nat} {K : Nat} (hx : x.toInt = P) (hk : Int32.ofNat k = m) (hK : y.toNatClampNeg = K) (e : g = d) : upd (upd g x.toNatClampNeg m) y.toNatClampNeg ((upd g x.toNatClampNeg m) K + 1) = rq_cnt d P k K := by
  unfold rq_cnt
  rw [rq_u hx, hK, hk, e]
/-- which of the names -/
theorem rq_ix0 {N : List (List Int32)} {u : List Int32} : (-1 : Int32) = rq_ix N u (0 : Int32).toInt.toNat := by
  rw [show (0 : Int32).toInt.toNat = 0 from by decide]
  rfl
theorem rq_ixn {N : List (List Int32)} {u t : List Int32} {r k : Int32} (h : r = rq_ix N u k.toInt.toNat) (hk : 0 ≤ k.toInt ∧ k.toInt ≤ 1000) (ht : N[k.toInt.toNat]? = some t) (hn : ¬ u = t) : r = rq_ix N u (k + Int32.ofInt 1).toInt.toNat := by
  have e : (k + Int32.ofInt 1).toInt = k.toInt + 1 := rf_p1 (by omega)
  rw [e, show (k.toInt + 1).toNat = k.toInt.toNat + 1 from by omega, h]
  show _ = if N[k.toInt.toNat]? = some u then _ else _
  rw [if_neg (fun z => hn (Option.some.inj (z.symm.trans ht)))]
theorem rq_ixy {N : List (List Int32)} {u t : List Int32} {k : Int32} (hk : 0 ≤ k.toInt ∧ k.toInt ≤ 1000) (ht : N[k.toInt.toNat]? = some t) (hn : u = t) : k = rq_ix N u (k + Int32.ofInt 1).toInt.toNat := by
  have e : (k + Int32.ofInt 1).toInt = k.toInt + 1 := rf_p1 (by omega)
  rw [e, show (k.toInt + 1).toNat = k.toInt.toNat + 1 from by omega]
  show _ = if N[k.toInt.toNat]? = some u then _ else _
  rw [if_pos (by rw [ht, hn])]
  refine Int32.toInt.inj ?_
  rw [Int32.toInt_ofNat_of_lt (by omega)]
  omega
/-- a cell -/
theorem rq_cellE {N : List (List Int32)} {X : Int32} {v1 v2 v3 v4 : Int32} (h6 : 0 ≤ (g 9).toInt ∧ (g 9).toInt < 6) (hX : X.toInt = 244 + 54 * (g 9).toInt)
    (e1 : d1 = upd (upd g (X + 11).toNatClampNeg (rq_ix N (rp_w b n (rp_q2 b n q)) N.length)) (X + 12).toInt.toNat v1) (e2 : d2 = upd d1 (X + 13).toInt.toNat v2) (e3 : d3 = upd d2 (X + 14).toInt.toNat v3) (e4 : d4 = upd d3 (X + 15).toInt.toNat v4)
    (h1 : v1.toInt = rp_rv b n (rp_we b n (rp_q2 b n q))) (h2 : v2.toInt = rp_rv b n (rp_rp b n 100 100000 (rp_we b n (rp_q2 b n q)))) (h3 : v3.toInt = rp_rv b n (rp_rp b n 1 500 (rp_rp b n 100 100000 (rp_we b n (rp_q2 b n q))))) (h4 : v4.toInt = rp_rv b n (rp_rp b n 0 500 (rp_rp b n 1 500 (rp_rp b n 100 100000 (rp_we b n (rp_q2 b n q)))))) : upd d4 (9 : Int32).toNatClampNeg ((d4 9) + 1) = rq_cell b n N q g := by
  have k : ∀ (i : Int32) (j : Nat), i.toInt = j → j ≤ 53 → (X + i).toInt = 244 + 54 * (g 9).toInt + j := fun i j hi hj => by rw [Jvm.Kit.i32_add (by omega) (by omega), hX, hi]
  have n1 : (X + 11).toNatClampNeg = 244 + 54 * (g 9).toInt.toNat + 11 := by
    have := k 11 11 (by decide) (by omega)
    show (X + 11).toInt.toNat = _
    omega
  have n2 : (X + 12).toInt.toNat = 244 + 54 * (g 9).toInt.toNat + 12 := by have := k 12 12 (by decide) (by omega); omega
  have n3 : (X + 13).toInt.toNat = 244 + 54 * (g 9).toInt.toNat + 13 := by have := k 13 13 (by decide) (by omega); omega
  have n4 : (X + 14).toInt.toNat = 244 + 54 * (g 9).toInt.toNat + 14 := by have := k 14 14 (by decide) (by omega); omega
  have n5 : (X + 15).toInt.toNat = 244 + 54 * (g 9).toInt.toNat + 15 := by have := k 15 15 (by decide) (by omega); omega
  rw [n1, n2] at e1
  rw [n3] at e2
  rw [n4] at e3
  rw [n5] at e4
  rw [show (9 : Int32).toNatClampNeg = 9 from by decide]
  unfold rq_cell rq_cellV
  rw [e4, e3, e2, e1, rd_nvE h1, rd_nvE h2, rd_nvE h3, rd_nvE h4]
/-- steps -/
def rq_gJ (b : Nat → Int32) (n : Int32) (B : Nat) (p0 : Int32) (g0 : Nat → Int32) (m u : Int32) (g : Nat → Int32) : Prop := ∃ p : Int32, u = rp_sk b n p ∧ rq_ss b n B 12 0 p0 g0 = rq_ss b n B (12 - m.toInt.toNat) m.toInt.toNat p g ∧ rq_sn b n 12 0 p0 = rq_sn b n (12 - m.toInt.toNat) m.toInt.toNat p
theorem rq_gJ0 : rq_gJ b n B p g 0 (rp_sk b n p) g := ⟨p, rfl, by rw [show (0 : Int32).toInt = 0 from by decide]; exact ⟨rfl, rfl⟩⟩
theorem rq_gs {m u p0 : Int32} {g0 : Nat → Int32} (J : rq_gJ b n B p0 g0 m u g) (hm : 0 ≤ m.toInt ∧ m.toInt < 12) (hl : rp_let b n u = true) (hx : P = B + 3 * m.toInt.toNat) (e : d = rq_step b n m.toInt u P g) : rq_gJ b n B p0 g0 (m + Int32.ofInt 1) (rp_sk b n (rp_stp b n m.toInt u)) d := by
  obtain ⟨p, hu, j1, j2⟩ := J
  have e1 : (m + Int32.ofInt 1).toInt = m.toInt + 1 := rf_p1 (by omega)
  have e3 : 12 - m.toInt.toNat = (12 - (m.toInt.toNat + 1)) + 1 := by omega
  have c : ((m.toInt.toNat : Nat) : Int) = m.toInt := by omega
  rw [e3] at j1 j2
  rw [hu] at hl
  refine ⟨rp_stp b n m.toInt u, rfl, ?_, ?_⟩
  · rw [e1, show (m.toInt + 1).toNat = m.toInt.toNat + 1 from by omega, e, hx, hu]
    have t := j1.trans (if_pos hl)
    rw [c] at t
    exact t
  · rw [e1, show (m.toInt + 1).toNat = m.toInt.toNat + 1 from by omega, hu]
    have t := j2.trans (if_pos hl)
    rw [c] at t
    exact t
theorem rq_ge {m u p0 : Int32} {g0 : Nat → Int32} (J : rq_gJ b n B p0 g0 m u g) (hm : 0 ≤ m.toInt ∧ m.toInt ≤ 12) (hl : ¬ rp_let b n u = true) : rq_ss b n B 12 0 p0 g0 = g ∧ Int32.ofNat (rq_sn b n 12 0 p0) = m := by
  obtain ⟨p, hu, j1, j2⟩ := J
  rw [hu] at hl
  have em : Int32.ofNat m.toInt.toNat = m := by
    refine Int32.toInt.inj ?_
    rw [Int32.toInt_ofNat_of_lt (by omega)]
    omega
  by_cases h : m.toInt = 12
  · rw [show 12 - m.toInt.toNat = 0 from by omega] at j1 j2
    exact ⟨j1, by rw [j2]; exact em⟩
  · rw [show 12 - m.toInt.toNat = (11 - m.toInt.toNat) + 1 from by omega] at j1 j2
    exact ⟨j1.trans (if_neg hl), by rw [j2.trans (if_neg hl)]; exact em⟩
/-- the text -/
def rq_xJ (b : Nat → Int32) (n : Int32) (g0 : Nat → Int32) (m : Int32) (N : List (List Int32)) (np nc : Int) (p : Int32) (g : Nat → Int32) : Prop := rq_x b n 802 [] 0 0 0 g0 = rq_x b n (802 - m.toInt.toNat) N np nc p g
theorem rq_J0 : rq_xJ b n g 0 [] (0 : Int32).toInt (0 : Int32).toInt 0 g := by
  unfold rq_xJ
  rw [show (0 : Int32).toInt = 0 from by decide]
  rfl
end RQ
