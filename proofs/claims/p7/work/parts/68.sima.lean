/-! the two sides' descriptions are the same: what is read -/
def sd_vol (g : Nat → Int32) (R : Nat → Nat → Int32) (i n : Nat) : Prop := R 0 i = Int32.ofNat n ∧ ∀ k : Nat, k < n → g (28 + 19 * i + k) = R 1 (11 * i + k)
def sd_curs (g : Nat → Int32) (R : Nat → Nat → Int32) (c : Nat) : Prop := ∀ i : Nat, i < c → ∃ n : Nat, 2 ≤ n ∧ n ≤ 11 ∧ g (27 + 19 * i) = Int32.ofNat n ∧ sd_vol g R i n
def sd_stp (g : Nat → Int32) (R : Nat → Nat → Int32) (i n : Nat) : Prop := R 2 i = Int32.ofNat n ∧ ∀ s : Nat, s < n → g (97 + 37 * i + 3 * s) = R 3 (12 * i + s) ∧ g (98 + 37 * i + 3 * s) = R 4 (12 * i + s) ∧ g (99 + 37 * i + 3 * s) = R 5 (12 * i + s)
def sd_prg (g : Nat → Int32) (R : Nat → Nat → Int32) (c : Nat) : Prop := ∀ i : Nat, i < c → ∃ n : Nat, n ≤ 12 ∧ g (96 + 37 * i) = Int32.ofNat n ∧ sd_stp g R i n
def sd_one (g : Nat → Int32) (R : Nat → Nat → Int32) (c : fw_C) (nc k : Nat) : Prop := ∃ v : Nat, v < nc ∧ g (255 + 54 * k) = Int32.ofNat v ∧ c.1 11 = R 0 v ∧ (∀ j : Nat, 12 ≤ j → j ≤ 15 → c.1 j = g (244 + 54 * k + j)) ∧ ∀ j : Nat, j < (R 0 v).toInt.toNat → c.2.2 2 j = R 1 (11 * v + j)
def sd_nums (g : Nat → Int32) (W : fw_W) : Prop := (∀ j : Nat, j < 8 → g j = W.1 j) ∧ (∀ j : Nat, 13 ≤ j → j ≤ 16 → g j = W.1 j) ∧ g 9 = W.1 9 ∧ g 10 = W.1 10 ∧ g 11 = W.1 11
def sd_bds (g : Nat → Int32) : Prop := (0 ≤ (g 9).toInt ∧ (g 9).toInt ≤ 6) ∧ (0 ≤ (g 10).toInt ∧ (g 10).toInt ≤ 4) ∧ 0 ≤ (g 11).toInt ∧ (g 11).toInt ≤ 4
def sd (g : Nat → Int32) (W : fw_W) (x : Nat → fw_C) : Prop := sd_nums g W ∧ sd_bds g ∧ sd_curs g W.2.1 (g 11).toInt.toNat ∧ sd_prg g W.2.1 (g 10).toInt.toNat ∧ ∀ k : Nat, k < (g 9).toInt.toNat → sd_one g W.2.1 (x k) (g 11).toInt.toNat k
theorem sd_ofn {n : Nat} (h : n < 2147483648) : (Int32.ofNat n).toInt = n := sorry
section SDF
variable {g g1 : Nat → Int32} {R R1 : Nat → Nat → Int32} {c c1 k : Nat} {u u1 : fw_C}
theorem sd_volF {i n : Nat} (e : ∀ j : Nat, 28 + 19 * i ≤ j → j < 28 + 19 * i + n → g1 j = g j) (e0 : R1 0 i = R 0 i) (e1 : ∀ j : Nat, 11 * i ≤ j → j < 11 * i + n → R1 1 j = R 1 j) (h : sd_vol g R i n) : sd_vol g1 R1 i n := sorry
theorem sd_cursF (e : ∀ j : Nat, 27 ≤ j → j < 20 + 19 * c → g1 j = g j) (e0 : ∀ i : Nat, i < c → R1 0 i = R 0 i) (e1 : ∀ j : Nat, j < 11 * c → R1 1 j = R 1 j) (h : sd_curs g R c) : sd_curs g1 R1 c := sorry
theorem sd_prgF (e : ∀ j : Nat, 96 ≤ j → j < 96 + 37 * c → g1 j = g j) (e2 : ∀ i : Nat, i < c → R1 2 i = R 2 i) (e3 : ∀ t : Nat, 3 ≤ t → t ≤ 5 → ∀ j : Nat, j < 12 * c → R1 t j = R t j) (h : sd_prg g R c) : sd_prg g1 R1 c := sorry
theorem sd_oneF (e : ∀ j : Nat, 255 + 54 * k ≤ j → j ≤ 259 + 54 * k → g1 j = g j) (hc : c ≤ c1) (e0 : ∀ i : Nat, i < c → R1 0 i = R 0 i) (e1 : ∀ j : Nat, j < 11 * c → R1 1 j = R 1 j) (hb : ∀ i : Nat, i < c → (R 0 i).toInt.toNat ≤ 11) (h : sd_one g R u c k) : sd_one g1 R1 u c1 k := sorry
theorem sd_curb (h : sd_curs g R c) : ∀ i : Nat, i < c → (R 0 i).toInt.toNat ≤ 11 := sorry
end SDF
/-- a setting -/
theorem sd_s {g : Nat → Int32} {W : fw_W} {x : Nat → fw_C} {j : Nat} {v : Int32} (h : sd g W x) (hj : j < 8 ∨ (13 ≤ j ∧ j ≤ 16)) : sd (upd g j v) (fw_si W j v) x := sorry
theorem rp_k20 {a b : Int32} (h : rp_k2 a b = 0) : a = 0 ∧ b = 0 := sorry
theorem sd_sets {b : Nat → Int32} {n q : Int32} {g : Nat → Int32} {W : fw_W} {x : Nat → fw_C} (h : sd g W x) (k : rp_ek b n q = 0) : sd (rq_set b n q g) (rd_set b n q W) x := sorry
/-- one more voltage, of the entry that isn't counted on the reference's side yet -/
theorem fw_atK {n K : Nat} {r : Nat → Int32} {i : Int32} (hi : i.toInt = K) (hK : K < n) : fw_at n r i = r K := sorry
theorem fw_ptK {n K : Nat} {r : Nat → Int32} {i v : Int32} (hi : i.toInt = K) (hK : K < n) : fw_pt n r i v = upd r K v := sorry
theorem sd_on1 {m : Nat} (h : m ≤ 1000) : Int32.ofNat m + 1 = Int32.ofNat (m + 1) := sorry
theorem sd_idx {i a : Int32} {K m A : Nat} (hi : i.toInt = K) (ha : a.toInt = A) (hK : K < 4) (hA : A ≤ 12) (hm : m ≤ 12) : ((i * a) + Int32.ofNat m).toInt = A * K + m := sorry
theorem sd_addV {W : fw_W} {K m : Nat} {v : Int32} (hi : ((W.1 11) - 1).toInt = K) (hK : K < 4) (h0 : W.2.1 0 K = Int32.ofNat m) (hm : m < 11) : fw_addV W v = fw_wr (fw_wr W 0 (upd (W.2.1 0) K (Int32.ofNat (m + 1)))) 1 (upd (W.2.1 1) (11 * K + m) v) := sorry
theorem sd_vv {b : Nat → Int32} {n : Int32} {K : Nat} (hK : K < 4) : ∀ (r m : Nat) (v : Int) (p : Int32) (g : Nat → Int32) (W : fw_W), m + r = 11 → ((W.1 11) - 1).toInt = K → sd_vol g W.2.1 K m →
    (2 ≤ rq_vn b n r m v p ∧ rq_vn b n r m v p ≤ 11) ∧ sd_vol (rq_vv b n (28 + 19 * K) r m v p g) (rd_vv b n r m v p W).2.1 K (rq_vn b n r m v p) ∧ (∀ j : Nat, (j < 28 + 19 * K ∨ 39 + 19 * K ≤ j) → rq_vv b n (28 + 19 * K) r m v p g j = g j) ∧ (∀ i : Nat, i ≠ K → (rd_vv b n r m v p W).2.1 0 i = W.2.1 0 i) ∧ (∀ j : Nat, j < 11 * K → (rd_vv b n r m v p W).2.1 1 j = W.2.1 1 j) ∧ ∀ t : Nat, 2 ≤ t → (rd_vv b n r m v p W).2.1 t = W.2.1 t := sorry
theorem rq_nmF {b : Nat → Int32} {q z : Int32} {P : Nat} {g : Nat → Int32} : ∀ (k : Nat) {j : Nat}, (j < P ∨ P + k < j) → rq_nm b q P z g k j = g j := sorry
theorem rq_cntF {g : Nat → Int32} {P m c j : Nat} (h1 : j ≠ P) (h2 : j ≠ c) : rq_cnt g P m c j = g j := sorry
theorem rq_cntP {g : Nat → Int32} {P m c : Nat} (h : P ≠ c) : rq_cnt g P m c P = Int32.ofNat m := sorry
theorem rq_cntC {g : Nat → Int32} {P m c : Nat} (h : P ≠ c) : rq_cnt g P m c c = g c + 1 := sorry
theorem sd_curve {b : Nat → Int32} {n q : Int32} {g : Nat → Int32} {W : fw_W} {x : Nat → fw_C} (h : sd g W x) (h4 : (g 11).toInt < 4) (hl : (rp_we b n (rp_q2 b n q) - rp_q2 b n q).toInt ≤ 6) : sd (rq_curve b n q g) (rd_curve b n q W) x := sorry
/-- one more step -/
theorem sd_addS {W : fw_W} {K m : Nat} {k f s : Int32} (hi : ((W.1 10) - 1).toInt = K) (hK : K < 4) (h0 : W.2.1 2 K = Int32.ofNat m) (hm : m < 12) : fw_addS W k f s = fw_wr (fw_wr (fw_wr (fw_wr W 2 (upd (W.2.1 2) K (Int32.ofNat (m + 1)))) 3 (upd (W.2.1 3) (12 * K + m) k)) 4 (upd (W.2.1 4) (12 * K + m) f)) 5 (upd (W.2.1 5) (12 * K + m) s) := sorry
/-- a step on both sides -/
def sd_s3 (g g1 : Nat → Int32) (P : Nat) (k f s : Int32) : Prop := g1 P = k ∧ g1 (P + 1) = f ∧ g1 (P + 2) = s ∧ ∀ j : Nat, (j < P ∨ P + 3 ≤ j) → g1 j = g j
theorem sd_s3a {g : Nat → Int32} {P : Nat} {k f s : Int32} : sd_s3 g (upd (upd (upd (upd g P k) (P + 2) 0) (P + 1) f) (P + 2) s) P k f s := sorry
theorem sd_s3b {g : Nat → Int32} {P : Nat} {k f : Int32} : sd_s3 g (upd (upd (upd g P k) (P + 2) 0) (P + 1) f) P k f 0 := sorry
theorem sd_step {b : Nat → Int32} {n q : Int32} {m : Nat} {P : Nat} {g : Nat → Int32} {W : fw_W} (k : rp_stk b n m q = 0) : ∃ kd f s : Int32, rd_step b n m q W = fw_addS W kd f s ∧ sd_s3 g (rq_step b n m q P g) P kd f s := sorry
set_option maxHeartbeats 4000000 in
theorem sd_ss {b : Nat → Int32} {n : Int32} {K : Nat} (hK : K < 4) : ∀ (r m : Nat) (p : Int32) (g : Nat → Int32) (W : fw_W), m + r = 12 → ((W.1 10) - 1).toInt = K → sd_stp g W.2.1 K m → rp_ssk b n r m p = 0 →
    rq_sn b n r m p ≤ 12 ∧ sd_stp (rq_ss b n (97 + 37 * K) r m p g) (rd_ss b n r m p W).2.1 K (rq_sn b n r m p) ∧ (∀ j : Nat, (j < 97 + 37 * K ∨ 133 + 37 * K ≤ j) → rq_ss b n (97 + 37 * K) r m p g j = g j) ∧ (∀ i : Nat, i ≠ K → (rd_ss b n r m p W).2.1 2 i = W.2.1 2 i) ∧ (∀ t : Nat, 3 ≤ t → t ≤ 5 → ∀ j : Nat, j < 12 * K → (rd_ss b n r m p W).2.1 t j = W.2.1 t j) ∧ ∀ t : Nat, (t < 2 ∨ 6 ≤ t) → (rd_ss b n r m p W).2.1 t = W.2.1 t := sorry
theorem sd_prog {b : Nat → Int32} {n q : Int32} {g : Nat → Int32} {W : fw_W} {x : Nat → fw_C} (h : sd g W x) (h4 : (g 10).toInt < 4) (k : rp_ssk b n 12 0 (rp_we b n q) = 0) : sd (rq_prog b n q g) (rd_prog b n q W) x := sorry
/-- which curve a cell has -/
theorem rq_ixu {N : List (List Int32)} {w : List Int32} {i : Nat} (h : ∀ j : Nat, N[j]? = some w → j = i) (hi : N[i]? = some w) : ∀ k : Nat, i < k → rq_ix N w k = Int32.ofNat i := sorry
theorem sd_ixe {N : List (List Int32)} {w : List Int32} {W : fw_W} (hN : rp_N N (W.1 11) W.2.2) (hD : N.Nodup) (hw : w ∈ N) : ∃ i : Nat, i < N.length ∧ rd_ix W w = Int32.ofNat i ∧ rq_ix N w N.length = Int32.ofNat i := sorry
theorem rq_cellVF {b : Nat → Int32} {n p i : Int32} {X j : Nat} {g : Nat → Int32} (h : j < X + 11 ∨ X + 15 < j) : rq_cellV b n p X i g j = g j := sorry
theorem sd_cell {b : Nat → Int32} {n q : Int32} {N : List (List Int32)} {g : Nat → Int32} {W : fw_W} {x : Nat → fw_C} (h : sd g W x) (h6 : (g 9).toInt < 6) (hN : rp_N N (W.1 11) W.2.2) (hD : N.Nodup) (hw : rp_w b n (rp_q2 b n q) ∈ N) : sd (rq_cell b n N q g) (rd_cellW W) (rd_cellX b n q W x) := sorry
/-- a whole text -/
theorem sd_wl {b : Nat → Int32} {n q : Int32} (hn : n.toInt ≤ 800) (hq : 0 ≤ q.toInt ∧ q.toInt ≤ n.toInt) (h : (rp_w b n q).length ≤ 6) : (rp_we b n q - q).toInt ≤ 6 := sorry
theorem rp_t0' {b : Nat → Int32} {n q : Int32} (h1 : ¬ rp_wh b n q = 1) (h2 : ¬ rp_wh b n q = 2) (h3 : ¬ rp_wh b n q = 3) : rp_wh b n q = 0 := sorry
theorem rp_nodN {N : List (List Int32)} {w : List Int32} (hD : N.Nodup) (h : ¬ w ∈ N) : (N ++ [w]).Nodup := sorry
theorem sd_t {b : Nat → Int32} {n q : Int32} {N : List (List Int32)} {np nc : Int} {g : Nat → Int32} {W : fw_W} {x : Nat → fw_C} (hn : n.toInt ≤ 800) (hq : 0 ≤ q.toInt ∧ q.toInt ≤ n.toInt) (h : sd g W x) (hN : rp_N N (W.1 11) W.2.2) (hD : N.Nodup) (e9 : (g 9).toInt = nc) (e10 : (g 10).toInt = np) (k : rp_tk b n N np nc q = 0) :
    sd (rq_t b n N q g) (rd_tW b n q (W, x)).1 (rd_tW b n q (W, x)).2 ∧ rp_N (rp_tN b n N q) ((rd_tW b n q (W, x)).1.1 11) (rd_tW b n q (W, x)).1.2.2 ∧ (rp_tN b n N q).Nodup ∧ (rq_t b n N q g 9).toInt = rp_tc b n q nc ∧ (rq_t b n N q g 10).toInt = rp_tg b n q np := sorry
/-- the names on the reference's side -/
theorem rm_NF {N : List (List Int32)} {g h : Nat → Int32} (hl : N.length ≤ 4) (e11 : h 11 = g 11) (e : ∀ j : Nat, 20 ≤ j → j < 96 → h j = g j) (k : rm_N N g) : rm_N N h := sorry
theorem rq_nmV {b : Nat → Int32} {q z : Int32} {P : Nat} {g : Nat → Int32} : ∀ k : Nat, rq_nm b q P z g k P = z ∧ ∀ j : Nat, j < k → rq_nm b q P z g k (P + 1 + j) = b (q.toInt.toNat + j) := sorry
theorem rq_stF {b : Nat → Int32} {n q : Int32} {m : Int} {P j : Nat} {g : Nat → Int32} (h : j < P ∨ P + 3 ≤ j) : rq_step b n m q P g j = g j := sorry
theorem rq_ssF {b : Nat → Int32} {n : Int32} {B j : Nat} (h : j < B) : ∀ (r m : Nat) (p : Int32) (g : Nat → Int32), rq_ss b n B r m p g j = g j := sorry
theorem rq_vvF {b : Nat → Int32} {n : Int32} {B j : Nat} (h : j < B) : ∀ (r m : Nat) (v : Int) (p : Int32) (g : Nat → Int32), rq_vv b n B r m v p g j = g j := sorry
theorem rq_setF {b : Nat → Int32} {n q : Int32} {j : Nat} {g : Nat → Int32} (h : j = 11 ∨ 20 ≤ j) : rq_set b n q g j = g j := sorry
theorem rm_gd {b : Nat → Int32} {n q m : Int32} {j : Nat} (hm : m.toInt = (rp_we b n q).toInt - q.toInt) (hj : j < m.toInt.toNat) : b (q.toInt.toNat + j) = (rp_w b n q).getD j 0 := sorry
theorem rm_curve {b : Nat → Int32} {n q : Int32} {N : List (List Int32)} {g : Nat → Int32} (hn : n.toInt ≤ 800) (hq : 0 ≤ (rp_q2 b n q).toInt ∧ (rp_q2 b n q).toInt ≤ n.toInt) (k : rm_N N g) (h4 : N.length < 4) (hl : 1 ≤ (rp_w b n (rp_q2 b n q)).length ∧ (rp_w b n (rp_q2 b n q)).length ≤ 6) : rm_N (N ++ [rp_w b n (rp_q2 b n q)]) (rq_curve b n q g) := sorry
theorem rm_ta {b : Nat → Int32} {n q : Int32} {N : List (List Int32)} {np nc : Int} {g : Nat → Int32} (hn : n.toInt ≤ 800) (hq : 0 ≤ q.toInt ∧ q.toInt ≤ n.toInt) (k : rm_N N g) (kk : rp_ck b n N q = 0) : rm_N (N ++ [rp_w b n (rp_q2 b n q)]) (rq_curve b n q g) := sorry
theorem rm_tb {b : Nat → Int32} {n q : Int32} {N : List (List Int32)} {g : Nat → Int32} (h4 : N.length ≤ 4) (k : rm_N N g) : rm_N N (rq_cell b n N q g) := sorry
theorem rm_tc {b : Nat → Int32} {n q : Int32} {N : List (List Int32)} {g : Nat → Int32} (h4 : N.length ≤ 4) (k : rm_N N g) : rm_N N (rq_prog b n q g) := sorry
theorem rm_t {b : Nat → Int32} {n q : Int32} {N : List (List Int32)} {np nc : Int} {g : Nat → Int32} (hn : n.toInt ≤ 800) (hq : 0 ≤ q.toInt ∧ q.toInt ≤ n.toInt) (k : rm_N N g) (h4 : N.length ≤ 4) (h9 : 0 ≤ (g 9).toInt) (h10 : 0 ≤ (g 10).toInt) (kk : rp_tk b n N np nc q = 0) : rm_N (rp_tN b n N q) (rq_t b n N q g) := sorry
set_option maxHeartbeats 4000000 in
theorem sd_x {b : Nat → Int32} {n : Int32} (hn : n.toInt ≤ 800) : ∀ (r : Nat) (N : List (List Int32)) (np nc : Int) (p : Int32) (g : Nat → Int32) (W : fw_W) (x : Nat → fw_C), (0 ≤ p.toInt ∧ p.toInt ≤ n.toInt) → sd g W x → rp_N N (W.1 11) W.2.2 → N.Nodup → rm_N N g → (g 9).toInt = nc → (g 10).toInt = np → rp_xk b n r N np nc p = 0 →
    ∃ N1 : List (List Int32), sd (rq_x b n r N np nc p g) (rd_x b n r N np nc p (W, x)).1 (rd_x b n r N np nc p (W, x)).2 ∧ rp_N N1 ((rd_x b n r N np nc p (W, x)).1.1 11) (rd_x b n r N np nc p (W, x)).1.2.2 ∧ N1.Nodup ∧ rm_N N1 (rq_x b n r N np nc p g) := sorry
/-! behind load() -/
theorem rq_begF {f : Nat → Int32} {P j : Nat} {q : Int32} (h : j < P ∨ P + 54 ≤ j ∨ (P + 11 ≤ j ∧ j ≤ P + 15)) : rq_beg f P q j = f j := sorry
theorem rq_ldF {g : Nat → Int32} {j : Nat} (h : j < 244 ∨ ∃ k : Nat, 255 + 54 * k ≤ j ∧ j ≤ 259 + 54 * k) : ∀ n : Nat, rq_ld g n j = g j := sorry
/-- the description of a world, as another has it -/
def sd_W (W V : fw_W) : Prop := (∀ j : Nat, (j < 8 ∨ (9 ≤ j ∧ j ≤ 11) ∨ (13 ≤ j ∧ j ≤ 16)) → V.1 j = W.1 j) ∧ (∀ i : Nat, i < 4 → V.2.1 0 i = W.2.1 0 i) ∧ (∀ i : Nat, i < 44 → V.2.1 1 i = W.2.1 1 i) ∧ (∀ i : Nat, i < 4 → V.2.1 2 i = W.2.1 2 i) ∧ (∀ t : Nat, 3 ≤ t → t ≤ 5 → ∀ i : Nat, i < 48 → V.2.1 t i = W.2.1 t i) ∧ ∀ i : Nat, i < 4 → V.2.2 i = W.2.2 i
def sd_C (c d : fw_C) : Prop := (∀ j : Nat, 11 ≤ j → j ≤ 15 → d.1 j = c.1 j) ∧ ∀ j : Nat, j < 11 → d.2.2 2 j = c.2.2 2 j
def sd_X (n : Nat) (x y : Nat → fw_C) : Prop := ∀ k : Nat, k < n → sd_C (x k) (y k)
def sd_f (f h : Nat → Int32) : Prop := (∀ j : Nat, j < 244 → j ≠ 8 → j ≠ 12 → (j < 17 ∨ 20 ≤ j) → h j = f j) ∧ ∀ k j : Nat, k < (f 9).toInt.toNat → 255 + 54 * k ≤ j → j ≤ 259 + 54 * k → h j = f j
theorem sd_Wr {W : fw_W} : sd_W W W := sorry
theorem sd_Wt {W V U : fw_W} (a : sd_W W V) (b : sd_W V U) : sd_W W U := sorry
theorem sd_Cr {c : fw_C} : sd_C c c := sorry
theorem sd_Ct {c d e : fw_C} (a : sd_C c d) (b : sd_C d e) : sd_C c e := sorry
theorem sd_Xr {n : Nat} {x : Nat → fw_C} : sd_X n x x := sorry
theorem sd_Xt {n : Nat} {x y z : Nat → fw_C} (a : sd_X n x y) (b : sd_X n y z) : sd_X n x z := sorry
theorem sd_Xs {n k : Nat} {x : Nat → fw_C} {c : fw_C} (h : sd_C (x k) c) : sd_X n x (fw_sx x k c) := sorry
theorem sd_fr {f : Nat → Int32} : sd_f f f := sorry
/-- sd holds of what has the same description -/
theorem sd_to {f h : Nat → Int32} {W V : fw_W} {x y : Nat → fw_C} (s : sd f W x) (a : sd_f f h) (b : sd_W W V) (c : sd_X (f 9).toInt.toNat x y) : sd h V y := sorry
theorem rp_Nto {N : List (List Int32)} {c c1 : Int32} {nf nf1 : Nat → Int64} (h : rp_N N c nf) (e : c1 = c) (e2 : ∀ i : Nat, i < 4 → nf1 i = nf i) : rp_N N c1 nf1 := sorry
/-- names, the same on both sides -/
def sd_N (f : Nat → Int32) (W : fw_W) : Prop := ∃ N : List (List Int32), rp_N N (W.1 11) W.2.2 ∧ N.Nodup ∧ rm_N N f
theorem sd_Nto {f h : Nat → Int32} {W V : fw_W} (s : sd_N f W) (a : sd_f f h) (b : sd_W W V) : sd_N h V := sorry
theorem cm_cpyl {α : Type} {n i : Nat} {f g : Nat → α} (h : i < n) : cm_cpy n f g i = f i := sorry
theorem sd_copy {va vb va1 : fw_W} {xa xb xa1 : Nat → fw_C} (h : t_copyFrom va vb xa xb va1 xa1) : sd_W vb va1 ∧ ∀ n : Nat, (n : Int) ≤ (vb.1 9).toInt → sd_X n xb xa1 := sorry
theorem sd_ins {W : fw_W} {x x1 : Nat → fw_C} (h : t_insertCells W x x1) : ∀ n : Nat, (n : Int) ≤ (W.1 9).toInt → sd_X n x x1 := sorry
theorem sd_0 {g0 : Nat → Int32} {vb W : fw_W} {x : Nat → fw_C} (e : q_eq 958 rq_W0 g0) (h : t_clear vb W) : sd g0 W x ∧ rp_N [] (W.1 11) W.2.2 ∧ rm_N [] g0 ∧ g0 9 = 0 ∧ g0 10 = 0 := sorry
theorem sd_load {b : Nat → Int32} {n : Int32} (hn : n.toInt ≤ 800) (h0 : 0 ≤ n.toInt) {va vb W0 W va1 : fw_W} {xa xb x x2 xa1 : Nat → fw_C} {f1 : Nat → Int32} {su1 : Nat → Int64} (hc : t_clear vb W0) (hr : (W, x) = rd_x b n 802 [] 0 0 0 (W0, xb)) (hk : rp_K b n = 0) (hi : t_insertCells W x x2) (hp : t_copyFrom va W xa x2 va1 xa1) (hL : rq_L b n f1 su1) : sd f1 va1 xa1 ∧ sd_N f1 va1 := sorry
/-- the reference keeps its description -/
theorem sd_fR {G f h : Nat → Int32} (a : rf_R G (-1) f) (b : rf_R G (-1) h) (c : rf_ds f h) : sd_f f h := sorry
theorem sd_fq {f h : Nat → Int32} (a : q_eq 958 f h) (c9 : (f 9).toInt ≤ 6) : sd_f f h := sorry
/-- a setting that is laid down later -/
theorem sd_cc {f : Nat → Int32} {W : fw_W} {x : Nat → fw_C} (s : sd f W x) : 0 ≤ (W.1 9).toInt ∧ (W.1 9).toInt ≤ 6 := sorry
theorem sd_pc {f : Nat → Int32} {W : fw_W} {x : Nat → fw_C} (s : sd f W x) : 0 ≤ (W.1 10).toInt := sorry
