/-- a tick of a channel -/
theorem fl_tk {tt : Prop} {f f1 G : Nat → Int32} {su t : Nat → Int64} {men men1 r : Int32} {k : Nat} {qa1 : fw_C} {va va1 : fw_W} {x : Nat → fw_C} (s : sd f va x) (D : fl_D f) (hk : (k : Int) < (f 9).toInt) (C : fl_C f su k (x k)) (N : fl_nu (x k)) (A : fl_PA va (x k)) (R : fl_R tt f va) (e8 : tt → f 8 = va.1 8) (hr : q_X11_goes men f G su (Int32.ofNat k) men1 f1 t) (hb : t_tick k (x k) va r qa1 va1) : fl_C f1 t k qa1 ∧ fl_nu qa1 ∧ fl_PA va qa1 ∧ fl_R tt f1 va1 ∧ fl_out (Int32.ofNat k) f f1 ∧ (∀ j : Nat, (j < 7 * (Int32.ofNat k).toInt.toNat ∨ 7 * (Int32.ofNat k).toInt.toNat + 7 ≤ j) → t j = su j) ∧ men1 = (if r = 0 then men else men + 1) ∧ (∀ J : Nat, 11 ≤ J → J ≤ 15 → rf_of f1 (Int32.ofNat k) J = rf_of f (Int32.ofNat k) J) := sorry
/-! the whole state of both sides -/
def fl_Z (tt : Prop) (f : Nat → Int32) (su : Nat → Int64) (W : fw_W) (x : Nat → fw_C) : Prop :=
  sd f W x ∧ fl_D f ∧ (tt → f 8 = W.1 8) ∧ fl_R tt f W ∧ ∀ k : Nat, (k : Int) < (f 9).toInt → fl_C f su k (x k) ∧ fl_nu (x k) ∧ fl_PA W (x k)
theorem fl_Dk {f g : Nat → Int32} {W : fw_W} {x : Nat → fw_C} (s : sd f W x) (a : fl_sm f g) (D : fl_D f) : fl_D g := sorry
theorem fl_Ck {f g : Nat → Int32} {su t : Nat → Int64} {k : Nat} {q : fw_C} (a : ∀ J : Nat, J < 54 → rf_of g (Int32.ofNat k) J = rf_of f (Int32.ofNat k) J) (b : ∀ j : Nat, j < 7 → t (7 * (Int32.ofNat k).toInt.toNat + j) = su (7 * (Int32.ofNat k).toInt.toNat + j)) (hw : (q.1 39).toInt ≤ 4) (C : fl_C f su k q) : fl_C g t k q := sorry
theorem fl_PAk {W V : fw_W} {q : fw_C} (w : sd_W W V) (h4 : (W.1 10).toInt ≤ 4) (A : fl_PA W q) : fl_PA V q := sorry
theorem fl_Wx {x : Nat → fw_C} {k j : Nat} {c : fw_C} : fw_sx x k c j = if j = k then c else x j := sorry
/-- one channel moves, the rest stays -/
theorem fl_Zc {tt : Prop} {f f1 : Nat → Int32} {su t : Nat → Int64} {k : Nat} {qa1 : fw_C} {W W1 : fw_W} {x : Nat → fw_C} (Z : fl_Z tt f su W x) (hk : (k : Int) < (f 9).toInt) (o1 : fl_out (Int32.ofNat k) f f1) (t1 : ∀ j : Nat, (j < 7 * (Int32.ofNat k).toInt.toNat ∨ 7 * (Int32.ofNat k).toInt.toNat + 7 ≤ j) → t j = su j) (k1 : ∀ J : Nat, 11 ≤ J → J ≤ 15 → rf_of f1 (Int32.ofNat k) J = rf_of f (Int32.ofNat k) J)
    (d1 : sd_W W W1) (d2 : sd_C (x k) qa1) (w8 : W1.1 8 = W.1 8) (R1 : fl_R tt f1 W1) (C1 : fl_C f1 t k qa1) (N1 : fl_nu qa1) (A1 : fl_PA W qa1) : fl_Z tt f1 t W1 (fw_sx x k qa1) ∧ f1 9 = f 9 := sorry
/-- a channel's tick in the whole state -/
theorem fl_zk {tt : Prop} {f f1 G : Nat → Int32} {su t : Nat → Int64} {men men1 r : Int32} {k : Nat} {qa1 : fw_C} {W W1 : fw_W} {x : Nat → fw_C} (Z : fl_Z tt f su W x) (hk : (k : Int) < (f 9).toInt) (hr : q_X11_goes men f G su (Int32.ofNat k) men1 f1 t) (hb : t_tick k (x k) W r qa1 W1) :
    fl_Z tt f1 t W1 (fw_sx x k qa1) ∧ men1 = (if r = 0 then men else men + 1) ∧ f1 9 = f 9 := sorry
/-- all channels' tick -/
theorem fl_gs {tt : Prop} {G : Nat → Int32} : ∀ (n : Nat) {f f1 : Nat → Int32} {su t : Nat → Int64} {men men1 e e1 : Int32} {W W1 : fw_W} {x x1 : Nat → fw_C}, (n : Int) ≤ (f 9).toInt → fl_Z tt f su W x → men = e → q_gs G n men f su men1 f1 t → fw_cs n x W e x1 W1 e1 → fl_Z tt f1 t W1 x1 ∧ men1 = e1 ∧ f1 9 = f 9 := sorry
theorem fl_cp {x : Nat → fw_C} {W : fw_W} {e : Int32} : ∀ (m : Nat) {n : Nat} {x1 : Nat → fw_C} {W1 : fw_W} {e1 : Int32}, fw_cs (n + m) x W e x1 W1 e1 → ∃ (x2 : Nat → fw_C) (W2 : fw_W) (e2 : Int32), fw_cs n x W e x2 W2 e2 := sorry
/-- the time goes on -/
theorem fl_Zt {tt : Prop} {f : Nat → Int32} {su : Nat → Int64} {W : fw_W} {x : Nat → fw_C} {v w : Int32} (Z : fl_Z tt f su W x) (h : tt → v = w) : fl_Z tt (upd f 8 v) su (fw_si W 8 w) x := sorry
