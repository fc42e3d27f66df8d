/-! small facts -/
theorem cm_vin {i : Int32} {n : Nat} (h : (decide (i < 0) || decide (n ≤ i.toNatClampNeg)) = false) : vp_in i n := by
  rw [Bool.or_eq_false_iff] at h
  exact fun q => q.elim (fun q => of_decide_eq_false h.1 q) (fun q => of_decide_eq_false h.2 q)
/-- reads and writes that never throw -/
def cm_at (n : Nat) (f : Nat → Int32) (i : Int32) : Int32 := if i < 0 then 0 else if Int32.ofNat n ≤ i then 0 else f i.toNatClampNeg
def cm_put (n : Nat) (f : Nat → Int32) (i v : Int32) : Nat → Int32 := if i < 0 then f else if Int32.ofNat n ≤ i then f else upd f i.toNatClampNeg v
def cm_cpy {α : Type} (n : Nat) (f g : Nat → α) : Nat → α := fun k => if k < n then f k else g k
theorem cm_vin2 {i : Int32} {n : Nat} (hn : n < 2 ^ 31) (h0 : ¬ i < 0) (h1 : i < Int32.ofNat n) : vp_in i n := by
  rw [vp_in_iff]
  rw [Int32.lt_iff_toInt_lt] at h0 h1
  have e : (Int32.ofNat n).toInt = (n : Int) := nI_toInt hn
  have z : (0 : Int32).toInt = 0 := by decide
  omega
theorem cm_cpy_eq {α : Type} {n : Nat} {f g : Nat → α} (hn : n < 2 ^ 31) : va_cpy f g (0 : Int32).toNatClampNeg (0 : Int32).toNatClampNeg (nI n).toNatClampNeg = cm_cpy n f g := by
  funext k
  have e0 : (0 : Int32).toNatClampNeg = 0 := by decide
  simp [va_cpy, cm_cpy, nI_clamp hn, e0]
/-- the bytes of a long -/
def cm_sh : Nat → Int32
  | 0 => 56
  | i + 1 => cm_sh i + Int32.ofInt (-8)
theorem cm_sh_nn : ∀ i, i < 8 → ¬ cm_sh i < 0 := by decide
def cm_byte (b : Int64) (s : Int32) : Int64 := (b.toUInt64 >>> (s.toInt64.toUInt64 &&& Int64.toUInt64 63)).toInt64 &&& 255
def cm_cnt (b : Int64) : Nat → Int32
  | 0 => 0
  | i + 1 => if lg_cmp (cm_byte b (cm_sh i)) 0 = 0 then cm_cnt b i else cm_cnt b i + 1
def cm_cn2 (b : Int64) : Nat → Int32
  | 0 => 0
  | i + 1 => if (cm_byte b (cm_sh i)).toInt32 = 0 then cm_cn2 b i else cm_cn2 b i + 1
theorem cm_cnt_le (b : Int64) : ∀ i, i ≤ 8 → 0 ≤ (cm_cnt b i).toInt ∧ (cm_cnt b i).toInt ≤ i := by
  intro i
  induction i with
  | zero => intro _; exact (by decide : 0 ≤ (0 : Int32).toInt ∧ (0 : Int32).toInt ≤ ((0 : Nat) : Int))
  | succ i ih =>
    intro h
    have h1 := ih (by omega)
    unfold cm_cnt
    split
    · omega
    · have e : (cm_cnt b i + 1).toInt = (cm_cnt b i).toInt + 1 := by
        rw [Int32.toInt_add, show (1 : Int32).toInt = 1 from by decide]
        apply Int.bmod_eq_of_le <;> omega
      omega
theorem cm_cn2_le (b : Int64) : ∀ i, i ≤ 8 → 0 ≤ (cm_cn2 b i).toInt ∧ (cm_cn2 b i).toInt ≤ i := by
  intro i
  induction i with
  | zero => intro _; exact (by decide : 0 ≤ (0 : Int32).toInt ∧ (0 : Int32).toInt ≤ ((0 : Nat) : Int))
  | succ i ih =>
    intro h
    have h1 := ih (by omega)
    unfold cm_cn2
    split
    · omega
    · have e : (cm_cn2 b i + 1).toInt = (cm_cn2 b i).toInt + 1 := by
        rw [Int32.toInt_add, show (1 : Int32).toInt = 1 from by decide]
        apply Int.bmod_eq_of_le <;> omega
      omega
