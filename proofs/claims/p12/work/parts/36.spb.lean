theorem rp_sd1 (h : rp_sd w sp v0 v1) (h1 : ¬ w = q) (h2 : ¬ sp = q) (h3 : ∀ v9 : Nat, v0 = some v9 → ¬ v9 = q) : rp_sd w sp v0 (some q) :=
  ⟨h.1, h.2.1, fun v e => ⟨fun x => h1 (x.symm.trans (Option.some.inj e).symm), fun x => h2 (x.symm.trans (Option.some.inj e).symm)⟩, fun v e x => h3 v e (Option.some.inj x).symm⟩
end RPV
theorem rp_rwu {A : Nat → Prop} {E ws : va_W} {sv : Nat} {v0 v1 : Option Nat} (hD : va_D A (E ++ ws)) (r : rp_rw sv v0 v1 ws) {j n : Nat} {cA : ClassId} {f : Nat → Option Nat} (hj : ws[j]? = some (sv, .inl (cA, n, .inr (.inr (.inr (.inr f)))))) : f 0 = v0 ∧ f 1 = v1 := by
  obtain ⟨i, n', cA', g, h1, h2, h3⟩ := r
  have d := hD.1 _ _ _ _ (ty_app hj) (ty_app h1) rfl
  have e : j = i := by omega
  subst e
  rw [hj] at h1
  cases h1
  exact ⟨h2, h3⟩
theorem rp_rwS {A : Nat → Prop} {E ws : va_W} {ct : Nat → ClassId} {S : ty_S} {sv n v : Nat} {v0 v1 : Option Nat} (hD : va_D A (E ++ ws)) (hW : ty_W ct S ws) (hs : S sv = some (.inr (4, n))) (r : rp_rw sv v0 v1 ws) (h : v0 = some v ∨ v1 = some v) : S v = some (.inl 9) := by
  obtain ⟨j, e9, hj, hn, f, rfl, hf⟩ := hW sv _ hs
  have e := rp_rwu hD r hj
  rcases h with q | q
  · exact hf 0 v (e.1.trans q)
  · exact hf 1 v (e.2.trans q)
theorem rp_kp {A : Nat → Prop} {E ws : va_W} (hD : va_D A (E ++ ws)) {sp sv ch cu na pr : Nat} {v0 v1 aw q0 q1 u0 u1 : Option Nat} {t τ0 τ1 : Int32} (hc : sv ≠ ch) {j n v : Nat} {cA : ClassId} {f : Nat → Option Nat} (hj : ws[j]? = some (sv, .inl (cA, n, .inr (.inr (.inr (.inr f)))))) (h : rp_S (rp_P3 sp sv v0 v1 aw q0 q1 t τ0 τ1) cu na pr ch ws) {i : Int32} (hi : (i = 0 ∧ u0 = some v ∧ u1 = v1) ∨ (i = 1 ∧ u0 = v0 ∧ u1 = some v)) : rp_S (rp_P3 sp sv u0 u1 aw q0 q1 t τ0 τ1) cu na pr ch (ws.set j (sv, .inl (cA, n, .inr (.inr (.inr (.inr (va_up f i.toNatClampNeg (some v)))))))) := by
  obtain ⟨a1, a2, a3, a4, a5, r, o0, o1, o2⟩ := h
  have hl : j < ws.length := (List.getElem?_eq_some_iff.mp hj).1
  have e := rp_rwu hD r hj
  have m : ∀ (p : va_W → Prop) (x : Nat → Nat → Nat → Prop), ty_C p x → x 14 0 sv → p ws → p (ws.set j (sv, .inl (cA, n, .inr (.inr (.inr (.inr (va_up f i.toNatClampNeg (some v)))))))) := fun p x c y z => c.2.2.2.1 _ _ _ _ _ _ _ hj y z
  refine ⟨m _ _ ty_fcC (fun q => absurd q.1 (by decide)) a1, m _ _ ty_fcC (fun q => absurd q.1 (by decide)) a2, m _ _ ty_fcC (fun q => absurd q.1 (by decide)) a3, m _ _ ty_fcC (fun q => absurd q.1 (by decide)) a4, m _ _ ty_fqC (fun _ => hc) a5, ⟨j, n, cA, _, List.getElem?_set_self hl, ?_, ?_⟩, m _ _ rp_otC (fun q => absurd q.1 (by decide)) o0, m _ _ rp_otC (fun q => absurd q.1 (by decide)) o1, m _ _ rp_otC (fun q => absurd q.1 (by decide)) o2⟩
  · unfold va_up
    rcases hi with ⟨q, q1, _⟩ | ⟨q, q1, _⟩
    · rw [q, q1]
      exact if_pos (by decide)
    · rw [q, q1, ← e.1]
      exact if_neg (by decide)
  · unfold va_up
    rcases hi with ⟨q, _, q1⟩ | ⟨q, _, q1⟩
    · rw [q, q1, ← e.2]
      exact if_neg (by decide)
    · rw [q, q1]
      exact if_pos (by decide)
theorem rf_vin {y : Int32} {n : Nat} (h : 0 ≤ y.toInt ∧ y.toInt < n) : vp_in y n := by
  rw [vp_in_iff]
  omega
theorem rf_and255 (x : Int64) : 0 ≤ (x &&& 255).toInt ∧ (x &&& 255).toInt ≤ 255 := by
  have h : (x &&& 255).toBitVec.toNat ≤ 255 := by
    have e : (x &&& 255).toBitVec = x.toBitVec &&& (255 : Int64).toBitVec := rfl
    have z : (255 : Int64).toBitVec.toNat = 255 := by decide
    rw [e, BitVec.toNat_and, z]
    exact Nat.and_le_right
  have t : (x &&& 255).toInt = ((x &&& 255).toBitVec.toNat : Int) := BitVec.toInt_eq_toNat_of_lt (by omega)
  omega
theorem rf_cbb (b : Int64) (y : Int32) : lg_cmp (cm_byte b y) 0 = 0 ↔ (cm_byte b y).toInt32 = 0 := by
  have h : 0 ≤ (cm_byte b y).toInt ∧ (cm_byte b y).toInt ≤ 255 := rf_and255 _
  have z : (0 : Int64).toInt = 0 := by decide
  generalize cm_byte b y = v at h ⊢
  have e : v.toInt32.toInt = v.toInt := Jvm.Kit.i32_of_i64 (by omega) (by omega)
  refine ⟨fun q => ?_, fun q => ?_⟩
  · have a := (lg_cmp_gt v 0)
    have n : ¬ (0 : Int64) < v := fun p => by
      have := a.mpr p
      rw [q] at this
      exact absurd this (by decide)
    rw [Int64.lt_iff_toInt_lt, z] at n
    exact Int32.toInt_inj.mp (by rw [e, show (0 : Int32).toInt = 0 from by decide]; omega)
  · have e2 : v = 0 := Int64.toInt_inj.mp (by rw [z, ← e, q]; decide)
    rw [e2]
    exact cm_lceq 0
theorem rf_cc (b : Int64) : ∀ i : Nat, cm_cnt b i = cm_cn2 b i
  | 0 => rfl
  | i + 1 => by
    show (if lg_cmp (cm_byte b (cm_sh i)) 0 = 0 then cm_cnt b i else cm_cnt b i + 1) = (if (cm_byte b (cm_sh i)).toInt32 = 0 then cm_cn2 b i else cm_cn2 b i + 1)
    rw [rf_cc b i]
    by_cases h : (cm_byte b (cm_sh i)).toInt32 = 0
    · rw [if_pos h, if_pos ((rf_cbb _ _).mpr h)]
    · rw [if_neg h, if_neg (fun q => h ((rf_cbb _ _).mp q))]
theorem rf_cs (b : Int64) (i : Nat) (hi : i < 8) : (cm_cn2 b i).toInt ≤ (cm_cn2 b (i + 1)).toInt ∧ (¬ (cm_byte b (cm_sh i)).toInt32 = 0 → (cm_cn2 b (i + 1)).toInt = (cm_cn2 b i).toInt + 1) := by
  have l := cm_cn2_le b i (by omega)
  show (cm_cn2 b i).toInt ≤ (if (cm_byte b (cm_sh i)).toInt32 = 0 then cm_cn2 b i else cm_cn2 b i + 1).toInt ∧ (¬ (cm_byte b (cm_sh i)).toInt32 = 0 → (if (cm_byte b (cm_sh i)).toInt32 = 0 then cm_cn2 b i else cm_cn2 b i + 1).toInt = (cm_cn2 b i).toInt + 1)
  by_cases h : (cm_byte b (cm_sh i)).toInt32 = 0
  · rw [if_pos h]
    exact ⟨Int.le_refl _, fun q => absurd h q⟩
  · rw [if_neg h, rf_p1 (by omega)]
    exact ⟨by omega, fun _ => rfl⟩
theorem rf_cm (b : Int64) : ∀ k i : Nat, i + k ≤ 8 → (cm_cn2 b i).toInt ≤ (cm_cn2 b (i + k)).toInt
  | 0, i, _ => Int.le_refl _
  | k + 1, i, h => Int.le_trans (rf_cm b k i (by omega)) (rf_cs b (i + k) (by omega)).1
theorem rf_ap8 {mn : Int32} {b : Int64} (hm : 0 ≤ mn.toInt ∧ mn.toInt ≤ 800) (h : mn + cm_cnt b 8 ≤ 800) : mn.toInt + (cm_cn2 b 8).toInt ≤ 800 ∧ ∀ i : Nat, i ≤ 8 → (mn + cm_cn2 b i).toInt = mn.toInt + (cm_cn2 b i).toInt := by
  have a : ∀ i : Nat, i ≤ 8 → (mn + cm_cn2 b i).toInt = mn.toInt + (cm_cn2 b i).toInt := fun i hi => by
    have l := cm_cn2_le b i hi
    exact Jvm.Kit.i32_add (by omega) (by omega)
  rw [rf_cc, Int32.le_iff_toInt_le, a 8 (by omega), show (800 : Int32).toInt = 800 from by decide] at h
  exact ⟨h, a⟩
theorem rf_api {mn yb y4 : Int32} {b : Int64} (hm : 0 ≤ mn.toInt ∧ mn.toInt ≤ 800) (h : mn + cm_cnt b 8 ≤ 800) (hx : ∃ i9 : Nat, i9 ≤ 8 ∧ y4 = cm_sh i9 ∧ yb = mn + cm_cn2 b i9) (hg : ¬ y4 < 0) (hb : ¬ (cm_byte b y4).toInt32 = 0) : vp_in yb 800 := by
  obtain ⟨i, hi, e4, e3⟩ := hx
  have hlt := ty_ap0 hi e4 hg
  have a := rf_ap8 hm h
  rw [e4] at hb
  have s := (rf_cs b i hlt).2 hb
  have m := rf_cm b (8 - (i + 1)) (i + 1) (by omega)
  have l := cm_cn2_le b i hi
  rw [show i + 1 + (8 - (i + 1)) = 8 from by omega] at m
  refine rf_vin ?_
  rw [e3, a.2 i hi]
  omega
theorem rf_apb {mn : Int32} {b : Int64} (hm : 0 ≤ mn.toInt ∧ mn.toInt ≤ 800) : 0 ≤ (ty_apb mn b).toInt ∧ (ty_apb mn b).toInt ≤ 800 := by
  unfold ty_apb
  by_cases h : mn + cm_cnt b 8 ≤ 800
  · rw [if_pos h]
    have a := rf_ap8 hm h
    have l := cm_cn2_le b 8 (by omega)
    rw [a.2 8 (by omega)]
    omega
  · rw [if_neg h]
    exact hm
theorem rf_az {x : Int32} : x + 0 = x := Int32.add_zero x
/-! append: the bytes that it leaves -/
def cm_bu (b : Nat → Int32) (bl : Int32) (x : Int64) : Nat → Nat → Int32
  | 0 => b
  | i + 1 => if (cm_byte x (cm_sh i)).toInt32 = 0 then cm_bu b bl x i else upd (cm_bu b bl x i) (bl + cm_cn2 x i).toNatClampNeg (cm_byte x (cm_sh i)).toInt32
def ap_f (b : Nat → Int32) (bl : Int32) (x : Int64) : Nat → Int32 := if bl + cm_cnt x 8 ≤ 800 then cm_bu b bl x 8 else b
theorem ap_4 {b g : Nat → Int32} {x : Int64} {bl yb y4 : Int32} (h : ∃ i9 : Nat, i9 ≤ 8 ∧ y4 = cm_sh i9 ∧ yb = bl + cm_cn2 x i9 ∧ g = cm_bu b bl x i9) (hg : ¬ y4 < 0) (hb : (cm_byte x y4).toInt32 = 0) : ∃ i9 : Nat, i9 ≤ 8 ∧ y4 + Int32.ofInt (-8) = cm_sh i9 ∧ yb = bl + cm_cn2 x i9 ∧ g = cm_bu b bl x i9 := by
  obtain ⟨i, hi, e4, e3, eg⟩ := h
  have hlt := ty_ap0 hi e4 hg
  subst e4
  refine ⟨i + 1, hlt, rfl, ?_, ?_⟩
  · rw [e3]
    exact congrArg (bl + ·) (show (if (cm_byte x (cm_sh i)).toInt32 = 0 then cm_cn2 x i else cm_cn2 x i + 1) = cm_cn2 x i from if_pos hb).symm
  · rw [eg]
    exact (show (if (cm_byte x (cm_sh i)).toInt32 = 0 then cm_bu b bl x i else upd (cm_bu b bl x i) (bl + cm_cn2 x i).toNatClampNeg (cm_byte x (cm_sh i)).toInt32) = cm_bu b bl x i from if_pos hb).symm
theorem ap_5 {b g : Nat → Int32} {x : Int64} {bl yb y4 : Int32} (h : ∃ i9 : Nat, i9 ≤ 8 ∧ y4 = cm_sh i9 ∧ yb = bl + cm_cn2 x i9 ∧ g = cm_bu b bl x i9) (hg : ¬ y4 < 0) (hb : ¬ (cm_byte x y4).toInt32 = 0) : ∃ i9 : Nat, i9 ≤ 8 ∧ y4 + Int32.ofInt (-8) = cm_sh i9 ∧ yb + 1 = bl + cm_cn2 x i9 ∧ upd g yb.toNatClampNeg (cm_byte x y4).toInt32 = cm_bu b bl x i9 := by
  obtain ⟨i, hi, e4, e3, eg⟩ := h
  have hlt := ty_ap0 hi e4 hg
  subst e4
  refine ⟨i + 1, hlt, rfl, ?_, ?_⟩
  · rw [e3, Int32.add_assoc]
    exact congrArg (bl + ·) (show (if (cm_byte x (cm_sh i)).toInt32 = 0 then cm_cn2 x i else cm_cn2 x i + 1) = cm_cn2 x i + 1 from if_neg hb).symm
  · rw [eg, e3]
    exact (show (if (cm_byte x (cm_sh i)).toInt32 = 0 then cm_bu b bl x i else upd (cm_bu b bl x i) (bl + cm_cn2 x i).toNatClampNeg (cm_byte x (cm_sh i)).toInt32) = _ from if_neg hb).symm
theorem ap_6 {b g : Nat → Int32} {x : Int64} {bl yb y4 : Int32} (h : ∃ i9 : Nat, i9 ≤ 8 ∧ y4 = cm_sh i9 ∧ yb = bl + cm_cn2 x i9 ∧ g = cm_bu b bl x i9) (hn : y4 < 0) : yb = bl + cm_cn2 x 8 ∧ g = cm_bu b bl x 8 := by
  obtain ⟨i, hi, e4, e3, eg⟩ := h
  have e8 := ty_ap9 hi e4 hn
  subst e8
  exact ⟨e3, eg⟩
theorem ap_x {b g : Nat → Int32} {x : Int64} {bl yb y4 : Int32} (h : ∃ i9 : Nat, i9 ≤ 8 ∧ y4 = cm_sh i9 ∧ yb = bl + cm_cn2 x i9 ∧ g = cm_bu b bl x i9) : ∃ i9 : Nat, i9 ≤ 8 ∧ y4 = cm_sh i9 ∧ yb = bl + cm_cn2 x i9 := by
  obtain ⟨i, hi, e4, e3, eg⟩ := h
  exact ⟨i, hi, e4, e3⟩
theorem ap_r {y : Int32} (h : vp_in y 800) : 0 ≤ y.toInt ∧ y.toInt < 800 := by
  rw [vp_in_iff] at h
  omega
theorem ap_7 {b : Nat → Int32} {x : Int64} {bl : Int32} (h : bl + cm_cnt x 8 ≤ 800) : cm_bu b bl x 8 = ap_f b bl x := (if_pos h).symm
theorem ap_8 {b : Nat → Int32} {x : Int64} {bl : Int32} (h : ¬ bl + cm_cnt x 8 ≤ 800) : b = ap_f b bl x := (if_neg h).symm
theorem ap_by {b : Nat → Int32} {x : Int64} {bl : Int32} (hm : 0 ≤ bl.toInt ∧ bl.toInt ≤ 800) (h : bl + cm_cnt x 8 ≤ 800) (hb : rp_by b bl) : ∀ i : Nat, i ≤ 8 → rp_by (cm_bu b bl x i) (bl + cm_cn2 x i)
  | 0, _ => by
    have e : bl + cm_cn2 x 0 = bl := Int32.add_zero bl
    rw [e]
    exact hb
  | i + 1, hi => by
    have ih := ap_by hm h hb i (by omega)
    have a := rf_ap8 hm h
    have a0 := a.2 i (by omega)
    have a1 := a.2 (i + 1) hi
    have l0 := cm_cn2_le x i (by omega)
    by_cases q : (cm_byte x (cm_sh i)).toInt32 = 0
    · have e1 : cm_bu b bl x (i + 1) = cm_bu b bl x i := if_pos q
      have e2 : cm_cn2 x (i + 1) = cm_cn2 x i := if_pos q
      rw [e1, e2]
      exact ih
    · have e1 : cm_bu b bl x (i + 1) = upd (cm_bu b bl x i) (bl + cm_cn2 x i).toNatClampNeg (cm_byte x (cm_sh i)).toInt32 := if_neg q
      have s := (rf_cs x i (by omega)).2 q
      intro j hj
      rw [e1]
      have ec : (bl + cm_cn2 x i).toNatClampNeg = (bl + cm_cn2 x i).toInt.toNat := rfl
      by_cases z : j = (bl + cm_cn2 x i).toNatClampNeg
      · rw [z, rf_upd_eq]
        have w : 0 ≤ (cm_byte x (cm_sh i)).toInt ∧ (cm_byte x (cm_sh i)).toInt ≤ 255 := rf_and255 _
        have e : (cm_byte x (cm_sh i)).toInt32.toInt = (cm_byte x (cm_sh i)).toInt := Jvm.Kit.i32_of_i64 (by omega) (by omega)
        have n0 : ¬ (cm_byte x (cm_sh i)).toInt32.toInt = 0 := fun y => q (Int32.toInt_inj.mp (y.trans (by decide)))
        omega
      · rw [rf_upd_ne z]
        exact ih j (by omega)
theorem ap_byf {b : Nat → Int32} {x : Int64} {bl : Int32} (hm : 0 ≤ bl.toInt ∧ bl.toInt ≤ 800) (hb : rp_by b bl) : rp_by (ap_f b bl x) (ty_apb bl x) := by
  unfold ap_f ty_apb
  by_cases h : bl + cm_cnt x 8 ≤ 800
  · rw [if_pos h, if_pos h]
    exact ap_by hm h hb 8 (by omega)
  · rw [if_neg h, if_neg h]
    exact hb
theorem rp_by0 (b : Nat → Int32) : rp_by b 0 := fun j hj => absurd hj (by have z : (0 : Int32).toInt = 0 := (by decide); omega)
