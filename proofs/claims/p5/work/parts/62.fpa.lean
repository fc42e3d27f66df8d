/-! float: the quotient of whole numbers -/
def fq_ok : Jvm.FP.Core.Datum → Prop
  | .nan => False
  | .inf _ => True
  | .fin _ c q => c < 16777216 ∧ q ≤ 104 ∧ (c < 8388608 ∨ -149 ≤ q)
theorem fq_T : Jvm.FP.Core.b32.tails = 8388608 := by decide
theorem fq_X : Jvm.FP.Core.b32.exps = 256 := by decide
theorem fq_q0 : Jvm.FP.Core.b32.qmin = -149 := by decide
theorem fq_q1 : Jvm.FP.Core.b32.qmax = 104 := by decide
theorem fq_P : 2 ^ Jvm.FP.Core.b32.p = 16777216 := by decide
theorem fq_enc {d : Jvm.FP.Core.Datum} (h : fq_ok d) : Jvm.FP.Core.encode Jvm.FP.Core.b32 d % 2147483648 ≤ 2139095040 ∧ Jvm.FP.Core.encode Jvm.FP.Core.b32 d < 4294967296 := by
  cases d with
  | nan => exact h.elim
  | inf s =>
    have hs : s.toNat ≤ 1 := by cases s <;> decide
    show Jvm.FP.Core.assemble Jvm.FP.Core.b32 s (Jvm.FP.Core.b32.exps - 1) 0 % 2147483648 ≤ 2139095040 ∧ Jvm.FP.Core.assemble Jvm.FP.Core.b32 s (Jvm.FP.Core.b32.exps - 1) 0 < 4294967296
    unfold Jvm.FP.Core.assemble
    rw [fq_T, fq_X]
    omega
  | fin s c q =>
    obtain ⟨h1, h2, h3⟩ := h
    have hs : s.toNat ≤ 1 := by cases s <;> decide
    show (if c < Jvm.FP.Core.b32.tails then Jvm.FP.Core.assemble Jvm.FP.Core.b32 s 0 c else Jvm.FP.Core.assemble Jvm.FP.Core.b32 s ((q - Jvm.FP.Core.b32.qmin).toNat + 1) (c - Jvm.FP.Core.b32.tails)) % 2147483648 ≤ 2139095040 ∧ (if c < Jvm.FP.Core.b32.tails then Jvm.FP.Core.assemble Jvm.FP.Core.b32 s 0 c else Jvm.FP.Core.assemble Jvm.FP.Core.b32 s ((q - Jvm.FP.Core.b32.qmin).toNat + 1) (c - Jvm.FP.Core.b32.tails)) < 4294967296
    unfold Jvm.FP.Core.assemble
    rw [fq_T, fq_X, fq_q0]
    by_cases hc : c < 8388608
    · rw [if_pos hc]
      omega
    · rw [if_neg hc]
      omega
theorem fq_dec {s : Bool} {c : Nat} {q : Int} (h : fq_ok (.fin s c q)) : ∃ (s' : Bool) (c' : Nat) (q' : Int), Jvm.FP.Core.decode Jvm.FP.Core.b32 (Jvm.FP.Core.encode Jvm.FP.Core.b32 (.fin s c q)) = .fin s' c' q' ∧ (¬ c = 0 → ¬ c' = 0) := by
  obtain ⟨h1, h2, h3⟩ := h
  have key : ∃ E t : Nat, Jvm.FP.Core.encode Jvm.FP.Core.b32 (.fin s c q) = (s.toNat * 256 + E) * 8388608 + t ∧ t < 8388608 ∧ E < 256 - 1 ∧ (E = 0 → t = c) := by
    show ∃ E t : Nat, (if c < Jvm.FP.Core.b32.tails then Jvm.FP.Core.assemble Jvm.FP.Core.b32 s 0 c else Jvm.FP.Core.assemble Jvm.FP.Core.b32 s ((q - Jvm.FP.Core.b32.qmin).toNat + 1) (c - Jvm.FP.Core.b32.tails)) = (s.toNat * 256 + E) * 8388608 + t ∧ t < 8388608 ∧ E < 256 - 1 ∧ (E = 0 → t = c)
    unfold Jvm.FP.Core.assemble
    rw [fq_T, fq_X, fq_q0]
    by_cases hc : c < 8388608
    · rw [if_pos hc]
      exact ⟨0, c, rfl, hc, by omega, fun _ => rfl⟩
    · rw [if_neg hc]
      exact ⟨(q - (-149)).toNat + 1, c - 8388608, rfl, by omega, by omega, fun e => absurd e (by omega)⟩
  obtain ⟨E, t, e, ht, hE, h0⟩ := key
  rw [e]
  have fE : Jvm.FP.Core.fieldE Jvm.FP.Core.b32 ((s.toNat * 256 + E) * 8388608 + t) = E := by
    unfold Jvm.FP.Core.fieldE
    rw [fq_T, fq_X]
    omega
  have fT : Jvm.FP.Core.fieldT Jvm.FP.Core.b32 ((s.toNat * 256 + E) * 8388608 + t) = t := by
    unfold Jvm.FP.Core.fieldT
    rw [fq_T]
    omega
  unfold Jvm.FP.Core.decode
  rw [fE, fT, fq_X, fq_T, if_neg (by omega)]
  by_cases hz : E = 0
  · rw [if_pos hz]
    exact ⟨_, _, _, rfl, fun hc => by rw [h0 hz]; exact hc⟩
  · rw [if_neg hz]
    exact ⟨_, _, _, rfl, fun _ => by omega⟩
theorem fq_settle {s : Bool} {c : Nat} {q : Int} (hq : -149 ≤ q) : fq_ok (Jvm.FP.Core.settle Jvm.FP.Core.b32 s c q) := by
  unfold Jvm.FP.Core.settle Jvm.FP.Core.bound
  rw [fq_P, fq_q1, fq_T]
  by_cases hc : c < 16777216
  · rw [if_pos hc]
    by_cases h1 : q ≤ 104
    · rw [if_pos h1]
      exact ⟨hc, h1, Or.inr hq⟩
    · rw [if_neg h1]
      exact trivial
  · rw [if_neg hc]
    by_cases h1 : q + 1 ≤ 104
    · rw [if_pos h1]
      exact ⟨by omega, h1, Or.inr (by omega)⟩
    · rw [if_neg h1]
      exact trivial
theorem fq_qm (num den : Nat) (e : Int) : -149 ≤ Jvm.FP.Core.quantum Jvm.FP.Core.b32 num den e := by
  unfold Jvm.FP.Core.quantum
  rw [fq_q0]
  omega
theorem fq_rr {s : Bool} {num den : Nat} {e : Int} : fq_ok (Jvm.FP.Core.roundRatio Jvm.FP.Core.b32 s num den e) := by
  unfold Jvm.FP.Core.roundRatio
  by_cases h : num = 0
  · rw [if_pos h, fq_q0]
    exact ⟨by omega, by omega, Or.inl (by omega)⟩
  · rw [if_neg h]
    exact fq_settle (fq_qm _ _ _)
theorem fq_int (num : Nat) (hn : ¬ num = 0) (hlt : num < 2 ^ 64) (s : Bool) : ∃ (s' : Bool) (c : Nat) (q : Int), Jvm.FP.Core.roundRatio Jvm.FP.Core.b32 s num 1 0 = .fin s' c q ∧ ¬ c = 0 := by
  unfold Jvm.FP.Core.roundRatio
  rw [if_neg hn]
  unfold Jvm.FP.Core.roundAt
  have l64 : num.log2 < 64 := (Nat.log2_lt hn).mpr hlt
  have l1 : (1 : Nat).log2 = 0 := by decide
  have hl : Jvm.FP.Core.leading num 1 ≤ (num.log2 : Int) := by
    unfold Jvm.FP.Core.leading
    rw [l1]
    show (if 1 * 2 ^ ((num.log2 : Int) - ((0 : Nat) : Int)).toNat ≤ num * 2 ^ (-((num.log2 : Int) - ((0 : Nat) : Int))).toNat then ((num.log2 : Int) - ((0 : Nat) : Int)) else ((num.log2 : Int) - ((0 : Nat) : Int)) - 1) ≤ (num.log2 : Int)
    split <;> omega
  have p : ((Jvm.FP.Core.b32.p : Nat) : Int) = 24 := by decide
  have q2 : Jvm.FP.Core.quantum Jvm.FP.Core.b32 num 1 0 ≤ 0 ∨ Jvm.FP.Core.quantum Jvm.FP.Core.b32 num 1 0 ≤ (num.log2 : Int) := by
    unfold Jvm.FP.Core.quantum
    rw [fq_q0, p]
    omega
  generalize Jvm.FP.Core.quantum Jvm.FP.Core.b32 num 1 0 = q at q2
  have hc : ¬ Jvm.FP.Core.nearest (Jvm.FP.Core.unitsNum num 0 q) (Jvm.FP.Core.unitsDen 1 0 q) = 0 := by
    have hge : Jvm.FP.Core.unitsDen 1 0 q ≤ Jvm.FP.Core.unitsNum num 0 q ∧ 0 < Jvm.FP.Core.unitsDen 1 0 q := by
      unfold Jvm.FP.Core.unitsDen Jvm.FP.Core.unitsNum
      refine ⟨?_, Nat.mul_pos (by omega) (Nat.two_pow_pos _)⟩
      by_cases hq : q ≤ 0
      · have e0 : (q - 0).toNat = 0 := by omega
        rw [e0]
        exact Nat.le_trans (by omega : 1 * 2 ^ 0 ≤ num * 1) (Nat.mul_le_mul_left num (Nat.two_pow_pos _))
      · have e0 : (0 - q).toNat = 0 := by omega
        rw [e0]
        have h2 : 2 ^ (q - 0).toNat ≤ 2 ^ num.log2 := Nat.pow_le_pow_right (by omega) (by omega)
        have h3 := Nat.log2_self_le hn
        omega
    have h1 : 1 ≤ Jvm.FP.Core.unitsNum num 0 q / Jvm.FP.Core.unitsDen 1 0 q := Nat.div_pos hge.1 hge.2
    unfold Jvm.FP.Core.nearest
    split
    · omega
    · split
      · omega
      · omega
  have qq : q ≤ 64 := by omega
  generalize Jvm.FP.Core.nearest (Jvm.FP.Core.unitsNum num 0 q) (Jvm.FP.Core.unitsDen 1 0 q) = c at hc
  unfold Jvm.FP.Core.settle Jvm.FP.Core.bound
  rw [fq_P, fq_q1, fq_T]
  by_cases h1 : c < 16777216
  · rw [if_pos h1, if_pos (by omega)]
    exact ⟨_, _, _, rfl, hc⟩
  · rw [if_neg h1, if_pos (by omega)]
    exact ⟨_, _, _, rfl, by decide⟩
theorem fq_nat {a : Int64} : (Jvm.FP.Core.l2f a).toNat = Jvm.FP.Core.fromInt Jvm.FP.Core.b32 a.toInt := by
  have h : Jvm.FP.Core.fromInt Jvm.FP.Core.b32 a.toInt < 4294967296 := (fq_enc fq_rr).2
  exact UInt32.toNat_ofNat_of_lt' h
theorem fq_l2 (a : Int64) : ∃ (s : Bool) (c : Nat) (q : Int), Jvm.FP.Core.decode Jvm.FP.Core.b32 (Jvm.FP.Core.l2f a).toNat = .fin s c q ∧ (¬ a = 0 → ¬ c = 0) := by
  rw [fq_nat]
  have ha : a.toInt.natAbs < 2 ^ 64 := by
    have h1 := a.toInt_lt
    have h2 := a.le_toInt
    omega
  show ∃ (s : Bool) (c : Nat) (q : Int), Jvm.FP.Core.decode Jvm.FP.Core.b32 (Jvm.FP.Core.encode Jvm.FP.Core.b32 (Jvm.FP.Core.roundRatio Jvm.FP.Core.b32 (decide (a.toInt < 0)) a.toInt.natAbs 1 0)) = .fin s c q ∧ (¬ a = 0 → ¬ c = 0)
  by_cases hz : a.toInt.natAbs = 0
  · have e : Jvm.FP.Core.roundRatio Jvm.FP.Core.b32 (decide (a.toInt < 0)) a.toInt.natAbs 1 0 = .fin (decide (a.toInt < 0)) 0 (-149) := by
      unfold Jvm.FP.Core.roundRatio
      rw [if_pos hz, fq_q0]
    rw [e]
    obtain ⟨s, c, q, h1, h2⟩ := fq_dec (s := decide (a.toInt < 0)) (c := 0) (q := (-149)) ⟨by omega, by omega, Or.inl (by omega)⟩
    exact ⟨s, c, q, h1, fun n => absurd (Int64.toInt_inj.mp (show a.toInt = (0 : Int64).toInt from by rw [show (0 : Int64).toInt = 0 from by decide]; omega)) n⟩
  · obtain ⟨s0, c0, q0, e, hc⟩ := fq_int a.toInt.natAbs hz ha (decide (a.toInt < 0))
    have hok : fq_ok (.fin s0 c0 q0) := by
      rw [← e]
      exact fq_rr
    rw [e]
    obtain ⟨s, c, q, h1, h2⟩ := fq_dec hok
    exact ⟨s, c, q, h1, fun _ => h2 hc⟩
theorem fq_quo {a b : Int64} (hb : ¬ b = 0) : vf_n32 (FP.fdiv (FP.l2f a) (FP.l2f b)) := by
  obtain ⟨s, c, q, ea, _⟩ := fq_l2 a
  obtain ⟨t, d, r, eb, hd⟩ := fq_l2 b
  have hd0 := hd hb
  have hok : fq_ok (Jvm.FP.Core.quotient Jvm.FP.Core.b32 (.fin s c q) (.fin t d r)) := by
    show fq_ok (if d = 0 then (if c = 0 then .nan else .inf (s != t)) else Jvm.FP.Core.roundRatio Jvm.FP.Core.b32 (s != t) c d (q - r))
    rw [if_neg hd0]
    exact fq_rr
  have hN := fq_enc hok
  show UInt32.ofNat (Jvm.FP.Core.encode Jvm.FP.Core.b32 (Jvm.FP.Core.quotient Jvm.FP.Core.b32 (Jvm.FP.Core.decode Jvm.FP.Core.b32 (Jvm.FP.Core.l2f a).toNat) (Jvm.FP.Core.decode Jvm.FP.Core.b32 (Jvm.FP.Core.l2f b).toNat))) &&& 0x7fffffff ≤ 0x7f800000
  rw [ea, eb]
  generalize Jvm.FP.Core.encode Jvm.FP.Core.b32 (Jvm.FP.Core.quotient Jvm.FP.Core.b32 (.fin s c q) (.fin t d r)) = N at hN
  rw [UInt32.le_iff_toNat_le, UInt32.toNat_and, UInt32.toNat_ofNat_of_lt' hN.2, show (0x7fffffff : UInt32).toNat = 2 ^ 31 - 1 from by decide, show (0x7f800000 : UInt32).toNat = 2139095040 from by decide, Nat.and_two_pow_sub_one_eq_mod]
  exact hN.1
/-! double: the quotient of whole numbers -/
def dq_ok : Jvm.FP.Core.Datum → Prop
  | .nan => False
  | .inf _ => True
  | .fin _ c q => c < 9007199254740992 ∧ q ≤ 971 ∧ (c < 4503599627370496 ∨ -1074 ≤ q)
theorem dq_T : Jvm.FP.Core.b64.tails = 4503599627370496 := by decide
theorem dq_X : Jvm.FP.Core.b64.exps = 2048 := by decide
theorem dq_q0 : Jvm.FP.Core.b64.qmin = -1074 := by decide
theorem dq_q1 : Jvm.FP.Core.b64.qmax = 971 := by decide
theorem dq_P : 2 ^ Jvm.FP.Core.b64.p = 9007199254740992 := by decide
theorem dq_enc {d : Jvm.FP.Core.Datum} (h : dq_ok d) : Jvm.FP.Core.encode Jvm.FP.Core.b64 d % 9223372036854775808 ≤ 9218868437227405312 ∧ Jvm.FP.Core.encode Jvm.FP.Core.b64 d < 18446744073709551616 := by
  cases d with
  | nan => exact h.elim
  | inf s =>
    have hs : s.toNat ≤ 1 := by cases s <;> decide
    show Jvm.FP.Core.assemble Jvm.FP.Core.b64 s (Jvm.FP.Core.b64.exps - 1) 0 % 9223372036854775808 ≤ 9218868437227405312 ∧ Jvm.FP.Core.assemble Jvm.FP.Core.b64 s (Jvm.FP.Core.b64.exps - 1) 0 < 18446744073709551616
    unfold Jvm.FP.Core.assemble
    rw [dq_T, dq_X]
    omega
  | fin s c q =>
    obtain ⟨h1, h2, h3⟩ := h
    have hs : s.toNat ≤ 1 := by cases s <;> decide
    show (if c < Jvm.FP.Core.b64.tails then Jvm.FP.Core.assemble Jvm.FP.Core.b64 s 0 c else Jvm.FP.Core.assemble Jvm.FP.Core.b64 s ((q - Jvm.FP.Core.b64.qmin).toNat + 1) (c - Jvm.FP.Core.b64.tails)) % 9223372036854775808 ≤ 9218868437227405312 ∧ (if c < Jvm.FP.Core.b64.tails then Jvm.FP.Core.assemble Jvm.FP.Core.b64 s 0 c else Jvm.FP.Core.assemble Jvm.FP.Core.b64 s ((q - Jvm.FP.Core.b64.qmin).toNat + 1) (c - Jvm.FP.Core.b64.tails)) < 18446744073709551616
    unfold Jvm.FP.Core.assemble
    rw [dq_T, dq_X, dq_q0]
    by_cases hc : c < 4503599627370496
    · rw [if_pos hc]
      omega
    · rw [if_neg hc]
      omega
theorem dq_dec {s : Bool} {c : Nat} {q : Int} (h : dq_ok (.fin s c q)) : ∃ (s' : Bool) (c' : Nat) (q' : Int), Jvm.FP.Core.decode Jvm.FP.Core.b64 (Jvm.FP.Core.encode Jvm.FP.Core.b64 (.fin s c q)) = .fin s' c' q' ∧ (¬ c = 0 → ¬ c' = 0) := by
  obtain ⟨h1, h2, h3⟩ := h
  have key : ∃ E t : Nat, Jvm.FP.Core.encode Jvm.FP.Core.b64 (.fin s c q) = (s.toNat * 2048 + E) * 4503599627370496 + t ∧ t < 4503599627370496 ∧ E < 2048 - 1 ∧ (E = 0 → t = c) := by
    show ∃ E t : Nat, (if c < Jvm.FP.Core.b64.tails then Jvm.FP.Core.assemble Jvm.FP.Core.b64 s 0 c else Jvm.FP.Core.assemble Jvm.FP.Core.b64 s ((q - Jvm.FP.Core.b64.qmin).toNat + 1) (c - Jvm.FP.Core.b64.tails)) = (s.toNat * 2048 + E) * 4503599627370496 + t ∧ t < 4503599627370496 ∧ E < 2048 - 1 ∧ (E = 0 → t = c)
    unfold Jvm.FP.Core.assemble
    rw [dq_T, dq_X, dq_q0]
    by_cases hc : c < 4503599627370496
    · rw [if_pos hc]
      exact ⟨0, c, rfl, hc, by omega, fun _ => rfl⟩
    · rw [if_neg hc]
      exact ⟨(q - (-1074)).toNat + 1, c - 4503599627370496, rfl, by omega, by omega, fun e => absurd e (by omega)⟩
  obtain ⟨E, t, e, ht, hE, h0⟩ := key
  rw [e]
  have fE : Jvm.FP.Core.fieldE Jvm.FP.Core.b64 ((s.toNat * 2048 + E) * 4503599627370496 + t) = E := by
    unfold Jvm.FP.Core.fieldE
    rw [dq_T, dq_X]
    omega
  have fT : Jvm.FP.Core.fieldT Jvm.FP.Core.b64 ((s.toNat * 2048 + E) * 4503599627370496 + t) = t := by
    unfold Jvm.FP.Core.fieldT
    rw [dq_T]
    omega
  unfold Jvm.FP.Core.decode
  rw [fE, fT, dq_X, dq_T, if_neg (by omega)]
  by_cases hz : E = 0
  · rw [if_pos hz]
    exact ⟨_, _, _, rfl, fun hc => by rw [h0 hz]; exact hc⟩
  · rw [if_neg hz]
    exact ⟨_, _, _, rfl, fun _ => by omega⟩
theorem dq_settle {s : Bool} {c : Nat} {q : Int} (hq : -1074 ≤ q) : dq_ok (Jvm.FP.Core.settle Jvm.FP.Core.b64 s c q) := by
  unfold Jvm.FP.Core.settle Jvm.FP.Core.bound
  rw [dq_P, dq_q1, dq_T]
  by_cases hc : c < 9007199254740992
  · rw [if_pos hc]
    by_cases h1 : q ≤ 971
    · rw [if_pos h1]
      exact ⟨hc, h1, Or.inr hq⟩
    · rw [if_neg h1]
      exact trivial
  · rw [if_neg hc]
    by_cases h1 : q + 1 ≤ 971
    · rw [if_pos h1]
      exact ⟨by omega, h1, Or.inr (by omega)⟩
    · rw [if_neg h1]
      exact trivial
theorem dq_qm (num den : Nat) (e : Int) : -1074 ≤ Jvm.FP.Core.quantum Jvm.FP.Core.b64 num den e := by
  unfold Jvm.FP.Core.quantum
  rw [dq_q0]
  omega
theorem dq_rr {s : Bool} {num den : Nat} {e : Int} : dq_ok (Jvm.FP.Core.roundRatio Jvm.FP.Core.b64 s num den e) := by
  unfold Jvm.FP.Core.roundRatio
  by_cases h : num = 0
  · rw [if_pos h, dq_q0]
    exact ⟨by omega, by omega, Or.inl (by omega)⟩
  · rw [if_neg h]
    exact dq_settle (dq_qm _ _ _)
theorem dq_int (num : Nat) (hn : ¬ num = 0) (hlt : num < 2 ^ 64) (s : Bool) : ∃ (s' : Bool) (c : Nat) (q : Int), Jvm.FP.Core.roundRatio Jvm.FP.Core.b64 s num 1 0 = .fin s' c q ∧ ¬ c = 0 := by
  unfold Jvm.FP.Core.roundRatio
  rw [if_neg hn]
  unfold Jvm.FP.Core.roundAt
  have l64 : num.log2 < 64 := (Nat.log2_lt hn).mpr hlt
  have l1 : (1 : Nat).log2 = 0 := by decide
  have hl : Jvm.FP.Core.leading num 1 ≤ (num.log2 : Int) := by
    unfold Jvm.FP.Core.leading
    rw [l1]
    show (if 1 * 2 ^ ((num.log2 : Int) - ((0 : Nat) : Int)).toNat ≤ num * 2 ^ (-((num.log2 : Int) - ((0 : Nat) : Int))).toNat then ((num.log2 : Int) - ((0 : Nat) : Int)) else ((num.log2 : Int) - ((0 : Nat) : Int)) - 1) ≤ (num.log2 : Int)
    split <;> omega
  have p : ((Jvm.FP.Core.b64.p : Nat) : Int) = 53 := by decide
  have q2 : Jvm.FP.Core.quantum Jvm.FP.Core.b64 num 1 0 ≤ 0 ∨ Jvm.FP.Core.quantum Jvm.FP.Core.b64 num 1 0 ≤ (num.log2 : Int) := by
    unfold Jvm.FP.Core.quantum
    rw [dq_q0, p]
    omega
  generalize Jvm.FP.Core.quantum Jvm.FP.Core.b64 num 1 0 = q at q2
  have hc : ¬ Jvm.FP.Core.nearest (Jvm.FP.Core.unitsNum num 0 q) (Jvm.FP.Core.unitsDen 1 0 q) = 0 := by
    have hge : Jvm.FP.Core.unitsDen 1 0 q ≤ Jvm.FP.Core.unitsNum num 0 q ∧ 0 < Jvm.FP.Core.unitsDen 1 0 q := by
      unfold Jvm.FP.Core.unitsDen Jvm.FP.Core.unitsNum
      refine ⟨?_, Nat.mul_pos (by omega) (Nat.two_pow_pos _)⟩
      by_cases hq : q ≤ 0
      · have e0 : (q - 0).toNat = 0 := by omega
        rw [e0]
        exact Nat.le_trans (by omega : 1 * 2 ^ 0 ≤ num * 1) (Nat.mul_le_mul_left num (Nat.two_pow_pos _))
      · have e0 : (0 - q).toNat = 0 := by omega
        rw [e0]
        have h2 : 2 ^ (q - 0).toNat ≤ 2 ^ num.log2 := Nat.pow_le_pow_right (by omega) (by omega)
        have h3 := Nat.log2_self_le hn
        omega
    have h1 : 1 ≤ Jvm.FP.Core.unitsNum num 0 q / Jvm.FP.Core.unitsDen 1 0 q := Nat.div_pos hge.1 hge.2
    unfold Jvm.FP.Core.nearest
    split
    · omega
    · split
      · omega
      · omega
  have qq : q ≤ 64 := by omega
  generalize Jvm.FP.Core.nearest (Jvm.FP.Core.unitsNum num 0 q) (Jvm.FP.Core.unitsDen 1 0 q) = c at hc
  unfold Jvm.FP.Core.settle Jvm.FP.Core.bound
  rw [dq_P, dq_q1, dq_T]
  by_cases h1 : c < 9007199254740992
  · rw [if_pos h1, if_pos (by omega)]
    exact ⟨_, _, _, rfl, hc⟩
  · rw [if_neg h1, if_pos (by omega)]
    exact ⟨_, _, _, rfl, by decide⟩
theorem dq_nat {a : Int64} : (Jvm.FP.Core.l2d a).toNat = Jvm.FP.Core.fromInt Jvm.FP.Core.b64 a.toInt := by
  have h : Jvm.FP.Core.fromInt Jvm.FP.Core.b64 a.toInt < 18446744073709551616 := (dq_enc dq_rr).2
  exact UInt64.toNat_ofNat_of_lt' h
theorem dq_l2 (a : Int64) : ∃ (s : Bool) (c : Nat) (q : Int), Jvm.FP.Core.decode Jvm.FP.Core.b64 (Jvm.FP.Core.l2d a).toNat = .fin s c q ∧ (¬ a = 0 → ¬ c = 0) := by
  rw [dq_nat]
  have ha : a.toInt.natAbs < 2 ^ 64 := by
    have h1 := a.toInt_lt
    have h2 := a.le_toInt
    omega
  show ∃ (s : Bool) (c : Nat) (q : Int), Jvm.FP.Core.decode Jvm.FP.Core.b64 (Jvm.FP.Core.encode Jvm.FP.Core.b64 (Jvm.FP.Core.roundRatio Jvm.FP.Core.b64 (decide (a.toInt < 0)) a.toInt.natAbs 1 0)) = .fin s c q ∧ (¬ a = 0 → ¬ c = 0)
  by_cases hz : a.toInt.natAbs = 0
  · have e : Jvm.FP.Core.roundRatio Jvm.FP.Core.b64 (decide (a.toInt < 0)) a.toInt.natAbs 1 0 = .fin (decide (a.toInt < 0)) 0 (-1074) := by
      unfold Jvm.FP.Core.roundRatio
      rw [if_pos hz, dq_q0]
    rw [e]
    obtain ⟨s, c, q, h1, h2⟩ := dq_dec (s := decide (a.toInt < 0)) (c := 0) (q := (-1074)) ⟨by omega, by omega, Or.inl (by omega)⟩
    exact ⟨s, c, q, h1, fun n => absurd (Int64.toInt_inj.mp (show a.toInt = (0 : Int64).toInt from by rw [show (0 : Int64).toInt = 0 from by decide]; omega)) n⟩
  · obtain ⟨s0, c0, q0, e, hc⟩ := dq_int a.toInt.natAbs hz ha (decide (a.toInt < 0))
    have hok : dq_ok (.fin s0 c0 q0) := by
      rw [← e]
      exact dq_rr
    rw [e]
    obtain ⟨s, c, q, h1, h2⟩ := dq_dec hok
    exact ⟨s, c, q, h1, fun _ => h2 hc⟩
theorem dq_quo {a b : Int64} (hb : ¬ b = 0) : vf_n64 (FP.ddiv (FP.l2d a) (FP.l2d b)) := by
  obtain ⟨s, c, q, ea, _⟩ := dq_l2 a
  obtain ⟨t, d, r, eb, hd⟩ := dq_l2 b
  have hd0 := hd hb
  have hok : dq_ok (Jvm.FP.Core.quotient Jvm.FP.Core.b64 (.fin s c q) (.fin t d r)) := by
    show dq_ok (if d = 0 then (if c = 0 then .nan else .inf (s != t)) else Jvm.FP.Core.roundRatio Jvm.FP.Core.b64 (s != t) c d (q - r))
    rw [if_neg hd0]
    exact dq_rr
  have hN := dq_enc hok
  show UInt64.ofNat (Jvm.FP.Core.encode Jvm.FP.Core.b64 (Jvm.FP.Core.quotient Jvm.FP.Core.b64 (Jvm.FP.Core.decode Jvm.FP.Core.b64 (Jvm.FP.Core.l2d a).toNat) (Jvm.FP.Core.decode Jvm.FP.Core.b64 (Jvm.FP.Core.l2d b).toNat))) &&& 0x7fffffffffffffff ≤ 0x7ff0000000000000
  rw [ea, eb]
  generalize Jvm.FP.Core.encode Jvm.FP.Core.b64 (Jvm.FP.Core.quotient Jvm.FP.Core.b64 (.fin s c q) (.fin t d r)) = N at hN
  rw [UInt64.le_iff_toNat_le, UInt64.toNat_and, UInt64.toNat_ofNat_of_lt' hN.2, show (0x7fffffffffffffff : UInt64).toNat = 2 ^ 63 - 1 from by decide, show (0x7ff0000000000000 : UInt64).toNat = 9218868437227405312 from by decide, Nat.and_two_pow_sub_one_eq_mod]
  exact hN.1
theorem fq_dn {N : Nat} (h : N % 2147483648 ≤ 2139095040) : ¬ Jvm.FP.Core.decode Jvm.FP.Core.b32 N = .nan := by
  unfold Jvm.FP.Core.decode Jvm.FP.Core.fieldE Jvm.FP.Core.fieldT
  rw [fq_T, fq_X]
  by_cases h1 : N / 8388608 % 256 = 256 - 1
  · have h2 : N % 8388608 = 0 := by omega
    rw [if_pos h1, if_pos h2]
    exact fun q => by cases q
  · rw [if_neg h1]
    by_cases h2 : N / 8388608 % 256 = 0
    · rw [if_pos h2]
      exact fun q => by cases q
    · rw [if_neg h2]
      exact fun q => by cases q
theorem fd_rok {d : Jvm.FP.Core.Datum} (h : ¬ d = .nan) : dq_ok (Jvm.FP.Core.round Jvm.FP.Core.b64 d) := by
  cases d with
  | nan => exact absurd rfl h
  | inf s => exact trivial
  | fin s c q => exact dq_rr
theorem fd_quo {x : UInt32} (h : vf_n32 x) : vf_n64 (FP.f2d x) := by
  have h1 : x.toNat % 2147483648 ≤ 2139095040 := by
    unfold vf_n32 at h
    rw [UInt32.le_iff_toNat_le, UInt32.toNat_and, show (0x7fffffff : UInt32).toNat = 2 ^ 31 - 1 from by decide, show (0x7f800000 : UInt32).toNat = 2139095040 from by decide, Nat.and_two_pow_sub_one_eq_mod] at h
    exact h
  have hnn := fq_dn h1
  have hN := dq_enc (fd_rok hnn)
  have hf : Jvm.FP.Core.fIsNaN x = false := decide_eq_false hnn
  have e : Jvm.FP.f2d x = Jvm.FP.Core.f2d x := by
    unfold Jvm.FP.f2d
    exact if_neg (by rw [hf]; decide)
  unfold vf_n64
  rw [show FP.f2d x = Jvm.FP.Core.f2d x from e]
  show UInt64.ofNat (Jvm.FP.Core.encode Jvm.FP.Core.b64 (Jvm.FP.Core.round Jvm.FP.Core.b64 (Jvm.FP.Core.decode Jvm.FP.Core.b32 x.toNat))) &&& 0x7fffffffffffffff ≤ 0x7ff0000000000000
  generalize Jvm.FP.Core.encode Jvm.FP.Core.b64 (Jvm.FP.Core.round Jvm.FP.Core.b64 (Jvm.FP.Core.decode Jvm.FP.Core.b32 x.toNat)) = N at hN
  rw [UInt64.le_iff_toNat_le, UInt64.toNat_and, UInt64.toNat_ofNat_of_lt' hN.2, show (0x7fffffffffffffff : UInt64).toNat = 2 ^ 63 - 1 from by decide, show (0x7ff0000000000000 : UInt64).toNat = 9218868437227405312 from by decide, Nat.and_two_pow_sub_one_eq_mod]
  exact hN.1
