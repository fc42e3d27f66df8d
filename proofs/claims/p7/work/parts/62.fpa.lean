/-! float: the quotient of whole numbers -/
def fq_ok : Jvm.FP.Core.Datum → Prop
  | .nan => False
  | .inf _ => True
  | .fin _ c q => c < 16777216 ∧ q ≤ 104 ∧ (c < 8388608 ∨ -149 ≤ q)
theorem fq_T : Jvm.FP.Core.b32.tails = 8388608 := sorry
theorem fq_X : Jvm.FP.Core.b32.exps = 256 := sorry
theorem fq_q0 : Jvm.FP.Core.b32.qmin = -149 := sorry
theorem fq_q1 : Jvm.FP.Core.b32.qmax = 104 := sorry
theorem fq_P : 2 ^ Jvm.FP.Core.b32.p = 16777216 := sorry
theorem fq_enc {d : Jvm.FP.Core.Datum} (h : fq_ok d) : Jvm.FP.Core.encode Jvm.FP.Core.b32 d % 2147483648 ≤ 2139095040 ∧ Jvm.FP.Core.encode Jvm.FP.Core.b32 d < 4294967296 := sorry
theorem fq_dec {s : Bool} {c : Nat} {q : Int} (h : fq_ok (.fin s c q)) : ∃ (s' : Bool) (c' : Nat) (q' : Int), Jvm.FP.Core.decode Jvm.FP.Core.b32 (Jvm.FP.Core.encode Jvm.FP.Core.b32 (.fin s c q)) = .fin s' c' q' ∧ (¬ c = 0 → ¬ c' = 0) := sorry
theorem fq_settle {s : Bool} {c : Nat} {q : Int} (hq : -149 ≤ q) : fq_ok (Jvm.FP.Core.settle Jvm.FP.Core.b32 s c q) := sorry
theorem fq_qm (num den : Nat) (e : Int) : -149 ≤ Jvm.FP.Core.quantum Jvm.FP.Core.b32 num den e := sorry
theorem fq_rr {s : Bool} {num den : Nat} {e : Int} : fq_ok (Jvm.FP.Core.roundRatio Jvm.FP.Core.b32 s num den e) := sorry
theorem fq_int (num : Nat) (hn : ¬ num = 0) (hlt : num < 2 ^ 64) (s : Bool) : ∃ (s' : Bool) (c : Nat) (q : Int), Jvm.FP.Core.roundRatio Jvm.FP.Core.b32 s num 1 0 = .fin s' c q ∧ ¬ c = 0 := sorry
theorem fq_nat {a : Int64} : (Jvm.FP.Core.l2f a).toNat = Jvm.FP.Core.fromInt Jvm.FP.Core.b32 a.toInt := sorry
theorem fq_l2 (a : Int64) : ∃ (s : Bool) (c : Nat) (q : Int), Jvm.FP.Core.decode Jvm.FP.Core.b32 (Jvm.FP.Core.l2f a).toNat = .fin s c q ∧ (¬ a = 0 → ¬ c = 0) := sorry
theorem fq_quo {a b : Int64} (hb : ¬ b = 0) : vf_n32 (FP.fdiv (FP.l2f a) (FP.l2f b)) := sorry
/-! double: the quotient of whole numbers -/
def dq_ok : Jvm.FP.Core.Datum → Prop
  | .nan => False
  | .inf _ => True
  | .fin _ c q => c < 9007199254740992 ∧ q ≤ 971 ∧ (c < 4503599627370496 ∨ -1074 ≤ q)
theorem dq_T : Jvm.FP.Core.b64.tails = 4503599627370496 := sorry
theorem dq_X : Jvm.FP.Core.b64.exps = 2048 := sorry
theorem dq_q0 : Jvm.FP.Core.b64.qmin = -1074 := sorry
theorem dq_q1 : Jvm.FP.Core.b64.qmax = 971 := sorry
theorem dq_P : 2 ^ Jvm.FP.Core.b64.p = 9007199254740992 := sorry
theorem dq_enc {d : Jvm.FP.Core.Datum} (h : dq_ok d) : Jvm.FP.Core.encode Jvm.FP.Core.b64 d % 9223372036854775808 ≤ 9218868437227405312 ∧ Jvm.FP.Core.encode Jvm.FP.Core.b64 d < 18446744073709551616 := sorry
theorem dq_dec {s : Bool} {c : Nat} {q : Int} (h : dq_ok (.fin s c q)) : ∃ (s' : Bool) (c' : Nat) (q' : Int), Jvm.FP.Core.decode Jvm.FP.Core.b64 (Jvm.FP.Core.encode Jvm.FP.Core.b64 (.fin s c q)) = .fin s' c' q' ∧ (¬ c = 0 → ¬ c' = 0) := sorry
theorem dq_settle {s : Bool} {c : Nat} {q : Int} (hq : -1074 ≤ q) : dq_ok (Jvm.FP.Core.settle Jvm.FP.Core.b64 s c q) := sorry
theorem dq_qm (num den : Nat) (e : Int) : -1074 ≤ Jvm.FP.Core.quantum Jvm.FP.Core.b64 num den e := sorry
theorem dq_rr {s : Bool} {num den : Nat} {e : Int} : dq_ok (Jvm.FP.Core.roundRatio Jvm.FP.Core.b64 s num den e) := sorry
theorem dq_int (num : Nat) (hn : ¬ num = 0) (hlt : num < 2 ^ 64) (s : Bool) : ∃ (s' : Bool) (c : Nat) (q : Int), Jvm.FP.Core.roundRatio Jvm.FP.Core.b64 s num 1 0 = .fin s' c q ∧ ¬ c = 0 := sorry
theorem dq_nat {a : Int64} : (Jvm.FP.Core.l2d a).toNat = Jvm.FP.Core.fromInt Jvm.FP.Core.b64 a.toInt := sorry
theorem dq_l2 (a : Int64) : ∃ (s : Bool) (c : Nat) (q : Int), Jvm.FP.Core.decode Jvm.FP.Core.b64 (Jvm.FP.Core.l2d a).toNat = .fin s c q ∧ (¬ a = 0 → ¬ c = 0) := sorry
theorem dq_quo {a b : Int64} (hb : ¬ b = 0) : vf_n64 (FP.ddiv (FP.l2d a) (FP.l2d b)) := sorry
theorem fq_dn {N : Nat} (h : N % 2147483648 ≤ 2139095040) : ¬ Jvm.FP.Core.decode Jvm.FP.Core.b32 N = .nan := sorry
theorem fd_rok {d : Jvm.FP.Core.Datum} (h : ¬ d = .nan) : dq_ok (Jvm.FP.Core.round Jvm.FP.Core.b64 d) := sorry
theorem fd_quo {x : UInt32} (h : vf_n32 x) : vf_n64 (FP.f2d x) := sorry
