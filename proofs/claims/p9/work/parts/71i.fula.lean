/-! the slots' sums, and what the readers answer -/
theorem fl_sv0 {r e : Int32} {k s0 s1 f k1 s01 s11 : Nat → Int32} {su z0 z1 z01 z11 : Nat → Int64} (q : q_sv 0 k s0 s1 f k1 s01 s11 su z0 z1 z01 z11 r e) : q_cs su z01 ∧ z11 = z1 ∧ r = f 8 ∧ e = 0 := by
  rcases q with q | q | q
  · exact absurd (Or.inl rfl) q.1
  · exact ⟨q.2.2.2.2.2.1, q.2.2.2.2.2.2.1, q.2.2.2.2.2.2.2.2, q.2.2.2.2.2.2.2.1⟩
  · exact absurd q.1 (by decide)
theorem fl_sv1 {r e : Int32} {k s0 s1 f k1 s01 s11 : Nat → Int32} {su z0 z1 z01 z11 : Nat → Int64} (q : q_sv 1 k s0 s1 f k1 s01 s11 su z0 z1 z01 z11 r e) : z01 = z0 ∧ q_cs su z11 ∧ r = f 8 ∧ e = 0 := by
  rcases q with q | q | q
  · exact absurd (Or.inr rfl) q.1
  · exact absurd q.1 (by decide)
  · exact ⟨q.2.2.2.2.2.1, q.2.2.2.2.2.2.1, q.2.2.2.2.2.2.2.2, q.2.2.2.2.2.2.2.1⟩
theorem fl_svb {p r e : Int32} {k s0 s1 f k1 s01 s11 : Nat → Int32} {su z0 z1 z01 z11 : Nat → Int64} (h : ¬ (¬ p < 0 ∧ p ≤ 1)) (q : q_sv p k s0 s1 f k1 s01 s11 su z0 z1 z01 z11 r e) : z01 = z0 ∧ z11 = z1 ∧ e = 1 := by
  rcases q with q | q | q
  · exact q.2.2.2.2
  · exact absurd (by rw [q.1]; decide) h
  · exact absurd (by rw [q.1]; decide) h
theorem fl_rs0 {r e : Int32} {k s0 s1 f f1 : Nat → Int32} {su su1 z0 z1 : Nat → Int64} (q : q_rs 0 k s0 s1 f f1 z0 z1 su su1 r e) : e = 0 ∧ (k 0 = 0 → su1 = su ∧ r = -1) ∧ (¬ k 0 = 0 → q_cs z0 su1 ∧ r = f1 8) := by
  rcases q with q | q | q
  · exact absurd (Or.inl rfl) q.1
  · rcases q.2.2 with n | n
    · exact ⟨q.2.1, fun _ => n.2.2, fun z => absurd n.1 z⟩
    · exact ⟨q.2.1, fun z => absurd z n.1, fun _ => n.2.2⟩
  · exact absurd q.1 (by decide)
theorem fl_rs1 {r e : Int32} {k s0 s1 f f1 : Nat → Int32} {su su1 z0 z1 : Nat → Int64} (q : q_rs 1 k s0 s1 f f1 z0 z1 su su1 r e) : e = 0 ∧ (k 1 = 0 → su1 = su ∧ r = -1) ∧ (¬ k 1 = 0 → q_cs z1 su1 ∧ r = f1 8) := by
  rcases q with q | q | q
  · exact absurd (Or.inr rfl) q.1
  · exact absurd q.1 (by decide)
  · rcases q.2.2 with n | n
    · exact ⟨q.2.1, fun _ => n.2.2, fun z => absurd n.1 z⟩
    · exact ⟨q.2.1, fun z => absurd z n.1, fun _ => n.2.2⟩
theorem fl_rsb {p r e : Int32} {k s0 s1 f f1 : Nat → Int32} {su su1 z0 z1 : Nat → Int64} (h : ¬ (¬ p < 0 ∧ p ≤ 1)) (q : q_rs p k s0 s1 f f1 z0 z1 su su1 r e) : su1 = su ∧ e = 1 := by
  rcases q with q | q | q
  · exact q.2.2
  · exact absurd (by rw [q.1]; decide) h
  · exact absurd (by rw [q.1]; decide) h
