theorem rf_Ec {f h : Nat → Int32} (hE : rf_E f) (he : ∀ j : Nat, j < 958 → h j = f j) : rf_E h := by
  obtain ⟨G, hR⟩ := hE
  exact ⟨G, rf_Req hR he⟩
theorem rf_sv0 {k s : Nat → Int32} {p v : Int32} (hp : p = 0) (h : k 1 = 0 ∨ rf_E s) : upd k p.toNatClampNeg v 1 = 0 ∨ rf_E s := by
  subst hp
  rw [rf_upd_ne (by decide)]
  exact h
theorem rf_sv1 {k s : Nat → Int32} {p v : Int32} (hp : p = 0 ∨ p = 1) (hn : ¬ p = 0) (h : k 0 = 0 ∨ rf_E s) : upd k p.toNatClampNeg v 0 = 0 ∨ rf_E s := by
  rcases hp with q | q
  · exact absurd q hn
  · subst q
    rw [rf_upd_ne (by decide)]
    exact h
theorem rf_i2s {p : Int32} (h : p = 0 ∨ p = 1) : vp_in p 2 := by
  rcases h with q | q
  · subst q
    exact cm_vin (by decide)
  · subst q
    exact cm_vin (by decide)
theorem rf_rs0 {k s : Nat → Int32} {p : Int32} (hp : p = 0) (h : ¬ k p.toNatClampNeg = 0) (hs : k 0 = 0 ∨ rf_E s) : rf_E s := by
  subst hp
  exact hs.elim (fun q => absurd q h) (fun q => q)
theorem rf_rs1 {k s : Nat → Int32} {p : Int32} (hp : p = 0 ∨ p = 1) (hn : ¬ p = 0) (h : ¬ k p.toNatClampNeg = 0) (hs : k 1 = 0 ∨ rf_E s) : rf_E s := by
  rcases hp with q | q
  · exact absurd q hn
  · subst q
    exact hs.elim (fun q => absurd q h) (fun q => q)
theorem rf_slot {p : Int32} (h : ¬ cm_rng p.toInt64 0 1 = 0) : p = 0 ∨ p = 1 := by
  have r := rf_rng h
  rw [Jvm.Kit.i64_of_i32, show (0 : Int64).toInt = 0 from by decide, show (1 : Int64).toInt = 1 from by decide] at r
  rcases (by omega : p.toInt = 0 ∨ p.toInt = 1) with q | q
  · exact Or.inl (Int32.toInt_inj.mp (q.trans (by decide)))
  · exact Or.inr (Int32.toInt_inj.mp (q.trans (by decide)))
/-- the slots, and what lies in them -/
def q_sv (p : Int32) (k s0 s1 f k1 s01 s11 : Nat → Int32) (su z0 z1 z01 z11 : Nat → Int64) (r e : Int32) : Prop := (¬ (p = 0 ∨ p = 1) ∧ k1 = k ∧ s01 = s0 ∧ s11 = s1 ∧ z01 = z0 ∧ z11 = z1 ∧ e = 1) ∨ (p = 0 ∧ ¬ k1 0 = 0 ∧ k1 1 = k 1 ∧ q_eq 958 f s01 ∧ s11 = s1 ∧ q_cs su z01 ∧ z11 = z1 ∧ e = 0 ∧ r = f 8) ∨ (p = 1 ∧ k1 0 = k 0 ∧ ¬ k1 1 = 0 ∧ s01 = s0 ∧ q_eq 958 f s11 ∧ z01 = z0 ∧ q_cs su z11 ∧ e = 0 ∧ r = f 8)
def q_rs (p : Int32) (k s0 s1 f f1 : Nat → Int32) (z0 z1 su su1 : Nat → Int64) (r e : Int32) : Prop := (¬ (p = 0 ∨ p = 1) ∧ f1 = f ∧ su1 = su ∧ e = 1) ∨ (p = 0 ∧ e = 0 ∧ ((k 0 = 0 ∧ f1 = f ∧ su1 = su ∧ r = -1) ∨ (¬ k 0 = 0 ∧ q_eq 958 s0 f1 ∧ q_cs z0 su1 ∧ r = f1 8))) ∨ (p = 1 ∧ e = 0 ∧ ((k 1 = 0 ∧ f1 = f ∧ su1 = su ∧ r = -1) ∨ (¬ k 1 = 0 ∧ q_eq 958 s1 f1 ∧ q_cs z1 su1 ∧ r = f1 8)))
theorem q_svA {p e : Int32} {k s0 s1 f h : Nat → Int32} {su z0 z1 y : Nat → Int64} (hp : p = 0) (q : q_eq 958 f h) (c : q_cs su y) (he : e = 0) : q_sv p k s0 s1 f (upd k p.toNatClampNeg (vp_nar .boolean 1)) h s1 su z0 z1 y z1 (f 8) e := by
  subst hp
  refine Or.inr (Or.inl ⟨rfl, ?_, rf_upd_ne (by decide), q, rfl, c, rfl, he, rfl⟩)
  rw [show (0 : Int32).toNatClampNeg = 0 from by decide, rf_upd_eq]
  decide
theorem q_svB {p e : Int32} {k s0 s1 f h : Nat → Int32} {su z0 z1 y : Nat → Int64} (hp : p = 0 ∨ p = 1) (hn : ¬ p = 0) (q : q_eq 958 f h) (c : q_cs su y) (he : e = 0) : q_sv p k s0 s1 f (upd k p.toNatClampNeg (vp_nar .boolean 1)) s0 h su z0 z1 z0 y (f 8) e := by
  rcases hp with z | z
  · exact absurd z hn
  · subst z
    refine Or.inr (Or.inr ⟨rfl, rf_upd_ne (by decide), ?_, rfl, q, rfl, c, he, rfl⟩)
    rw [show (1 : Int32).toNatClampNeg = 1 from by decide, rf_upd_eq]
    decide
theorem q_rsN {p e : Int32} {k s0 s1 f : Nat → Int32} {z0 z1 su : Nat → Int64} (hp : p = 0 ∨ p = 1) (h : k p.toNatClampNeg = 0) (he : e = 0) : q_rs p k s0 s1 f f z0 z1 su su (-1) e := by
  rcases hp with z | z
  · subst z
    exact Or.inr (Or.inl ⟨rfl, he, Or.inl ⟨h, rfl, rfl, rfl⟩⟩)
  · subst z
    exact Or.inr (Or.inr ⟨rfl, he, Or.inl ⟨h, rfl, rfl, rfl⟩⟩)
theorem q_rsA {p e : Int32} {k s0 s1 f h : Nat → Int32} {z0 z1 su y : Nat → Int64} (hp : p = 0) (hk : ¬ k p.toNatClampNeg = 0) (q : q_eq 958 s0 h) (c : q_cs z0 y) (he : e = 0) : q_rs p k s0 s1 f h z0 z1 su y (h 8) e := by
  subst hp
  exact Or.inr (Or.inl ⟨rfl, he, Or.inr ⟨hk, q, c, rfl⟩⟩)
theorem q_rsB {p e : Int32} {k s0 s1 f h : Nat → Int32} {z0 z1 su y : Nat → Int64} (hp : p = 0 ∨ p = 1) (hn : ¬ p = 0) (hk : ¬ k p.toNatClampNeg = 0) (q : q_eq 958 s1 h) (c : q_cs z1 y) (he : e = 0) : q_rs p k s0 s1 f h z0 z1 su y (h 8) e := by
  rcases hp with z | z
  · exact absurd z hn
  · subst z
    exact Or.inr (Or.inr ⟨rfl, he, Or.inr ⟨hk, q, c, rfl⟩⟩)
set_option maxRecDepth 100000 in
set_option maxHeartbeats 4000000 in
theorem m_noSlot (l : Launch) (D : va_G) (ct : Nat → ClassId) (S : ty_S) (ws : va_W) (ph : va_W → Prop) (xx : Nat → Nat → Nat → Prop) (mo : Nat) (mw : Nat) (ma : Nat) (mf : Nat) (m0 : Nat) (m1 : Nat) (mu : Nat) (mv : Nat) (u0 : Nat) (u1 : Nat) (iz : Nat) (mb : Nat) (th : Int32) (mn : Int32) (mpt : Int32) (mbg : Int32) (mwr : Int32) (mwk : Int32) (mlf : Int32) (men : Int32) (p1 : Int32) (sz : Nat) (hT : ty_V ct S ph ws) (hph : ty_C ph xx) (hy1 : ty_y1 xx) : Met l yX11_noSlot (ws_ yX11_noSlot cX11_noSlot 2 (some .boolean)) ({ frames := 1, cells := 0, slots := 0, locals := 25 } : Room) (va_Pc [.ref mo, .int p1] (cmP D ct sz ([(rf_MO mo mw ma mf m0 m1 mu mv u0 u1 iz th mb mn mpt mbg mwr mwk mlf men)] ++ ws))) (va_Qi (fun (r : Int32) (u : va_W × Int32) => match u with | (u9, th1) => ty_V ct S ph u9 ∧ ((r = 0 ∧ (p1 = 0 ∨ p1 = 1) ∧ th1 = 0) ∨ (r = 1 ∧ ¬ (p1 = 0 ∨ p1 = 1) ∧ th1 = 1))) (cmB D ([(rf_MO mo mw ma mf m0 m1 mu mv u0 u1 iz th mb mn mpt mbg mwr mwk mlf men)] ++ ws) sz (fun (u : va_W × Int32) => match u with | (u9, th1) => ([(rf_MO mo mw ma mf m0 m1 mu mv u0 u1 iz th1 mb mn mpt mbg mwr mwk mlf men)] ++ u9))) (va_A ([(rf_MO mo mw ma mf m0 m1 mu mv u0 u1 iz th mb mn mpt mbg mwr mwk mlf men)] ++ ws) sz)) 0 0 (va_A ([(rf_MO mo mw ma mf m0 m1 mu mv u0 u1 iz th mb mn mpt mbg mwr mwk mlf men)] ++ ws) sz) := sorry
set_option maxRecDepth 100000 in
set_option maxHeartbeats 4000000 in
theorem m_saveSnapshot (l : Launch) (D : va_G) (ct : Nat → ClassId) (S : ty_S) (ws : va_W) (ph : va_W → Prop) (xx : Nat → Nat → Nat → Prop) (mo : Nat) (mw : Nat) (ma : Nat) (mf : Nat) (m0 : Nat) (m1 : Nat) (mu : Nat) (mv : Nat) (u0 : Nat) (u1 : Nat) (iz : Nat) (mb : Nat) (th : Int32) (mn : Int32) (mpt : Int32) (mbg : Int32) (mwr : Int32) (mwk : Int32) (mlf : Int32) (men : Int32) (f : Nat → Int32) (s0 : Nat → Int32) (s1 : Nat → Int32) (k : Nat → Int32) (su : Nat → Int64) (z0 : Nat → Int64) (z1 : Nat → Int64) (p1 : Int32) (sz : Nat) (hT : ty_V ct S ph ws) (hph : ty_C ph xx) (hy1 : ty_y1 xx) (hy11 : ty_y0 xx 11) (hE : rf_E f) (hs0 : k 0 = 0 ∨ rf_E s0) (hs1 : k 1 = 0 ∨ rf_E s1) : Met l yX11_saveSnapshot (ws_ yX11_saveSnapshot cX11_saveSnapshot 2 (some .int)) ({ frames := 2, cells := 0, slots := 0, locals := 46 } : Room) (va_Pc [.ref mo, .int p1] (cmP D ct sz ([(rf_MO mo mw ma mf m0 m1 mu mv u0 u1 iz th mb mn mpt mbg mwr mwk mlf men), (rf_RW ct 0 mw 958 f), (rf_RW ct 0 m0 958 s0), (rf_RW ct 0 m1 958 s1), (rf_RW ct 2 iz 2 k), (mu, .inl (ct 1, 42, .inr (.inl su))), (u0, .inl (ct 1, 42, .inr (.inl z0))), (u1, .inl (ct 1, 42, .inr (.inl z1)))] ++ ws))) (va_Qi (fun (r : Int32) (u : va_W × Int32 × (Nat → Int32) × (Nat → Int32) × (Nat → Int32) × (Nat → Int64) × (Nat → Int64)) => match u with | (u9, th1, s01, s11, k1, z01, z11) => ty_V ct S ph u9 ∧ ((k1 0 = 0 ∨ rf_E s01) ∧ (k1 1 = 0 ∨ rf_E s11)) ∧ q_sv p1 k s0 s1 f k1 s01 s11 su z0 z1 z01 z11 r th1) (cmB D ([(rf_MO mo mw ma mf m0 m1 mu mv u0 u1 iz th mb mn mpt mbg mwr mwk mlf men), (rf_RW ct 0 mw 958 f), (rf_RW ct 0 m0 958 s0), (rf_RW ct 0 m1 958 s1), (rf_RW ct 2 iz 2 k), (mu, .inl (ct 1, 42, .inr (.inl su))), (u0, .inl (ct 1, 42, .inr (.inl z0))), (u1, .inl (ct 1, 42, .inr (.inl z1)))] ++ ws) sz (fun (u : va_W × Int32 × (Nat → Int32) × (Nat → Int32) × (Nat → Int32) × (Nat → Int64) × (Nat → Int64)) => match u with | (u9, th1, s01, s11, k1, z01, z11) => ([(rf_MO mo mw ma mf m0 m1 mu mv u0 u1 iz th1 mb mn mpt mbg mwr mwk mlf men), (rf_RW ct 0 mw 958 f), (rf_RW ct 0 m0 958 s01), (rf_RW ct 0 m1 958 s11), (rf_RW ct 2 iz 2 k1), (mu, .inl (ct 1, 42, .inr (.inl su))), (u0, .inl (ct 1, 42, .inr (.inl z01))), (u1, .inl (ct 1, 42, .inr (.inl z11)))] ++ u9))) (va_A ([(rf_MO mo mw ma mf m0 m1 mu mv u0 u1 iz th mb mn mpt mbg mwr mwk mlf men), (rf_RW ct 0 mw 958 f), (rf_RW ct 0 m0 958 s0), (rf_RW ct 0 m1 958 s1), (rf_RW ct 2 iz 2 k), (mu, .inl (ct 1, 42, .inr (.inl su))), (u0, .inl (ct 1, 42, .inr (.inl z0))), (u1, .inl (ct 1, 42, .inr (.inl z1)))] ++ ws) sz)) 0 0 (va_A ([(rf_MO mo mw ma mf m0 m1 mu mv u0 u1 iz th mb mn mpt mbg mwr mwk mlf men), (rf_RW ct 0 mw 958 f), (rf_RW ct 0 m0 958 s0), (rf_RW ct 0 m1 958 s1), (rf_RW ct 2 iz 2 k), (mu, .inl (ct 1, 42, .inr (.inl su))), (u0, .inl (ct 1, 42, .inr (.inl z0))), (u1, .inl (ct 1, 42, .inr (.inl z1)))] ++ ws) sz) := sorry
set_option maxRecDepth 100000 in
set_option maxHeartbeats 4000000 in
theorem m_restoreSnapshot (l : Launch) (D : va_G) (ct : Nat → ClassId) (S : ty_S) (ws : va_W) (ph : va_W → Prop) (xx : Nat → Nat → Nat → Prop) (mo : Nat) (mw : Nat) (ma : Nat) (mf : Nat) (m0 : Nat) (m1 : Nat) (mu : Nat) (mv : Nat) (u0 : Nat) (u1 : Nat) (iz : Nat) (mb : Nat) (th : Int32) (mn : Int32) (mpt : Int32) (mbg : Int32) (mwr : Int32) (mwk : Int32) (mlf : Int32) (men : Int32) (f : Nat → Int32) (s0 : Nat → Int32) (s1 : Nat → Int32) (k : Nat → Int32) (su : Nat → Int64) (z0 : Nat → Int64) (z1 : Nat → Int64) (p1 : Int32) (sz : Nat) (hT : ty_V ct S ph ws) (hph : ty_C ph xx) (hy1 : ty_y1 xx) (hy11 : ty_y0 xx 11) (hE : rf_E f) (hs0 : k 0 = 0 ∨ rf_E s0) (hs1 : k 1 = 0 ∨ rf_E s1) : Met l yX11_restoreSnapshot (ws_ yX11_restoreSnapshot cX11_restoreSnapshot 2 (some .int)) ({ frames := 2, cells := 0, slots := 0, locals := 46 } : Room) (va_Pc [.ref mo, .int p1] (cmP D ct sz ([(rf_MO mo mw ma mf m0 m1 mu mv u0 u1 iz th mb mn mpt mbg mwr mwk mlf men), (rf_RW ct 0 mw 958 f), (rf_RW ct 0 m0 958 s0), (rf_RW ct 0 m1 958 s1), (rf_RW ct 2 iz 2 k), (mu, .inl (ct 1, 42, .inr (.inl su))), (u0, .inl (ct 1, 42, .inr (.inl z0))), (u1, .inl (ct 1, 42, .inr (.inl z1)))] ++ ws))) (va_Qi (fun (r : Int32) (u : va_W × Int32 × (Nat → Int32) × (Nat → Int64)) => match u with | (u9, th1, f1, su1) => ty_V ct S ph u9 ∧ rf_E f1 ∧ q_rs p1 k s0 s1 f f1 z0 z1 su su1 r th1) (cmB D ([(rf_MO mo mw ma mf m0 m1 mu mv u0 u1 iz th mb mn mpt mbg mwr mwk mlf men), (rf_RW ct 0 mw 958 f), (rf_RW ct 0 m0 958 s0), (rf_RW ct 0 m1 958 s1), (rf_RW ct 2 iz 2 k), (mu, .inl (ct 1, 42, .inr (.inl su))), (u0, .inl (ct 1, 42, .inr (.inl z0))), (u1, .inl (ct 1, 42, .inr (.inl z1)))] ++ ws) sz (fun (u : va_W × Int32 × (Nat → Int32) × (Nat → Int64)) => match u with | (u9, th1, f1, su1) => ([(rf_MO mo mw ma mf m0 m1 mu mv u0 u1 iz th1 mb mn mpt mbg mwr mwk mlf men), (rf_RW ct 0 mw 958 f1), (rf_RW ct 0 m0 958 s0), (rf_RW ct 0 m1 958 s1), (rf_RW ct 2 iz 2 k), (mu, .inl (ct 1, 42, .inr (.inl su1))), (u0, .inl (ct 1, 42, .inr (.inl z0))), (u1, .inl (ct 1, 42, .inr (.inl z1)))] ++ u9))) (va_A ([(rf_MO mo mw ma mf m0 m1 mu mv u0 u1 iz th mb mn mpt mbg mwr mwk mlf men), (rf_RW ct 0 mw 958 f), (rf_RW ct 0 m0 958 s0), (rf_RW ct 0 m1 958 s1), (rf_RW ct 2 iz 2 k), (mu, .inl (ct 1, 42, .inr (.inl su))), (u0, .inl (ct 1, 42, .inr (.inl z0))), (u1, .inl (ct 1, 42, .inr (.inl z1)))] ++ ws) sz)) 0 0 (va_A ([(rf_MO mo mw ma mf m0 m1 mu mv u0 u1 iz th mb mn mpt mbg mwr mwk mlf men), (rf_RW ct 0 mw 958 f), (rf_RW ct 0 m0 958 s0), (rf_RW ct 0 m1 958 s1), (rf_RW ct 2 iz 2 k), (mu, .inl (ct 1, 42, .inr (.inl su))), (u0, .inl (ct 1, 42, .inr (.inl z0))), (u1, .inl (ct 1, 42, .inr (.inl z1)))] ++ ws) sz) := sorry