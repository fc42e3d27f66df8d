/-! worlds by value -/
abbrev fw_C : Type := (Nat → Int32) × (Nat → Int64) × (Nat → Nat → Int32)
abbrev fw_W : Type := (Nat → Int32) × (Nat → Nat → Int32) × (Nat → Int64)
def fw_si {β : Type} (c : (Nat → Int32) × β) (j : Nat) (v : Int32) : (Nat → Int32) × β := (fun i => if i = j then v else c.1 i, c.2)
def fw_sl (c : fw_C) (j : Nat) (v : Int64) : fw_C := (c.1, fun i => if i = j then v else c.2.1 i, c.2.2)
def fw_sr (c : fw_C) (j : Nat) (g : Nat → Int32) : fw_C := (c.1, c.2.1, fun i => if i = j then g else c.2.2 i)
def fw_wr (W : fw_W) (j : Nat) (g : Nat → Int32) : fw_W := (W.1, fun i => if i = j then g else W.2.1 i, W.2.2)
def fw_wn (W : fw_W) (g : Nat → Int64) : fw_W := (W.1, W.2.1, g)
def fw_sx (x : Nat → fw_C) (k : Nat) (c : fw_C) : Nat → fw_C := fun i => if i = k then c else x i
def fc_CH (A : Nat → Nat) (k : Nat) (c : fw_C) : Nat × va_E := (A (16 + 8 * k), .inr (1, [.int (Int32.ofNat k), .ref (A (16 + 8 * k + 1)), .ref (A (16 + 8 * k + 2)), .int (c.1 0), .int (c.1 1), .int (c.1 2), .int (c.1 3), .ref (A (16 + 8 * k + 3)), .ref (A (16 + 8 * k + 4)), .int (c.1 39), .long (c.2.1 4), .long (c.2.1 5), .int (c.1 21), .long (c.2.1 6)]))
def fc_CL (A : Nat → Nat) (k : Nat) (c : fw_C) : Nat × va_E := (A (16 + 8 * k + 1), .inr (0, [.ref (A (16 + 8 * k + 5)), .int (c.1 11), .int (c.1 12), .int (c.1 13), .int (c.1 14), .int (c.1 15), .int (c.1 6), .int (c.1 16), .int (c.1 7), .int (c.1 18), .int (c.1 8), .int (c.1 9), .int (c.1 17), .int (c.1 4), .int (c.1 5), .ref (A (16 + 8 * k + 6))]))
def fc_MT (A : Nat → Nat) (k : Nat) (c : fw_C) : Nat × va_E := (A (16 + 8 * k + 2), .inr (4, [.int (c.1 19), .int (c.1 20), .int (c.1 38), .int (c.1 10), .int (c.1 37), .int (c.1 36), .ref (A (16 + 8 * k + 7))]))
def fc_BK (A : Nat → Nat) (k : Nat) (c : fw_C) : Nat × va_E := (A (16 + 8 * k + 6), .inr (3, [.long (c.2.1 0), .long (c.2.1 1), .long (c.2.1 2), .long (c.2.1 3)]))
def fc_WO (A : Nat → Nat) (W : fw_W) : Nat × va_E := (A 0, .inr (9, [.int (W.1 8), .ref (A 1), .ref (A 2), .ref (A 6), .int (W.1 9), .ref (A 11), .ref (A 12), .ref (A 14)]))
def fc_SE (A : Nat → Nat) (W : fw_W) : Nat × va_E := (A 1, .inr (7, [.int (W.1 0), .int (W.1 1), .int (W.1 2), .int (W.1 3), .int (W.1 4), .int (W.1 5), .int (W.1 6), .int (W.1 7), .int (W.1 13), .int (W.1 14), .int (W.1 15), .int (W.1 16)]))
def fc_CU (A : Nat → Nat) (W : fw_W) : Nat × va_E := (A 2, .inr (2, [.int (W.1 11), .ref (A 3), .ref (A 4), .ref (A 5)]))
def fc_PR (A : Nat → Nat) (W : fw_W) : Nat × va_E := (A 6, .inr (5, [.int (W.1 10), .ref (A 7), .ref (A 8), .ref (A 9), .ref (A 10)]))
def fc_RC (A : Nat → Nat) (W : fw_W) : Nat × va_E := (A 12, .inr (8, [.int 30, .int 5, .ref (A 13), .int (W.1 18), .int (W.1 12)]))
def fc_LG (A : Nat → Nat) (W : fw_W) : Nat × va_E := (A 14, .inr (8, [.int 60, .int 4, .ref (A 15), .int (W.1 19), .int (W.1 17)]))
def fw_q (A : Nat → Nat) : Nat → Option Nat := fun k => some (A (16 + 8 * k))
def fc_NM (ct : Nat → ClassId) (a : Nat) (g : Nat → Int64) : Nat × va_E := (a, .inl (ct 1, 4, .inr (.inl g)))
def fc_CS (ct : Nat → ClassId) (A : Nat → Nat) : Nat × va_E := (A 11, .inl (ct 3, 6, .inr (.inr (.inr (.inr (fw_q A))))))
def fw_ch (ct : Nat → ClassId) (A : Nat → Nat) (k : Nat) (c : fw_C) : va_W := [fc_CH A k c, fc_CL A k c, fc_MT A k c, rf_RW ct 0 (A (16 + 8 * k + 3)) 12 (c.2.2 0), rf_RW ct 0 (A (16 + 8 * k + 4)) 4 (c.2.2 1), rf_RW ct 0 (A (16 + 8 * k + 5)) 11 (c.2.2 2), fc_BK A k c, rf_RW ct 0 (A (16 + 8 * k + 7)) 10 (c.2.2 3)]
def fw_wl (ct : Nat → ClassId) (A : Nat → Nat) (W : fw_W) : va_W := [fc_WO A W, fc_SE A W, fc_CU A W, fc_NM ct (A 3) W.2.2, rf_RW ct 0 (A 4) 4 (W.2.1 0), rf_RW ct 0 (A 5) 44 (W.2.1 1), fc_PR A W, rf_RW ct 0 (A 7) 4 (W.2.1 2), rf_RW ct 0 (A 8) 48 (W.2.1 3), rf_RW ct 0 (A 9) 48 (W.2.1 4), rf_RW ct 0 (A 10) 48 (W.2.1 5), fc_CS ct A, fc_RC A W, rf_RW ct 0 (A 13) 150 (W.2.1 6), fc_LG A W, rf_RW ct 0 (A 15) 240 (W.2.1 7)]
def fw_fs (ct : Nat → ClassId) (A : Nat → Nat) (x : Nat → fw_C) (L : List Nat) : va_W := L.flatMap (fun k => fw_ch ct A k (x k))
def fw_all (ct : Nat → ClassId) (A : Nat → Nat) (x : Nat → fw_C) : va_W := fw_fs ct A x [0, 1, 2, 3, 4, 5]
def fw_oth (ct : Nat → ClassId) (A : Nat → Nat) (x : Nat → fw_C) (k : Nat) : va_W := fw_fs ct A x ([0, 1, 2, 3, 4, 5].erase k)
theorem fw_six {k : Nat} (h : k < 6) : k ∈ [0, 1, 2, 3, 4, 5] := by
  match k, h with
  | 0, _ => decide
  | 1, _ => decide
  | 2, _ => decide
  | 3, _ => decide
  | 4, _ => decide
  | 5, _ => decide
theorem fw_cut {ct : Nat → ClassId} {A : Nat → Nat} {x : Nat → fw_C} {k : Nat} (h : k < 6) : (fw_all ct A x).Perm (fw_ch ct A k (x k) ++ fw_oth ct A x k) := List.Perm.flatMap_right (fun k => fw_ch ct A k (x k)) (List.perm_cons_erase (fw_six h))
theorem fw_othx {ct : Nat → ClassId} {A : Nat → Nat} {x : Nat → fw_C} {k : Nat} {c : fw_C} (h : k < 6) : fw_oth ct A (fw_sx x k c) k = fw_oth ct A x k := by
  match k, h with
  | 0, _ => rfl
  | 1, _ => rfl
  | 2, _ => rfl
  | 3, _ => rfl
  | 4, _ => rfl
  | 5, _ => rfl
theorem fw_join {ct : Nat → ClassId} {A : Nat → Nat} {x : Nat → fw_C} {k : Nat} {c : fw_C} (h : k < 6) : (fw_ch ct A k c ++ fw_oth ct A x k).Perm (fw_all ct A (fw_sx x k c)) := by
  have e : fw_ch ct A k c = fw_ch ct A k (fw_sx x k c k) := by unfold fw_sx; rw [if_pos rfl]
  rw [e, ← fw_othx (c := c) h]
  exact (fw_cut h).symm
/-- a channel's cells come out of the rest, and go back -/
theorem fw_cutL {ct : Nat → ClassId} {A : Nat → Nat} {x : Nat → fw_C} {k : Nat} {E ws : va_W} (h : k < 6) : (E ++ (fw_all ct A x ++ ws)).Perm ((E ++ fw_ch ct A k (x k)) ++ (fw_oth ct A x k ++ ws)) := by
  rw [List.append_assoc]
  refine List.Perm.append_left E ?_
  rw [← List.append_assoc]
  exact List.Perm.append_right ws (fw_cut h)
theorem fw_joinL {ct : Nat → ClassId} {A : Nat → Nat} {x : Nat → fw_C} {k : Nat} {c : fw_C} {E ws : va_W} (h : k < 6) : ((E ++ fw_ch ct A k c) ++ (fw_oth ct A x k ++ ws)).Perm (E ++ (fw_all ct A (fw_sx x k c) ++ ws)) := by
  rw [List.append_assoc]
  refine List.Perm.append_left E ?_
  rw [← List.append_assoc]
  exact List.Perm.append_right ws (fw_join h)
theorem fw_cutL2 {ct : Nat → ClassId} {A : Nat → Nat} {x : Nat → fw_C} {k : Nat} {E T ws : va_W} (h : k < 6) : (E ++ (T ++ (fw_all ct A x ++ ws))).Perm ((E ++ fw_ch ct A k (x k)) ++ (T ++ (fw_oth ct A x k ++ ws))) := by
  have h1 : (T ++ (fw_all ct A x ++ ws)).Perm (fw_all ct A x ++ (T ++ ws)) := List.perm_append_comm_assoc T (fw_all ct A x) ws
  have h2 : (fw_oth ct A x k ++ (T ++ ws)).Perm (T ++ (fw_oth ct A x k ++ ws)) := List.perm_append_comm_assoc (fw_oth ct A x k) T ws
  exact ((List.Perm.append_left E h1).trans (fw_cutL h)).trans (List.Perm.append_left (E ++ fw_ch ct A k (x k)) h2)
theorem fw_joinL2 {ct : Nat → ClassId} {A : Nat → Nat} {x : Nat → fw_C} {k : Nat} {c : fw_C} {E T ws : va_W} (h : k < 6) : ((E ++ fw_ch ct A k c) ++ (T ++ (fw_oth ct A x k ++ ws))).Perm (E ++ (T ++ (fw_all ct A (fw_sx x k c) ++ ws))) := by
  have h1 : (T ++ (fw_oth ct A x k ++ ws)).Perm (fw_oth ct A x k ++ (T ++ ws)) := List.perm_append_comm_assoc T (fw_oth ct A x k) ws
  have h2 : (fw_all ct A (fw_sx x k c) ++ (T ++ ws)).Perm (T ++ (fw_all ct A (fw_sx x k c) ++ ws)) := List.perm_append_comm_assoc (fw_all ct A (fw_sx x k c)) T ws
  exact ((List.Perm.append_left (E ++ fw_ch ct A k c) h1).trans (fw_joinL h)).trans (List.Perm.append_left E h2)
section FWL
variable {l : Launch} {y : MethodName} {wsw : List Cond} {rm : Room} {D : va_G} {ct : Nat → ClassId} {sz mc ms : Nat} {E R WP : va_W} {as : List Value}
theorem fw_free {A0 : Nat → Prop} (hp : WP.Perm (R ++ E)) : ∀ q, va_A E sz q → va_A WP sz q := by
  intro q h
  rcases h with ⟨k, e, h⟩ | h
  · obtain ⟨j, hj⟩ := List.getElem?_of_mem (hp.mem_iff.mpr (List.mem_append_right R (List.mem_of_getElem? h)))
    exact Or.inl ⟨j, e, hj⟩
  · exact Or.inr h
theorem fw_pre {U : State} (hp : WP.Perm (R ++ E)) (h : cmP D ct sz WP U) : cmP D ct sz E U := by
  obtain ⟨h0, h1, h2, h3, h4⟩ := h
  exact ⟨h0, ty_subP (ty_permP h1 hp) (List.sublist_append_right R E), h2, ty_subD (ty_permD h3 hp) (List.sublist_append_right R E), cmX.narrow h4 (fw_free (A0 := fun _ => True) hp)⟩
theorem fw_end {OUT OUT2 : va_W} {st t : State} (hp : WP.Perm (R ++ E)) (h : cmP D ct sz WP st) (hF : va_F (va_A E sz) st t) (hP : va_P D vwCl OUT t.heap) (hD : va_D (va_A E sz) OUT) (ho : (R ++ OUT).Perm OUT2) : (va_P D vwCl OUT2 t.heap ∧ va_D (va_A WP sz) OUT2) ∧ va_F (va_A WP sz) st t := by
  obtain ⟨h0, h1, h2, h3, h4⟩ := h
  have f := fw_free (A0 := fun _ => True) (sz := sz) hp
  have g := va_join (A0 := va_A WP sz) (ty_permP h1 hp) (ty_permD (va_D.self (sz := sz) h3) hp) (List.range' R.length E.length) (List.range' 0 R.length) (ty_rng E R) (ty_rng0 E R) (ty_nd _ _) ty_dis (fun q a b => hF.2 q a (by rw [← h0]; exact b)) (fun q a => f q (by rw [← h0]; exact a)) hP (by rw [h0]; exact hD)
  exact ⟨⟨ty_permP g.1 ho, ty_permD g.2 ho⟩, hF.1, fun q a b => hF.2 q a (fun c => b (f q c))⟩
theorem fw_lifti {S T : Type} {post : Int32 → S → Prop} {OUT : S → va_W} {post2 : Int32 → T → Prop} {OUT2 : T → va_W} (h : Met l y wsw rm (va_Pc as (cmP D ct sz E)) (va_Qi post (cmB D E sz OUT) (va_A E sz)) mc ms (va_A E sz)) (hp : WP.Perm (R ++ E)) (hq : ∀ r u, post r u → ∃ v, post2 r v ∧ (R ++ OUT u).Perm (OUT2 v)) : Met l y wsw rm (va_Pc as (cmP D ct sz WP)) (va_Qi post2 (cmB D WP sz OUT2) (va_A WP sz)) mc ms (va_A WP sz) := by
  refine Jvm.Free.MetFree.mono h (fun a s q => ⟨q.1, fw_pre hp q.2⟩) (fun _ _ _ _ _ _ => trivial) (fun a s o t q c => ?_)
  obtain ⟨⟨⟨r, u, h1, h2, h3, h4⟩, h5⟩, L, h6, h7⟩ := c
  obtain ⟨v, h8, h9⟩ := hq r u h2
  obtain ⟨g1, g2⟩ := fw_end hp q.2 h5 h3 h4 h9
  exact ⟨⟨⟨r, v, h1, h8, g1⟩, g2⟩, L, h6, fun z hz => fw_free (A0 := fun _ => True) hp z (h7 z hz)⟩
theorem fw_liftl {S T : Type} {post : Int64 → S → Prop} {OUT : S → va_W} {post2 : Int64 → T → Prop} {OUT2 : T → va_W} (h : Met l y wsw rm (va_Pc as (cmP D ct sz E)) (va_Ql post (cmB D E sz OUT) (va_A E sz)) mc ms (va_A E sz)) (hp : WP.Perm (R ++ E)) (hq : ∀ r u, post r u → ∃ v, post2 r v ∧ (R ++ OUT u).Perm (OUT2 v)) : Met l y wsw rm (va_Pc as (cmP D ct sz WP)) (va_Ql post2 (cmB D WP sz OUT2) (va_A WP sz)) mc ms (va_A WP sz) := by
  refine Jvm.Free.MetFree.mono h (fun a s q => ⟨q.1, fw_pre hp q.2⟩) (fun _ _ _ _ _ _ => trivial) (fun a s o t q c => ?_)
  obtain ⟨⟨⟨r, u, h1, h2, h3, h4⟩, h5⟩, L, h6, h7⟩ := c
  obtain ⟨v, h8, h9⟩ := hq r u h2
  obtain ⟨g1, g2⟩ := fw_end hp q.2 h5 h3 h4 h9
  exact ⟨⟨⟨r, v, h1, h8, g1⟩, g2⟩, L, h6, fun z hz => fw_free (A0 := fun _ => True) hp z (h7 z hz)⟩
theorem fw_liftf {S T : Type} {post : UInt32 → S → Prop} {OUT : S → va_W} {post2 : UInt32 → T → Prop} {OUT2 : T → va_W} (h : Met l y wsw rm (va_Pc as (cmP D ct sz E)) (va_Qf post (cmB D E sz OUT) (va_A E sz)) mc ms (va_A E sz)) (hp : WP.Perm (R ++ E)) (hq : ∀ r u, post r u → ∃ v, post2 r v ∧ (R ++ OUT u).Perm (OUT2 v)) : Met l y wsw rm (va_Pc as (cmP D ct sz WP)) (va_Qf post2 (cmB D WP sz OUT2) (va_A WP sz)) mc ms (va_A WP sz) := by
  refine Jvm.Free.MetFree.mono h (fun a s q => ⟨q.1, fw_pre hp q.2⟩) (fun _ _ _ _ _ _ => trivial) (fun a s o t q c => ?_)
  obtain ⟨⟨⟨r, u, h1, h2, h3, h4⟩, h5⟩, L, h6, h7⟩ := c
  obtain ⟨v, h8, h9⟩ := hq r u h2
  obtain ⟨g1, g2⟩ := fw_end hp q.2 h5 h3 h4 h9
  exact ⟨⟨⟨r, v, h1, h8, g1⟩, g2⟩, L, h6, fun z hz => fw_free (A0 := fun _ => True) hp z (h7 z hz)⟩
theorem fw_liftd {S T : Type} {post : UInt64 → S → Prop} {OUT : S → va_W} {post2 : UInt64 → T → Prop} {OUT2 : T → va_W} (h : Met l y wsw rm (va_Pc as (cmP D ct sz E)) (va_Qd post (cmB D E sz OUT) (va_A E sz)) mc ms (va_A E sz)) (hp : WP.Perm (R ++ E)) (hq : ∀ r u, post r u → ∃ v, post2 r v ∧ (R ++ OUT u).Perm (OUT2 v)) : Met l y wsw rm (va_Pc as (cmP D ct sz WP)) (va_Qd post2 (cmB D WP sz OUT2) (va_A WP sz)) mc ms (va_A WP sz) := by
  refine Jvm.Free.MetFree.mono h (fun a s q => ⟨q.1, fw_pre hp q.2⟩) (fun _ _ _ _ _ _ => trivial) (fun a s o t q c => ?_)
  obtain ⟨⟨⟨r, u, h1, h2, h3, h4⟩, h5⟩, L, h6, h7⟩ := c
  obtain ⟨v, h8, h9⟩ := hq r u h2
  obtain ⟨g1, g2⟩ := fw_end hp q.2 h5 h3 h4 h9
  exact ⟨⟨⟨r, v, h1, h8, g1⟩, g2⟩, L, h6, fun z hz => fw_free (A0 := fun _ => True) hp z (h7 z hz)⟩
theorem fw_liftv {S T : Type} {post : S → Prop} {OUT : S → va_W} {post2 : T → Prop} {OUT2 : T → va_W} (h : Met l y wsw rm (va_Pc as (cmP D ct sz E)) (va_Qv post (cmB D E sz OUT) (va_A E sz)) mc ms (va_A E sz)) (hp : WP.Perm (R ++ E)) (hq : ∀ u, post u → ∃ v, post2 v ∧ (R ++ OUT u).Perm (OUT2 v)) : Met l y wsw rm (va_Pc as (cmP D ct sz WP)) (va_Qv post2 (cmB D WP sz OUT2) (va_A WP sz)) mc ms (va_A WP sz) := by
  refine Jvm.Free.MetFree.mono h (fun a s q => ⟨q.1, fw_pre hp q.2⟩) (fun _ _ _ _ _ _ => trivial) (fun a s o t q c => ?_)
  obtain ⟨⟨⟨u, h1, h2, h3, h4⟩, h5⟩, L, h6, h7⟩ := c
  obtain ⟨v, h8, h9⟩ := hq u h2
  obtain ⟨g1, g2⟩ := fw_end hp q.2 h5 h3 h4 h9
  exact ⟨⟨⟨v, h1, h8, g1⟩, g2⟩, L, h6, fun z hz => fw_free (A0 := fun _ => True) hp z (h7 z hz)⟩
/-- one that may throw -/
theorem fw_liftx {S9 T9 : Type} {Qc Qc2 : Array Value → State → Outcome → State → Prop} {px : S9 → Prop} {px2 : T9 → Prop} {EX EX2 : List String} {OX : S9 → va_W} {OX2 : T9 → va_W} (h : vx_Met l y wsw rm (va_Pc as (cmP D ct sz E)) Qc (vx_X px (cmBY D E sz EX OX) (va_A E sz)) mc ms (va_A E sz)) (hp : WP.Perm (R ++ E)) (hx : ∀ u, px u → ∃ v, px2 v ∧ (R ++ OX u).Perm (OX2 v)) (he : ∀ q ∈ EX, q ∈ EX2) (hq : ∀ (a : Array Value) (st : State) (o : Outcome) (t : State), cmP D ct sz WP st → Qc a st o t → Qc2 a st o t) : vx_Met l y wsw rm (va_Pc as (cmP D ct sz WP)) Qc2 (vx_X px2 (cmBY D WP sz EX2 OX2) (va_A WP sz)) mc ms (va_A WP sz) := by
  refine Jvm.Free.MetFree.mono h (fun a s q => ⟨q.1, fw_pre hp q.2⟩) (fun _ _ _ _ _ _ => trivial) (fun a s o t q c => ?_)
  rcases c with ⟨c, L, h6, h7⟩ | ⟨z, h1, En, ce, L, ⟨u, h2, ⟨h3, h4, h5⟩, h6⟩, h7, h8, h9, hA, hB, hC⟩
  · exact Or.inl ⟨hq a s o t q.2 c, L, h6, fun z hz => fw_free (A0 := fun _ => True) hp z (h7 z hz)⟩
  · obtain ⟨v, g8, g9⟩ := hx u h2
    obtain ⟨g1, g2⟩ := fw_end hp q.2 h6 h4 h5 g9
    exact Or.inr ⟨z, h1, En, ce, L, ⟨v, g8, ⟨he _ h3, g1⟩, g2⟩, h7, h8, h9, hA, hB, fun z hz => fw_free (A0 := fun _ => True) hp z (hC z hz)⟩
theorem fw_endi {S T : Type} {post : Int32 → S → Prop} {OUT : S → va_W} {post2 : Int32 → T → Prop} {OUT2 : T → va_W} (hp : WP.Perm (R ++ E)) (hq : ∀ r u, post r u → ∃ v, post2 r v ∧ (R ++ OUT u).Perm (OUT2 v)) : ∀ (a : Array Value) (st : State) (o : Outcome) (t : State), cmP D ct sz WP st → va_Qi post (cmB D E sz OUT) (va_A E sz) a st o t → va_Qi post2 (cmB D WP sz OUT2) (va_A WP sz) a st o t := by
  intro a st o t q c
  obtain ⟨⟨r, u, h1, h2, h3, h4⟩, h5⟩ := c
  obtain ⟨v, h8, h9⟩ := hq r u h2
  obtain ⟨g1, g2⟩ := fw_end hp q h5 h3 h4 h9
  exact ⟨⟨r, v, h1, h8, g1⟩, g2⟩
theorem fw_endl {S T : Type} {post : Int64 → S → Prop} {OUT : S → va_W} {post2 : Int64 → T → Prop} {OUT2 : T → va_W} (hp : WP.Perm (R ++ E)) (hq : ∀ r u, post r u → ∃ v, post2 r v ∧ (R ++ OUT u).Perm (OUT2 v)) : ∀ (a : Array Value) (st : State) (o : Outcome) (t : State), cmP D ct sz WP st → va_Ql post (cmB D E sz OUT) (va_A E sz) a st o t → va_Ql post2 (cmB D WP sz OUT2) (va_A WP sz) a st o t := by
  intro a st o t q c
  obtain ⟨⟨r, u, h1, h2, h3, h4⟩, h5⟩ := c
  obtain ⟨v, h8, h9⟩ := hq r u h2
  obtain ⟨g1, g2⟩ := fw_end hp q h5 h3 h4 h9
  exact ⟨⟨r, v, h1, h8, g1⟩, g2⟩
/-- one that doesn't throw, where one that may is asked -/
theorem fw_never {Pc : Array Value → State → Prop} {Qc : Array Value → State → Outcome → State → Prop} {XC : String → State → State → Prop} {free : Addr → Prop} (h : Met l y wsw rm Pc Qc mc ms free) : vx_Met l y wsw rm Pc Qc XC mc ms free := Jvm.Free.MetFree.mono h (fun _ _ q => q) (fun _ _ _ _ _ _ => trivial) (fun _ _ _ _ _ c => Or.inl c)
end FWL
