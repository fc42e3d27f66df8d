/-! worlds by value -/
abbrev fw_C : Type := (Nat → Int32) × (Nat → Int64) × (Nat → Nat → Int32)
abbrev fw_W : Type := (Nat → Int32) × (Nat → Nat → Int32) × (Nat → Int64)
def fw_si {β : Type} (c : (Nat → Int32) × β) (j : Nat) (v : Int32) : (Nat → Int32) × β := (fun i => if i = j then v else c.1 i, c.2)
def fw_sl (c : fw_C) (j : Nat) (v : Int64) : fw_C := (c.1, fun i => if i = j then v else c.2.1 i, c.2.2)
def fw_sr (c : fw_C) (j : Nat) (g : Nat → Int32) : fw_C := (c.1, c.2.1, fun i => if i = j then g else c.2.2 i)
def fw_wr (W : fw_W) (j : Nat) (g : Nat → Int32) : fw_W := (W.1, fun i => if i = j then g else W.2.1 i, W.2.2)
def fw_wn (W : fw_W) (g : Nat → Int64) : fw_W := (W.1, W.2.1, g)
def fw_sx (x : Nat → fw_C) (k : Nat) (c : fw_C) : Nat → fw_C := fun i => if i = k then c else x i
def fc_CH (A : Nat → Nat) (k : Nat) (c : fw_C) : Nat × va_E := (A (16 + 8 * k), .inr (1, [.int (Int32.ofNat k), .ref (A (16 + 8 * k + 1)), .ref (A (16 + 8 * k + 2)), .int (c.1 0), .int (c.1 1), .int (c.1 2), .int (c.1 3), .ref (A (16 + 8 * k + 3)), .ref (A (16 + 8 * k + 4)), .int (c.1 39), .long (c.2.1 4), .long (c.2.1 5), .int (c.1 21), .long (c.2.1 6)]))
def fc_CL (A : Nat → Nat) (k : Nat) (c : fw_C) : Nat × va_E := (A (16 + 8 * k + 1), .inr (0, [.ref (A (16 + 8 * k + 5)), .int (c.1 11), .int (c.1 12), .int (c.1 13), .int (c.1 14), .int (c.1 15), .int (c.1 6), .int (c.1 16), .int (c.1 7), .int (c.1 18), .int (c.1 8), .int (c.1 9), .int (c.1 17), .int (c.1 4), .int (c.1 5), .ref (A (16 + 8 * k + 6))]))
def fc_MT (A : Nat → Nat) (k : Nat) (c : fw_C) : Nat × va_E := (A (16 + 8 * k + 2), .inr (4, [.int (c.1 19), .int (c.1 20), .int (c.1 38), .int (c.1 10), .int (c.1 37), .int (c.1 36), .ref (A (16 + 8 * k + 7))]))
def fc_BK (A : Nat → Nat) (k : Nat) (c : fw_C) : Nat × va_E := (A (16 + 8 * k + 6), .inr (3, [.long (c.2.1 0), .long (c.2.1 1), .long (c.2.1 2), .long (c.2.1 3)]))
def fc_WO (A : Nat → Nat) (W : fw_W) : Nat × va_E := (A 0, .inr (9, [.int (W.1 8), .ref (A 1), .ref (A 2), .ref (A 6), .int (W.1 9), .ref (A 11), .ref (A 12), .ref (A 14)]))
def fc_SE (A : Nat → Nat) (W : fw_W) : Nat × va_E := (A 1, .inr (7, [.int (W.1 0), .int (W.1 1), .int (W.1 2), .int (W.1 3), .int (W.1 4), .int (W.1 5), .int (W.1 6), .int (W.1 7), .int (W.1 13), .int (W.1 14), .int (W.1 15), .int (W.1 16)]))
def fc_CU (A : Nat → Nat) (W : fw_W) : Nat × va_E := (A 2, .inr (2, [.int (W.1 11), .ref (A 3), .ref (A 4), .ref (A 5)]))
def fc_PR (A : Nat → Nat) (W : fw_W) : Nat × va_E := (A 6, .inr (5, [.int (W.1 10), .ref (A 7), .ref (A 8), .ref (A 9), .ref (A 10)]))
def fc_RC (A : Nat → Nat) (W : fw_W) : Nat × va_E := (A 12, .inr (8, [.int 30, .int 5, .ref (A 13), .int (W.1 18), .int (W.1 12)]))
def fc_LG (A : Nat → Nat) (W : fw_W) : Nat × va_E := (A 14, .inr (8, [.int 60, .int 4, .ref (A 15), .int (W.1 19), .int (W.1 17)]))
def fw_q (A : Nat → Nat) : Nat → Option Nat := fun k => some (A (16 + 8 * k))
def fc_NM (ct : Nat → ClassId) (a : Nat) (g : Nat → Int64) : Nat × va_E := (a, .inl (ct 1, 4, .inr (.inl g)))
def fc_CS (ct : Nat → ClassId) (A : Nat → Nat) : Nat × va_E := (A 11, .inl (ct 3, 6, .inr (.inr (.inr (.inr (fw_q A))))))
def fw_ch (ct : Nat → ClassId) (A : Nat → Nat) (k : Nat) (c : fw_C) : va_W := [fc_CH A k c, fc_CL A k c, fc_MT A k c, rf_RW ct 0 (A (16 + 8 * k + 3)) 12 (c.2.2 0), rf_RW ct 0 (A (16 + 8 * k + 4)) 4 (c.2.2 1), rf_RW ct 0 (A (16 + 8 * k + 5)) 11 (c.2.2 2), fc_BK A k c, rf_RW ct 0 (A (16 + 8 * k + 7)) 10 (c.2.2 3)]
def fw_fs (ct : Nat → ClassId) (A : Nat → Nat) (x : Nat → fw_C) (L : List Nat) : va_W := L.flatMap (fun k => fw_ch ct A k (x k))
def fw_all (ct : Nat → ClassId) (A : Nat → Nat) (x : Nat → fw_C) : va_W := fw_fs ct A x [0, 1, 2, 3, 4, 5]
def fw_oth (ct : Nat → ClassId) (A : Nat → Nat) (x : Nat → fw_C) (k : Nat) : va_W := fw_fs ct A x ([0, 1, 2, 3, 4, 5].erase k)
theorem fw_six {k : Nat} (h : k < 6) : k ∈ [0, 1, 2, 3, 4, 5] := by
  match k, h with
  | 0, _ => decide
  | 1, _ => decide
  | 2, _ => decide
  | 3, _ => decide
  | 4, _ => decide
  | 5, _ => decide
theorem fw_cut {ct : Nat → ClassId} {A : Nat → Nat} {x : Nat → fw_C} {k : Nat} (h : k < 6) : (fw_all ct A x).Perm (fw_ch ct A k (x k) ++ fw_oth ct A x k) := List.Perm.flatMap_right (fun k => fw_ch ct A k (x k)) (List.perm_cons_erase (fw_six h))
theorem fw_othx {ct : Nat → ClassId} {A : Nat → Nat} {x : Nat → fw_C} {k : Nat} {c : fw_C} (h : k < 6) : fw_oth ct A (fw_sx x k c) k = fw_oth ct A x k := by
  match k, h with
  | 0, _ => rfl
  | 1, _ => rfl
  | 2, _ => rfl
  | 3, _ => rfl
  | 4, _ => rfl
  | 5, _ => rfl
theorem fw_join {ct : Nat → ClassId} {A : Nat → Nat} {x : Nat → fw_C} {k : Nat} {c : fw_C} (h : k < 6) : (fw_ch ct A k c ++ fw_oth ct A x k).Perm (fw_all ct A (fw_sx x k c)) := by
  have e : fw_ch ct A k c = fw_ch ct A k (fw_sx x k c k) := by unfold fw_sx; rw [if_pos rfl]
  rw [e, ← fw_othx (c := c) h]
  exact (fw_cut h).symm
/-- a channel's cells come out of the rest, and go back -/
theorem fw_cutL {ct : Nat → ClassId} {A : Nat → Nat} {x : Nat → fw_C} {k : Nat} {E ws : va_W} (h : k < 6) : (E ++ (fw_all ct A x ++ ws)).Perm ((E ++ fw_ch ct A k (x k)) ++ (fw_oth ct A x k ++ ws)) := by
  rw [List.append_assoc]
  refine List.Perm.append_left E ?_
  rw [← List.append_assoc]
  exact List.Perm.append_right ws (fw_cut h)
theorem fw_joinL {ct : Nat → ClassId} {A : Nat → Nat} {x : Nat → fw_C} {k : Nat} {c : fw_C} {E ws : va_W} (h : k < 6) : ((E ++ fw_ch ct A k c) ++ (fw_oth ct A x k ++ ws)).Perm (E ++ (fw_all ct A (fw_sx x k c) ++ ws)) := by
  rw [List.append_assoc]
  refine List.Perm.append_left E ?_
  rw [← List.append_assoc]
  exact List.Perm.append_right ws (fw_join h)
theorem fw_cutL2 {ct : Nat → ClassId} {A : Nat → Nat} {x : Nat → fw_C} {k : Nat} {E T ws : va_W} (h : k < 6) : (E ++ (T ++ (fw_all ct A x ++ ws))).Perm ((E ++ fw_ch ct A k (x k)) ++ (T ++ (fw_oth ct A x k ++ ws))) := by
  have h1 : (T ++ (fw_all ct A x ++ ws)).Perm (fw_all ct A x ++ (T ++ ws)) := List.perm_append_comm_assoc T (fw_all ct A x) ws
  have h2 : (fw_oth ct A x k ++ (T ++ ws)).Perm (T ++ (fw_oth ct A x k ++ ws)) := List.perm_append_comm_assoc (fw_oth ct A x k) T ws
  exact ((List.Perm.append_left E h1).trans (fw_cutL h)).trans (List.Perm.append_left (E ++ fw_ch ct A k (x k)) h2)
theorem fw_joinL2 {ct : Nat → ClassId} {A : Nat → Nat} {x : Nat → fw_C} {k : Nat} {c : fw_C} {E T ws : va_W} (h : k < 6) : ((E ++ fw_ch ct A k c) ++ (T ++ (fw_oth ct A x k ++ ws))).Perm (E ++ (T ++ (fw_all ct A (fw_sx x k c) ++ ws))) := by
  have h1 : (T ++ (fw_oth ct A x k ++ ws)).Perm (fw_oth ct A x k ++ (T ++ ws)) := List.perm_append_comm_assoc T (fw_oth ct A x k) ws
  have h2 : (fw_all ct A (fw_sx x k c) ++ (T ++ ws)).Perm (T ++ (fw_all ct A (fw_sx x k c) ++ ws)) := List.perm_append_comm_assoc (fw_all ct A (fw_sx x k c)) T ws
  exact ((List.Perm.append_left (E ++ fw_ch ct A k c) h1).trans (fw_joinL h)).trans (List.Perm.append_left E h2)
section FWL
variable {l : Launch} {y : MethodName} {wsw : List Cond} {rm : Room} {D : va_G} {ct : Nat → ClassId} {sz mc ms : Nat} {E R WP : va_W} {as : List Value}
end FWL
theorem fw_nbx {x : Nat → fw_C} {k : Nat} {c : fw_C} (h : ∀ j : Nat, a_nb ((x j).1 21)) (hc : a_nb (c.1 21)) : ∀ j : Nat, a_nb ((fw_sx x k c j).1 21) := by
  intro j
  unfold fw_sx
  by_cases q : j = k
  · rw [if_pos q]; exact hc
  · rw [if_neg q]; exact h j
theorem ty_mvT {E1 E2 T ws : va_W} : ((E1 ++ E2) ++ (T ++ ws)).Perm ((E1 ++ ws) ++ (E2 ++ T)) := by
  rw [List.append_assoc, List.append_assoc, ← List.append_assoc E2 T ws]
  exact List.Perm.append_left E1 List.perm_append_comm
theorem ty_mvT1 {E1 E2 T1 ws : va_W} : ((E1 ++ E2) ++ (T1 ++ ws)).Perm ((E1 ++ ws) ++ (E2 ++ (T1 ++ []))) := by
  rw [List.append_nil]
  exact ty_mvT
theorem ty_mvT2 {E1 E2 T1 T2 ws : va_W} : ((E1 ++ E2) ++ (T1 ++ (T2 ++ ws))).Perm ((E1 ++ ws) ++ (E2 ++ (T1 ++ (T2 ++ [])))) := by
  rw [List.append_nil, ← List.append_assoc T1 T2 ws]
  exact ty_mvT
theorem ty_mvB {E1 E2 T ws u : va_W} : ((E1 ++ ws) ++ (E2 ++ (T ++ u))).Perm (((E1 ++ E2) ++ (T ++ ws)) ++ u) := by
  rw [← List.append_assoc E2 T u, ← List.append_assoc (E1 ++ ws) (E2 ++ T) u]
  exact List.Perm.append_right u ty_mvT.symm
theorem ty_bkP1 {D : va_G} {cl : List vw_C} {E1 E2 T ws u : va_W} {H : Heap} (h : va_P D cl ((E1 ++ ws) ++ (E2 ++ (T ++ u))) H) : va_P D cl ((E1 ++ E2) ++ (T ++ ws)) H := ty_subP (ty_permP h ty_mvB) (List.sublist_append_left _ u)
theorem ty_bkD1 {A : Nat → Prop} {E1 E2 T ws u : va_W} (h : va_D A ((E1 ++ ws) ++ (E2 ++ (T ++ u)))) : va_D A ((E1 ++ E2) ++ (T ++ ws)) := ty_subD (ty_permD h ty_mvB) (List.sublist_append_left _ u)
theorem ty_bkP2 {D : va_G} {cl : List vw_C} {E1 E2 T1 T2 ws u : va_W} {H : Heap} (h : va_P D cl ((E1 ++ ws) ++ (E2 ++ (T1 ++ (T2 ++ u)))) H) : va_P D cl ((E1 ++ E2) ++ (T1 ++ (T2 ++ ws))) H := by
  rw [← List.append_assoc T1 T2 u] at h
  have k := ty_bkP1 h
  rw [List.append_assoc T1 T2 ws] at k
  exact k
theorem ty_bkD2 {A : Nat → Prop} {E1 E2 T1 T2 ws u : va_W} (h : va_D A ((E1 ++ ws) ++ (E2 ++ (T1 ++ (T2 ++ u))))) : va_D A ((E1 ++ E2) ++ (T1 ++ (T2 ++ ws))) := by
  rw [← List.append_assoc T1 T2 u] at h
  have k := ty_bkD1 h
  rw [List.append_assoc T1 T2 ws] at k
  exact k
theorem ty_bk1PD {D : va_G} {cl : List vw_C} {A : Nat → Prop} {E E1 E2 T ws u : va_W} {H : Heap} (h : va_P D cl ((E1 ++ ws) ++ (E2 ++ (T ++ u))) H) (g : va_D A ((E1 ++ ws) ++ (E2 ++ (T ++ u)))) (e : E1 ++ E2 = E) : va_P D cl (E ++ (T ++ ws)) H ∧ va_D A (E ++ (T ++ ws)) := by
  rw [← e]
  exact ⟨ty_bkP1 h, ty_bkD1 g⟩
theorem ty_bk2PD {D : va_G} {cl : List vw_C} {A : Nat → Prop} {E E1 E2 T1 T2 ws u : va_W} {H : Heap} (h : va_P D cl ((E1 ++ ws) ++ (E2 ++ (T1 ++ (T2 ++ u)))) H) (g : va_D A ((E1 ++ ws) ++ (E2 ++ (T1 ++ (T2 ++ u))))) (e : E1 ++ E2 = E) : va_P D cl (E ++ (T1 ++ (T2 ++ ws))) H ∧ va_D A (E ++ (T1 ++ (T2 ++ ws))) := by
  rw [← e]
  exact ⟨ty_bkP2 h, ty_bkD2 g⟩
