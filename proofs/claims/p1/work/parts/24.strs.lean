abbrev cm_fl (s : State) (b : Nat) : Prop := ∀ c ∈ flatC (Jvm.Cond.and given_1 narrow_1), c.before #[Value.ref b] s = true
theorem st_0e {s : State} {b : Nat} (hf : cm_fl s b) (j : Nat) (hj : j < 5) : (Cond.eq (.elem (.field (Term.string "CellCycler$Reader" 26) "java/lang/String" "value" "[B") (.int (Int32.ofNat j))) (.int ((([[99, 117, 114, 118, 101]] : List (List Int32)).getD 0 []).getD j 0))).before #[Value.ref b] s = true := by
  match j, hj with
  | 0, _ => exact hf _ (by decide +kernel)
  | 1, _ => exact hf _ (by decide +kernel)
  | 2, _ => exact hf _ (by decide +kernel)
  | 3, _ => exact hf _ (by decide +kernel)
  | 4, _ => exact hf _ (by decide +kernel)
  | k + 5, hj => exact absurd hj (by omega)
theorem st_0 {s : State} {b : Nat} {A : Nat → Prop} (hf : cm_fl s b) (hw : ∀ w ∈ lw_tbl, w.before #[Value.ref b] s = true) (hAn : ∀ a : Nat, a < s.heap.size → ¬ A a) : cm_str ("CellCycler$Reader", 26, "curve", [99, 117, 114, 118, 101]) A s s.heap := by
  obtain ⟨adK, adV, h1, h2⟩ := vk_Sof (args := #[Value.ref b]) (s := s) (N := 1) (tm := fun _ => Term.string "CellCycler$Reader" 26) (len := [5]) (byt := [[99, 117, 114, 118, 101]]) (A := A) (fun i hi => by have e9 : i = 0 := (by omega); subst e9; decide) (fun _ _ => hf _ (by decide +kernel)) (fun _ _ => hf _ (by decide +kernel)) (fun _ _ => hf _ (by decide +kernel)) (fun i hi => by have e9 : i = 0 := (by omega); subst e9; exact hf _ (by decide +kernel)) (fun i hi j hj => by have e9 : i = 0 := (by omega); subst e9; exact st_0e hf j hj) (fun i j hi hj h => absurd (by omega) h) hAn
  exact ⟨adK 0, adV 0, vk_R.of (A := #[Value.ref b]) (hw _ (List.mem_append_right _ (cm_t3 _ (List.mem_of_getElem? (i := 62) (by decide +kernel))))) (h2 0 Nat.zero_lt_one), ⟨fun i hi => by have e9 : i = 0 := (by omega); subst e9; exact h1.1 0 Nat.zero_lt_one, fun i j hi hj _ => by omega⟩⟩
theorem st_1e {s : State} {b : Nat} (hf : cm_fl s b) (j : Nat) (hj : j < 4) : (Cond.eq (.elem (.field (Term.string "CellCycler$Reader" 35) "java/lang/String" "value" "[B") (.int (Int32.ofNat j))) (.int ((([[99, 101, 108, 108]] : List (List Int32)).getD 0 []).getD j 0))).before #[Value.ref b] s = true := by
  match j, hj with
  | 0, _ => exact hf _ (by decide +kernel)
  | 1, _ => exact hf _ (by decide +kernel)
  | 2, _ => exact hf _ (by decide +kernel)
  | 3, _ => exact hf _ (by decide +kernel)
  | k + 4, hj => exact absurd hj (by omega)
theorem st_1 {s : State} {b : Nat} {A : Nat → Prop} (hf : cm_fl s b) (hw : ∀ w ∈ lw_tbl, w.before #[Value.ref b] s = true) (hAn : ∀ a : Nat, a < s.heap.size → ¬ A a) : cm_str ("CellCycler$Reader", 35, "cell", [99, 101, 108, 108]) A s s.heap := by
  obtain ⟨adK, adV, h1, h2⟩ := vk_Sof (args := #[Value.ref b]) (s := s) (N := 1) (tm := fun _ => Term.string "CellCycler$Reader" 35) (len := [4]) (byt := [[99, 101, 108, 108]]) (A := A) (fun i hi => by have e9 : i = 0 := (by omega); subst e9; decide) (fun _ _ => hf _ (by decide +kernel)) (fun _ _ => hf _ (by decide +kernel)) (fun _ _ => hf _ (by decide +kernel)) (fun i hi => by have e9 : i = 0 := (by omega); subst e9; exact hf _ (by decide +kernel)) (fun i hi j hj => by have e9 : i = 0 := (by omega); subst e9; exact st_1e hf j hj) (fun i j hi hj h => absurd (by omega) h) hAn
  exact ⟨adK 0, adV 0, vk_R.of (A := #[Value.ref b]) (hw _ (List.mem_append_right _ (cm_t3 _ (List.mem_of_getElem? (i := 152) (by decide +kernel))))) (h2 0 Nat.zero_lt_one), ⟨fun i hi => by have e9 : i = 0 := (by omega); subst e9; exact h1.1 0 Nat.zero_lt_one, fun i j hi hj _ => by omega⟩⟩
theorem st_2e {s : State} {b : Nat} (hf : cm_fl s b) (j : Nat) (hj : j < 7) : (Cond.eq (.elem (.field (Term.string "CellCycler$Reader" 40) "java/lang/String" "value" "[B") (.int (Int32.ofNat j))) (.int ((([[112, 114, 111, 103, 114, 97, 109]] : List (List Int32)).getD 0 []).getD j 0))).before #[Value.ref b] s = true := by
  match j, hj with
  | 0, _ => exact hf _ (by decide +kernel)
  | 1, _ => exact hf _ (by decide +kernel)
  | 2, _ => exact hf _ (by decide +kernel)
  | 3, _ => exact hf _ (by decide +kernel)
  | 4, _ => exact hf _ (by decide +kernel)
  | 5, _ => exact hf _ (by decide +kernel)
  | 6, _ => exact hf _ (by decide +kernel)
  | k + 7, hj => exact absurd hj (by omega)
theorem st_2 {s : State} {b : Nat} {A : Nat → Prop} (hf : cm_fl s b) (hw : ∀ w ∈ lw_tbl, w.before #[Value.ref b] s = true) (hAn : ∀ a : Nat, a < s.heap.size → ¬ A a) : cm_str ("CellCycler$Reader", 40, "program", [112, 114, 111, 103, 114, 97, 109]) A s s.heap := by
  obtain ⟨adK, adV, h1, h2⟩ := vk_Sof (args := #[Value.ref b]) (s := s) (N := 1) (tm := fun _ => Term.string "CellCycler$Reader" 40) (len := [7]) (byt := [[112, 114, 111, 103, 114, 97, 109]]) (A := A) (fun i hi => by have e9 : i = 0 := (by omega); subst e9; decide) (fun _ _ => hf _ (by decide +kernel)) (fun _ _ => hf _ (by decide +kernel)) (fun _ _ => hf _ (by decide +kernel)) (fun i hi => by have e9 : i = 0 := (by omega); subst e9; exact hf _ (by decide +kernel)) (fun i hi j hj => by have e9 : i = 0 := (by omega); subst e9; exact st_2e hf j hj) (fun i j hi hj h => absurd (by omega) h) hAn
  exact ⟨adK 0, adV 0, vk_R.of (A := #[Value.ref b]) (hw _ (List.mem_append_right _ (cm_t3 _ (List.mem_of_getElem? (i := 172) (by decide +kernel))))) (h2 0 Nat.zero_lt_one), ⟨fun i hi => by have e9 : i = 0 := (by omega); subst e9; exact h1.1 0 Nat.zero_lt_one, fun i j hi hj _ => by omega⟩⟩
theorem st_3e {s : State} {b : Nat} (hf : cm_fl s b) (j : Nat) (hj : j < 6) : (Cond.eq (.elem (.field (Term.string "CellCycler$Reader" 209) "java/lang/String" "value" "[B") (.int (Int32.ofNat j))) (.int ((([[99, 104, 97, 114, 103, 101]] : List (List Int32)).getD 0 []).getD j 0))).before #[Value.ref b] s = true := by
  match j, hj with
  | 0, _ => exact hf _ (by decide +kernel)
  | 1, _ => exact hf _ (by decide +kernel)
  | 2, _ => exact hf _ (by decide +kernel)
  | 3, _ => exact hf _ (by decide +kernel)
  | 4, _ => exact hf _ (by decide +kernel)
  | 5, _ => exact hf _ (by decide +kernel)
  | k + 6, hj => exact absurd hj (by omega)
theorem st_3 {s : State} {b : Nat} {A : Nat → Prop} (hf : cm_fl s b) (hw : ∀ w ∈ lw_tbl, w.before #[Value.ref b] s = true) (hAn : ∀ a : Nat, a < s.heap.size → ¬ A a) : cm_str ("CellCycler$Reader", 209, "charge", [99, 104, 97, 114, 103, 101]) A s s.heap := by
  obtain ⟨adK, adV, h1, h2⟩ := vk_Sof (args := #[Value.ref b]) (s := s) (N := 1) (tm := fun _ => Term.string "CellCycler$Reader" 209) (len := [6]) (byt := [[99, 104, 97, 114, 103, 101]]) (A := A) (fun i hi => by have e9 : i = 0 := (by omega); subst e9; decide) (fun _ _ => hf _ (by decide +kernel)) (fun _ _ => hf _ (by decide +kernel)) (fun _ _ => hf _ (by decide +kernel)) (fun i hi => by have e9 : i = 0 := (by omega); subst e9; exact hf _ (by decide +kernel)) (fun i hi j hj => by have e9 : i = 0 := (by omega); subst e9; exact st_3e hf j hj) (fun i j hi hj h => absurd (by omega) h) hAn
  exact ⟨adK 0, adV 0, vk_R.of (A := #[Value.ref b]) (hw _ (List.mem_append_right _ (cm_t3 _ (List.mem_of_getElem? (i := 186) (by decide +kernel))))) (h2 0 Nat.zero_lt_one), ⟨fun i hi => by have e9 : i = 0 := (by omega); subst e9; exact h1.1 0 Nat.zero_lt_one, fun i j hi hj _ => by omega⟩⟩
theorem st_4e {s : State} {b : Nat} (hf : cm_fl s b) (j : Nat) (hj : j < 4) : (Cond.eq (.elem (.field (Term.string "CellCycler$Reader" 215) "java/lang/String" "value" "[B") (.int (Int32.ofNat j))) (.int ((([[104, 111, 108, 100]] : List (List Int32)).getD 0 []).getD j 0))).before #[Value.ref b] s = true := by
  match j, hj with
  | 0, _ => exact hf _ (by decide +kernel)
  | 1, _ => exact hf _ (by decide +kernel)
  | 2, _ => exact hf _ (by decide +kernel)
  | 3, _ => exact hf _ (by decide +kernel)
  | k + 4, hj => exact absurd hj (by omega)
theorem st_4 {s : State} {b : Nat} {A : Nat → Prop} (hf : cm_fl s b) (hw : ∀ w ∈ lw_tbl, w.before #[Value.ref b] s = true) (hAn : ∀ a : Nat, a < s.heap.size → ¬ A a) : cm_str ("CellCycler$Reader", 215, "hold", [104, 111, 108, 100]) A s s.heap := by
  obtain ⟨adK, adV, h1, h2⟩ := vk_Sof (args := #[Value.ref b]) (s := s) (N := 1) (tm := fun _ => Term.string "CellCycler$Reader" 215) (len := [4]) (byt := [[104, 111, 108, 100]]) (A := A) (fun i hi => by have e9 : i = 0 := (by omega); subst e9; decide) (fun _ _ => hf _ (by decide +kernel)) (fun _ _ => hf _ (by decide +kernel)) (fun _ _ => hf _ (by decide +kernel)) (fun i hi => by have e9 : i = 0 := (by omega); subst e9; exact hf _ (by decide +kernel)) (fun i hi j hj => by have e9 : i = 0 := (by omega); subst e9; exact st_4e hf j hj) (fun i j hi hj h => absurd (by omega) h) hAn
  exact ⟨adK 0, adV 0, vk_R.of (A := #[Value.ref b]) (hw _ (List.mem_append_right _ (cm_t3 _ (List.mem_of_getElem? (i := 192) (by decide +kernel))))) (h2 0 Nat.zero_lt_one), ⟨fun i hi => by have e9 : i = 0 := (by omega); subst e9; exact h1.1 0 Nat.zero_lt_one, fun i j hi hj _ => by omega⟩⟩
theorem st_5e {s : State} {b : Nat} (hf : cm_fl s b) (j : Nat) (hj : j < 9) : (Cond.eq (.elem (.field (Term.string "CellCycler$Reader" 217) "java/lang/String" "value" "[B") (.int (Int32.ofNat j))) (.int ((([[100, 105, 115, 99, 104, 97, 114, 103, 101]] : List (List Int32)).getD 0 []).getD j 0))).before #[Value.ref b] s = true := by
  match j, hj with
  | 0, _ => exact hf _ (by decide +kernel)
  | 1, _ => exact hf _ (by decide +kernel)
  | 2, _ => exact hf _ (by decide +kernel)
  | 3, _ => exact hf _ (by decide +kernel)
  | 4, _ => exact hf _ (by decide +kernel)
  | 5, _ => exact hf _ (by decide +kernel)
  | 6, _ => exact hf _ (by decide +kernel)
  | 7, _ => exact hf _ (by decide +kernel)
  | 8, _ => exact hf _ (by decide +kernel)
  | k + 9, hj => exact absurd hj (by omega)
theorem st_5 {s : State} {b : Nat} {A : Nat → Prop} (hf : cm_fl s b) (hw : ∀ w ∈ lw_tbl, w.before #[Value.ref b] s = true) (hAn : ∀ a : Nat, a < s.heap.size → ¬ A a) : cm_str ("CellCycler$Reader", 217, "discharge", [100, 105, 115, 99, 104, 97, 114, 103, 101]) A s s.heap := by
  obtain ⟨adK, adV, h1, h2⟩ := vk_Sof (args := #[Value.ref b]) (s := s) (N := 1) (tm := fun _ => Term.string "CellCycler$Reader" 217) (len := [9]) (byt := [[100, 105, 115, 99, 104, 97, 114, 103, 101]]) (A := A) (fun i hi => by have e9 : i = 0 := (by omega); subst e9; decide) (fun _ _ => hf _ (by decide +kernel)) (fun _ _ => hf _ (by decide +kernel)) (fun _ _ => hf _ (by decide +kernel)) (fun i hi => by have e9 : i = 0 := (by omega); subst e9; exact hf _ (by decide +kernel)) (fun i hi j hj => by have e9 : i = 0 := (by omega); subst e9; exact st_5e hf j hj) (fun i j hi hj h => absurd (by omega) h) hAn
  exact ⟨adK 0, adV 0, vk_R.of (A := #[Value.ref b]) (hw _ (List.mem_append_right _ (cm_t3 _ (List.mem_of_getElem? (i := 193) (by decide +kernel))))) (h2 0 Nat.zero_lt_one), ⟨fun i hi => by have e9 : i = 0 := (by omega); subst e9; exact h1.1 0 Nat.zero_lt_one, fun i j hi hj _ => by omega⟩⟩
theorem st_6e {s : State} {b : Nat} (hf : cm_fl s b) (j : Nat) (hj : j < 4) : (Cond.eq (.elem (.field (Term.string "CellCycler$Reader" 219) "java/lang/String" "value" "[B") (.int (Int32.ofNat j))) (.int ((([[114, 101, 115, 116]] : List (List Int32)).getD 0 []).getD j 0))).before #[Value.ref b] s = true := by
  match j, hj with
  | 0, _ => exact hf _ (by decide +kernel)
  | 1, _ => exact hf _ (by decide +kernel)
  | 2, _ => exact hf _ (by decide +kernel)
  | 3, _ => exact hf _ (by decide +kernel)
  | k + 4, hj => exact absurd hj (by omega)
theorem st_6 {s : State} {b : Nat} {A : Nat → Prop} (hf : cm_fl s b) (hw : ∀ w ∈ lw_tbl, w.before #[Value.ref b] s = true) (hAn : ∀ a : Nat, a < s.heap.size → ¬ A a) : cm_str ("CellCycler$Reader", 219, "rest", [114, 101, 115, 116]) A s s.heap := by
  obtain ⟨adK, adV, h1, h2⟩ := vk_Sof (args := #[Value.ref b]) (s := s) (N := 1) (tm := fun _ => Term.string "CellCycler$Reader" 219) (len := [4]) (byt := [[114, 101, 115, 116]]) (A := A) (fun i hi => by have e9 : i = 0 := (by omega); subst e9; decide) (fun _ _ => hf _ (by decide +kernel)) (fun _ _ => hf _ (by decide +kernel)) (fun _ _ => hf _ (by decide +kernel)) (fun i hi => by have e9 : i = 0 := (by omega); subst e9; exact hf _ (by decide +kernel)) (fun i hi j hj => by have e9 : i = 0 := (by omega); subst e9; exact st_6e hf j hj) (fun i j hi hj h => absurd (by omega) h) hAn
  exact ⟨adK 0, adV 0, vk_R.of (A := #[Value.ref b]) (hw _ (List.mem_append_right _ (cm_t3 _ (List.mem_of_getElem? (i := 194) (by decide +kernel))))) (h2 0 Nat.zero_lt_one), ⟨fun i hi => by have e9 : i = 0 := (by omega); subst e9; exact h1.1 0 Nat.zero_lt_one, fun i j hi hj _ => by omega⟩⟩
theorem st_7e {s : State} {b : Nat} (hf : cm_fl s b) (j : Nat) (hj : j < 6) : (Cond.eq (.elem (.field (Term.string "CellCycler$Reader" 221) "java/lang/String" "value" "[B") (.int (Int32.ofNat j))) (.int ((([[114, 101, 112, 101, 97, 116]] : List (List Int32)).getD 0 []).getD j 0))).before #[Value.ref b] s = true := by
  match j, hj with
  | 0, _ => exact hf _ (by decide +kernel)
  | 1, _ => exact hf _ (by decide +kernel)
  | 2, _ => exact hf _ (by decide +kernel)
  | 3, _ => exact hf _ (by decide +kernel)
  | 4, _ => exact hf _ (by decide +kernel)
  | 5, _ => exact hf _ (by decide +kernel)
  | k + 6, hj => exact absurd hj (by omega)
theorem st_7 {s : State} {b : Nat} {A : Nat → Prop} (hf : cm_fl s b) (hw : ∀ w ∈ lw_tbl, w.before #[Value.ref b] s = true) (hAn : ∀ a : Nat, a < s.heap.size → ¬ A a) : cm_str ("CellCycler$Reader", 221, "repeat", [114, 101, 112, 101, 97, 116]) A s s.heap := by
  obtain ⟨adK, adV, h1, h2⟩ := vk_Sof (args := #[Value.ref b]) (s := s) (N := 1) (tm := fun _ => Term.string "CellCycler$Reader" 221) (len := [6]) (byt := [[114, 101, 112, 101, 97, 116]]) (A := A) (fun i hi => by have e9 : i = 0 := (by omega); subst e9; decide) (fun _ _ => hf _ (by decide +kernel)) (fun _ _ => hf _ (by decide +kernel)) (fun _ _ => hf _ (by decide +kernel)) (fun i hi => by have e9 : i = 0 := (by omega); subst e9; exact hf _ (by decide +kernel)) (fun i hi j hj => by have e9 : i = 0 := (by omega); subst e9; exact st_7e hf j hj) (fun i j hi hj h => absurd (by omega) h) hAn
  exact ⟨adK 0, adV 0, vk_R.of (A := #[Value.ref b]) (hw _ (List.mem_append_right _ (cm_t3 _ (List.mem_of_getElem? (i := 195) (by decide +kernel))))) (h2 0 Nat.zero_lt_one), ⟨fun i hi => by have e9 : i = 0 := (by omega); subst e9; exact h1.1 0 Nat.zero_lt_one, fun i j hi hj _ => by omega⟩⟩
theorem st_8e {s : State} {b : Nat} (hf : cm_fl s b) (j : Nat) (hj : j < 10) : (Cond.eq (.elem (.field (Term.string "CellCycler$Reader" 72) "java/lang/String" "value" "[B") (.int (Int32.ofNat j))) (.int ((([[101, 102, 102, 105, 99, 105, 101, 110, 99, 121]] : List (List Int32)).getD 0 []).getD j 0))).before #[Value.ref b] s = true := by
  match j, hj with
  | 0, _ => exact hf _ (by decide +kernel)
  | 1, _ => exact hf _ (by decide +kernel)
  | 2, _ => exact hf _ (by decide +kernel)
  | 3, _ => exact hf _ (by decide +kernel)
  | 4, _ => exact hf _ (by decide +kernel)
  | 5, _ => exact hf _ (by decide +kernel)
  | 6, _ => exact hf _ (by decide +kernel)
  | 7, _ => exact hf _ (by decide +kernel)
  | 8, _ => exact hf _ (by decide +kernel)
  | 9, _ => exact hf _ (by decide +kernel)
  | k + 10, hj => exact absurd hj (by omega)
theorem st_8 {s : State} {b : Nat} {A : Nat → Prop} (hf : cm_fl s b) (hw : ∀ w ∈ lw_tbl, w.before #[Value.ref b] s = true) (hAn : ∀ a : Nat, a < s.heap.size → ¬ A a) : cm_str ("CellCycler$Reader", 72, "efficiency", [101, 102, 102, 105, 99, 105, 101, 110, 99, 121]) A s s.heap := by
  obtain ⟨adK, adV, h1, h2⟩ := vk_Sof (args := #[Value.ref b]) (s := s) (N := 1) (tm := fun _ => Term.string "CellCycler$Reader" 72) (len := [10]) (byt := [[101, 102, 102, 105, 99, 105, 101, 110, 99, 121]]) (A := A) (fun i hi => by have e9 : i = 0 := (by omega); subst e9; decide) (fun _ _ => hf _ (by decide +kernel)) (fun _ _ => hf _ (by decide +kernel)) (fun _ _ => hf _ (by decide +kernel)) (fun i hi => by have e9 : i = 0 := (by omega); subst e9; exact hf _ (by decide +kernel)) (fun i hi j hj => by have e9 : i = 0 := (by omega); subst e9; exact st_8e hf j hj) (fun i j hi hj h => absurd (by omega) h) hAn
  exact ⟨adK 0, adV 0, vk_R.of (A := #[Value.ref b]) (hw _ (List.mem_append_right _ (cm_t3 _ (List.mem_of_getElem? (i := 200) (by decide +kernel))))) (h2 0 Nat.zero_lt_one), ⟨fun i hi => by have e9 : i = 0 := (by omega); subst e9; exact h1.1 0 Nat.zero_lt_one, fun i j hi hj _ => by omega⟩⟩
theorem st_9e {s : State} {b : Nat} (hf : cm_fl s b) (j : Nat) (hj : j < 4) : (Cond.eq (.elem (.field (Term.string "CellCycler$Reader" 82) "java/lang/String" "value" "[B") (.int (Int32.ofNat j))) (.int ((([[102, 97, 100, 101]] : List (List Int32)).getD 0 []).getD j 0))).before #[Value.ref b] s = true := by
  match j, hj with
  | 0, _ => exact hf _ (by decide +kernel)
  | 1, _ => exact hf _ (by decide +kernel)
  | 2, _ => exact hf _ (by decide +kernel)
  | 3, _ => exact hf _ (by decide +kernel)
  | k + 4, hj => exact absurd hj (by omega)
theorem st_9 {s : State} {b : Nat} {A : Nat → Prop} (hf : cm_fl s b) (hw : ∀ w ∈ lw_tbl, w.before #[Value.ref b] s = true) (hAn : ∀ a : Nat, a < s.heap.size → ¬ A a) : cm_str ("CellCycler$Reader", 82, "fade", [102, 97, 100, 101]) A s s.heap := by
  obtain ⟨adK, adV, h1, h2⟩ := vk_Sof (args := #[Value.ref b]) (s := s) (N := 1) (tm := fun _ => Term.string "CellCycler$Reader" 82) (len := [4]) (byt := [[102, 97, 100, 101]]) (A := A) (fun i hi => by have e9 : i = 0 := (by omega); subst e9; decide) (fun _ _ => hf _ (by decide +kernel)) (fun _ _ => hf _ (by decide +kernel)) (fun _ _ => hf _ (by decide +kernel)) (fun i hi => by have e9 : i = 0 := (by omega); subst e9; exact hf _ (by decide +kernel)) (fun i hi j hj => by have e9 : i = 0 := (by omega); subst e9; exact st_9e hf j hj) (fun i j hi hj h => absurd (by omega) h) hAn
  exact ⟨adK 0, adV 0, vk_R.of (A := #[Value.ref b]) (hw _ (List.mem_append_right _ (cm_t3 _ (List.mem_of_getElem? (i := 201) (by decide +kernel))))) (h2 0 Nat.zero_lt_one), ⟨fun i hi => by have e9 : i = 0 := (by omega); subst e9; exact h1.1 0 Nat.zero_lt_one, fun i j hi hj _ => by omega⟩⟩
theorem st_10e {s : State} {b : Nat} (hf : cm_fl s b) (j : Nat) (hj : j < 4) : (Cond.eq (.elem (.field (Term.string "CellCycler$Reader" 87) "java/lang/String" "value" "[B") (.int (Int32.ofNat j))) (.int ((([[104, 101, 97, 116]] : List (List Int32)).getD 0 []).getD j 0))).before #[Value.ref b] s = true := by
  match j, hj with
  | 0, _ => exact hf _ (by decide +kernel)
  | 1, _ => exact hf _ (by decide +kernel)
  | 2, _ => exact hf _ (by decide +kernel)
  | 3, _ => exact hf _ (by decide +kernel)
  | k + 4, hj => exact absurd hj (by omega)
theorem st_10 {s : State} {b : Nat} {A : Nat → Prop} (hf : cm_fl s b) (hw : ∀ w ∈ lw_tbl, w.before #[Value.ref b] s = true) (hAn : ∀ a : Nat, a < s.heap.size → ¬ A a) : cm_str ("CellCycler$Reader", 87, "heat", [104, 101, 97, 116]) A s s.heap := by
  obtain ⟨adK, adV, h1, h2⟩ := vk_Sof (args := #[Value.ref b]) (s := s) (N := 1) (tm := fun _ => Term.string "CellCycler$Reader" 87) (len := [4]) (byt := [[104, 101, 97, 116]]) (A := A) (fun i hi => by have e9 : i = 0 := (by omega); subst e9; decide) (fun _ _ => hf _ (by decide +kernel)) (fun _ _ => hf _ (by decide +kernel)) (fun _ _ => hf _ (by decide +kernel)) (fun i hi => by have e9 : i = 0 := (by omega); subst e9; exact hf _ (by decide +kernel)) (fun i hi j hj => by have e9 : i = 0 := (by omega); subst e9; exact st_10e hf j hj) (fun i j hi hj h => absurd (by omega) h) hAn
  exact ⟨adK 0, adV 0, vk_R.of (A := #[Value.ref b]) (hw _ (List.mem_append_right _ (cm_t3 _ (List.mem_of_getElem? (i := 203) (by decide +kernel))))) (h2 0 Nat.zero_lt_one), ⟨fun i hi => by have e9 : i = 0 := (by omega); subst e9; exact h1.1 0 Nat.zero_lt_one, fun i j hi hj _ => by omega⟩⟩
theorem st_11e {s : State} {b : Nat} (hf : cm_fl s b) (j : Nat) (hj : j < 6) : (Cond.eq (.elem (.field (Term.string "CellCycler$Reader" 99) "java/lang/String" "value" "[B") (.int (Int32.ofNat j))) (.int ((([[108, 105, 109, 105, 116, 115]] : List (List Int32)).getD 0 []).getD j 0))).before #[Value.ref b] s = true := by
  match j, hj with
  | 0, _ => exact hf _ (by decide +kernel)
  | 1, _ => exact hf _ (by decide +kernel)
  | 2, _ => exact hf _ (by decide +kernel)
  | 3, _ => exact hf _ (by decide +kernel)
  | 4, _ => exact hf _ (by decide +kernel)
  | 5, _ => exact hf _ (by decide +kernel)
  | k + 6, hj => exact absurd hj (by omega)
theorem st_11 {s : State} {b : Nat} {A : Nat → Prop} (hf : cm_fl s b) (hw : ∀ w ∈ lw_tbl, w.before #[Value.ref b] s = true) (hAn : ∀ a : Nat, a < s.heap.size → ¬ A a) : cm_str ("CellCycler$Reader", 99, "limits", [108, 105, 109, 105, 116, 115]) A s s.heap := by
  obtain ⟨adK, adV, h1, h2⟩ := vk_Sof (args := #[Value.ref b]) (s := s) (N := 1) (tm := fun _ => Term.string "CellCycler$Reader" 99) (len := [6]) (byt := [[108, 105, 109, 105, 116, 115]]) (A := A) (fun i hi => by have e9 : i = 0 := (by omega); subst e9; decide) (fun _ _ => hf _ (by decide +kernel)) (fun _ _ => hf _ (by decide +kernel)) (fun _ _ => hf _ (by decide +kernel)) (fun i hi => by have e9 : i = 0 := (by omega); subst e9; exact hf _ (by decide +kernel)) (fun i hi j hj => by have e9 : i = 0 := (by omega); subst e9; exact st_11e hf j hj) (fun i j hi hj h => absurd (by omega) h) hAn
  exact ⟨adK 0, adV 0, vk_R.of (A := #[Value.ref b]) (hw _ (List.mem_append_right _ (cm_t3 _ (List.mem_of_getElem? (i := 204) (by decide +kernel))))) (h2 0 Nat.zero_lt_one), ⟨fun i hi => by have e9 : i = 0 := (by omega); subst e9; exact h1.1 0 Nat.zero_lt_one, fun i j hi hj _ => by omega⟩⟩
theorem st_12e {s : State} {b : Nat} (hf : cm_fl s b) (j : Nat) (hj : j < 7) : (Cond.eq (.elem (.field (Term.string "CellCycler$Reader" 110) "java/lang/String" "value" "[B") (.int (Int32.ofNat j))) (.int ((([[97, 109, 98, 105, 101, 110, 116]] : List (List Int32)).getD 0 []).getD j 0))).before #[Value.ref b] s = true := by
  match j, hj with
  | 0, _ => exact hf _ (by decide +kernel)
  | 1, _ => exact hf _ (by decide +kernel)
  | 2, _ => exact hf _ (by decide +kernel)
  | 3, _ => exact hf _ (by decide +kernel)
  | 4, _ => exact hf _ (by decide +kernel)
  | 5, _ => exact hf _ (by decide +kernel)
  | 6, _ => exact hf _ (by decide +kernel)
  | k + 7, hj => exact absurd hj (by omega)
theorem st_12 {s : State} {b : Nat} {A : Nat → Prop} (hf : cm_fl s b) (hw : ∀ w ∈ lw_tbl, w.before #[Value.ref b] s = true) (hAn : ∀ a : Nat, a < s.heap.size → ¬ A a) : cm_str ("CellCycler$Reader", 110, "ambient", [97, 109, 98, 105, 101, 110, 116]) A s s.heap := by
  obtain ⟨adK, adV, h1, h2⟩ := vk_Sof (args := #[Value.ref b]) (s := s) (N := 1) (tm := fun _ => Term.string "CellCycler$Reader" 110) (len := [7]) (byt := [[97, 109, 98, 105, 101, 110, 116]]) (A := A) (fun i hi => by have e9 : i = 0 := (by omega); subst e9; decide) (fun _ _ => hf _ (by decide +kernel)) (fun _ _ => hf _ (by decide +kernel)) (fun _ _ => hf _ (by decide +kernel)) (fun i hi => by have e9 : i = 0 := (by omega); subst e9; exact hf _ (by decide +kernel)) (fun i hi j hj => by have e9 : i = 0 := (by omega); subst e9; exact st_12e hf j hj) (fun i j hi hj h => absurd (by omega) h) hAn
  exact ⟨adK 0, adV 0, vk_R.of (A := #[Value.ref b]) (hw _ (List.mem_append_right _ (cm_t3 _ (List.mem_of_getElem? (i := 205) (by decide +kernel))))) (h2 0 Nat.zero_lt_one), ⟨fun i hi => by have e9 : i = 0 := (by omega); subst e9; exact h1.1 0 Nat.zero_lt_one, fun i j hi hj _ => by omega⟩⟩
theorem st_13e {s : State} {b : Nat} (hf : cm_fl s b) (j : Nat) (hj : j < 4) : (Cond.eq (.elem (.field (Term.string "CellCycler$Reader" 114) "java/lang/String" "value" "[B") (.int (Int32.ofNat j))) (.int ((([[119, 97, 114, 110]] : List (List Int32)).getD 0 []).getD j 0))).before #[Value.ref b] s = true := by
  match j, hj with
  | 0, _ => exact hf _ (by decide +kernel)
  | 1, _ => exact hf _ (by decide +kernel)
  | 2, _ => exact hf _ (by decide +kernel)
  | 3, _ => exact hf _ (by decide +kernel)
  | k + 4, hj => exact absurd hj (by omega)
theorem st_13 {s : State} {b : Nat} {A : Nat → Prop} (hf : cm_fl s b) (hw : ∀ w ∈ lw_tbl, w.before #[Value.ref b] s = true) (hAn : ∀ a : Nat, a < s.heap.size → ¬ A a) : cm_str ("CellCycler$Reader", 114, "warn", [119, 97, 114, 110]) A s s.heap := by
  obtain ⟨adK, adV, h1, h2⟩ := vk_Sof (args := #[Value.ref b]) (s := s) (N := 1) (tm := fun _ => Term.string "CellCycler$Reader" 114) (len := [4]) (byt := [[119, 97, 114, 110]]) (A := A) (fun i hi => by have e9 : i = 0 := (by omega); subst e9; decide) (fun _ _ => hf _ (by decide +kernel)) (fun _ _ => hf _ (by decide +kernel)) (fun _ _ => hf _ (by decide +kernel)) (fun i hi => by have e9 : i = 0 := (by omega); subst e9; exact hf _ (by decide +kernel)) (fun i hi j hj => by have e9 : i = 0 := (by omega); subst e9; exact st_13e hf j hj) (fun i j hi hj h => absurd (by omega) h) hAn
  exact ⟨adK 0, adV 0, vk_R.of (A := #[Value.ref b]) (hw _ (List.mem_append_right _ (cm_t3 _ (List.mem_of_getElem? (i := 206) (by decide +kernel))))) (h2 0 Nat.zero_lt_one), ⟨fun i hi => by have e9 : i = 0 := (by omega); subst e9; exact h1.1 0 Nat.zero_lt_one, fun i j hi hj _ => by omega⟩⟩
theorem st_14e {s : State} {b : Nat} (hf : cm_fl s b) (j : Nat) (hj : j < 6) : (Cond.eq (.elem (.field (Term.string "CellCycler$Reader" 125) "java/lang/String" "value" "[B") (.int (Int32.ofNat j))) (.int ((([[100, 101, 114, 97, 116, 101]] : List (List Int32)).getD 0 []).getD j 0))).before #[Value.ref b] s = true := by
  match j, hj with
  | 0, _ => exact hf _ (by decide +kernel)
  | 1, _ => exact hf _ (by decide +kernel)
  | 2, _ => exact hf _ (by decide +kernel)
  | 3, _ => exact hf _ (by decide +kernel)
  | 4, _ => exact hf _ (by decide +kernel)
  | 5, _ => exact hf _ (by decide +kernel)
  | k + 6, hj => exact absurd hj (by omega)
theorem st_14 {s : State} {b : Nat} {A : Nat → Prop} (hf : cm_fl s b) (hw : ∀ w ∈ lw_tbl, w.before #[Value.ref b] s = true) (hAn : ∀ a : Nat, a < s.heap.size → ¬ A a) : cm_str ("CellCycler$Reader", 125, "derate", [100, 101, 114, 97, 116, 101]) A s s.heap := by
  obtain ⟨adK, adV, h1, h2⟩ := vk_Sof (args := #[Value.ref b]) (s := s) (N := 1) (tm := fun _ => Term.string "CellCycler$Reader" 125) (len := [6]) (byt := [[100, 101, 114, 97, 116, 101]]) (A := A) (fun i hi => by have e9 : i = 0 := (by omega); subst e9; decide) (fun _ _ => hf _ (by decide +kernel)) (fun _ _ => hf _ (by decide +kernel)) (fun _ _ => hf _ (by decide +kernel)) (fun i hi => by have e9 : i = 0 := (by omega); subst e9; exact hf _ (by decide +kernel)) (fun i hi j hj => by have e9 : i = 0 := (by omega); subst e9; exact st_14e hf j hj) (fun i j hi hj h => absurd (by omega) h) hAn
  exact ⟨adK 0, adV 0, vk_R.of (A := #[Value.ref b]) (hw _ (List.mem_append_right _ (cm_t3 _ (List.mem_of_getElem? (i := 207) (by decide +kernel))))) (h2 0 Nat.zero_lt_one), ⟨fun i hi => by have e9 : i = 0 := (by omega); subst e9; exact h1.1 0 Nat.zero_lt_one, fun i j hi hj _ => by omega⟩⟩
theorem st_15e {s : State} {b : Nat} (hf : cm_fl s b) (j : Nat) (hj : j < 5) : (Cond.eq (.elem (.field (Term.string "CellCyclerModel" 162) "java/lang/String" "value" "[B") (.int (Int32.ofNat j))) (.int ((([[99, 117, 114, 118, 101]] : List (List Int32)).getD 0 []).getD j 0))).before #[Value.ref b] s = true := by
  match j, hj with
  | 0, _ => exact hf _ (by decide +kernel)
  | 1, _ => exact hf _ (by decide +kernel)
  | 2, _ => exact hf _ (by decide +kernel)
  | 3, _ => exact hf _ (by decide +kernel)
  | 4, _ => exact hf _ (by decide +kernel)
  | k + 5, hj => exact absurd hj (by omega)
theorem st_15 {s : State} {b : Nat} {A : Nat → Prop} (hf : cm_fl s b) (hw : ∀ w ∈ lw_tbl, w.before #[Value.ref b] s = true) (hAn : ∀ a : Nat, a < s.heap.size → ¬ A a) : cm_str ("CellCyclerModel", 162, "curve", [99, 117, 114, 118, 101]) A s s.heap := by
  obtain ⟨adK, adV, h1, h2⟩ := vk_Sof (args := #[Value.ref b]) (s := s) (N := 1) (tm := fun _ => Term.string "CellCyclerModel" 162) (len := [5]) (byt := [[99, 117, 114, 118, 101]]) (A := A) (fun i hi => by have e9 : i = 0 := (by omega); subst e9; decide) (fun _ _ => hf _ (by decide +kernel)) (fun _ _ => hf _ (by decide +kernel)) (fun _ _ => hf _ (by decide +kernel)) (fun i hi => by have e9 : i = 0 := (by omega); subst e9; exact hf _ (by decide +kernel)) (fun i hi j hj => by have e9 : i = 0 := (by omega); subst e9; exact st_15e hf j hj) (fun i j hi hj h => absurd (by omega) h) hAn
  exact ⟨adK 0, adV 0, vk_R.of (A := #[Value.ref b]) (hw _ (List.mem_append_right _ (cm_t7 _ (List.mem_of_getElem? (i := 134) (by decide +kernel))))) (h2 0 Nat.zero_lt_one), ⟨fun i hi => by have e9 : i = 0 := (by omega); subst e9; exact h1.1 0 Nat.zero_lt_one, fun i j hi hj _ => by omega⟩⟩
theorem st_16e {s : State} {b : Nat} (hf : cm_fl s b) (j : Nat) (hj : j < 4) : (Cond.eq (.elem (.field (Term.string "CellCyclerModel" 167) "java/lang/String" "value" "[B") (.int (Int32.ofNat j))) (.int ((([[99, 101, 108, 108]] : List (List Int32)).getD 0 []).getD j 0))).before #[Value.ref b] s = true := by
  match j, hj with
  | 0, _ => exact hf _ (by decide +kernel)
  | 1, _ => exact hf _ (by decide +kernel)
  | 2, _ => exact hf _ (by decide +kernel)
  | 3, _ => exact hf _ (by decide +kernel)
  | k + 4, hj => exact absurd hj (by omega)
theorem st_16 {s : State} {b : Nat} {A : Nat → Prop} (hf : cm_fl s b) (hw : ∀ w ∈ lw_tbl, w.before #[Value.ref b] s = true) (hAn : ∀ a : Nat, a < s.heap.size → ¬ A a) : cm_str ("CellCyclerModel", 167, "cell", [99, 101, 108, 108]) A s s.heap := by
  obtain ⟨adK, adV, h1, h2⟩ := vk_Sof (args := #[Value.ref b]) (s := s) (N := 1) (tm := fun _ => Term.string "CellCyclerModel" 167) (len := [4]) (byt := [[99, 101, 108, 108]]) (A := A) (fun i hi => by have e9 : i = 0 := (by omega); subst e9; decide) (fun _ _ => hf _ (by decide +kernel)) (fun _ _ => hf _ (by decide +kernel)) (fun _ _ => hf _ (by decide +kernel)) (fun i hi => by have e9 : i = 0 := (by omega); subst e9; exact hf _ (by decide +kernel)) (fun i hi j hj => by have e9 : i = 0 := (by omega); subst e9; exact st_16e hf j hj) (fun i j hi hj h => absurd (by omega) h) hAn
  exact ⟨adK 0, adV 0, vk_R.of (A := #[Value.ref b]) (hw _ (List.mem_append_right _ (cm_t7 _ (List.mem_of_getElem? (i := 191) (by decide +kernel))))) (h2 0 Nat.zero_lt_one), ⟨fun i hi => by have e9 : i = 0 := (by omega); subst e9; exact h1.1 0 Nat.zero_lt_one, fun i j hi hj _ => by omega⟩⟩
theorem st_17e {s : State} {b : Nat} (hf : cm_fl s b) (j : Nat) (hj : j < 7) : (Cond.eq (.elem (.field (Term.string "CellCyclerModel" 172) "java/lang/String" "value" "[B") (.int (Int32.ofNat j))) (.int ((([[112, 114, 111, 103, 114, 97, 109]] : List (List Int32)).getD 0 []).getD j 0))).before #[Value.ref b] s = true := by
  match j, hj with
  | 0, _ => exact hf _ (by decide +kernel)
  | 1, _ => exact hf _ (by decide +kernel)
  | 2, _ => exact hf _ (by decide +kernel)
  | 3, _ => exact hf _ (by decide +kernel)
  | 4, _ => exact hf _ (by decide +kernel)
  | 5, _ => exact hf _ (by decide +kernel)
  | 6, _ => exact hf _ (by decide +kernel)
  | k + 7, hj => exact absurd hj (by omega)
theorem st_17 {s : State} {b : Nat} {A : Nat → Prop} (hf : cm_fl s b) (hw : ∀ w ∈ lw_tbl, w.before #[Value.ref b] s = true) (hAn : ∀ a : Nat, a < s.heap.size → ¬ A a) : cm_str ("CellCyclerModel", 172, "program", [112, 114, 111, 103, 114, 97, 109]) A s s.heap := by
  obtain ⟨adK, adV, h1, h2⟩ := vk_Sof (args := #[Value.ref b]) (s := s) (N := 1) (tm := fun _ => Term.string "CellCyclerModel" 172) (len := [7]) (byt := [[112, 114, 111, 103, 114, 97, 109]]) (A := A) (fun i hi => by have e9 : i = 0 := (by omega); subst e9; decide) (fun _ _ => hf _ (by decide +kernel)) (fun _ _ => hf _ (by decide +kernel)) (fun _ _ => hf _ (by decide +kernel)) (fun i hi => by have e9 : i = 0 := (by omega); subst e9; exact hf _ (by decide +kernel)) (fun i hi j hj => by have e9 : i = 0 := (by omega); subst e9; exact st_17e hf j hj) (fun i j hi hj h => absurd (by omega) h) hAn
  exact ⟨adK 0, adV 0, vk_R.of (A := #[Value.ref b]) (hw _ (List.mem_append_right _ (cm_t7 _ (List.mem_of_getElem? (i := 196) (by decide +kernel))))) (h2 0 Nat.zero_lt_one), ⟨fun i hi => by have e9 : i = 0 := (by omega); subst e9; exact h1.1 0 Nat.zero_lt_one, fun i j hi hj _ => by omega⟩⟩
theorem st_18e {s : State} {b : Nat} (hf : cm_fl s b) (j : Nat) (hj : j < 6) : (Cond.eq (.elem (.field (Term.string "CellCyclerModel" 144) "java/lang/String" "value" "[B") (.int (Int32.ofNat j))) (.int ((([[99, 104, 97, 114, 103, 101]] : List (List Int32)).getD 0 []).getD j 0))).before #[Value.ref b] s = true := by
  match j, hj with
  | 0, _ => exact hf _ (by decide +kernel)
  | 1, _ => exact hf _ (by decide +kernel)
  | 2, _ => exact hf _ (by decide +kernel)
  | 3, _ => exact hf _ (by decide +kernel)
  | 4, _ => exact hf _ (by decide +kernel)
  | 5, _ => exact hf _ (by decide +kernel)
  | k + 6, hj => exact absurd hj (by omega)
theorem st_18 {s : State} {b : Nat} {A : Nat → Prop} (hf : cm_fl s b) (hw : ∀ w ∈ lw_tbl, w.before #[Value.ref b] s = true) (hAn : ∀ a : Nat, a < s.heap.size → ¬ A a) : cm_str ("CellCyclerModel", 144, "charge", [99, 104, 97, 114, 103, 101]) A s s.heap := by
  obtain ⟨adK, adV, h1, h2⟩ := vk_Sof (args := #[Value.ref b]) (s := s) (N := 1) (tm := fun _ => Term.string "CellCyclerModel" 144) (len := [6]) (byt := [[99, 104, 97, 114, 103, 101]]) (A := A) (fun i hi => by have e9 : i = 0 := (by omega); subst e9; decide) (fun _ _ => hf _ (by decide +kernel)) (fun _ _ => hf _ (by decide +kernel)) (fun _ _ => hf _ (by decide +kernel)) (fun i hi => by have e9 : i = 0 := (by omega); subst e9; exact hf _ (by decide +kernel)) (fun i hi j hj => by have e9 : i = 0 := (by omega); subst e9; exact st_18e hf j hj) (fun i j hi hj h => absurd (by omega) h) hAn
  exact ⟨adK 0, adV 0, vk_R.of (A := #[Value.ref b]) (hw _ (List.mem_append_right _ (cm_t7 _ (List.mem_of_getElem? (i := 205) (by decide +kernel))))) (h2 0 Nat.zero_lt_one), ⟨fun i hi => by have e9 : i = 0 := (by omega); subst e9; exact h1.1 0 Nat.zero_lt_one, fun i j hi hj _ => by omega⟩⟩
theorem st_19e {s : State} {b : Nat} (hf : cm_fl s b) (j : Nat) (hj : j < 4) : (Cond.eq (.elem (.field (Term.string "CellCyclerModel" 150) "java/lang/String" "value" "[B") (.int (Int32.ofNat j))) (.int ((([[104, 111, 108, 100]] : List (List Int32)).getD 0 []).getD j 0))).before #[Value.ref b] s = true := by
  match j, hj with
  | 0, _ => exact hf _ (by decide +kernel)
  | 1, _ => exact hf _ (by decide +kernel)
  | 2, _ => exact hf _ (by decide +kernel)
  | 3, _ => exact hf _ (by decide +kernel)
  | k + 4, hj => exact absurd hj (by omega)
theorem st_19 {s : State} {b : Nat} {A : Nat → Prop} (hf : cm_fl s b) (hw : ∀ w ∈ lw_tbl, w.before #[Value.ref b] s = true) (hAn : ∀ a : Nat, a < s.heap.size → ¬ A a) : cm_str ("CellCyclerModel", 150, "hold", [104, 111, 108, 100]) A s s.heap := by
  obtain ⟨adK, adV, h1, h2⟩ := vk_Sof (args := #[Value.ref b]) (s := s) (N := 1) (tm := fun _ => Term.string "CellCyclerModel" 150) (len := [4]) (byt := [[104, 111, 108, 100]]) (A := A) (fun i hi => by have e9 : i = 0 := (by omega); subst e9; decide) (fun _ _ => hf _ (by decide +kernel)) (fun _ _ => hf _ (by decide +kernel)) (fun _ _ => hf _ (by decide +kernel)) (fun i hi => by have e9 : i = 0 := (by omega); subst e9; exact hf _ (by decide +kernel)) (fun i hi j hj => by have e9 : i = 0 := (by omega); subst e9; exact st_19e hf j hj) (fun i j hi hj h => absurd (by omega) h) hAn
  exact ⟨adK 0, adV 0, vk_R.of (A := #[Value.ref b]) (hw _ (List.mem_append_right _ (cm_t7 _ (List.mem_of_getElem? (i := 206) (by decide +kernel))))) (h2 0 Nat.zero_lt_one), ⟨fun i hi => by have e9 : i = 0 := (by omega); subst e9; exact h1.1 0 Nat.zero_lt_one, fun i j hi hj _ => by omega⟩⟩
theorem st_20e {s : State} {b : Nat} (hf : cm_fl s b) (j : Nat) (hj : j < 9) : (Cond.eq (.elem (.field (Term.string "CellCyclerModel" 152) "java/lang/String" "value" "[B") (.int (Int32.ofNat j))) (.int ((([[100, 105, 115, 99, 104, 97, 114, 103, 101]] : List (List Int32)).getD 0 []).getD j 0))).before #[Value.ref b] s = true := by
  match j, hj with
  | 0, _ => exact hf _ (by decide +kernel)
  | 1, _ => exact hf _ (by decide +kernel)
  | 2, _ => exact hf _ (by decide +kernel)
  | 3, _ => exact hf _ (by decide +kernel)
  | 4, _ => exact hf _ (by decide +kernel)
  | 5, _ => exact hf _ (by decide +kernel)
  | 6, _ => exact hf _ (by decide +kernel)
  | 7, _ => exact hf _ (by decide +kernel)
  | 8, _ => exact hf _ (by decide +kernel)
  | k + 9, hj => exact absurd hj (by omega)
theorem st_20 {s : State} {b : Nat} {A : Nat → Prop} (hf : cm_fl s b) (hw : ∀ w ∈ lw_tbl, w.before #[Value.ref b] s = true) (hAn : ∀ a : Nat, a < s.heap.size → ¬ A a) : cm_str ("CellCyclerModel", 152, "discharge", [100, 105, 115, 99, 104, 97, 114, 103, 101]) A s s.heap := by
  obtain ⟨adK, adV, h1, h2⟩ := vk_Sof (args := #[Value.ref b]) (s := s) (N := 1) (tm := fun _ => Term.string "CellCyclerModel" 152) (len := [9]) (byt := [[100, 105, 115, 99, 104, 97, 114, 103, 101]]) (A := A) (fun i hi => by have e9 : i = 0 := (by omega); subst e9; decide) (fun _ _ => hf _ (by decide +kernel)) (fun _ _ => hf _ (by decide +kernel)) (fun _ _ => hf _ (by decide +kernel)) (fun i hi => by have e9 : i = 0 := (by omega); subst e9; exact hf _ (by decide +kernel)) (fun i hi j hj => by have e9 : i = 0 := (by omega); subst e9; exact st_20e hf j hj) (fun i j hi hj h => absurd (by omega) h) hAn
  exact ⟨adK 0, adV 0, vk_R.of (A := #[Value.ref b]) (hw _ (List.mem_append_right _ (cm_t7 _ (List.mem_of_getElem? (i := 207) (by decide +kernel))))) (h2 0 Nat.zero_lt_one), ⟨fun i hi => by have e9 : i = 0 := (by omega); subst e9; exact h1.1 0 Nat.zero_lt_one, fun i j hi hj _ => by omega⟩⟩
theorem st_21e {s : State} {b : Nat} (hf : cm_fl s b) (j : Nat) (hj : j < 4) : (Cond.eq (.elem (.field (Term.string "CellCyclerModel" 154) "java/lang/String" "value" "[B") (.int (Int32.ofNat j))) (.int ((([[114, 101, 115, 116]] : List (List Int32)).getD 0 []).getD j 0))).before #[Value.ref b] s = true := by
  match j, hj with
  | 0, _ => exact hf _ (by decide +kernel)
  | 1, _ => exact hf _ (by decide +kernel)
  | 2, _ => exact hf _ (by decide +kernel)
  | 3, _ => exact hf _ (by decide +kernel)
  | k + 4, hj => exact absurd hj (by omega)
theorem st_21 {s : State} {b : Nat} {A : Nat → Prop} (hf : cm_fl s b) (hw : ∀ w ∈ lw_tbl, w.before #[Value.ref b] s = true) (hAn : ∀ a : Nat, a < s.heap.size → ¬ A a) : cm_str ("CellCyclerModel", 154, "rest", [114, 101, 115, 116]) A s s.heap := by
  obtain ⟨adK, adV, h1, h2⟩ := vk_Sof (args := #[Value.ref b]) (s := s) (N := 1) (tm := fun _ => Term.string "CellCyclerModel" 154) (len := [4]) (byt := [[114, 101, 115, 116]]) (A := A) (fun i hi => by have e9 : i = 0 := (by omega); subst e9; decide) (fun _ _ => hf _ (by decide +kernel)) (fun _ _ => hf _ (by decide +kernel)) (fun _ _ => hf _ (by decide +kernel)) (fun i hi => by have e9 : i = 0 := (by omega); subst e9; exact hf _ (by decide +kernel)) (fun i hi j hj => by have e9 : i = 0 := (by omega); subst e9; exact st_21e hf j hj) (fun i j hi hj h => absurd (by omega) h) hAn
  exact ⟨adK 0, adV 0, vk_R.of (A := #[Value.ref b]) (hw _ (List.mem_append_right _ (cm_t7 _ (List.mem_of_getElem? (i := 208) (by decide +kernel))))) (h2 0 Nat.zero_lt_one), ⟨fun i hi => by have e9 : i = 0 := (by omega); subst e9; exact h1.1 0 Nat.zero_lt_one, fun i j hi hj _ => by omega⟩⟩
theorem st_22e {s : State} {b : Nat} (hf : cm_fl s b) (j : Nat) (hj : j < 6) : (Cond.eq (.elem (.field (Term.string "CellCyclerModel" 156) "java/lang/String" "value" "[B") (.int (Int32.ofNat j))) (.int ((([[114, 101, 112, 101, 97, 116]] : List (List Int32)).getD 0 []).getD j 0))).before #[Value.ref b] s = true := by
  match j, hj with
  | 0, _ => exact hf _ (by decide +kernel)
  | 1, _ => exact hf _ (by decide +kernel)
  | 2, _ => exact hf _ (by decide +kernel)
  | 3, _ => exact hf _ (by decide +kernel)
  | 4, _ => exact hf _ (by decide +kernel)
  | 5, _ => exact hf _ (by decide +kernel)
  | k + 6, hj => exact absurd hj (by omega)
theorem st_22 {s : State} {b : Nat} {A : Nat → Prop} (hf : cm_fl s b) (hw : ∀ w ∈ lw_tbl, w.before #[Value.ref b] s = true) (hAn : ∀ a : Nat, a < s.heap.size → ¬ A a) : cm_str ("CellCyclerModel", 156, "repeat", [114, 101, 112, 101, 97, 116]) A s s.heap := by
  obtain ⟨adK, adV, h1, h2⟩ := vk_Sof (args := #[Value.ref b]) (s := s) (N := 1) (tm := fun _ => Term.string "CellCyclerModel" 156) (len := [6]) (byt := [[114, 101, 112, 101, 97, 116]]) (A := A) (fun i hi => by have e9 : i = 0 := (by omega); subst e9; decide) (fun _ _ => hf _ (by decide +kernel)) (fun _ _ => hf _ (by decide +kernel)) (fun _ _ => hf _ (by decide +kernel)) (fun i hi => by have e9 : i = 0 := (by omega); subst e9; exact hf _ (by decide +kernel)) (fun i hi j hj => by have e9 : i = 0 := (by omega); subst e9; exact st_22e hf j hj) (fun i j hi hj h => absurd (by omega) h) hAn
  exact ⟨adK 0, adV 0, vk_R.of (A := #[Value.ref b]) (hw _ (List.mem_append_right _ (cm_t7 _ (List.mem_of_getElem? (i := 209) (by decide +kernel))))) (h2 0 Nat.zero_lt_one), ⟨fun i hi => by have e9 : i = 0 := (by omega); subst e9; exact h1.1 0 Nat.zero_lt_one, fun i j hi hj _ => by omega⟩⟩
theorem st_23e {s : State} {b : Nat} (hf : cm_fl s b) (j : Nat) (hj : j < 10) : (Cond.eq (.elem (.field (Term.string "CellCyclerModel" 177) "java/lang/String" "value" "[B") (.int (Int32.ofNat j))) (.int ((([[101, 102, 102, 105, 99, 105, 101, 110, 99, 121]] : List (List Int32)).getD 0 []).getD j 0))).before #[Value.ref b] s = true := by
  match j, hj with
  | 0, _ => exact hf _ (by decide +kernel)
  | 1, _ => exact hf _ (by decide +kernel)
  | 2, _ => exact hf _ (by decide +kernel)
  | 3, _ => exact hf _ (by decide +kernel)
  | 4, _ => exact hf _ (by decide +kernel)
  | 5, _ => exact hf _ (by decide +kernel)
  | 6, _ => exact hf _ (by decide +kernel)
  | 7, _ => exact hf _ (by decide +kernel)
  | 8, _ => exact hf _ (by decide +kernel)
  | 9, _ => exact hf _ (by decide +kernel)
  | k + 10, hj => exact absurd hj (by omega)
theorem st_23 {s : State} {b : Nat} {A : Nat → Prop} (hf : cm_fl s b) (hw : ∀ w ∈ lw_tbl, w.before #[Value.ref b] s = true) (hAn : ∀ a : Nat, a < s.heap.size → ¬ A a) : cm_str ("CellCyclerModel", 177, "efficiency", [101, 102, 102, 105, 99, 105, 101, 110, 99, 121]) A s s.heap := by
  obtain ⟨adK, adV, h1, h2⟩ := vk_Sof (args := #[Value.ref b]) (s := s) (N := 1) (tm := fun _ => Term.string "CellCyclerModel" 177) (len := [10]) (byt := [[101, 102, 102, 105, 99, 105, 101, 110, 99, 121]]) (A := A) (fun i hi => by have e9 : i = 0 := (by omega); subst e9; decide) (fun _ _ => hf _ (by decide +kernel)) (fun _ _ => hf _ (by decide +kernel)) (fun _ _ => hf _ (by decide +kernel)) (fun i hi => by have e9 : i = 0 := (by omega); subst e9; exact hf _ (by decide +kernel)) (fun i hi j hj => by have e9 : i = 0 := (by omega); subst e9; exact st_23e hf j hj) (fun i j hi hj h => absurd (by omega) h) hAn
  exact ⟨adK 0, adV 0, vk_R.of (A := #[Value.ref b]) (hw _ (List.mem_append_right _ (cm_t7 _ (List.mem_of_getElem? (i := 210) (by decide +kernel))))) (h2 0 Nat.zero_lt_one), ⟨fun i hi => by have e9 : i = 0 := (by omega); subst e9; exact h1.1 0 Nat.zero_lt_one, fun i j hi hj _ => by omega⟩⟩
theorem st_24e {s : State} {b : Nat} (hf : cm_fl s b) (j : Nat) (hj : j < 4) : (Cond.eq (.elem (.field (Term.string "CellCyclerModel" 179) "java/lang/String" "value" "[B") (.int (Int32.ofNat j))) (.int ((([[102, 97, 100, 101]] : List (List Int32)).getD 0 []).getD j 0))).before #[Value.ref b] s = true := by
  match j, hj with
  | 0, _ => exact hf _ (by decide +kernel)
  | 1, _ => exact hf _ (by decide +kernel)
  | 2, _ => exact hf _ (by decide +kernel)
  | 3, _ => exact hf _ (by decide +kernel)
  | k + 4, hj => exact absurd hj (by omega)
theorem st_24 {s : State} {b : Nat} {A : Nat → Prop} (hf : cm_fl s b) (hw : ∀ w ∈ lw_tbl, w.before #[Value.ref b] s = true) (hAn : ∀ a : Nat, a < s.heap.size → ¬ A a) : cm_str ("CellCyclerModel", 179, "fade", [102, 97, 100, 101]) A s s.heap := by
  obtain ⟨adK, adV, h1, h2⟩ := vk_Sof (args := #[Value.ref b]) (s := s) (N := 1) (tm := fun _ => Term.string "CellCyclerModel" 179) (len := [4]) (byt := [[102, 97, 100, 101]]) (A := A) (fun i hi => by have e9 : i = 0 := (by omega); subst e9; decide) (fun _ _ => hf _ (by decide +kernel)) (fun _ _ => hf _ (by decide +kernel)) (fun _ _ => hf _ (by decide +kernel)) (fun i hi => by have e9 : i = 0 := (by omega); subst e9; exact hf _ (by decide +kernel)) (fun i hi j hj => by have e9 : i = 0 := (by omega); subst e9; exact st_24e hf j hj) (fun i j hi hj h => absurd (by omega) h) hAn
  exact ⟨adK 0, adV 0, vk_R.of (A := #[Value.ref b]) (hw _ (List.mem_append_right _ (cm_t7 _ (List.mem_of_getElem? (i := 211) (by decide +kernel))))) (h2 0 Nat.zero_lt_one), ⟨fun i hi => by have e9 : i = 0 := (by omega); subst e9; exact h1.1 0 Nat.zero_lt_one, fun i j hi hj _ => by omega⟩⟩
theorem st_25e {s : State} {b : Nat} (hf : cm_fl s b) (j : Nat) (hj : j < 4) : (Cond.eq (.elem (.field (Term.string "CellCyclerModel" 182) "java/lang/String" "value" "[B") (.int (Int32.ofNat j))) (.int ((([[104, 101, 97, 116]] : List (List Int32)).getD 0 []).getD j 0))).before #[Value.ref b] s = true := by
  match j, hj with
  | 0, _ => exact hf _ (by decide +kernel)
  | 1, _ => exact hf _ (by decide +kernel)
  | 2, _ => exact hf _ (by decide +kernel)
  | 3, _ => exact hf _ (by decide +kernel)
  | k + 4, hj => exact absurd hj (by omega)
theorem st_25 {s : State} {b : Nat} {A : Nat → Prop} (hf : cm_fl s b) (hw : ∀ w ∈ lw_tbl, w.before #[Value.ref b] s = true) (hAn : ∀ a : Nat, a < s.heap.size → ¬ A a) : cm_str ("CellCyclerModel", 182, "heat", [104, 101, 97, 116]) A s s.heap := by
  obtain ⟨adK, adV, h1, h2⟩ := vk_Sof (args := #[Value.ref b]) (s := s) (N := 1) (tm := fun _ => Term.string "CellCyclerModel" 182) (len := [4]) (byt := [[104, 101, 97, 116]]) (A := A) (fun i hi => by have e9 : i = 0 := (by omega); subst e9; decide) (fun _ _ => hf _ (by decide +kernel)) (fun _ _ => hf _ (by decide +kernel)) (fun _ _ => hf _ (by decide +kernel)) (fun i hi => by have e9 : i = 0 := (by omega); subst e9; exact hf _ (by decide +kernel)) (fun i hi j hj => by have e9 : i = 0 := (by omega); subst e9; exact st_25e hf j hj) (fun i j hi hj h => absurd (by omega) h) hAn
  exact ⟨adK 0, adV 0, vk_R.of (A := #[Value.ref b]) (hw _ (List.mem_append_right _ (cm_t7 _ (List.mem_of_getElem? (i := 213) (by decide +kernel))))) (h2 0 Nat.zero_lt_one), ⟨fun i hi => by have e9 : i = 0 := (by omega); subst e9; exact h1.1 0 Nat.zero_lt_one, fun i j hi hj _ => by omega⟩⟩
theorem st_26e {s : State} {b : Nat} (hf : cm_fl s b) (j : Nat) (hj : j < 6) : (Cond.eq (.elem (.field (Term.string "CellCyclerModel" 187) "java/lang/String" "value" "[B") (.int (Int32.ofNat j))) (.int ((([[108, 105, 109, 105, 116, 115]] : List (List Int32)).getD 0 []).getD j 0))).before #[Value.ref b] s = true := by
  match j, hj with
  | 0, _ => exact hf _ (by decide +kernel)
  | 1, _ => exact hf _ (by decide +kernel)
  | 2, _ => exact hf _ (by decide +kernel)
  | 3, _ => exact hf _ (by decide +kernel)
  | 4, _ => exact hf _ (by decide +kernel)
  | 5, _ => exact hf _ (by decide +kernel)
  | k + 6, hj => exact absurd hj (by omega)
theorem st_26 {s : State} {b : Nat} {A : Nat → Prop} (hf : cm_fl s b) (hw : ∀ w ∈ lw_tbl, w.before #[Value.ref b] s = true) (hAn : ∀ a : Nat, a < s.heap.size → ¬ A a) : cm_str ("CellCyclerModel", 187, "limits", [108, 105, 109, 105, 116, 115]) A s s.heap := by
  obtain ⟨adK, adV, h1, h2⟩ := vk_Sof (args := #[Value.ref b]) (s := s) (N := 1) (tm := fun _ => Term.string "CellCyclerModel" 187) (len := [6]) (byt := [[108, 105, 109, 105, 116, 115]]) (A := A) (fun i hi => by have e9 : i = 0 := (by omega); subst e9; decide) (fun _ _ => hf _ (by decide +kernel)) (fun _ _ => hf _ (by decide +kernel)) (fun _ _ => hf _ (by decide +kernel)) (fun i hi => by have e9 : i = 0 := (by omega); subst e9; exact hf _ (by decide +kernel)) (fun i hi j hj => by have e9 : i = 0 := (by omega); subst e9; exact st_26e hf j hj) (fun i j hi hj h => absurd (by omega) h) hAn
  exact ⟨adK 0, adV 0, vk_R.of (A := #[Value.ref b]) (hw _ (List.mem_append_right _ (cm_t7 _ (List.mem_of_getElem? (i := 215) (by decide +kernel))))) (h2 0 Nat.zero_lt_one), ⟨fun i hi => by have e9 : i = 0 := (by omega); subst e9; exact h1.1 0 Nat.zero_lt_one, fun i j hi hj _ => by omega⟩⟩
theorem st_27e {s : State} {b : Nat} (hf : cm_fl s b) (j : Nat) (hj : j < 4) : (Cond.eq (.elem (.field (Term.string "CellCyclerModel" 189) "java/lang/String" "value" "[B") (.int (Int32.ofNat j))) (.int ((([[119, 97, 114, 110]] : List (List Int32)).getD 0 []).getD j 0))).before #[Value.ref b] s = true := by
  match j, hj with
  | 0, _ => exact hf _ (by decide +kernel)
  | 1, _ => exact hf _ (by decide +kernel)
  | 2, _ => exact hf _ (by decide +kernel)
  | 3, _ => exact hf _ (by decide +kernel)
  | k + 4, hj => exact absurd hj (by omega)
theorem st_27 {s : State} {b : Nat} {A : Nat → Prop} (hf : cm_fl s b) (hw : ∀ w ∈ lw_tbl, w.before #[Value.ref b] s = true) (hAn : ∀ a : Nat, a < s.heap.size → ¬ A a) : cm_str ("CellCyclerModel", 189, "warn", [119, 97, 114, 110]) A s s.heap := by
  obtain ⟨adK, adV, h1, h2⟩ := vk_Sof (args := #[Value.ref b]) (s := s) (N := 1) (tm := fun _ => Term.string "CellCyclerModel" 189) (len := [4]) (byt := [[119, 97, 114, 110]]) (A := A) (fun i hi => by have e9 : i = 0 := (by omega); subst e9; decide) (fun _ _ => hf _ (by decide +kernel)) (fun _ _ => hf _ (by decide +kernel)) (fun _ _ => hf _ (by decide +kernel)) (fun i hi => by have e9 : i = 0 := (by omega); subst e9; exact hf _ (by decide +kernel)) (fun i hi j hj => by have e9 : i = 0 := (by omega); subst e9; exact st_27e hf j hj) (fun i j hi hj h => absurd (by omega) h) hAn
  exact ⟨adK 0, adV 0, vk_R.of (A := #[Value.ref b]) (hw _ (List.mem_append_right _ (cm_t7 _ (List.mem_of_getElem? (i := 216) (by decide +kernel))))) (h2 0 Nat.zero_lt_one), ⟨fun i hi => by have e9 : i = 0 := (by omega); subst e9; exact h1.1 0 Nat.zero_lt_one, fun i j hi hj _ => by omega⟩⟩
theorem st_28e {s : State} {b : Nat} (hf : cm_fl s b) (j : Nat) (hj : j < 6) : (Cond.eq (.elem (.field (Term.string "CellCyclerModel" 191) "java/lang/String" "value" "[B") (.int (Int32.ofNat j))) (.int ((([[100, 101, 114, 97, 116, 101]] : List (List Int32)).getD 0 []).getD j 0))).before #[Value.ref b] s = true := by
  match j, hj with
  | 0, _ => exact hf _ (by decide +kernel)
  | 1, _ => exact hf _ (by decide +kernel)
  | 2, _ => exact hf _ (by decide +kernel)
  | 3, _ => exact hf _ (by decide +kernel)
  | 4, _ => exact hf _ (by decide +kernel)
  | 5, _ => exact hf _ (by decide +kernel)
  | k + 6, hj => exact absurd hj (by omega)
theorem st_28 {s : State} {b : Nat} {A : Nat → Prop} (hf : cm_fl s b) (hw : ∀ w ∈ lw_tbl, w.before #[Value.ref b] s = true) (hAn : ∀ a : Nat, a < s.heap.size → ¬ A a) : cm_str ("CellCyclerModel", 191, "derate", [100, 101, 114, 97, 116, 101]) A s s.heap := by
  obtain ⟨adK, adV, h1, h2⟩ := vk_Sof (args := #[Value.ref b]) (s := s) (N := 1) (tm := fun _ => Term.string "CellCyclerModel" 191) (len := [6]) (byt := [[100, 101, 114, 97, 116, 101]]) (A := A) (fun i hi => by have e9 : i = 0 := (by omega); subst e9; decide) (fun _ _ => hf _ (by decide +kernel)) (fun _ _ => hf _ (by decide +kernel)) (fun _ _ => hf _ (by decide +kernel)) (fun i hi => by have e9 : i = 0 := (by omega); subst e9; exact hf _ (by decide +kernel)) (fun i hi j hj => by have e9 : i = 0 := (by omega); subst e9; exact st_28e hf j hj) (fun i j hi hj h => absurd (by omega) h) hAn
  exact ⟨adK 0, adV 0, vk_R.of (A := #[Value.ref b]) (hw _ (List.mem_append_right _ (cm_t7 _ (List.mem_of_getElem? (i := 217) (by decide +kernel))))) (h2 0 Nat.zero_lt_one), ⟨fun i hi => by have e9 : i = 0 := (by omega); subst e9; exact h1.1 0 Nat.zero_lt_one, fun i j hi hj _ => by omega⟩⟩
theorem st_29e {s : State} {b : Nat} (hf : cm_fl s b) (j : Nat) (hj : j < 7) : (Cond.eq (.elem (.field (Term.string "CellCyclerModel" 193) "java/lang/String" "value" "[B") (.int (Int32.ofNat j))) (.int ((([[97, 109, 98, 105, 101, 110, 116]] : List (List Int32)).getD 0 []).getD j 0))).before #[Value.ref b] s = true := by
  match j, hj with
  | 0, _ => exact hf _ (by decide +kernel)
  | 1, _ => exact hf _ (by decide +kernel)
  | 2, _ => exact hf _ (by decide +kernel)
  | 3, _ => exact hf _ (by decide +kernel)
  | 4, _ => exact hf _ (by decide +kernel)
  | 5, _ => exact hf _ (by decide +kernel)
  | 6, _ => exact hf _ (by decide +kernel)
  | k + 7, hj => exact absurd hj (by omega)
theorem st_29 {s : State} {b : Nat} {A : Nat → Prop} (hf : cm_fl s b) (hw : ∀ w ∈ lw_tbl, w.before #[Value.ref b] s = true) (hAn : ∀ a : Nat, a < s.heap.size → ¬ A a) : cm_str ("CellCyclerModel", 193, "ambient", [97, 109, 98, 105, 101, 110, 116]) A s s.heap := by
  obtain ⟨adK, adV, h1, h2⟩ := vk_Sof (args := #[Value.ref b]) (s := s) (N := 1) (tm := fun _ => Term.string "CellCyclerModel" 193) (len := [7]) (byt := [[97, 109, 98, 105, 101, 110, 116]]) (A := A) (fun i hi => by have e9 : i = 0 := (by omega); subst e9; decide) (fun _ _ => hf _ (by decide +kernel)) (fun _ _ => hf _ (by decide +kernel)) (fun _ _ => hf _ (by decide +kernel)) (fun i hi => by have e9 : i = 0 := (by omega); subst e9; exact hf _ (by decide +kernel)) (fun i hi j hj => by have e9 : i = 0 := (by omega); subst e9; exact st_29e hf j hj) (fun i j hi hj h => absurd (by omega) h) hAn
  exact ⟨adK 0, adV 0, vk_R.of (A := #[Value.ref b]) (hw _ (List.mem_append_right _ (cm_t7 _ (List.mem_of_getElem? (i := 218) (by decide +kernel))))) (h2 0 Nat.zero_lt_one), ⟨fun i hi => by have e9 : i = 0 := (by omega); subst e9; exact h1.1 0 Nat.zero_lt_one, fun i j hi hj _ => by omega⟩⟩
