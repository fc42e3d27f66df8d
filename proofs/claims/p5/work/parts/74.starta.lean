abbrev cm_fl (s : State) (b : Nat) : Prop := ∀ c ∈ flatC (Jvm.Cond.and given_1 narrow_1), c.before #[Value.ref b] s = true
/-- the list of what is given, flat, by its places -/
def cm_fa : Cond → List Cond → List Cond
  | .and a b, r => cm_fa a (cm_fa b r)
  | c, r => c :: r
theorem cm_fae (c : Cond) : ∀ r : List Cond, cm_fa c r = flatC c ++ r := by
  induction c with
  | and a b iha ihb =>
    intro r
    show cm_fa a (cm_fa b r) = (flatC a ++ flatC b) ++ r
    rw [iha, ihb, List.append_assoc]
  | _ => intro r; rfl
theorem cm_fm {k : Nat} {w : Cond} (h : (cm_fa (Jvm.Cond.and given_1 narrow_1) [])[k]? = some w) : w ∈ flatC (Jvm.Cond.and given_1 narrow_1) := by
  have m := List.mem_of_getElem? h
  rw [cm_fae, List.append_nil] at m
  exact m
set_option maxRecDepth 100000 in
theorem st_0e {s : State} {b : Nat} (hf : cm_fl s b) (j : Nat) (hj : j < 5) : (Cond.eq (.elem (.field (Term.string "CellCycler$Reader" 26) "java/lang/String" "value" "[B") (.int (Int32.ofNat j))) (.int ((([[99, 117, 114, 118, 101]] : List (List Int32)).getD 0 []).getD j 0))).before #[Value.ref b] s = true := by
  match j, hj with
  | 0, _ => exact hf _ (cm_fm (k := 71) rfl)
  | 1, _ => exact hf _ (cm_fm (k := 72) rfl)
  | 2, _ => exact hf _ (cm_fm (k := 73) rfl)
  | 3, _ => exact hf _ (cm_fm (k := 74) rfl)
  | 4, _ => exact hf _ (cm_fm (k := 75) rfl)
  | k + 5, hj => exact absurd hj (by omega)
set_option maxRecDepth 100000 in
theorem st_0 {s : State} {b : Nat} {A : Nat → Prop} (hf : cm_fl s b) (hw : ∀ w ∈ lw_tbl, w.before #[Value.ref b] s = true) (hAn : ∀ a : Nat, a < s.heap.size → ¬ A a) : cm_str ("CellCycler$Reader", 26, "curve", [99, 117, 114, 118, 101]) A s s.heap := by
  obtain ⟨adK, adV, h1, h2⟩ := vk_Sof (args := #[Value.ref b]) (s := s) (N := 1) (tm := fun _ => Term.string "CellCycler$Reader" 26) (len := [5]) (byt := [[99, 117, 114, 118, 101]]) (A := A) (fun i hi => by have e9 : i = 0 := (by omega); subst e9; decide) (fun _ _ => hf _ (cm_fm (k := 67) rfl)) (fun _ _ => hf _ (cm_fm (k := 68) rfl)) (fun _ _ => hf _ (cm_fm (k := 69) rfl)) (fun i hi => by have e9 : i = 0 := (by omega); subst e9; exact hf _ (cm_fm (k := 70) rfl)) (fun i hi j hj => by have e9 : i = 0 := (by omega); subst e9; exact st_0e hf j hj) (fun i j hi hj h => absurd (by omega) h) hAn
  exact ⟨adK 0, adV 0, vk_R.of (A := #[Value.ref b]) (hw _ (List.mem_append_right _ (cm_t3 _ (List.mem_of_getElem? (i := 62) rfl)))) (h2 0 Nat.zero_lt_one), ⟨fun i hi => by have e9 : i = 0 := (by omega); subst e9; exact h1.1 0 Nat.zero_lt_one, fun i j hi hj _ => by omega⟩⟩
set_option maxRecDepth 100000 in
theorem st_1e {s : State} {b : Nat} (hf : cm_fl s b) (j : Nat) (hj : j < 4) : (Cond.eq (.elem (.field (Term.string "CellCycler$Reader" 35) "java/lang/String" "value" "[B") (.int (Int32.ofNat j))) (.int ((([[99, 101, 108, 108]] : List (List Int32)).getD 0 []).getD j 0))).before #[Value.ref b] s = true := by
  match j, hj with
  | 0, _ => exact hf _ (cm_fm (k := 80) rfl)
  | 1, _ => exact hf _ (cm_fm (k := 81) rfl)
  | 2, _ => exact hf _ (cm_fm (k := 82) rfl)
  | 3, _ => exact hf _ (cm_fm (k := 83) rfl)
  | k + 4, hj => exact absurd hj (by omega)
set_option maxRecDepth 100000 in
theorem st_1 {s : State} {b : Nat} {A : Nat → Prop} (hf : cm_fl s b) (hw : ∀ w ∈ lw_tbl, w.before #[Value.ref b] s = true) (hAn : ∀ a : Nat, a < s.heap.size → ¬ A a) : cm_str ("CellCycler$Reader", 35, "cell", [99, 101, 108, 108]) A s s.heap := by
  obtain ⟨adK, adV, h1, h2⟩ := vk_Sof (args := #[Value.ref b]) (s := s) (N := 1) (tm := fun _ => Term.string "CellCycler$Reader" 35) (len := [4]) (byt := [[99, 101, 108, 108]]) (A := A) (fun i hi => by have e9 : i = 0 := (by omega); subst e9; decide) (fun _ _ => hf _ (cm_fm (k := 76) rfl)) (fun _ _ => hf _ (cm_fm (k := 77) rfl)) (fun _ _ => hf _ (cm_fm (k := 78) rfl)) (fun i hi => by have e9 : i = 0 := (by omega); subst e9; exact hf _ (cm_fm (k := 79) rfl)) (fun i hi j hj => by have e9 : i = 0 := (by omega); subst e9; exact st_1e hf j hj) (fun i j hi hj h => absurd (by omega) h) hAn
  exact ⟨adK 0, adV 0, vk_R.of (A := #[Value.ref b]) (hw _ (List.mem_append_right _ (cm_t3 _ (List.mem_of_getElem? (i := 152) rfl)))) (h2 0 Nat.zero_lt_one), ⟨fun i hi => by have e9 : i = 0 := (by omega); subst e9; exact h1.1 0 Nat.zero_lt_one, fun i j hi hj _ => by omega⟩⟩
set_option maxRecDepth 100000 in
theorem st_2e {s : State} {b : Nat} (hf : cm_fl s b) (j : Nat) (hj : j < 7) : (Cond.eq (.elem (.field (Term.string "CellCycler$Reader" 40) "java/lang/String" "value" "[B") (.int (Int32.ofNat j))) (.int ((([[112, 114, 111, 103, 114, 97, 109]] : List (List Int32)).getD 0 []).getD j 0))).before #[Value.ref b] s = true := by
  match j, hj with
  | 0, _ => exact hf _ (cm_fm (k := 88) rfl)
  | 1, _ => exact hf _ (cm_fm (k := 89) rfl)
  | 2, _ => exact hf _ (cm_fm (k := 90) rfl)
  | 3, _ => exact hf _ (cm_fm (k := 91) rfl)
  | 4, _ => exact hf _ (cm_fm (k := 92) rfl)
  | 5, _ => exact hf _ (cm_fm (k := 93) rfl)
  | 6, _ => exact hf _ (cm_fm (k := 94) rfl)
  | k + 7, hj => exact absurd hj (by omega)
set_option maxRecDepth 100000 in
theorem st_2 {s : State} {b : Nat} {A : Nat → Prop} (hf : cm_fl s b) (hw : ∀ w ∈ lw_tbl, w.before #[Value.ref b] s = true) (hAn : ∀ a : Nat, a < s.heap.size → ¬ A a) : cm_str ("CellCycler$Reader", 40, "program", [112, 114, 111, 103, 114, 97, 109]) A s s.heap := by
  obtain ⟨adK, adV, h1, h2⟩ := vk_Sof (args := #[Value.ref b]) (s := s) (N := 1) (tm := fun _ => Term.string "CellCycler$Reader" 40) (len := [7]) (byt := [[112, 114, 111, 103, 114, 97, 109]]) (A := A) (fun i hi => by have e9 : i = 0 := (by omega); subst e9; decide) (fun _ _ => hf _ (cm_fm (k := 84) rfl)) (fun _ _ => hf _ (cm_fm (k := 85) rfl)) (fun _ _ => hf _ (cm_fm (k := 86) rfl)) (fun i hi => by have e9 : i = 0 := (by omega); subst e9; exact hf _ (cm_fm (k := 87) rfl)) (fun i hi j hj => by have e9 : i = 0 := (by omega); subst e9; exact st_2e hf j hj) (fun i j hi hj h => absurd (by omega) h) hAn
  exact ⟨adK 0, adV 0, vk_R.of (A := #[Value.ref b]) (hw _ (List.mem_append_right _ (cm_t3 _ (List.mem_of_getElem? (i := 172) rfl)))) (h2 0 Nat.zero_lt_one), ⟨fun i hi => by have e9 : i = 0 := (by omega); subst e9; exact h1.1 0 Nat.zero_lt_one, fun i j hi hj _ => by omega⟩⟩
set_option maxRecDepth 100000 in
theorem st_3e {s : State} {b : Nat} (hf : cm_fl s b) (j : Nat) (hj : j < 6) : (Cond.eq (.elem (.field (Term.string "CellCycler$Reader" 209) "java/lang/String" "value" "[B") (.int (Int32.ofNat j))) (.int ((([[99, 104, 97, 114, 103, 101]] : List (List Int32)).getD 0 []).getD j 0))).before #[Value.ref b] s = true := by
  match j, hj with
  | 0, _ => exact hf _ (cm_fm (k := 99) rfl)
  | 1, _ => exact hf _ (cm_fm (k := 100) rfl)
  | 2, _ => exact hf _ (cm_fm (k := 101) rfl)
  | 3, _ => exact hf _ (cm_fm (k := 102) rfl)
  | 4, _ => exact hf _ (cm_fm (k := 103) rfl)
  | 5, _ => exact hf _ (cm_fm (k := 104) rfl)
  | k + 6, hj => exact absurd hj (by omega)
set_option maxRecDepth 100000 in
theorem st_3 {s : State} {b : Nat} {A : Nat → Prop} (hf : cm_fl s b) (hw : ∀ w ∈ lw_tbl, w.before #[Value.ref b] s = true) (hAn : ∀ a : Nat, a < s.heap.size → ¬ A a) : cm_str ("CellCycler$Reader", 209, "charge", [99, 104, 97, 114, 103, 101]) A s s.heap := by
  obtain ⟨adK, adV, h1, h2⟩ := vk_Sof (args := #[Value.ref b]) (s := s) (N := 1) (tm := fun _ => Term.string "CellCycler$Reader" 209) (len := [6]) (byt := [[99, 104, 97, 114, 103, 101]]) (A := A) (fun i hi => by have e9 : i = 0 := (by omega); subst e9; decide) (fun _ _ => hf _ (cm_fm (k := 95) rfl)) (fun _ _ => hf _ (cm_fm (k := 96) rfl)) (fun _ _ => hf _ (cm_fm (k := 97) rfl)) (fun i hi => by have e9 : i = 0 := (by omega); subst e9; exact hf _ (cm_fm (k := 98) rfl)) (fun i hi j hj => by have e9 : i = 0 := (by omega); subst e9; exact st_3e hf j hj) (fun i j hi hj h => absurd (by omega) h) hAn
  exact ⟨adK 0, adV 0, vk_R.of (A := #[Value.ref b]) (hw _ (List.mem_append_right _ (cm_t3 _ (List.mem_of_getElem? (i := 186) rfl)))) (h2 0 Nat.zero_lt_one), ⟨fun i hi => by have e9 : i = 0 := (by omega); subst e9; exact h1.1 0 Nat.zero_lt_one, fun i j hi hj _ => by omega⟩⟩
set_option maxRecDepth 100000 in
theorem st_4e {s : State} {b : Nat} (hf : cm_fl s b) (j : Nat) (hj : j < 4) : (Cond.eq (.elem (.field (Term.string "CellCycler$Reader" 215) "java/lang/String" "value" "[B") (.int (Int32.ofNat j))) (.int ((([[104, 111, 108, 100]] : List (List Int32)).getD 0 []).getD j 0))).before #[Value.ref b] s = true := by
  match j, hj with
  | 0, _ => exact hf _ (cm_fm (k := 109) rfl)
  | 1, _ => exact hf _ (cm_fm (k := 110) rfl)
  | 2, _ => exact hf _ (cm_fm (k := 111) rfl)
  | 3, _ => exact hf _ (cm_fm (k := 112) rfl)
  | k + 4, hj => exact absurd hj (by omega)
set_option maxRecDepth 100000 in
theorem st_4 {s : State} {b : Nat} {A : Nat → Prop} (hf : cm_fl s b) (hw : ∀ w ∈ lw_tbl, w.before #[Value.ref b] s = true) (hAn : ∀ a : Nat, a < s.heap.size → ¬ A a) : cm_str ("CellCycler$Reader", 215, "hold", [104, 111, 108, 100]) A s s.heap := by
  obtain ⟨adK, adV, h1, h2⟩ := vk_Sof (args := #[Value.ref b]) (s := s) (N := 1) (tm := fun _ => Term.string "CellCycler$Reader" 215) (len := [4]) (byt := [[104, 111, 108, 100]]) (A := A) (fun i hi => by have e9 : i = 0 := (by omega); subst e9; decide) (fun _ _ => hf _ (cm_fm (k := 105) rfl)) (fun _ _ => hf _ (cm_fm (k := 106) rfl)) (fun _ _ => hf _ (cm_fm (k := 107) rfl)) (fun i hi => by have e9 : i = 0 := (by omega); subst e9; exact hf _ (cm_fm (k := 108) rfl)) (fun i hi j hj => by have e9 : i = 0 := (by omega); subst e9; exact st_4e hf j hj) (fun i j hi hj h => absurd (by omega) h) hAn
  exact ⟨adK 0, adV 0, vk_R.of (A := #[Value.ref b]) (hw _ (List.mem_append_right _ (cm_t3 _ (List.mem_of_getElem? (i := 192) rfl)))) (h2 0 Nat.zero_lt_one), ⟨fun i hi => by have e9 : i = 0 := (by omega); subst e9; exact h1.1 0 Nat.zero_lt_one, fun i j hi hj _ => by omega⟩⟩
set_option maxRecDepth 100000 in
theorem st_5e {s : State} {b : Nat} (hf : cm_fl s b) (j : Nat) (hj : j < 9) : (Cond.eq (.elem (.field (Term.string "CellCycler$Reader" 217) "java/lang/String" "value" "[B") (.int (Int32.ofNat j))) (.int ((([[100, 105, 115, 99, 104, 97, 114, 103, 101]] : List (List Int32)).getD 0 []).getD j 0))).before #[Value.ref b] s = true := by
  match j, hj with
  | 0, _ => exact hf _ (cm_fm (k := 117) rfl)
  | 1, _ => exact hf _ (cm_fm (k := 118) rfl)
  | 2, _ => exact hf _ (cm_fm (k := 119) rfl)
  | 3, _ => exact hf _ (cm_fm (k := 120) rfl)
  | 4, _ => exact hf _ (cm_fm (k := 121) rfl)
  | 5, _ => exact hf _ (cm_fm (k := 122) rfl)
  | 6, _ => exact hf _ (cm_fm (k := 123) rfl)
  | 7, _ => exact hf _ (cm_fm (k := 124) rfl)
  | 8, _ => exact hf _ (cm_fm (k := 125) rfl)
  | k + 9, hj => exact absurd hj (by omega)
set_option maxRecDepth 100000 in
theorem st_5 {s : State} {b : Nat} {A : Nat → Prop} (hf : cm_fl s b) (hw : ∀ w ∈ lw_tbl, w.before #[Value.ref b] s = true) (hAn : ∀ a : Nat, a < s.heap.size → ¬ A a) : cm_str ("CellCycler$Reader", 217, "discharge", [100, 105, 115, 99, 104, 97, 114, 103, 101]) A s s.heap := by
  obtain ⟨adK, adV, h1, h2⟩ := vk_Sof (args := #[Value.ref b]) (s := s) (N := 1) (tm := fun _ => Term.string "CellCycler$Reader" 217) (len := [9]) (byt := [[100, 105, 115, 99, 104, 97, 114, 103, 101]]) (A := A) (fun i hi => by have e9 : i = 0 := (by omega); subst e9; decide) (fun _ _ => hf _ (cm_fm (k := 113) rfl)) (fun _ _ => hf _ (cm_fm (k := 114) rfl)) (fun _ _ => hf _ (cm_fm (k := 115) rfl)) (fun i hi => by have e9 : i = 0 := (by omega); subst e9; exact hf _ (cm_fm (k := 116) rfl)) (fun i hi j hj => by have e9 : i = 0 := (by omega); subst e9; exact st_5e hf j hj) (fun i j hi hj h => absurd (by omega) h) hAn
  exact ⟨adK 0, adV 0, vk_R.of (A := #[Value.ref b]) (hw _ (List.mem_append_right _ (cm_t3 _ (List.mem_of_getElem? (i := 193) rfl)))) (h2 0 Nat.zero_lt_one), ⟨fun i hi => by have e9 : i = 0 := (by omega); subst e9; exact h1.1 0 Nat.zero_lt_one, fun i j hi hj _ => by omega⟩⟩
set_option maxRecDepth 100000 in
theorem st_6e {s : State} {b : Nat} (hf : cm_fl s b) (j : Nat) (hj : j < 4) : (Cond.eq (.elem (.field (Term.string "CellCycler$Reader" 219) "java/lang/String" "value" "[B") (.int (Int32.ofNat j))) (.int ((([[114, 101, 115, 116]] : List (List Int32)).getD 0 []).getD j 0))).before #[Value.ref b] s = true := by
  match j, hj with
  | 0, _ => exact hf _ (cm_fm (k := 130) rfl)
  | 1, _ => exact hf _ (cm_fm (k := 131) rfl)
  | 2, _ => exact hf _ (cm_fm (k := 132) rfl)
  | 3, _ => exact hf _ (cm_fm (k := 133) rfl)
  | k + 4, hj => exact absurd hj (by omega)
set_option maxRecDepth 100000 in
theorem st_6 {s : State} {b : Nat} {A : Nat → Prop} (hf : cm_fl s b) (hw : ∀ w ∈ lw_tbl, w.before #[Value.ref b] s = true) (hAn : ∀ a : Nat, a < s.heap.size → ¬ A a) : cm_str ("CellCycler$Reader", 219, "rest", [114, 101, 115, 116]) A s s.heap := by
  obtain ⟨adK, adV, h1, h2⟩ := vk_Sof (args := #[Value.ref b]) (s := s) (N := 1) (tm := fun _ => Term.string "CellCycler$Reader" 219) (len := [4]) (byt := [[114, 101, 115, 116]]) (A := A) (fun i hi => by have e9 : i = 0 := (by omega); subst e9; decide) (fun _ _ => hf _ (cm_fm (k := 126) rfl)) (fun _ _ => hf _ (cm_fm (k := 127) rfl)) (fun _ _ => hf _ (cm_fm (k := 128) rfl)) (fun i hi => by have e9 : i = 0 := (by omega); subst e9; exact hf _ (cm_fm (k := 129) rfl)) (fun i hi j hj => by have e9 : i = 0 := (by omega); subst e9; exact st_6e hf j hj) (fun i j hi hj h => absurd (by omega) h) hAn
  exact ⟨adK 0, adV 0, vk_R.of (A := #[Value.ref b]) (hw _ (List.mem_append_right _ (cm_t3 _ (List.mem_of_getElem? (i := 194) rfl)))) (h2 0 Nat.zero_lt_one), ⟨fun i hi => by have e9 : i = 0 := (by omega); subst e9; exact h1.1 0 Nat.zero_lt_one, fun i j hi hj _ => by omega⟩⟩
set_option maxRecDepth 100000 in
theorem st_7e {s : State} {b : Nat} (hf : cm_fl s b) (j : Nat) (hj : j < 6) : (Cond.eq (.elem (.field (Term.string "CellCycler$Reader" 221) "java/lang/String" "value" "[B") (.int (Int32.ofNat j))) (.int ((([[114, 101, 112, 101, 97, 116]] : List (List Int32)).getD 0 []).getD j 0))).before #[Value.ref b] s = true := by
  match j, hj with
  | 0, _ => exact hf _ (cm_fm (k := 138) rfl)
  | 1, _ => exact hf _ (cm_fm (k := 139) rfl)
  | 2, _ => exact hf _ (cm_fm (k := 140) rfl)
  | 3, _ => exact hf _ (cm_fm (k := 141) rfl)
  | 4, _ => exact hf _ (cm_fm (k := 142) rfl)
  | 5, _ => exact hf _ (cm_fm (k := 143) rfl)
  | k + 6, hj => exact absurd hj (by omega)
set_option maxRecDepth 100000 in
theorem st_7 {s : State} {b : Nat} {A : Nat → Prop} (hf : cm_fl s b) (hw : ∀ w ∈ lw_tbl, w.before #[Value.ref b] s = true) (hAn : ∀ a : Nat, a < s.heap.size → ¬ A a) : cm_str ("CellCycler$Reader", 221, "repeat", [114, 101, 112, 101, 97, 116]) A s s.heap := by
  obtain ⟨adK, adV, h1, h2⟩ := vk_Sof (args := #[Value.ref b]) (s := s) (N := 1) (tm := fun _ => Term.string "CellCycler$Reader" 221) (len := [6]) (byt := [[114, 101, 112, 101, 97, 116]]) (A := A) (fun i hi => by have e9 : i = 0 := (by omega); subst e9; decide) (fun _ _ => hf _ (cm_fm (k := 134) rfl)) (fun _ _ => hf _ (cm_fm (k := 135) rfl)) (fun _ _ => hf _ (cm_fm (k := 136) rfl)) (fun i hi => by have e9 : i = 0 := (by omega); subst e9; exact hf _ (cm_fm (k := 137) rfl)) (fun i hi j hj => by have e9 : i = 0 := (by omega); subst e9; exact st_7e hf j hj) (fun i j hi hj h => absurd (by omega) h) hAn
  exact ⟨adK 0, adV 0, vk_R.of (A := #[Value.ref b]) (hw _ (List.mem_append_right _ (cm_t3 _ (List.mem_of_getElem? (i := 195) rfl)))) (h2 0 Nat.zero_lt_one), ⟨fun i hi => by have e9 : i = 0 := (by omega); subst e9; exact h1.1 0 Nat.zero_lt_one, fun i j hi hj _ => by omega⟩⟩
set_option maxRecDepth 100000 in
theorem st_8e {s : State} {b : Nat} (hf : cm_fl s b) (j : Nat) (hj : j < 10) : (Cond.eq (.elem (.field (Term.string "CellCycler$Reader" 72) "java/lang/String" "value" "[B") (.int (Int32.ofNat j))) (.int ((([[101, 102, 102, 105, 99, 105, 101, 110, 99, 121]] : List (List Int32)).getD 0 []).getD j 0))).before #[Value.ref b] s = true := by
  match j, hj with
  | 0, _ => exact hf _ (cm_fm (k := 148) rfl)
  | 1, _ => exact hf _ (cm_fm (k := 149) rfl)
  | 2, _ => exact hf _ (cm_fm (k := 150) rfl)
  | 3, _ => exact hf _ (cm_fm (k := 151) rfl)
  | 4, _ => exact hf _ (cm_fm (k := 152) rfl)
  | 5, _ => exact hf _ (cm_fm (k := 153) rfl)
  | 6, _ => exact hf _ (cm_fm (k := 154) rfl)
  | 7, _ => exact hf _ (cm_fm (k := 155) rfl)
  | 8, _ => exact hf _ (cm_fm (k := 156) rfl)
  | 9, _ => exact hf _ (cm_fm (k := 157) rfl)
  | k + 10, hj => exact absurd hj (by omega)
set_option maxRecDepth 100000 in
theorem st_8 {s : State} {b : Nat} {A : Nat → Prop} (hf : cm_fl s b) (hw : ∀ w ∈ lw_tbl, w.before #[Value.ref b] s = true) (hAn : ∀ a : Nat, a < s.heap.size → ¬ A a) : cm_str ("CellCycler$Reader", 72, "efficiency", [101, 102, 102, 105, 99, 105, 101, 110, 99, 121]) A s s.heap := by
  obtain ⟨adK, adV, h1, h2⟩ := vk_Sof (args := #[Value.ref b]) (s := s) (N := 1) (tm := fun _ => Term.string "CellCycler$Reader" 72) (len := [10]) (byt := [[101, 102, 102, 105, 99, 105, 101, 110, 99, 121]]) (A := A) (fun i hi => by have e9 : i = 0 := (by omega); subst e9; decide) (fun _ _ => hf _ (cm_fm (k := 144) rfl)) (fun _ _ => hf _ (cm_fm (k := 145) rfl)) (fun _ _ => hf _ (cm_fm (k := 146) rfl)) (fun i hi => by have e9 : i = 0 := (by omega); subst e9; exact hf _ (cm_fm (k := 147) rfl)) (fun i hi j hj => by have e9 : i = 0 := (by omega); subst e9; exact st_8e hf j hj) (fun i j hi hj h => absurd (by omega) h) hAn
  exact ⟨adK 0, adV 0, vk_R.of (A := #[Value.ref b]) (hw _ (List.mem_append_right _ (cm_t3 _ (List.mem_of_getElem? (i := 200) rfl)))) (h2 0 Nat.zero_lt_one), ⟨fun i hi => by have e9 : i = 0 := (by omega); subst e9; exact h1.1 0 Nat.zero_lt_one, fun i j hi hj _ => by omega⟩⟩
set_option maxRecDepth 100000 in
theorem st_9e {s : State} {b : Nat} (hf : cm_fl s b) (j : Nat) (hj : j < 4) : (Cond.eq (.elem (.field (Term.string "CellCycler$Reader" 82) "java/lang/String" "value" "[B") (.int (Int32.ofNat j))) (.int ((([[102, 97, 100, 101]] : List (List Int32)).getD 0 []).getD j 0))).before #[Value.ref b] s = true := by
  match j, hj with
  | 0, _ => exact hf _ (cm_fm (k := 162) rfl)
  | 1, _ => exact hf _ (cm_fm (k := 163) rfl)
  | 2, _ => exact hf _ (cm_fm (k := 164) rfl)
  | 3, _ => exact hf _ (cm_fm (k := 165) rfl)
  | k + 4, hj => exact absurd hj (by omega)
set_option maxRecDepth 100000 in
theorem st_9 {s : State} {b : Nat} {A : Nat → Prop} (hf : cm_fl s b) (hw : ∀ w ∈ lw_tbl, w.before #[Value.ref b] s = true) (hAn : ∀ a : Nat, a < s.heap.size → ¬ A a) : cm_str ("CellCycler$Reader", 82, "fade", [102, 97, 100, 101]) A s s.heap := by
  obtain ⟨adK, adV, h1, h2⟩ := vk_Sof (args := #[Value.ref b]) (s := s) (N := 1) (tm := fun _ => Term.string "CellCycler$Reader" 82) (len := [4]) (byt := [[102, 97, 100, 101]]) (A := A) (fun i hi => by have e9 : i = 0 := (by omega); subst e9; decide) (fun _ _ => hf _ (cm_fm (k := 158) rfl)) (fun _ _ => hf _ (cm_fm (k := 159) rfl)) (fun _ _ => hf _ (cm_fm (k := 160) rfl)) (fun i hi => by have e9 : i = 0 := (by omega); subst e9; exact hf _ (cm_fm (k := 161) rfl)) (fun i hi j hj => by have e9 : i = 0 := (by omega); subst e9; exact st_9e hf j hj) (fun i j hi hj h => absurd (by omega) h) hAn
  exact ⟨adK 0, adV 0, vk_R.of (A := #[Value.ref b]) (hw _ (List.mem_append_right _ (cm_t3 _ (List.mem_of_getElem? (i := 201) rfl)))) (h2 0 Nat.zero_lt_one), ⟨fun i hi => by have e9 : i = 0 := (by omega); subst e9; exact h1.1 0 Nat.zero_lt_one, fun i j hi hj _ => by omega⟩⟩
set_option maxRecDepth 100000 in
theorem st_10e {s : State} {b : Nat} (hf : cm_fl s b) (j : Nat) (hj : j < 4) : (Cond.eq (.elem (.field (Term.string "CellCycler$Reader" 87) "java/lang/String" "value" "[B") (.int (Int32.ofNat j))) (.int ((([[104, 101, 97, 116]] : List (List Int32)).getD 0 []).getD j 0))).before #[Value.ref b] s = true := by
  match j, hj with
  | 0, _ => exact hf _ (cm_fm (k := 170) rfl)
  | 1, _ => exact hf _ (cm_fm (k := 171) rfl)
  | 2, _ => exact hf _ (cm_fm (k := 172) rfl)
  | 3, _ => exact hf _ (cm_fm (k := 173) rfl)
  | k + 4, hj => exact absurd hj (by omega)
set_option maxRecDepth 100000 in
theorem st_10 {s : State} {b : Nat} {A : Nat → Prop} (hf : cm_fl s b) (hw : ∀ w ∈ lw_tbl, w.before #[Value.ref b] s = true) (hAn : ∀ a : Nat, a < s.heap.size → ¬ A a) : cm_str ("CellCycler$Reader", 87, "heat", [104, 101, 97, 116]) A s s.heap := by
  obtain ⟨adK, adV, h1, h2⟩ := vk_Sof (args := #[Value.ref b]) (s := s) (N := 1) (tm := fun _ => Term.string "CellCycler$Reader" 87) (len := [4]) (byt := [[104, 101, 97, 116]]) (A := A) (fun i hi => by have e9 : i = 0 := (by omega); subst e9; decide) (fun _ _ => hf _ (cm_fm (k := 166) rfl)) (fun _ _ => hf _ (cm_fm (k := 167) rfl)) (fun _ _ => hf _ (cm_fm (k := 168) rfl)) (fun i hi => by have e9 : i = 0 := (by omega); subst e9; exact hf _ (cm_fm (k := 169) rfl)) (fun i hi j hj => by have e9 : i = 0 := (by omega); subst e9; exact st_10e hf j hj) (fun i j hi hj h => absurd (by omega) h) hAn
  exact ⟨adK 0, adV 0, vk_R.of (A := #[Value.ref b]) (hw _ (List.mem_append_right _ (cm_t3 _ (List.mem_of_getElem? (i := 203) rfl)))) (h2 0 Nat.zero_lt_one), ⟨fun i hi => by have e9 : i = 0 := (by omega); subst e9; exact h1.1 0 Nat.zero_lt_one, fun i j hi hj _ => by omega⟩⟩
set_option maxRecDepth 100000 in
theorem st_11e {s : State} {b : Nat} (hf : cm_fl s b) (j : Nat) (hj : j < 6) : (Cond.eq (.elem (.field (Term.string "CellCycler$Reader" 99) "java/lang/String" "value" "[B") (.int (Int32.ofNat j))) (.int ((([[108, 105, 109, 105, 116, 115]] : List (List Int32)).getD 0 []).getD j 0))).before #[Value.ref b] s = true := by
  match j, hj with
  | 0, _ => exact hf _ (cm_fm (k := 178) rfl)
  | 1, _ => exact hf _ (cm_fm (k := 179) rfl)
  | 2, _ => exact hf _ (cm_fm (k := 180) rfl)
  | 3, _ => exact hf _ (cm_fm (k := 181) rfl)
  | 4, _ => exact hf _ (cm_fm (k := 182) rfl)
  | 5, _ => exact hf _ (cm_fm (k := 183) rfl)
  | k + 6, hj => exact absurd hj (by omega)
set_option maxRecDepth 100000 in
theorem st_11 {s : State} {b : Nat} {A : Nat → Prop} (hf : cm_fl s b) (hw : ∀ w ∈ lw_tbl, w.before #[Value.ref b] s = true) (hAn : ∀ a : Nat, a < s.heap.size → ¬ A a) : cm_str ("CellCycler$Reader", 99, "limits", [108, 105, 109, 105, 116, 115]) A s s.heap := by
  obtain ⟨adK, adV, h1, h2⟩ := vk_Sof (args := #[Value.ref b]) (s := s) (N := 1) (tm := fun _ => Term.string "CellCycler$Reader" 99) (len := [6]) (byt := [[108, 105, 109, 105, 116, 115]]) (A := A) (fun i hi => by have e9 : i = 0 := (by omega); subst e9; decide) (fun _ _ => hf _ (cm_fm (k := 174) rfl)) (fun _ _ => hf _ (cm_fm (k := 175) rfl)) (fun _ _ => hf _ (cm_fm (k := 176) rfl)) (fun i hi => by have e9 : i = 0 := (by omega); subst e9; exact hf _ (cm_fm (k := 177) rfl)) (fun i hi j hj => by have e9 : i = 0 := (by omega); subst e9; exact st_11e hf j hj) (fun i j hi hj h => absurd (by omega) h) hAn
  exact ⟨adK 0, adV 0, vk_R.of (A := #[Value.ref b]) (hw _ (List.mem_append_right _ (cm_t3 _ (List.mem_of_getElem? (i := 204) rfl)))) (h2 0 Nat.zero_lt_one), ⟨fun i hi => by have e9 : i = 0 := (by omega); subst e9; exact h1.1 0 Nat.zero_lt_one, fun i j hi hj _ => by omega⟩⟩
set_option maxRecDepth 100000 in
theorem st_12e {s : State} {b : Nat} (hf : cm_fl s b) (j : Nat) (hj : j < 7) : (Cond.eq (.elem (.field (Term.string "CellCycler$Reader" 110) "java/lang/String" "value" "[B") (.int (Int32.ofNat j))) (.int ((([[97, 109, 98, 105, 101, 110, 116]] : List (List Int32)).getD 0 []).getD j 0))).before #[Value.ref b] s = true := by
  match j, hj with
  | 0, _ => exact hf _ (cm_fm (k := 188) rfl)
  | 1, _ => exact hf _ (cm_fm (k := 189) rfl)
  | 2, _ => exact hf _ (cm_fm (k := 190) rfl)
  | 3, _ => exact hf _ (cm_fm (k := 191) rfl)
  | 4, _ => exact hf _ (cm_fm (k := 192) rfl)
  | 5, _ => exact hf _ (cm_fm (k := 193) rfl)
  | 6, _ => exact hf _ (cm_fm (k := 194) rfl)
  | k + 7, hj => exact absurd hj (by omega)
set_option maxRecDepth 100000 in
theorem st_12 {s : State} {b : Nat} {A : Nat → Prop} (hf : cm_fl s b) (hw : ∀ w ∈ lw_tbl, w.before #[Value.ref b] s = true) (hAn : ∀ a : Nat, a < s.heap.size → ¬ A a) : cm_str ("CellCycler$Reader", 110, "ambient", [97, 109, 98, 105, 101, 110, 116]) A s s.heap := by
  obtain ⟨adK, adV, h1, h2⟩ := vk_Sof (args := #[Value.ref b]) (s := s) (N := 1) (tm := fun _ => Term.string "CellCycler$Reader" 110) (len := [7]) (byt := [[97, 109, 98, 105, 101, 110, 116]]) (A := A) (fun i hi => by have e9 : i = 0 := (by omega); subst e9; decide) (fun _ _ => hf _ (cm_fm (k := 184) rfl)) (fun _ _ => hf _ (cm_fm (k := 185) rfl)) (fun _ _ => hf _ (cm_fm (k := 186) rfl)) (fun i hi => by have e9 : i = 0 := (by omega); subst e9; exact hf _ (cm_fm (k := 187) rfl)) (fun i hi j hj => by have e9 : i = 0 := (by omega); subst e9; exact st_12e hf j hj) (fun i j hi hj h => absurd (by omega) h) hAn
  exact ⟨adK 0, adV 0, vk_R.of (A := #[Value.ref b]) (hw _ (List.mem_append_right _ (cm_t3 _ (List.mem_of_getElem? (i := 205) rfl)))) (h2 0 Nat.zero_lt_one), ⟨fun i hi => by have e9 : i = 0 := (by omega); subst e9; exact h1.1 0 Nat.zero_lt_one, fun i j hi hj _ => by omega⟩⟩
set_option maxRecDepth 100000 in
theorem st_13e {s : State} {b : Nat} (hf : cm_fl s b) (j : Nat) (hj : j < 4) : (Cond.eq (.elem (.field (Term.string "CellCycler$Reader" 114) "java/lang/String" "value" "[B") (.int (Int32.ofNat j))) (.int ((([[119, 97, 114, 110]] : List (List Int32)).getD 0 []).getD j 0))).before #[Value.ref b] s = true := by
  match j, hj with
  | 0, _ => exact hf _ (cm_fm (k := 199) rfl)
  | 1, _ => exact hf _ (cm_fm (k := 200) rfl)
  | 2, _ => exact hf _ (cm_fm (k := 201) rfl)
  | 3, _ => exact hf _ (cm_fm (k := 202) rfl)
  | k + 4, hj => exact absurd hj (by omega)
set_option maxRecDepth 100000 in
theorem st_13 {s : State} {b : Nat} {A : Nat → Prop} (hf : cm_fl s b) (hw : ∀ w ∈ lw_tbl, w.before #[Value.ref b] s = true) (hAn : ∀ a : Nat, a < s.heap.size → ¬ A a) : cm_str ("CellCycler$Reader", 114, "warn", [119, 97, 114, 110]) A s s.heap := by
  obtain ⟨adK, adV, h1, h2⟩ := vk_Sof (args := #[Value.ref b]) (s := s) (N := 1) (tm := fun _ => Term.string "CellCycler$Reader" 114) (len := [4]) (byt := [[119, 97, 114, 110]]) (A := A) (fun i hi => by have e9 : i = 0 := (by omega); subst e9; decide) (fun _ _ => hf _ (cm_fm (k := 195) rfl)) (fun _ _ => hf _ (cm_fm (k := 196) rfl)) (fun _ _ => hf _ (cm_fm (k := 197) rfl)) (fun i hi => by have e9 : i = 0 := (by omega); subst e9; exact hf _ (cm_fm (k := 198) rfl)) (fun i hi j hj => by have e9 : i = 0 := (by omega); subst e9; exact st_13e hf j hj) (fun i j hi hj h => absurd (by omega) h) hAn
  exact ⟨adK 0, adV 0, vk_R.of (A := #[Value.ref b]) (hw _ (List.mem_append_right _ (cm_t3 _ (List.mem_of_getElem? (i := 206) rfl)))) (h2 0 Nat.zero_lt_one), ⟨fun i hi => by have e9 : i = 0 := (by omega); subst e9; exact h1.1 0 Nat.zero_lt_one, fun i j hi hj _ => by omega⟩⟩
set_option maxRecDepth 100000 in
theorem st_14e {s : State} {b : Nat} (hf : cm_fl s b) (j : Nat) (hj : j < 6) : (Cond.eq (.elem (.field (Term.string "CellCycler$Reader" 125) "java/lang/String" "value" "[B") (.int (Int32.ofNat j))) (.int ((([[100, 101, 114, 97, 116, 101]] : List (List Int32)).getD 0 []).getD j 0))).before #[Value.ref b] s = true := by
  match j, hj with
  | 0, _ => exact hf _ (cm_fm (k := 207) rfl)
  | 1, _ => exact hf _ (cm_fm (k := 208) rfl)
  | 2, _ => exact hf _ (cm_fm (k := 209) rfl)
  | 3, _ => exact hf _ (cm_fm (k := 210) rfl)
  | 4, _ => exact hf _ (cm_fm (k := 211) rfl)
  | 5, _ => exact hf _ (cm_fm (k := 212) rfl)
  | k + 6, hj => exact absurd hj (by omega)
set_option maxRecDepth 100000 in
theorem st_14 {s : State} {b : Nat} {A : Nat → Prop} (hf : cm_fl s b) (hw : ∀ w ∈ lw_tbl, w.before #[Value.ref b] s = true) (hAn : ∀ a : Nat, a < s.heap.size → ¬ A a) : cm_str ("CellCycler$Reader", 125, "derate", [100, 101, 114, 97, 116, 101]) A s s.heap := by
  obtain ⟨adK, adV, h1, h2⟩ := vk_Sof (args := #[Value.ref b]) (s := s) (N := 1) (tm := fun _ => Term.string "CellCycler$Reader" 125) (len := [6]) (byt := [[100, 101, 114, 97, 116, 101]]) (A := A) (fun i hi => by have e9 : i = 0 := (by omega); subst e9; decide) (fun _ _ => hf _ (cm_fm (k := 203) rfl)) (fun _ _ => hf _ (cm_fm (k := 204) rfl)) (fun _ _ => hf _ (cm_fm (k := 205) rfl)) (fun i hi => by have e9 : i = 0 := (by omega); subst e9; exact hf _ (cm_fm (k := 206) rfl)) (fun i hi j hj => by have e9 : i = 0 := (by omega); subst e9; exact st_14e hf j hj) (fun i j hi hj h => absurd (by omega) h) hAn
  exact ⟨adK 0, adV 0, vk_R.of (A := #[Value.ref b]) (hw _ (List.mem_append_right _ (cm_t3 _ (List.mem_of_getElem? (i := 207) rfl)))) (h2 0 Nat.zero_lt_one), ⟨fun i hi => by have e9 : i = 0 := (by omega); subst e9; exact h1.1 0 Nat.zero_lt_one, fun i j hi hj _ => by omega⟩⟩
set_option maxRecDepth 100000 in
theorem st_15e {s : State} {b : Nat} (hf : cm_fl s b) (j : Nat) (hj : j < 5) : (Cond.eq (.elem (.field (Term.string "CellCyclerModel" 162) "java/lang/String" "value" "[B") (.int (Int32.ofNat j))) (.int ((([[99, 117, 114, 118, 101]] : List (List Int32)).getD 0 []).getD j 0))).before #[Value.ref b] s = true := by
  match j, hj with
  | 0, _ => exact hf _ (cm_fm (k := 217) rfl)
  | 1, _ => exact hf _ (cm_fm (k := 218) rfl)
  | 2, _ => exact hf _ (cm_fm (k := 219) rfl)
  | 3, _ => exact hf _ (cm_fm (k := 220) rfl)
  | 4, _ => exact hf _ (cm_fm (k := 221) rfl)
  | k + 5, hj => exact absurd hj (by omega)
set_option maxRecDepth 100000 in
theorem st_15 {s : State} {b : Nat} {A : Nat → Prop} (hf : cm_fl s b) (hw : ∀ w ∈ lw_tbl, w.before #[Value.ref b] s = true) (hAn : ∀ a : Nat, a < s.heap.size → ¬ A a) : cm_str ("CellCyclerModel", 162, "curve", [99, 117, 114, 118, 101]) A s s.heap := by
  obtain ⟨adK, adV, h1, h2⟩ := vk_Sof (args := #[Value.ref b]) (s := s) (N := 1) (tm := fun _ => Term.string "CellCyclerModel" 162) (len := [5]) (byt := [[99, 117, 114, 118, 101]]) (A := A) (fun i hi => by have e9 : i = 0 := (by omega); subst e9; decide) (fun _ _ => hf _ (cm_fm (k := 213) rfl)) (fun _ _ => hf _ (cm_fm (k := 214) rfl)) (fun _ _ => hf _ (cm_fm (k := 215) rfl)) (fun i hi => by have e9 : i = 0 := (by omega); subst e9; exact hf _ (cm_fm (k := 216) rfl)) (fun i hi j hj => by have e9 : i = 0 := (by omega); subst e9; exact st_15e hf j hj) (fun i j hi hj h => absurd (by omega) h) hAn
  exact ⟨adK 0, adV 0, vk_R.of (A := #[Value.ref b]) (hw _ (List.mem_append_right _ (cm_t7 _ (List.mem_of_getElem? (i := 130) rfl)))) (h2 0 Nat.zero_lt_one), ⟨fun i hi => by have e9 : i = 0 := (by omega); subst e9; exact h1.1 0 Nat.zero_lt_one, fun i j hi hj _ => by omega⟩⟩
set_option maxRecDepth 100000 in
theorem st_16e {s : State} {b : Nat} (hf : cm_fl s b) (j : Nat) (hj : j < 4) : (Cond.eq (.elem (.field (Term.string "CellCyclerModel" 167) "java/lang/String" "value" "[B") (.int (Int32.ofNat j))) (.int ((([[99, 101, 108, 108]] : List (List Int32)).getD 0 []).getD j 0))).before #[Value.ref b] s = true := by
  match j, hj with
  | 0, _ => exact hf _ (cm_fm (k := 227) rfl)
  | 1, _ => exact hf _ (cm_fm (k := 228) rfl)
  | 2, _ => exact hf _ (cm_fm (k := 229) rfl)
  | 3, _ => exact hf _ (cm_fm (k := 230) rfl)
  | k + 4, hj => exact absurd hj (by omega)
set_option maxRecDepth 100000 in
theorem st_16 {s : State} {b : Nat} {A : Nat → Prop} (hf : cm_fl s b) (hw : ∀ w ∈ lw_tbl, w.before #[Value.ref b] s = true) (hAn : ∀ a : Nat, a < s.heap.size → ¬ A a) : cm_str ("CellCyclerModel", 167, "cell", [99, 101, 108, 108]) A s s.heap := by
  obtain ⟨adK, adV, h1, h2⟩ := vk_Sof (args := #[Value.ref b]) (s := s) (N := 1) (tm := fun _ => Term.string "CellCyclerModel" 167) (len := [4]) (byt := [[99, 101, 108, 108]]) (A := A) (fun i hi => by have e9 : i = 0 := (by omega); subst e9; decide) (fun _ _ => hf _ (cm_fm (k := 223) rfl)) (fun _ _ => hf _ (cm_fm (k := 224) rfl)) (fun _ _ => hf _ (cm_fm (k := 225) rfl)) (fun i hi => by have e9 : i = 0 := (by omega); subst e9; exact hf _ (cm_fm (k := 226) rfl)) (fun i hi j hj => by have e9 : i = 0 := (by omega); subst e9; exact st_16e hf j hj) (fun i j hi hj h => absurd (by omega) h) hAn
  exact ⟨adK 0, adV 0, vk_R.of (A := #[Value.ref b]) (hw _ (List.mem_append_right _ (cm_t7 _ (List.mem_of_getElem? (i := 187) rfl)))) (h2 0 Nat.zero_lt_one), ⟨fun i hi => by have e9 : i = 0 := (by omega); subst e9; exact h1.1 0 Nat.zero_lt_one, fun i j hi hj _ => by omega⟩⟩
set_option maxRecDepth 100000 in
theorem st_17e {s : State} {b : Nat} (hf : cm_fl s b) (j : Nat) (hj : j < 7) : (Cond.eq (.elem (.field (Term.string "CellCyclerModel" 172) "java/lang/String" "value" "[B") (.int (Int32.ofNat j))) (.int ((([[112, 114, 111, 103, 114, 97, 109]] : List (List Int32)).getD 0 []).getD j 0))).before #[Value.ref b] s = true := by
  match j, hj with
  | 0, _ => exact hf _ (cm_fm (k := 236) rfl)
  | 1, _ => exact hf _ (cm_fm (k := 237) rfl)
  | 2, _ => exact hf _ (cm_fm (k := 238) rfl)
  | 3, _ => exact hf _ (cm_fm (k := 239) rfl)
  | 4, _ => exact hf _ (cm_fm (k := 240) rfl)
  | 5, _ => exact hf _ (cm_fm (k := 241) rfl)
  | 6, _ => exact hf _ (cm_fm (k := 242) rfl)
  | k + 7, hj => exact absurd hj (by omega)
set_option maxRecDepth 100000 in
theorem st_17 {s : State} {b : Nat} {A : Nat → Prop} (hf : cm_fl s b) (hw : ∀ w ∈ lw_tbl, w.before #[Value.ref b] s = true) (hAn : ∀ a : Nat, a < s.heap.size → ¬ A a) : cm_str ("CellCyclerModel", 172, "program", [112, 114, 111, 103, 114, 97, 109]) A s s.heap := by
  obtain ⟨adK, adV, h1, h2⟩ := vk_Sof (args := #[Value.ref b]) (s := s) (N := 1) (tm := fun _ => Term.string "CellCyclerModel" 172) (len := [7]) (byt := [[112, 114, 111, 103, 114, 97, 109]]) (A := A) (fun i hi => by have e9 : i = 0 := (by omega); subst e9; decide) (fun _ _ => hf _ (cm_fm (k := 232) rfl)) (fun _ _ => hf _ (cm_fm (k := 233) rfl)) (fun _ _ => hf _ (cm_fm (k := 234) rfl)) (fun i hi => by have e9 : i = 0 := (by omega); subst e9; exact hf _ (cm_fm (k := 235) rfl)) (fun i hi j hj => by have e9 : i = 0 := (by omega); subst e9; exact st_17e hf j hj) (fun i j hi hj h => absurd (by omega) h) hAn
  exact ⟨adK 0, adV 0, vk_R.of (A := #[Value.ref b]) (hw _ (List.mem_append_right _ (cm_t7 _ (List.mem_of_getElem? (i := 192) rfl)))) (h2 0 Nat.zero_lt_one), ⟨fun i hi => by have e9 : i = 0 := (by omega); subst e9; exact h1.1 0 Nat.zero_lt_one, fun i j hi hj _ => by omega⟩⟩
set_option maxRecDepth 100000 in
theorem st_18e {s : State} {b : Nat} (hf : cm_fl s b) (j : Nat) (hj : j < 6) : (Cond.eq (.elem (.field (Term.string "CellCyclerModel" 144) "java/lang/String" "value" "[B") (.int (Int32.ofNat j))) (.int ((([[99, 104, 97, 114, 103, 101]] : List (List Int32)).getD 0 []).getD j 0))).before #[Value.ref b] s = true := by
  match j, hj with
  | 0, _ => exact hf _ (cm_fm (k := 248) rfl)
  | 1, _ => exact hf _ (cm_fm (k := 249) rfl)
  | 2, _ => exact hf _ (cm_fm (k := 250) rfl)
  | 3, _ => exact hf _ (cm_fm (k := 251) rfl)
  | 4, _ => exact hf _ (cm_fm (k := 252) rfl)
  | 5, _ => exact hf _ (cm_fm (k := 253) rfl)
  | k + 6, hj => exact absurd hj (by omega)
set_option maxRecDepth 100000 in
theorem st_18 {s : State} {b : Nat} {A : Nat → Prop} (hf : cm_fl s b) (hw : ∀ w ∈ lw_tbl, w.before #[Value.ref b] s = true) (hAn : ∀ a : Nat, a < s.heap.size → ¬ A a) : cm_str ("CellCyclerModel", 144, "charge", [99, 104, 97, 114, 103, 101]) A s s.heap := by
  obtain ⟨adK, adV, h1, h2⟩ := vk_Sof (args := #[Value.ref b]) (s := s) (N := 1) (tm := fun _ => Term.string "CellCyclerModel" 144) (len := [6]) (byt := [[99, 104, 97, 114, 103, 101]]) (A := A) (fun i hi => by have e9 : i = 0 := (by omega); subst e9; decide) (fun _ _ => hf _ (cm_fm (k := 244) rfl)) (fun _ _ => hf _ (cm_fm (k := 245) rfl)) (fun _ _ => hf _ (cm_fm (k := 246) rfl)) (fun i hi => by have e9 : i = 0 := (by omega); subst e9; exact hf _ (cm_fm (k := 247) rfl)) (fun i hi j hj => by have e9 : i = 0 := (by omega); subst e9; exact st_18e hf j hj) (fun i j hi hj h => absurd (by omega) h) hAn
  exact ⟨adK 0, adV 0, vk_R.of (A := #[Value.ref b]) (hw _ (List.mem_append_right _ (cm_t7 _ (List.mem_of_getElem? (i := 201) rfl)))) (h2 0 Nat.zero_lt_one), ⟨fun i hi => by have e9 : i = 0 := (by omega); subst e9; exact h1.1 0 Nat.zero_lt_one, fun i j hi hj _ => by omega⟩⟩
set_option maxRecDepth 100000 in
theorem st_19e {s : State} {b : Nat} (hf : cm_fl s b) (j : Nat) (hj : j < 4) : (Cond.eq (.elem (.field (Term.string "CellCyclerModel" 150) "java/lang/String" "value" "[B") (.int (Int32.ofNat j))) (.int ((([[104, 111, 108, 100]] : List (List Int32)).getD 0 []).getD j 0))).before #[Value.ref b] s = true := by
  match j, hj with
  | 0, _ => exact hf _ (cm_fm (k := 259) rfl)
  | 1, _ => exact hf _ (cm_fm (k := 260) rfl)
  | 2, _ => exact hf _ (cm_fm (k := 261) rfl)
  | 3, _ => exact hf _ (cm_fm (k := 262) rfl)
  | k + 4, hj => exact absurd hj (by omega)
set_option maxRecDepth 100000 in
theorem st_19 {s : State} {b : Nat} {A : Nat → Prop} (hf : cm_fl s b) (hw : ∀ w ∈ lw_tbl, w.before #[Value.ref b] s = true) (hAn : ∀ a : Nat, a < s.heap.size → ¬ A a) : cm_str ("CellCyclerModel", 150, "hold", [104, 111, 108, 100]) A s s.heap := by
  obtain ⟨adK, adV, h1, h2⟩ := vk_Sof (args := #[Value.ref b]) (s := s) (N := 1) (tm := fun _ => Term.string "CellCyclerModel" 150) (len := [4]) (byt := [[104, 111, 108, 100]]) (A := A) (fun i hi => by have e9 : i = 0 := (by omega); subst e9; decide) (fun _ _ => hf _ (cm_fm (k := 255) rfl)) (fun _ _ => hf _ (cm_fm (k := 256) rfl)) (fun _ _ => hf _ (cm_fm (k := 257) rfl)) (fun i hi => by have e9 : i = 0 := (by omega); subst e9; exact hf _ (cm_fm (k := 258) rfl)) (fun i hi j hj => by have e9 : i = 0 := (by omega); subst e9; exact st_19e hf j hj) (fun i j hi hj h => absurd (by omega) h) hAn
  exact ⟨adK 0, adV 0, vk_R.of (A := #[Value.ref b]) (hw _ (List.mem_append_right _ (cm_t7 _ (List.mem_of_getElem? (i := 202) rfl)))) (h2 0 Nat.zero_lt_one), ⟨fun i hi => by have e9 : i = 0 := (by omega); subst e9; exact h1.1 0 Nat.zero_lt_one, fun i j hi hj _ => by omega⟩⟩
set_option maxRecDepth 100000 in
theorem st_20e {s : State} {b : Nat} (hf : cm_fl s b) (j : Nat) (hj : j < 9) : (Cond.eq (.elem (.field (Term.string "CellCyclerModel" 152) "java/lang/String" "value" "[B") (.int (Int32.ofNat j))) (.int ((([[100, 105, 115, 99, 104, 97, 114, 103, 101]] : List (List Int32)).getD 0 []).getD j 0))).before #[Value.ref b] s = true := by
  match j, hj with
  | 0, _ => exact hf _ (cm_fm (k := 268) rfl)
  | 1, _ => exact hf _ (cm_fm (k := 269) rfl)
  | 2, _ => exact hf _ (cm_fm (k := 270) rfl)
  | 3, _ => exact hf _ (cm_fm (k := 271) rfl)
  | 4, _ => exact hf _ (cm_fm (k := 272) rfl)
  | 5, _ => exact hf _ (cm_fm (k := 273) rfl)
  | 6, _ => exact hf _ (cm_fm (k := 274) rfl)
  | 7, _ => exact hf _ (cm_fm (k := 275) rfl)
  | 8, _ => exact hf _ (cm_fm (k := 276) rfl)
  | k + 9, hj => exact absurd hj (by omega)
set_option maxRecDepth 100000 in
theorem st_20 {s : State} {b : Nat} {A : Nat → Prop} (hf : cm_fl s b) (hw : ∀ w ∈ lw_tbl, w.before #[Value.ref b] s = true) (hAn : ∀ a : Nat, a < s.heap.size → ¬ A a) : cm_str ("CellCyclerModel", 152, "discharge", [100, 105, 115, 99, 104, 97, 114, 103, 101]) A s s.heap := by
  obtain ⟨adK, adV, h1, h2⟩ := vk_Sof (args := #[Value.ref b]) (s := s) (N := 1) (tm := fun _ => Term.string "CellCyclerModel" 152) (len := [9]) (byt := [[100, 105, 115, 99, 104, 97, 114, 103, 101]]) (A := A) (fun i hi => by have e9 : i = 0 := (by omega); subst e9; decide) (fun _ _ => hf _ (cm_fm (k := 264) rfl)) (fun _ _ => hf _ (cm_fm (k := 265) rfl)) (fun _ _ => hf _ (cm_fm (k := 266) rfl)) (fun i hi => by have e9 : i = 0 := (by omega); subst e9; exact hf _ (cm_fm (k := 267) rfl)) (fun i hi j hj => by have e9 : i = 0 := (by omega); subst e9; exact st_20e hf j hj) (fun i j hi hj h => absurd (by omega) h) hAn
  exact ⟨adK 0, adV 0, vk_R.of (A := #[Value.ref b]) (hw _ (List.mem_append_right _ (cm_t7 _ (List.mem_of_getElem? (i := 203) rfl)))) (h2 0 Nat.zero_lt_one), ⟨fun i hi => by have e9 : i = 0 := (by omega); subst e9; exact h1.1 0 Nat.zero_lt_one, fun i j hi hj _ => by omega⟩⟩
set_option maxRecDepth 100000 in
theorem st_21e {s : State} {b : Nat} (hf : cm_fl s b) (j : Nat) (hj : j < 4) : (Cond.eq (.elem (.field (Term.string "CellCyclerModel" 154) "java/lang/String" "value" "[B") (.int (Int32.ofNat j))) (.int ((([[114, 101, 115, 116]] : List (List Int32)).getD 0 []).getD j 0))).before #[Value.ref b] s = true := by
  match j, hj with
  | 0, _ => exact hf _ (cm_fm (k := 282) rfl)
  | 1, _ => exact hf _ (cm_fm (k := 283) rfl)
  | 2, _ => exact hf _ (cm_fm (k := 284) rfl)
  | 3, _ => exact hf _ (cm_fm (k := 285) rfl)
  | k + 4, hj => exact absurd hj (by omega)
set_option maxRecDepth 100000 in
theorem st_21 {s : State} {b : Nat} {A : Nat → Prop} (hf : cm_fl s b) (hw : ∀ w ∈ lw_tbl, w.before #[Value.ref b] s = true) (hAn : ∀ a : Nat, a < s.heap.size → ¬ A a) : cm_str ("CellCyclerModel", 154, "rest", [114, 101, 115, 116]) A s s.heap := by
  obtain ⟨adK, adV, h1, h2⟩ := vk_Sof (args := #[Value.ref b]) (s := s) (N := 1) (tm := fun _ => Term.string "CellCyclerModel" 154) (len := [4]) (byt := [[114, 101, 115, 116]]) (A := A) (fun i hi => by have e9 : i = 0 := (by omega); subst e9; decide) (fun _ _ => hf _ (cm_fm (k := 278) rfl)) (fun _ _ => hf _ (cm_fm (k := 279) rfl)) (fun _ _ => hf _ (cm_fm (k := 280) rfl)) (fun i hi => by have e9 : i = 0 := (by omega); subst e9; exact hf _ (cm_fm (k := 281) rfl)) (fun i hi j hj => by have e9 : i = 0 := (by omega); subst e9; exact st_21e hf j hj) (fun i j hi hj h => absurd (by omega) h) hAn
  exact ⟨adK 0, adV 0, vk_R.of (A := #[Value.ref b]) (hw _ (List.mem_append_right _ (cm_t7 _ (List.mem_of_getElem? (i := 204) rfl)))) (h2 0 Nat.zero_lt_one), ⟨fun i hi => by have e9 : i = 0 := (by omega); subst e9; exact h1.1 0 Nat.zero_lt_one, fun i j hi hj _ => by omega⟩⟩
set_option maxRecDepth 100000 in
theorem st_22e {s : State} {b : Nat} (hf : cm_fl s b) (j : Nat) (hj : j < 6) : (Cond.eq (.elem (.field (Term.string "CellCyclerModel" 156) "java/lang/String" "value" "[B") (.int (Int32.ofNat j))) (.int ((([[114, 101, 112, 101, 97, 116]] : List (List Int32)).getD 0 []).getD j 0))).before #[Value.ref b] s = true := by
  match j, hj with
  | 0, _ => exact hf _ (cm_fm (k := 291) rfl)
  | 1, _ => exact hf _ (cm_fm (k := 292) rfl)
  | 2, _ => exact hf _ (cm_fm (k := 293) rfl)
  | 3, _ => exact hf _ (cm_fm (k := 294) rfl)
  | 4, _ => exact hf _ (cm_fm (k := 295) rfl)
  | 5, _ => exact hf _ (cm_fm (k := 296) rfl)
  | k + 6, hj => exact absurd hj (by omega)
set_option maxRecDepth 100000 in
theorem st_22 {s : State} {b : Nat} {A : Nat → Prop} (hf : cm_fl s b) (hw : ∀ w ∈ lw_tbl, w.before #[Value.ref b] s = true) (hAn : ∀ a : Nat, a < s.heap.size → ¬ A a) : cm_str ("CellCyclerModel", 156, "repeat", [114, 101, 112, 101, 97, 116]) A s s.heap := by
  obtain ⟨adK, adV, h1, h2⟩ := vk_Sof (args := #[Value.ref b]) (s := s) (N := 1) (tm := fun _ => Term.string "CellCyclerModel" 156) (len := [6]) (byt := [[114, 101, 112, 101, 97, 116]]) (A := A) (fun i hi => by have e9 : i = 0 := (by omega); subst e9; decide) (fun _ _ => hf _ (cm_fm (k := 287) rfl)) (fun _ _ => hf _ (cm_fm (k := 288) rfl)) (fun _ _ => hf _ (cm_fm (k := 289) rfl)) (fun i hi => by have e9 : i = 0 := (by omega); subst e9; exact hf _ (cm_fm (k := 290) rfl)) (fun i hi j hj => by have e9 : i = 0 := (by omega); subst e9; exact st_22e hf j hj) (fun i j hi hj h => absurd (by omega) h) hAn
  exact ⟨adK 0, adV 0, vk_R.of (A := #[Value.ref b]) (hw _ (List.mem_append_right _ (cm_t7 _ (List.mem_of_getElem? (i := 205) rfl)))) (h2 0 Nat.zero_lt_one), ⟨fun i hi => by have e9 : i = 0 := (by omega); subst e9; exact h1.1 0 Nat.zero_lt_one, fun i j hi hj _ => by omega⟩⟩
set_option maxRecDepth 100000 in
theorem st_23e {s : State} {b : Nat} (hf : cm_fl s b) (j : Nat) (hj : j < 10) : (Cond.eq (.elem (.field (Term.string "CellCyclerModel" 177) "java/lang/String" "value" "[B") (.int (Int32.ofNat j))) (.int ((([[101, 102, 102, 105, 99, 105, 101, 110, 99, 121]] : List (List Int32)).getD 0 []).getD j 0))).before #[Value.ref b] s = true := by
  match j, hj with
  | 0, _ => exact hf _ (cm_fm (k := 302) rfl)
  | 1, _ => exact hf _ (cm_fm (k := 303) rfl)
  | 2, _ => exact hf _ (cm_fm (k := 304) rfl)
  | 3, _ => exact hf _ (cm_fm (k := 305) rfl)
  | 4, _ => exact hf _ (cm_fm (k := 306) rfl)
  | 5, _ => exact hf _ (cm_fm (k := 307) rfl)
  | 6, _ => exact hf _ (cm_fm (k := 308) rfl)
  | 7, _ => exact hf _ (cm_fm (k := 309) rfl)
  | 8, _ => exact hf _ (cm_fm (k := 310) rfl)
  | 9, _ => exact hf _ (cm_fm (k := 311) rfl)
  | k + 10, hj => exact absurd hj (by omega)
set_option maxRecDepth 100000 in
theorem st_23 {s : State} {b : Nat} {A : Nat → Prop} (hf : cm_fl s b) (hw : ∀ w ∈ lw_tbl, w.before #[Value.ref b] s = true) (hAn : ∀ a : Nat, a < s.heap.size → ¬ A a) : cm_str ("CellCyclerModel", 177, "efficiency", [101, 102, 102, 105, 99, 105, 101, 110, 99, 121]) A s s.heap := by
  obtain ⟨adK, adV, h1, h2⟩ := vk_Sof (args := #[Value.ref b]) (s := s) (N := 1) (tm := fun _ => Term.string "CellCyclerModel" 177) (len := [10]) (byt := [[101, 102, 102, 105, 99, 105, 101, 110, 99, 121]]) (A := A) (fun i hi => by have e9 : i = 0 := (by omega); subst e9; decide) (fun _ _ => hf _ (cm_fm (k := 298) rfl)) (fun _ _ => hf _ (cm_fm (k := 299) rfl)) (fun _ _ => hf _ (cm_fm (k := 300) rfl)) (fun i hi => by have e9 : i = 0 := (by omega); subst e9; exact hf _ (cm_fm (k := 301) rfl)) (fun i hi j hj => by have e9 : i = 0 := (by omega); subst e9; exact st_23e hf j hj) (fun i j hi hj h => absurd (by omega) h) hAn
  exact ⟨adK 0, adV 0, vk_R.of (A := #[Value.ref b]) (hw _ (List.mem_append_right _ (cm_t7 _ (List.mem_of_getElem? (i := 206) rfl)))) (h2 0 Nat.zero_lt_one), ⟨fun i hi => by have e9 : i = 0 := (by omega); subst e9; exact h1.1 0 Nat.zero_lt_one, fun i j hi hj _ => by omega⟩⟩
set_option maxRecDepth 100000 in
theorem st_24e {s : State} {b : Nat} (hf : cm_fl s b) (j : Nat) (hj : j < 4) : (Cond.eq (.elem (.field (Term.string "CellCyclerModel" 179) "java/lang/String" "value" "[B") (.int (Int32.ofNat j))) (.int ((([[102, 97, 100, 101]] : List (List Int32)).getD 0 []).getD j 0))).before #[Value.ref b] s = true := by
  match j, hj with
  | 0, _ => exact hf _ (cm_fm (k := 317) rfl)
  | 1, _ => exact hf _ (cm_fm (k := 318) rfl)
  | 2, _ => exact hf _ (cm_fm (k := 319) rfl)
  | 3, _ => exact hf _ (cm_fm (k := 320) rfl)
  | k + 4, hj => exact absurd hj (by omega)
set_option maxRecDepth 100000 in
theorem st_24 {s : State} {b : Nat} {A : Nat → Prop} (hf : cm_fl s b) (hw : ∀ w ∈ lw_tbl, w.before #[Value.ref b] s = true) (hAn : ∀ a : Nat, a < s.heap.size → ¬ A a) : cm_str ("CellCyclerModel", 179, "fade", [102, 97, 100, 101]) A s s.heap := by
  obtain ⟨adK, adV, h1, h2⟩ := vk_Sof (args := #[Value.ref b]) (s := s) (N := 1) (tm := fun _ => Term.string "CellCyclerModel" 179) (len := [4]) (byt := [[102, 97, 100, 101]]) (A := A) (fun i hi => by have e9 : i = 0 := (by omega); subst e9; decide) (fun _ _ => hf _ (cm_fm (k := 313) rfl)) (fun _ _ => hf _ (cm_fm (k := 314) rfl)) (fun _ _ => hf _ (cm_fm (k := 315) rfl)) (fun i hi => by have e9 : i = 0 := (by omega); subst e9; exact hf _ (cm_fm (k := 316) rfl)) (fun i hi j hj => by have e9 : i = 0 := (by omega); subst e9; exact st_24e hf j hj) (fun i j hi hj h => absurd (by omega) h) hAn
  exact ⟨adK 0, adV 0, vk_R.of (A := #[Value.ref b]) (hw _ (List.mem_append_right _ (cm_t7 _ (List.mem_of_getElem? (i := 207) rfl)))) (h2 0 Nat.zero_lt_one), ⟨fun i hi => by have e9 : i = 0 := (by omega); subst e9; exact h1.1 0 Nat.zero_lt_one, fun i j hi hj _ => by omega⟩⟩
set_option maxRecDepth 100000 in
theorem st_25e {s : State} {b : Nat} (hf : cm_fl s b) (j : Nat) (hj : j < 4) : (Cond.eq (.elem (.field (Term.string "CellCyclerModel" 182) "java/lang/String" "value" "[B") (.int (Int32.ofNat j))) (.int ((([[104, 101, 97, 116]] : List (List Int32)).getD 0 []).getD j 0))).before #[Value.ref b] s = true := by
  match j, hj with
  | 0, _ => exact hf _ (cm_fm (k := 326) rfl)
  | 1, _ => exact hf _ (cm_fm (k := 327) rfl)
  | 2, _ => exact hf _ (cm_fm (k := 328) rfl)
  | 3, _ => exact hf _ (cm_fm (k := 329) rfl)
  | k + 4, hj => exact absurd hj (by omega)
set_option maxRecDepth 100000 in
theorem st_25 {s : State} {b : Nat} {A : Nat → Prop} (hf : cm_fl s b) (hw : ∀ w ∈ lw_tbl, w.before #[Value.ref b] s = true) (hAn : ∀ a : Nat, a < s.heap.size → ¬ A a) : cm_str ("CellCyclerModel", 182, "heat", [104, 101, 97, 116]) A s s.heap := by
  obtain ⟨adK, adV, h1, h2⟩ := vk_Sof (args := #[Value.ref b]) (s := s) (N := 1) (tm := fun _ => Term.string "CellCyclerModel" 182) (len := [4]) (byt := [[104, 101, 97, 116]]) (A := A) (fun i hi => by have e9 : i = 0 := (by omega); subst e9; decide) (fun _ _ => hf _ (cm_fm (k := 322) rfl)) (fun _ _ => hf _ (cm_fm (k := 323) rfl)) (fun _ _ => hf _ (cm_fm (k := 324) rfl)) (fun i hi => by have e9 : i = 0 := (by omega); subst e9; exact hf _ (cm_fm (k := 325) rfl)) (fun i hi j hj => by have e9 : i = 0 := (by omega); subst e9; exact st_25e hf j hj) (fun i j hi hj h => absurd (by omega) h) hAn
  exact ⟨adK 0, adV 0, vk_R.of (A := #[Value.ref b]) (hw _ (List.mem_append_right _ (cm_t7 _ (List.mem_of_getElem? (i := 209) rfl)))) (h2 0 Nat.zero_lt_one), ⟨fun i hi => by have e9 : i = 0 := (by omega); subst e9; exact h1.1 0 Nat.zero_lt_one, fun i j hi hj _ => by omega⟩⟩
set_option maxRecDepth 100000 in
theorem st_26e {s : State} {b : Nat} (hf : cm_fl s b) (j : Nat) (hj : j < 6) : (Cond.eq (.elem (.field (Term.string "CellCyclerModel" 187) "java/lang/String" "value" "[B") (.int (Int32.ofNat j))) (.int ((([[108, 105, 109, 105, 116, 115]] : List (List Int32)).getD 0 []).getD j 0))).before #[Value.ref b] s = true := by
  match j, hj with
  | 0, _ => exact hf _ (cm_fm (k := 335) rfl)
  | 1, _ => exact hf _ (cm_fm (k := 336) rfl)
  | 2, _ => exact hf _ (cm_fm (k := 337) rfl)
  | 3, _ => exact hf _ (cm_fm (k := 338) rfl)
  | 4, _ => exact hf _ (cm_fm (k := 339) rfl)
  | 5, _ => exact hf _ (cm_fm (k := 340) rfl)
  | k + 6, hj => exact absurd hj (by omega)
set_option maxRecDepth 100000 in
theorem st_26 {s : State} {b : Nat} {A : Nat → Prop} (hf : cm_fl s b) (hw : ∀ w ∈ lw_tbl, w.before #[Value.ref b] s = true) (hAn : ∀ a : Nat, a < s.heap.size → ¬ A a) : cm_str ("CellCyclerModel", 187, "limits", [108, 105, 109, 105, 116, 115]) A s s.heap := by
  obtain ⟨adK, adV, h1, h2⟩ := vk_Sof (args := #[Value.ref b]) (s := s) (N := 1) (tm := fun _ => Term.string "CellCyclerModel" 187) (len := [6]) (byt := [[108, 105, 109, 105, 116, 115]]) (A := A) (fun i hi => by have e9 : i = 0 := (by omega); subst e9; decide) (fun _ _ => hf _ (cm_fm (k := 331) rfl)) (fun _ _ => hf _ (cm_fm (k := 332) rfl)) (fun _ _ => hf _ (cm_fm (k := 333) rfl)) (fun i hi => by have e9 : i = 0 := (by omega); subst e9; exact hf _ (cm_fm (k := 334) rfl)) (fun i hi j hj => by have e9 : i = 0 := (by omega); subst e9; exact st_26e hf j hj) (fun i j hi hj h => absurd (by omega) h) hAn
  exact ⟨adK 0, adV 0, vk_R.of (A := #[Value.ref b]) (hw _ (List.mem_append_right _ (cm_t7 _ (List.mem_of_getElem? (i := 211) rfl)))) (h2 0 Nat.zero_lt_one), ⟨fun i hi => by have e9 : i = 0 := (by omega); subst e9; exact h1.1 0 Nat.zero_lt_one, fun i j hi hj _ => by omega⟩⟩
set_option maxRecDepth 100000 in
theorem st_27e {s : State} {b : Nat} (hf : cm_fl s b) (j : Nat) (hj : j < 4) : (Cond.eq (.elem (.field (Term.string "CellCyclerModel" 189) "java/lang/String" "value" "[B") (.int (Int32.ofNat j))) (.int ((([[119, 97, 114, 110]] : List (List Int32)).getD 0 []).getD j 0))).before #[Value.ref b] s = true := by
  match j, hj with
  | 0, _ => exact hf _ (cm_fm (k := 346) rfl)
  | 1, _ => exact hf _ (cm_fm (k := 347) rfl)
  | 2, _ => exact hf _ (cm_fm (k := 348) rfl)
  | 3, _ => exact hf _ (cm_fm (k := 349) rfl)
  | k + 4, hj => exact absurd hj (by omega)
set_option maxRecDepth 100000 in
theorem st_27 {s : State} {b : Nat} {A : Nat → Prop} (hf : cm_fl s b) (hw : ∀ w ∈ lw_tbl, w.before #[Value.ref b] s = true) (hAn : ∀ a : Nat, a < s.heap.size → ¬ A a) : cm_str ("CellCyclerModel", 189, "warn", [119, 97, 114, 110]) A s s.heap := by
  obtain ⟨adK, adV, h1, h2⟩ := vk_Sof (args := #[Value.ref b]) (s := s) (N := 1) (tm := fun _ => Term.string "CellCyclerModel" 189) (len := [4]) (byt := [[119, 97, 114, 110]]) (A := A) (fun i hi => by have e9 : i = 0 := (by omega); subst e9; decide) (fun _ _ => hf _ (cm_fm (k := 342) rfl)) (fun _ _ => hf _ (cm_fm (k := 343) rfl)) (fun _ _ => hf _ (cm_fm (k := 344) rfl)) (fun i hi => by have e9 : i = 0 := (by omega); subst e9; exact hf _ (cm_fm (k := 345) rfl)) (fun i hi j hj => by have e9 : i = 0 := (by omega); subst e9; exact st_27e hf j hj) (fun i j hi hj h => absurd (by omega) h) hAn
  exact ⟨adK 0, adV 0, vk_R.of (A := #[Value.ref b]) (hw _ (List.mem_append_right _ (cm_t7 _ (List.mem_of_getElem? (i := 212) rfl)))) (h2 0 Nat.zero_lt_one), ⟨fun i hi => by have e9 : i = 0 := (by omega); subst e9; exact h1.1 0 Nat.zero_lt_one, fun i j hi hj _ => by omega⟩⟩
set_option maxRecDepth 100000 in
theorem st_28e {s : State} {b : Nat} (hf : cm_fl s b) (j : Nat) (hj : j < 6) : (Cond.eq (.elem (.field (Term.string "CellCyclerModel" 191) "java/lang/String" "value" "[B") (.int (Int32.ofNat j))) (.int ((([[100, 101, 114, 97, 116, 101]] : List (List Int32)).getD 0 []).getD j 0))).before #[Value.ref b] s = true := by
  match j, hj with
  | 0, _ => exact hf _ (cm_fm (k := 355) rfl)
  | 1, _ => exact hf _ (cm_fm (k := 356) rfl)
  | 2, _ => exact hf _ (cm_fm (k := 357) rfl)
  | 3, _ => exact hf _ (cm_fm (k := 358) rfl)
  | 4, _ => exact hf _ (cm_fm (k := 359) rfl)
  | 5, _ => exact hf _ (cm_fm (k := 360) rfl)
  | k + 6, hj => exact absurd hj (by omega)
set_option maxRecDepth 100000 in
theorem st_28 {s : State} {b : Nat} {A : Nat → Prop} (hf : cm_fl s b) (hw : ∀ w ∈ lw_tbl, w.before #[Value.ref b] s = true) (hAn : ∀ a : Nat, a < s.heap.size → ¬ A a) : cm_str ("CellCyclerModel", 191, "derate", [100, 101, 114, 97, 116, 101]) A s s.heap := by
  obtain ⟨adK, adV, h1, h2⟩ := vk_Sof (args := #[Value.ref b]) (s := s) (N := 1) (tm := fun _ => Term.string "CellCyclerModel" 191) (len := [6]) (byt := [[100, 101, 114, 97, 116, 101]]) (A := A) (fun i hi => by have e9 : i = 0 := (by omega); subst e9; decide) (fun _ _ => hf _ (cm_fm (k := 351) rfl)) (fun _ _ => hf _ (cm_fm (k := 352) rfl)) (fun _ _ => hf _ (cm_fm (k := 353) rfl)) (fun i hi => by have e9 : i = 0 := (by omega); subst e9; exact hf _ (cm_fm (k := 354) rfl)) (fun i hi j hj => by have e9 : i = 0 := (by omega); subst e9; exact st_28e hf j hj) (fun i j hi hj h => absurd (by omega) h) hAn
  exact ⟨adK 0, adV 0, vk_R.of (A := #[Value.ref b]) (hw _ (List.mem_append_right _ (cm_t7 _ (List.mem_of_getElem? (i := 213) rfl)))) (h2 0 Nat.zero_lt_one), ⟨fun i hi => by have e9 : i = 0 := (by omega); subst e9; exact h1.1 0 Nat.zero_lt_one, fun i j hi hj _ => by omega⟩⟩
set_option maxRecDepth 100000 in
theorem st_29e {s : State} {b : Nat} (hf : cm_fl s b) (j : Nat) (hj : j < 7) : (Cond.eq (.elem (.field (Term.string "CellCyclerModel" 193) "java/lang/String" "value" "[B") (.int (Int32.ofNat j))) (.int ((([[97, 109, 98, 105, 101, 110, 116]] : List (List Int32)).getD 0 []).getD j 0))).before #[Value.ref b] s = true := by
  match j, hj with
  | 0, _ => exact hf _ (cm_fm (k := 366) rfl)
  | 1, _ => exact hf _ (cm_fm (k := 367) rfl)
  | 2, _ => exact hf _ (cm_fm (k := 368) rfl)
  | 3, _ => exact hf _ (cm_fm (k := 369) rfl)
  | 4, _ => exact hf _ (cm_fm (k := 370) rfl)
  | 5, _ => exact hf _ (cm_fm (k := 371) rfl)
  | 6, _ => exact hf _ (cm_fm (k := 372) rfl)
  | k + 7, hj => exact absurd hj (by omega)
set_option maxRecDepth 100000 in
theorem st_29 {s : State} {b : Nat} {A : Nat → Prop} (hf : cm_fl s b) (hw : ∀ w ∈ lw_tbl, w.before #[Value.ref b] s = true) (hAn : ∀ a : Nat, a < s.heap.size → ¬ A a) : cm_str ("CellCyclerModel", 193, "ambient", [97, 109, 98, 105, 101, 110, 116]) A s s.heap := by
  obtain ⟨adK, adV, h1, h2⟩ := vk_Sof (args := #[Value.ref b]) (s := s) (N := 1) (tm := fun _ => Term.string "CellCyclerModel" 193) (len := [7]) (byt := [[97, 109, 98, 105, 101, 110, 116]]) (A := A) (fun i hi => by have e9 : i = 0 := (by omega); subst e9; decide) (fun _ _ => hf _ (cm_fm (k := 362) rfl)) (fun _ _ => hf _ (cm_fm (k := 363) rfl)) (fun _ _ => hf _ (cm_fm (k := 364) rfl)) (fun i hi => by have e9 : i = 0 := (by omega); subst e9; exact hf _ (cm_fm (k := 365) rfl)) (fun i hi j hj => by have e9 : i = 0 := (by omega); subst e9; exact st_29e hf j hj) (fun i j hi hj h => absurd (by omega) h) hAn
  exact ⟨adK 0, adV 0, vk_R.of (A := #[Value.ref b]) (hw _ (List.mem_append_right _ (cm_t7 _ (List.mem_of_getElem? (i := 214) rfl)))) (h2 0 Nat.zero_lt_one), ⟨fun i hi => by have e9 : i = 0 := (by omega); subst e9; exact h1.1 0 Nat.zero_lt_one, fun i j hi hj _ => by omega⟩⟩
theorem cm_arrI {s : State} {args : Array Value} (h : (Cond.arrayClass .int).before args s = true) : ∃ q : ClassId, ArrOfT s q .int ∧ va_RA s q .int := by
  obtain ⟨q, kA, comp, h1, h2, h3⟩ := Cond.arrayClass_spec h
  exact ⟨q, fun n z => ⟨fun k h => (by cases h), kA, h2, comp, h3⟩, h1⟩
theorem cm_arrJ {s : State} {args : Array Value} (h : (Cond.arrayClass .long).before args s = true) : ∃ q : ClassId, ArrOfT s q .long ∧ va_RA s q .long := by
  obtain ⟨q, kA, comp, h1, h2, h3⟩ := Cond.arrayClass_spec h
  exact ⟨q, fun n z => ⟨fun k h => (by cases h), kA, h2, comp, h3⟩, h1⟩
theorem cm_arrZ {s : State} {args : Array Value} (h : (Cond.arrayClass .boolean).before args s = true) : ∃ q : ClassId, ArrOfT s q .boolean ∧ va_RA s q .boolean := by
  obtain ⟨q, kA, comp, h1, h2, h3⟩ := Cond.arrayClass_spec h
  exact ⟨q, fun n z => ⟨fun k h => (by cases h), kA, h2, comp, h3⟩, h1⟩
theorem cm_arrD {s : State} {args : Array Value} (h : (Cond.arrayClass .double).before args s = true) : ∃ q : ClassId, ArrOfT s q .double ∧ va_RA s q .double := by
  obtain ⟨q, kA, comp, h1, h2, h3⟩ := Cond.arrayClass_spec h
  exact ⟨q, fun n z => ⟨fun k h => (by cases h), kA, h2, comp, h3⟩, h1⟩
theorem cm_arrO {C : String} {s : State} {args : Array Value} (h : (Cond.arrayOver (.object C)).before args s = true) : ∃ q : ClassId, ArrOfT s q (.object C) ∧ va_RA s q (.object C) := by
  obtain ⟨comp, q, k, h1, -, h3, h4, h5⟩ := Cond.arrayOver_spec h
  exact ⟨q, fun n z => ⟨fun k h => (by cases h), k, h3, comp, h4⟩, k, comp, h3, h4, h1, h5⟩
set_option maxHeartbeats 4000000 in
set_option maxRecDepth 100000 in
theorem cmL_of {p : Program} {s : State} {m : MethodId} {meth : Method} {c : Code} {b L : Nat} {xs : Nat → Int32} (C0 : lw_At p s m meth c b L xs) : ∃ (D : va_G) (ct : Nat → ClassId) (A : Nat → Prop), cmL p s m meth c D ct A b L xs ∧ va_Nc "java/lang/IllegalArgumentException" "java/lang/IndexOutOfBoundsException" s := by
  obtain ⟨hx, hb, hr, hml, hown, hts0, hXs, hbl, hlocks, hgv⟩ := id C0
  have hts : ∀ w ∈ cm_all, w.before #[Value.ref b] s = true := fun w h => hts0 w (List.mem_filter.mp h).1
  have hf : cm_fl s b := flat_of_before _ hgv
  have hAn : ∀ a : Nat, a < s.heap.size → ¬ s.heap.size ≤ a := fun a h => Nat.not_le.mpr h
  have hNc : va_Nc "java/lang/IllegalArgumentException" "java/lang/IndexOutOfBoundsException" s := va_Nc.of (args := #[Value.ref b]) (hf _ (by decide +kernel))
  obtain ⟨c0, i0, hk0⟩ := u_known (C := RX0) (T := TX0) (N := 16) (n := 16) hts in_X0 (hts _ kn_RX0)
  obtain ⟨c1, i1, hk1⟩ := u_known (C := RX1) (T := TX1) (N := 14) (n := 14) hts in_X1 (hts _ kn_RX1)
  obtain ⟨c2, i2, hk2⟩ := u_known (C := RX2) (T := TX2) (N := 4) (n := 4) hts in_X2 (hts _ kn_RX2)
  obtain ⟨c3, i3, hk3⟩ := u_known (C := RX3) (T := TX3) (N := 4) (n := 4) hts in_X3 (hts _ kn_RX3)
  obtain ⟨c4, i4, hk4⟩ := u_known (C := RX4) (T := TX4) (N := 7) (n := 7) hts in_X4 (hts _ kn_RX4)
  obtain ⟨c5, i5, hk5⟩ := u_known (C := RX5) (T := TX5) (N := 5) (n := 5) hts in_X5 (hts _ kn_RX5)
  obtain ⟨c6, i6, hk6⟩ := u_known (C := RX6) (T := TX6) (N := 7) (n := 7) hts in_X6 (hts _ kn_RX6)
  obtain ⟨c7, i7, hk7⟩ := u_known (C := RX7) (T := TX7) (N := 12) (n := 12) hts in_X7 (hts _ kn_RX7)
  obtain ⟨c8, i8, hk8⟩ := u_known (C := RX8) (T := TX8) (N := 5) (n := 5) hts in_X8 (hts _ kn_RX8)
  obtain ⟨c9, i9, hk9⟩ := u_known (C := RX9) (T := TX9) (N := 8) (n := 8) hts in_X9 (hts _ kn_RX9)
  obtain ⟨c10, i10, hk10⟩ := u_known (C := RX10) (T := TX10) (N := 6) (n := 6) hts in_X10 (hts _ kn_RX10)
  obtain ⟨c11, i11, hk11⟩ := u_known (C := RX11) (T := TX11) (N := 19) (n := 19) hts in_X11 (hts _ kn_RX11)
  obtain ⟨a0, ha0, hr0⟩ := cm_arrI (hts _ ka_int)
  obtain ⟨a1, ha1, hr1⟩ := cm_arrJ (hts _ ka_long)
  obtain ⟨a2, ha2, hr2⟩ := cm_arrZ (hts _ ka_boolean)
  obtain ⟨a3, ha3, hr3⟩ := cm_arrO (hts _ kao_RX1)
  obtain ⟨a4, ha4, hr4⟩ := cm_arrO (hts _ kao_RX9)
  obtain ⟨a5, ha5, hr5⟩ := cm_arrD (hts _ ka_double)
  refine ⟨(fun k => match k with | 0 => c0 | 1 => c1 | 2 => c2 | 3 => c3 | 4 => c4 | 5 => c5 | 6 => c6 | 7 => c7 | 8 => c8 | 9 => c9 | 10 => c10 | _ => c11, fun k => match k with | 0 => i0 | 1 => i1 | 2 => i2 | 3 => i3 | 4 => i4 | 5 => i5 | 6 => i6 | 7 => i7 | 8 => i8 | 9 => i9 | 10 => i10 | _ => i11), fun k => match k with | 0 => a0 | 1 => a1 | 2 => a2 | 3 => a3 | 4 => a4 | _ => a5, fun q => s.heap.size ≤ q, ⟨hx, hb, hr, hml, hown, hts, ⟨fun k q hq => ?_, fun k q hq => ?_⟩, ⟨?_, ?_, ?_, ?_, ?_⟩, hXs, hbl, Nat.not_le.mpr hbl, fun _ h => h, fun _ h => h, hlocks⟩, hNc⟩
  · match k, hq with
    | 0, hq => cases hq; exact hk0
    | 1, hq => cases hq; exact hk1
    | 2, hq => cases hq; exact hk2
    | 3, hq => cases hq; exact hk3
    | 4, hq => cases hq; exact hk4
    | 5, hq => cases hq; exact hk5
    | 6, hq => cases hq; exact hk6
    | 7, hq => cases hq; exact hk7
    | 8, hq => cases hq; exact hk8
    | 9, hq => cases hq; exact hk9
    | 10, hq => cases hq; exact hk10
    | 11, hq => cases hq; exact hk11
    | k + 12, hq => simp [vwCl] at hq
  · match k, hq with
    | 0, hq => cases hq; exact ⟨ha0, hr0⟩
    | 1, hq => cases hq; exact ⟨ha1, hr1⟩
    | 2, hq => cases hq; exact ⟨ha2, hr2⟩
    | 3, hq => cases hq; exact ⟨ha3, hr3⟩
    | 4, hq => cases hq; exact ⟨ha4, hr4⟩
    | 5, hq => cases hq; exact ⟨ha5, hr5⟩
    | k + 6, hq => simp [cT] at hq
  · exact vx_Zqof (args := #[Value.ref b]) (hts0 _ (List.mem_append_right _ (cm_t4 _ (List.mem_of_getElem? (i := 117) rfl)))) (hts _ ki_java_lang_Throwable) (hf _ (by decide +kernel)) hAn
  · exact vx_Zqof (args := #[Value.ref b]) (hts0 _ (List.mem_append_right _ (cm_t4 _ (List.mem_of_getElem? (i := 119) rfl)))) (hts _ ki_java_lang_Throwable) (hf _ (by decide +kernel)) hAn
  · exact va_Zof (args := #[Value.ref b]) (hts0 _ (List.mem_append_right _ (cm_t3 _ (List.mem_of_getElem? (i := 76) rfl)))) (hts _ ki_RJ0) (va_eqt (hf (.eq (.static "java/lang/String" "COMPACT_STRINGS" "Z") (.int 1)) (by decide +kernel))) hAn
  · exact List.forall_mem_cons.mpr ⟨st_0 hf hts0 hAn, List.forall_mem_cons.mpr ⟨st_1 hf hts0 hAn, List.forall_mem_cons.mpr ⟨st_2 hf hts0 hAn, List.forall_mem_cons.mpr ⟨st_3 hf hts0 hAn, List.forall_mem_cons.mpr ⟨st_4 hf hts0 hAn, List.forall_mem_cons.mpr ⟨st_5 hf hts0 hAn, List.forall_mem_cons.mpr ⟨st_6 hf hts0 hAn, List.forall_mem_cons.mpr ⟨st_7 hf hts0 hAn, List.forall_mem_cons.mpr ⟨st_8 hf hts0 hAn, List.forall_mem_cons.mpr ⟨st_9 hf hts0 hAn, List.forall_mem_cons.mpr ⟨st_10 hf hts0 hAn, List.forall_mem_cons.mpr ⟨st_11 hf hts0 hAn, List.forall_mem_cons.mpr ⟨st_12 hf hts0 hAn, List.forall_mem_cons.mpr ⟨st_13 hf hts0 hAn, List.forall_mem_cons.mpr ⟨st_14 hf hts0 hAn, List.forall_mem_cons.mpr ⟨st_15 hf hts0 hAn, List.forall_mem_cons.mpr ⟨st_16 hf hts0 hAn, List.forall_mem_cons.mpr ⟨st_17 hf hts0 hAn, List.forall_mem_cons.mpr ⟨st_18 hf hts0 hAn, List.forall_mem_cons.mpr ⟨st_19 hf hts0 hAn, List.forall_mem_cons.mpr ⟨st_20 hf hts0 hAn, List.forall_mem_cons.mpr ⟨st_21 hf hts0 hAn, List.forall_mem_cons.mpr ⟨st_22 hf hts0 hAn, List.forall_mem_cons.mpr ⟨st_23 hf hts0 hAn, List.forall_mem_cons.mpr ⟨st_24 hf hts0 hAn, List.forall_mem_cons.mpr ⟨st_25 hf hts0 hAn, List.forall_mem_cons.mpr ⟨st_26 hf hts0 hAn, List.forall_mem_cons.mpr ⟨st_27 hf hts0 hAn, List.forall_mem_cons.mpr ⟨st_28 hf hts0 hAn, List.forall_mem_cons.mpr ⟨st_29 hf hts0 hAn, fun _ h => absurd h List.not_mem_nil⟩⟩⟩⟩⟩⟩⟩⟩⟩⟩⟩⟩⟩⟩⟩⟩⟩⟩⟩⟩⟩⟩⟩⟩⟩⟩⟩⟩⟩⟩
  · exact vx_Zqof (args := #[Value.ref b]) (hts0 _ (List.mem_append_right _ (cm_t3 _ (List.mem_of_getElem? (i := 95) rfl)))) (hts _ ki_RJ3) (hf _ (by decide +kernel)) hAn
theorem fw_sq00 : (fun _ => none : Nat → Option Nat) = fw_sq none none := by
  funext i
  unfold fw_sq
  by_cases z : i = 0
  · rw [if_pos z]; rfl
  · rw [if_neg z]
    by_cases y : i = 1
    · rw [if_pos y]; rfl
    · rw [if_neg y]
theorem sd_00 {g0 : Nat → Int32} (e : q_eq 958 rq_W0 g0) : sd g0 fw_W0 fw_X0 ∧ sd_N g0 fw_W0 := by
  have g9 : g0 9 = 0 := e 9 (by omega)
  have g10 : g0 10 = 0 := e 10 (by omega)
  have g11 : g0 11 = 0 := e 11 (by omega)
  refine ⟨⟨⟨fun j hj => ?_, fun j j1 j2 => ?_, g9, g10, g11⟩, ⟨?_, ?_, ?_⟩, ?_, ?_, ?_⟩, [], rp_N0 _, List.nodup_nil, rm_N0 g11⟩
  · rw [e j (by omega)]
    rcases (by omega : j = 0 ∨ j = 1 ∨ j = 2 ∨ j = 3 ∨ j = 4 ∨ j = 5 ∨ j = 6 ∨ j = 7) with z | z | z | z | z | z | z | z <;> subst z <;> rfl
  · rw [e j (by omega)]
    rcases (by omega : j = 13 ∨ j = 14 ∨ j = 15 ∨ j = 16) with z | z | z | z <;> subst z <;> rfl
  · rw [g9]; decide
  · rw [g10]; decide
  · rw [g11]; decide
  · rw [g11]; exact fun i hi => absurd hi (by rw [show (0 : Int32).toInt.toNat = 0 from by decide]; omega)
  · rw [g10]; exact fun i hi => absurd hi (by rw [show (0 : Int32).toInt.toNat = 0 from by decide]; omega)
  · rw [g9]; exact fun i hi => absurd hi (by rw [show (0 : Int32).toInt.toNat = 0 from by decide]; omega)
set_option maxHeartbeats 8000000 in
set_option maxRecDepth 100000 in
theorem whole_start {p : Program} {e : Env} {s : State} {m : MethodId} {below : List Frame} {meth : Method} {c : Code} (l : Launch) (hflags : l.flags = flags0) {b9 L : Nat} {xs : Nat → Int32} (hL : L ≤ 2048) (C0 : lw_At p s m meth c b9 L xs) : W p l e room_1 s m #[Value.ref b9] below meth c s.heap [] 0 0 (lw_Z below #[Value.ref b9] s) (entryFrame m ([Value.ref b9] : List Value).toArray 9) := by
  have hfl : l.stackTraces = false := by unfold Launch.stackTraces; rw [hflags]; decide +kernel
  obtain ⟨D, ct, A, C1, hNc⟩ := cmL_of C0
  obtain ⟨hx, hb, hr, hml, hown, hts, hK, hX, hXs, hbl, hbA, hA, hAr, hlocks⟩ := id C1
  have hS : va_S A s.heap s.heap [] := va_S.rf
  have hT : ty_V ct (fun _ => none) (fun _ => True) [] := ty_V0
  have hP : va_P D vwCl (([] : va_W) ++ []) s.heap := fun k q h => by simp at h
  have hD : va_D A (([] : va_W) ++ []) := ⟨fun i j p q h => by simp at h, fun k q h => by simp at h⟩
  have hl := lv_entry ([.ref b9]) (n := 9) (Nat.le_of_ble_eq_true rfl)
  rw [lg_entry_eq]
  generalize (lg_sl ([.ref b9]) ++ List.replicate (9 - (lg_sl ([.ref b9])).length) Slot.unset).toArray = ls at hl ⊢
  have hl : lv_has ls 9 [(0, .ref b9)] := hl
  refine va_new (ci := 10) (fs := [.null, .null, .null, .null, .int 0, .int 0]) (C := RX10) (T := TX10) (N := 6) hx hb hts in_X10 tyX10 tyX10_ok hown (hts _ kl_RL_8) (hts _ kn_RX10) (hts _ ki_RX10) hK hP hD hS hA rfl fs0_X10 (Nat.le_of_ble_eq_true rfl) (Nat.le_of_ble_eq_true rfl) dL_law_0 (fun q_1 H hP hD hS => ?_)
  obtain ⟨hP, hD⟩ := ty_pmPD (w2 := ([(q_1, .inr (10, [.null, .null, .null, .null, .int 0, .int 0]))] ++ [])) hP hD ty_mvp
  refine lv_dup hx hb dL_law_3 rfl ?_
  obtain ⟨hP, hD⟩ := ty_ipPD (E1 := []) (E2 := [(q_1, .inr (10, [.null, .null, .null, .null, .int 0, .int 0]))]) hP hD rfl ty_mva
  refine ty_Kv hP hD hS hA (va_runI (As := []) (rest := [.ref q_1]) ⟨hx, hb, hml, hown, hts⟩ (k_cycler l D ct (fun _ => none) ([]) q_1 _ ty_Veq) (cm_I 0 hts kc_X10_init ki_RX10 kl_RL_172 kv_X10_init rfl kd_X10_init ⟨Nat.le_of_ble_eq_true rfl, Nat.le_of_ble_eq_true rfl⟩) (ty_preS hP hK hD hS hA hX) rfl rfl hl.1 rfl (lv_room (Nat.le_of_ble_eq_true rfl)) dL_law_4 ⟨Nat.le_of_ble_eq_true rfl, Nat.le_of_ble_eq_true rfl⟩) (fun u H locs hw_3 hP hD hS => ?_)
  obtain ⟨ws_4, wa_5, wb_6, sv_7, bu_8⟩ := u
  have hT9_9 := hw_3
  have e9_10 : [] = ws_4 := hT9_9.2.symm
  subst e9_10
  obtain ⟨hP, hD⟩ := ty_shPD (w2 := ([(ty_XO q_1 (wa_5 0) (wb_6 0) sv_7 bu_8 (0) (0)), (fc_WO wa_5 fw_W0), (fc_SE wa_5 fw_W0), (fc_CU wa_5 fw_W0), (fc_NM ct (wa_5 3) fw_W0.2.2), (rf_RW ct 0 (wa_5 4) 4 (fw_W0.2.1 0)), (rf_RW ct 0 (wa_5 5) 44 (fw_W0.2.1 1)), (fc_PR wa_5 fw_W0), (rf_RW ct 0 (wa_5 7) 4 (fw_W0.2.1 2)), (rf_RW ct 0 (wa_5 8) 48 (fw_W0.2.1 3)), (rf_RW ct 0 (wa_5 9) 48 (fw_W0.2.1 4)), (rf_RW ct 0 (wa_5 10) 48 (fw_W0.2.1 5)), (fc_CS ct wa_5), (fc_RC wa_5 fw_W0), (rf_RW ct 0 (wa_5 13) 150 (fw_W0.2.1 6)), (fc_LG wa_5 fw_W0), (rf_RW ct 0 (wa_5 15) 240 (fw_W0.2.1 7)), (fc_WO wb_6 fw_W0), (fc_SE wb_6 fw_W0), (fc_CU wb_6 fw_W0), (fc_NM ct (wb_6 3) fw_W0.2.2), (rf_RW ct 0 (wb_6 4) 4 (fw_W0.2.1 0)), (rf_RW ct 0 (wb_6 5) 44 (fw_W0.2.1 1)), (fc_PR wb_6 fw_W0), (rf_RW ct 0 (wb_6 7) 4 (fw_W0.2.1 2)), (rf_RW ct 0 (wb_6 8) 48 (fw_W0.2.1 3)), (rf_RW ct 0 (wb_6 9) 48 (fw_W0.2.1 4)), (rf_RW ct 0 (wb_6 10) 48 (fw_W0.2.1 5)), (fc_CS ct wb_6), (fc_RC wb_6 fw_W0), (rf_RW ct 0 (wb_6 13) 150 (fw_W0.2.1 6)), (fc_LG wb_6 fw_W0), (rf_RW ct 0 (wb_6 15) 240 (fw_W0.2.1 7)), (sv_7, .inl (ct 4, 2, .inr (.inr (.inr (.inr (fun _ => none)))))), (rf_RW ct 0 bu_8 800 (fun _ => 0))] ++ (fw_all ct wa_5 fw_X0 ++ (fw_all ct wb_6 fw_X0 ++ [])))) hP hD rfl
  refine lv_astore_n (lv' := [(1, .ref q_1), (0, .ref b9)]) hx hb dL_law_7 rfl hl (by decide) rfl (fun ls hl => ?_)
  refine va_new (ci := 11) (fs := [.null, .null, .null, .null, .null, .null, .null, .null, .null, .null, .int 0, .null, .int 0, .int 0, .int 0, .int 0, .int 0, .int 0, .int 0]) (C := RX11) (T := TX11) (N := 19) hx hb hts in_X11 tyX11 tyX11_ok hown (hts _ kl_RL_173) (hts _ kn_RX11) (hts _ ki_RX11) hK hP hD hS hA rfl fs0_X11 (Nat.le_of_ble_eq_true rfl) (Nat.le_of_ble_eq_true rfl) dL_law_8 (fun q_11 H hP hD hS => ?_)
  obtain ⟨hP, hD⟩ := ty_pmPD (w2 := ([(ty_XO q_1 (wa_5 0) (wb_6 0) sv_7 bu_8 (0) (0)), (fc_WO wa_5 fw_W0), (fc_SE wa_5 fw_W0), (fc_CU wa_5 fw_W0), (fc_NM ct (wa_5 3) fw_W0.2.2), (rf_RW ct 0 (wa_5 4) 4 (fw_W0.2.1 0)), (rf_RW ct 0 (wa_5 5) 44 (fw_W0.2.1 1)), (fc_PR wa_5 fw_W0), (rf_RW ct 0 (wa_5 7) 4 (fw_W0.2.1 2)), (rf_RW ct 0 (wa_5 8) 48 (fw_W0.2.1 3)), (rf_RW ct 0 (wa_5 9) 48 (fw_W0.2.1 4)), (rf_RW ct 0 (wa_5 10) 48 (fw_W0.2.1 5)), (fc_CS ct wa_5), (fc_RC wa_5 fw_W0), (rf_RW ct 0 (wa_5 13) 150 (fw_W0.2.1 6)), (fc_LG wa_5 fw_W0), (rf_RW ct 0 (wa_5 15) 240 (fw_W0.2.1 7)), (fc_WO wb_6 fw_W0), (fc_SE wb_6 fw_W0), (fc_CU wb_6 fw_W0), (fc_NM ct (wb_6 3) fw_W0.2.2), (rf_RW ct 0 (wb_6 4) 4 (fw_W0.2.1 0)), (rf_RW ct 0 (wb_6 5) 44 (fw_W0.2.1 1)), (fc_PR wb_6 fw_W0), (rf_RW ct 0 (wb_6 7) 4 (fw_W0.2.1 2)), (rf_RW ct 0 (wb_6 8) 48 (fw_W0.2.1 3)), (rf_RW ct 0 (wb_6 9) 48 (fw_W0.2.1 4)), (rf_RW ct 0 (wb_6 10) 48 (fw_W0.2.1 5)), (fc_CS ct wb_6), (fc_RC wb_6 fw_W0), (rf_RW ct 0 (wb_6 13) 150 (fw_W0.2.1 6)), (fc_LG wb_6 fw_W0), (rf_RW ct 0 (wb_6 15) 240 (fw_W0.2.1 7)), (sv_7, .inl (ct 4, 2, .inr (.inr (.inr (.inr (fun _ => none)))))), (rf_RW ct 0 bu_8 800 (fun _ => 0)), (q_11, .inr (11, [.null, .null, .null, .null, .null, .null, .null, .null, .null, .null, .int 0, .null, .int 0, .int 0, .int 0, .int 0, .int 0, .int 0, .int 0]))] ++ (fw_all ct wa_5 fw_X0 ++ (fw_all ct wb_6 fw_X0 ++ [])))) hP hD ty_mvp
  refine lv_dup hx hb dL_law_11 rfl ?_
  obtain ⟨hP, hD⟩ := ty_ipPD (E1 := [(ty_XO q_1 (wa_5 0) (wb_6 0) sv_7 bu_8 (0) (0)), (fc_WO wa_5 fw_W0), (fc_SE wa_5 fw_W0), (fc_CU wa_5 fw_W0), (fc_NM ct (wa_5 3) fw_W0.2.2), (rf_RW ct 0 (wa_5 4) 4 (fw_W0.2.1 0)), (rf_RW ct 0 (wa_5 5) 44 (fw_W0.2.1 1)), (fc_PR wa_5 fw_W0), (rf_RW ct 0 (wa_5 7) 4 (fw_W0.2.1 2)), (rf_RW ct 0 (wa_5 8) 48 (fw_W0.2.1 3)), (rf_RW ct 0 (wa_5 9) 48 (fw_W0.2.1 4)), (rf_RW ct 0 (wa_5 10) 48 (fw_W0.2.1 5)), (fc_CS ct wa_5), (fc_RC wa_5 fw_W0), (rf_RW ct 0 (wa_5 13) 150 (fw_W0.2.1 6)), (fc_LG wa_5 fw_W0), (rf_RW ct 0 (wa_5 15) 240 (fw_W0.2.1 7)), (fc_WO wb_6 fw_W0), (fc_SE wb_6 fw_W0), (fc_CU wb_6 fw_W0), (fc_NM ct (wb_6 3) fw_W0.2.2), (rf_RW ct 0 (wb_6 4) 4 (fw_W0.2.1 0)), (rf_RW ct 0 (wb_6 5) 44 (fw_W0.2.1 1)), (fc_PR wb_6 fw_W0), (rf_RW ct 0 (wb_6 7) 4 (fw_W0.2.1 2)), (rf_RW ct 0 (wb_6 8) 48 (fw_W0.2.1 3)), (rf_RW ct 0 (wb_6 9) 48 (fw_W0.2.1 4)), (rf_RW ct 0 (wb_6 10) 48 (fw_W0.2.1 5)), (fc_CS ct wb_6), (fc_RC wb_6 fw_W0), (rf_RW ct 0 (wb_6 13) 150 (fw_W0.2.1 6)), (fc_LG wb_6 fw_W0), (rf_RW ct 0 (wb_6 15) 240 (fw_W0.2.1 7)), (sv_7, .inl (ct 4, 2, .inr (.inr (.inr (.inr (fun _ => none)))))), (rf_RW ct 0 bu_8 800 (fun _ => 0))]) (E2 := [(q_11, .inr (11, [.null, .null, .null, .null, .null, .null, .null, .null, .null, .null, .int 0, .null, .int 0, .int 0, .int 0, .int 0, .int 0, .int 0, .int 0]))]) hP hD rfl ty_mv2
  refine ty_Kv hP hD hS hA (va_runI (As := []) (rest := [.ref q_11]) ⟨hx, hb, hml, hown, hts⟩ (m_init l D ct (fun _ => none) [] (fun _ => True) (fun _ _ _ => True) q_11 _ ty_V0 ty_C0 ty_y10) (cm_I 0 hts kc_X11_init ki_RX11 kl_RL_175 kv_X11_init rfl kd_X11_init ⟨Nat.le_of_ble_eq_true rfl, Nat.le_of_ble_eq_true rfl⟩) (ty_preS hP hK hD hS hA hX) rfl rfl hl.1 rfl (lv_room (Nat.le_of_ble_eq_true rfl)) dL_law_12 ⟨Nat.le_of_ble_eq_true rfl, Nat.le_of_ble_eq_true rfl⟩) (fun u H locs hw_13 hP hD hS => ?_)
  obtain ⟨ws_14, S_15, mw_16, ma_17, mf_18, m0_19, m1_20, mu_21, mv_22, u0_23, u1_24, iz_25, mb_26, h_27⟩ := u
  obtain ⟨hT9_28, hle_29, hp_30⟩ := hw_13
  have hp_30 : rf_E h_27 ∧ q_eq 958 rq_W0 h_27 := hp_30
  obtain ⟨hP, hD⟩ := ty_bkPD (E := [(ty_XO q_1 (wa_5 0) (wb_6 0) sv_7 bu_8 (0) (0)), (fc_WO wa_5 fw_W0), (fc_SE wa_5 fw_W0), (fc_CU wa_5 fw_W0), (fc_NM ct (wa_5 3) fw_W0.2.2), (rf_RW ct 0 (wa_5 4) 4 (fw_W0.2.1 0)), (rf_RW ct 0 (wa_5 5) 44 (fw_W0.2.1 1)), (fc_PR wa_5 fw_W0), (rf_RW ct 0 (wa_5 7) 4 (fw_W0.2.1 2)), (rf_RW ct 0 (wa_5 8) 48 (fw_W0.2.1 3)), (rf_RW ct 0 (wa_5 9) 48 (fw_W0.2.1 4)), (rf_RW ct 0 (wa_5 10) 48 (fw_W0.2.1 5)), (fc_CS ct wa_5), (fc_RC wa_5 fw_W0), (rf_RW ct 0 (wa_5 13) 150 (fw_W0.2.1 6)), (fc_LG wa_5 fw_W0), (rf_RW ct 0 (wa_5 15) 240 (fw_W0.2.1 7)), (fc_WO wb_6 fw_W0), (fc_SE wb_6 fw_W0), (fc_CU wb_6 fw_W0), (fc_NM ct (wb_6 3) fw_W0.2.2), (rf_RW ct 0 (wb_6 4) 4 (fw_W0.2.1 0)), (rf_RW ct 0 (wb_6 5) 44 (fw_W0.2.1 1)), (fc_PR wb_6 fw_W0), (rf_RW ct 0 (wb_6 7) 4 (fw_W0.2.1 2)), (rf_RW ct 0 (wb_6 8) 48 (fw_W0.2.1 3)), (rf_RW ct 0 (wb_6 9) 48 (fw_W0.2.1 4)), (rf_RW ct 0 (wb_6 10) 48 (fw_W0.2.1 5)), (fc_CS ct wb_6), (fc_RC wb_6 fw_W0), (rf_RW ct 0 (wb_6 13) 150 (fw_W0.2.1 6)), (fc_LG wb_6 fw_W0), (rf_RW ct 0 (wb_6 15) 240 (fw_W0.2.1 7)), (sv_7, .inl (ct 4, 2, .inr (.inr (.inr (.inr (fun _ => none)))))), (rf_RW ct 0 bu_8 800 (fun _ => 0)), (rf_MO q_11 mw_16 ma_17 mf_18 m0_19 m1_20 mu_21 mv_22 u0_23 u1_24 iz_25 (0) mb_26 (0) (0) (0) (0) (0) (0) (0)), (rf_RW ct 0 mw_16 958 h_27), (rf_RW ct 0 ma_17 958 (fun _ => 0)), (rf_RW ct 0 mf_18 958 (fun _ => 0)), (rf_RW ct 0 m0_19 958 (fun _ => 0)), (rf_RW ct 0 m1_20 958 (fun _ => 0)), (rf_RW ct 2 iz_25 2 (fun _ => 0)), (rf_RW ct 0 mb_26 800 (fun _ => 0)), (mu_21, .inl (ct 1, 42, .inr (.inl (fun _ => 0)))), (mv_22, .inl (ct 1, 42, .inr (.inl (fun _ => 0)))), (u0_23, .inl (ct 1, 42, .inr (.inl (fun _ => 0)))), (u1_24, .inl (ct 1, 42, .inr (.inl (fun _ => 0))))]) hP hD rfl
  refine lv_astore_n (lv' := [(2, .ref q_11), (1, .ref q_1), (0, .ref b9)]) hx hb dL_law_15 rfl hl (by decide) rfl (fun ls hl => ?_)
  refine lv_iconst (v := 1) hx hb dL_law_16 (by decide) ?_
  refine cm_newa (atype := .long) (ty := .long) (a0 := (1, .inr (.inl (fun _ => 0)))) hx hb (hts _ ka_long) rfl hK 1 rfl cm_raJ hP hD hS hA (fun _ => rfl) (by decide) (by decide) (Nat.le_of_ble_eq_true rfl) (Nat.le_of_ble_eq_true rfl) (Nat.le_of_ble_eq_true rfl) dL_law_17 (fun q_31 H hP hD hS => ?_)
  obtain ⟨hP, hD⟩ := ty_pmPD (w2 := ([(ty_XO q_1 (wa_5 0) (wb_6 0) sv_7 bu_8 (0) (0)), (fc_WO wa_5 fw_W0), (fc_SE wa_5 fw_W0), (fc_CU wa_5 fw_W0), (fc_NM ct (wa_5 3) fw_W0.2.2), (rf_RW ct 0 (wa_5 4) 4 (fw_W0.2.1 0)), (rf_RW ct 0 (wa_5 5) 44 (fw_W0.2.1 1)), (fc_PR wa_5 fw_W0), (rf_RW ct 0 (wa_5 7) 4 (fw_W0.2.1 2)), (rf_RW ct 0 (wa_5 8) 48 (fw_W0.2.1 3)), (rf_RW ct 0 (wa_5 9) 48 (fw_W0.2.1 4)), (rf_RW ct 0 (wa_5 10) 48 (fw_W0.2.1 5)), (fc_CS ct wa_5), (fc_RC wa_5 fw_W0), (rf_RW ct 0 (wa_5 13) 150 (fw_W0.2.1 6)), (fc_LG wa_5 fw_W0), (rf_RW ct 0 (wa_5 15) 240 (fw_W0.2.1 7)), (fc_WO wb_6 fw_W0), (fc_SE wb_6 fw_W0), (fc_CU wb_6 fw_W0), (fc_NM ct (wb_6 3) fw_W0.2.2), (rf_RW ct 0 (wb_6 4) 4 (fw_W0.2.1 0)), (rf_RW ct 0 (wb_6 5) 44 (fw_W0.2.1 1)), (fc_PR wb_6 fw_W0), (rf_RW ct 0 (wb_6 7) 4 (fw_W0.2.1 2)), (rf_RW ct 0 (wb_6 8) 48 (fw_W0.2.1 3)), (rf_RW ct 0 (wb_6 9) 48 (fw_W0.2.1 4)), (rf_RW ct 0 (wb_6 10) 48 (fw_W0.2.1 5)), (fc_CS ct wb_6), (fc_RC wb_6 fw_W0), (rf_RW ct 0 (wb_6 13) 150 (fw_W0.2.1 6)), (fc_LG wb_6 fw_W0), (rf_RW ct 0 (wb_6 15) 240 (fw_W0.2.1 7)), (sv_7, .inl (ct 4, 2, .inr (.inr (.inr (.inr (fun _ => none)))))), (rf_RW ct 0 bu_8 800 (fun _ => 0)), (rf_MO q_11 mw_16 ma_17 mf_18 m0_19 m1_20 mu_21 mv_22 u0_23 u1_24 iz_25 (0) mb_26 (0) (0) (0) (0) (0) (0) (0)), (rf_RW ct 0 mw_16 958 h_27), (rf_RW ct 0 ma_17 958 (fun _ => 0)), (rf_RW ct 0 mf_18 958 (fun _ => 0)), (rf_RW ct 0 m0_19 958 (fun _ => 0)), (rf_RW ct 0 m1_20 958 (fun _ => 0)), (rf_RW ct 2 iz_25 2 (fun _ => 0)), (rf_RW ct 0 mb_26 800 (fun _ => 0)), (mu_21, .inl (ct 1, 42, .inr (.inl (fun _ => 0)))), (mv_22, .inl (ct 1, 42, .inr (.inl (fun _ => 0)))), (u0_23, .inl (ct 1, 42, .inr (.inl (fun _ => 0)))), (u1_24, .inl (ct 1, 42, .inr (.inl (fun _ => 0)))), (q_31, .inl (ct 1, 1, .inr (.inl (fun _ => 0))))] ++ (fw_all ct wa_5 fw_X0 ++ (fw_all ct wb_6 fw_X0 ++ [])))) hP hD ty_mvp
  refine lv_astore_n (lv' := [(3, .ref q_31), (2, .ref q_11), (1, .ref q_1), (0, .ref b9)]) hx hb dL_law_19 rfl hl (by decide) rfl (fun ls hl => ?_)
  refine lv_iconst (v := 1) hx hb dL_law_20 (by decide) ?_
  refine cm_newa (atype := .double) (ty := .double) (a0 := (1, .inr (.inr (.inr (.inl (fun _ => 0)))))) hx hb (hts _ ka_double) rfl hK 5 rfl cm_raD hP hD hS hA (fun _ => rfl) (by decide) (by decide) (Nat.le_of_ble_eq_true rfl) (Nat.le_of_ble_eq_true rfl) (Nat.le_of_ble_eq_true rfl) dL_law_21 (fun q_32 H hP hD hS => ?_)
  obtain ⟨hP, hD⟩ := ty_pmPD (w2 := ([(ty_XO q_1 (wa_5 0) (wb_6 0) sv_7 bu_8 (0) (0)), (fc_WO wa_5 fw_W0), (fc_SE wa_5 fw_W0), (fc_CU wa_5 fw_W0), (fc_NM ct (wa_5 3) fw_W0.2.2), (rf_RW ct 0 (wa_5 4) 4 (fw_W0.2.1 0)), (rf_RW ct 0 (wa_5 5) 44 (fw_W0.2.1 1)), (fc_PR wa_5 fw_W0), (rf_RW ct 0 (wa_5 7) 4 (fw_W0.2.1 2)), (rf_RW ct 0 (wa_5 8) 48 (fw_W0.2.1 3)), (rf_RW ct 0 (wa_5 9) 48 (fw_W0.2.1 4)), (rf_RW ct 0 (wa_5 10) 48 (fw_W0.2.1 5)), (fc_CS ct wa_5), (fc_RC wa_5 fw_W0), (rf_RW ct 0 (wa_5 13) 150 (fw_W0.2.1 6)), (fc_LG wa_5 fw_W0), (rf_RW ct 0 (wa_5 15) 240 (fw_W0.2.1 7)), (fc_WO wb_6 fw_W0), (fc_SE wb_6 fw_W0), (fc_CU wb_6 fw_W0), (fc_NM ct (wb_6 3) fw_W0.2.2), (rf_RW ct 0 (wb_6 4) 4 (fw_W0.2.1 0)), (rf_RW ct 0 (wb_6 5) 44 (fw_W0.2.1 1)), (fc_PR wb_6 fw_W0), (rf_RW ct 0 (wb_6 7) 4 (fw_W0.2.1 2)), (rf_RW ct 0 (wb_6 8) 48 (fw_W0.2.1 3)), (rf_RW ct 0 (wb_6 9) 48 (fw_W0.2.1 4)), (rf_RW ct 0 (wb_6 10) 48 (fw_W0.2.1 5)), (fc_CS ct wb_6), (fc_RC wb_6 fw_W0), (rf_RW ct 0 (wb_6 13) 150 (fw_W0.2.1 6)), (fc_LG wb_6 fw_W0), (rf_RW ct 0 (wb_6 15) 240 (fw_W0.2.1 7)), (sv_7, .inl (ct 4, 2, .inr (.inr (.inr (.inr (fun _ => none)))))), (rf_RW ct 0 bu_8 800 (fun _ => 0)), (rf_MO q_11 mw_16 ma_17 mf_18 m0_19 m1_20 mu_21 mv_22 u0_23 u1_24 iz_25 (0) mb_26 (0) (0) (0) (0) (0) (0) (0)), (rf_RW ct 0 mw_16 958 h_27), (rf_RW ct 0 ma_17 958 (fun _ => 0)), (rf_RW ct 0 mf_18 958 (fun _ => 0)), (rf_RW ct 0 m0_19 958 (fun _ => 0)), (rf_RW ct 0 m1_20 958 (fun _ => 0)), (rf_RW ct 2 iz_25 2 (fun _ => 0)), (rf_RW ct 0 mb_26 800 (fun _ => 0)), (mu_21, .inl (ct 1, 42, .inr (.inl (fun _ => 0)))), (mv_22, .inl (ct 1, 42, .inr (.inl (fun _ => 0)))), (u0_23, .inl (ct 1, 42, .inr (.inl (fun _ => 0)))), (u1_24, .inl (ct 1, 42, .inr (.inl (fun _ => 0)))), (q_31, .inl (ct 1, 1, .inr (.inl (fun _ => 0)))), (q_32, .inl (ct 5, 1, .inr (.inr (.inr (.inl (fun _ => 0))))))] ++ (fw_all ct wa_5 fw_X0 ++ (fw_all ct wb_6 fw_X0 ++ [])))) hP hD ty_mvp
  refine lv_astore (lv' := [(4, .ref q_32), (3, .ref q_31), (2, .ref q_11), (1, .ref q_1), (0, .ref b9)]) hx hb dL_law_23 hl (by decide) rfl (fun ls hl => ?_)
  refine lv_iconst (v := 0) hx hb dL_law_25 (by decide) ?_
  refine lv_istore (lv' := [(5, .int 0), (4, .ref q_32), (3, .ref q_31), (2, .ref q_11), (1, .ref q_1), (0, .ref b9)]) hx hb dL_law_26 hl (by decide) rfl (fun ls hl => ?_)
  obtain ⟨hP, hD⟩ := ty_pmPD (w2 := ([(ty_XO q_1 (wa_5 0) (wb_6 0) sv_7 bu_8 (0) (0)), (fc_WO wa_5 fw_W0), (fc_SE wa_5 fw_W0), (fc_CU wa_5 fw_W0), (fc_NM ct (wa_5 3) fw_W0.2.2), (rf_RW ct 0 (wa_5 4) 4 (fw_W0.2.1 0)), (rf_RW ct 0 (wa_5 5) 44 (fw_W0.2.1 1)), (fc_PR wa_5 fw_W0), (rf_RW ct 0 (wa_5 7) 4 (fw_W0.2.1 2)), (rf_RW ct 0 (wa_5 8) 48 (fw_W0.2.1 3)), (rf_RW ct 0 (wa_5 9) 48 (fw_W0.2.1 4)), (rf_RW ct 0 (wa_5 10) 48 (fw_W0.2.1 5)), (fc_CS ct wa_5), (fc_RC wa_5 fw_W0), (rf_RW ct 0 (wa_5 13) 150 (fw_W0.2.1 6)), (fc_LG wa_5 fw_W0), (rf_RW ct 0 (wa_5 15) 240 (fw_W0.2.1 7)), (fc_WO wb_6 fw_W0), (fc_SE wb_6 fw_W0), (fc_CU wb_6 fw_W0), (fc_NM ct (wb_6 3) fw_W0.2.2), (rf_RW ct 0 (wb_6 4) 4 (fw_W0.2.1 0)), (rf_RW ct 0 (wb_6 5) 44 (fw_W0.2.1 1)), (fc_PR wb_6 fw_W0), (rf_RW ct 0 (wb_6 7) 4 (fw_W0.2.1 2)), (rf_RW ct 0 (wb_6 8) 48 (fw_W0.2.1 3)), (rf_RW ct 0 (wb_6 9) 48 (fw_W0.2.1 4)), (rf_RW ct 0 (wb_6 10) 48 (fw_W0.2.1 5)), (fc_CS ct wb_6), (fc_RC wb_6 fw_W0), (rf_RW ct 0 (wb_6 13) 150 (fw_W0.2.1 6)), (fc_LG wb_6 fw_W0), (rf_RW ct 0 (wb_6 15) 240 (fw_W0.2.1 7)), (sv_7, .inl (ct 4, 2, .inr (.inr (.inr (.inr (fun _ => none)))))), (rf_RW ct 0 bu_8 800 (fun _ => 0)), (rf_MO q_11 mw_16 ma_17 mf_18 m0_19 m1_20 mu_21 mv_22 u0_23 u1_24 iz_25 (0) mb_26 (0) (0) (0) (0) (0) (0) (0)), (rf_RW ct 0 mw_16 958 h_27), (rf_RW ct 0 ma_17 958 (fun _ => 0)), (rf_RW ct 0 mf_18 958 (fun _ => 0)), (rf_RW ct 0 m0_19 958 (fun _ => 0)), (rf_RW ct 0 m1_20 958 (fun _ => 0)), (rf_RW ct 2 iz_25 2 (fun _ => 0)), (rf_RW ct 0 mb_26 800 (fun _ => 0)), (mu_21, .inl (ct 1, 42, .inr (.inl (fun _ => 0)))), (mv_22, .inl (ct 1, 42, .inr (.inl (fun _ => 0)))), (u0_23, .inl (ct 1, 42, .inr (.inl (fun _ => 0)))), (u1_24, .inl (ct 1, 42, .inr (.inl (fun _ => 0)))), (q_31, .inl (ct 1, 1, .inr (.inl (fun _ => 0)))), (q_32, .inl (ct 5, 1, .inr (.inr (.inr (.inl (fun _ => 0))))))] ++ (fw_all ct wb_6 fw_X0 ++ (fw_all ct wa_5 fw_X0 ++ [])))) hP hD (fw_swt (E := [(ty_XO q_1 (wa_5 0) (wb_6 0) sv_7 bu_8 (0) (0)), (fc_WO wa_5 fw_W0), (fc_SE wa_5 fw_W0), (fc_CU wa_5 fw_W0), (fc_NM ct (wa_5 3) fw_W0.2.2), (rf_RW ct 0 (wa_5 4) 4 (fw_W0.2.1 0)), (rf_RW ct 0 (wa_5 5) 44 (fw_W0.2.1 1)), (fc_PR wa_5 fw_W0), (rf_RW ct 0 (wa_5 7) 4 (fw_W0.2.1 2)), (rf_RW ct 0 (wa_5 8) 48 (fw_W0.2.1 3)), (rf_RW ct 0 (wa_5 9) 48 (fw_W0.2.1 4)), (rf_RW ct 0 (wa_5 10) 48 (fw_W0.2.1 5)), (fc_CS ct wa_5), (fc_RC wa_5 fw_W0), (rf_RW ct 0 (wa_5 13) 150 (fw_W0.2.1 6)), (fc_LG wa_5 fw_W0), (rf_RW ct 0 (wa_5 15) 240 (fw_W0.2.1 7)), (fc_WO wb_6 fw_W0), (fc_SE wb_6 fw_W0), (fc_CU wb_6 fw_W0), (fc_NM ct (wb_6 3) fw_W0.2.2), (rf_RW ct 0 (wb_6 4) 4 (fw_W0.2.1 0)), (rf_RW ct 0 (wb_6 5) 44 (fw_W0.2.1 1)), (fc_PR wb_6 fw_W0), (rf_RW ct 0 (wb_6 7) 4 (fw_W0.2.1 2)), (rf_RW ct 0 (wb_6 8) 48 (fw_W0.2.1 3)), (rf_RW ct 0 (wb_6 9) 48 (fw_W0.2.1 4)), (rf_RW ct 0 (wb_6 10) 48 (fw_W0.2.1 5)), (fc_CS ct wb_6), (fc_RC wb_6 fw_W0), (rf_RW ct 0 (wb_6 13) 150 (fw_W0.2.1 6)), (fc_LG wb_6 fw_W0), (rf_RW ct 0 (wb_6 15) 240 (fw_W0.2.1 7)), (sv_7, .inl (ct 4, 2, .inr (.inr (.inr (.inr (fun _ => none)))))), (rf_RW ct 0 bu_8 800 (fun _ => 0)), (rf_MO q_11 mw_16 ma_17 mf_18 m0_19 m1_20 mu_21 mv_22 u0_23 u1_24 iz_25 (0) mb_26 (0) (0) (0) (0) (0) (0) (0)), (rf_RW ct 0 mw_16 958 h_27), (rf_RW ct 0 ma_17 958 (fun _ => 0)), (rf_RW ct 0 mf_18 958 (fun _ => 0)), (rf_RW ct 0 m0_19 958 (fun _ => 0)), (rf_RW ct 0 m1_20 958 (fun _ => 0)), (rf_RW ct 2 iz_25 2 (fun _ => 0)), (rf_RW ct 0 mb_26 800 (fun _ => 0)), (mu_21, .inl (ct 1, 42, .inr (.inl (fun _ => 0)))), (mv_22, .inl (ct 1, 42, .inr (.inl (fun _ => 0)))), (u0_23, .inl (ct 1, 42, .inr (.inl (fun _ => 0)))), (u1_24, .inl (ct 1, 42, .inr (.inl (fun _ => 0)))), (q_31, .inl (ct 1, 1, .inr (.inl (fun _ => 0)))), (q_32, .inl (ct 5, 1, .inr (.inr (.inr (.inl (fun _ => 0))))))]))
  obtain ⟨hP, hD⟩ := ty_ordPD (E2 := [(ty_XO q_1 (wa_5 0) (wb_6 0) sv_7 bu_8 (0) (0)), (sv_7, .inl (ct 4, 2, .inr (.inr (.inr (.inr (fun _ => none)))))), (rf_RW ct 0 bu_8 800 (fun _ => 0)), (rf_MO q_11 mw_16 ma_17 mf_18 m0_19 m1_20 mu_21 mv_22 u0_23 u1_24 iz_25 (0) mb_26 (0) (0) (0) (0) (0) (0) (0)), (rf_RW ct 0 mw_16 958 h_27), (rf_RW ct 0 ma_17 958 (fun _ => 0)), (rf_RW ct 0 mf_18 958 (fun _ => 0)), (rf_RW ct 0 m0_19 958 (fun _ => 0)), (rf_RW ct 0 m1_20 958 (fun _ => 0)), (rf_RW ct 2 iz_25 2 (fun _ => 0)), (rf_RW ct 0 mb_26 800 (fun _ => 0)), (mu_21, .inl (ct 1, 42, .inr (.inl (fun _ => 0)))), (mv_22, .inl (ct 1, 42, .inr (.inl (fun _ => 0)))), (u0_23, .inl (ct 1, 42, .inr (.inl (fun _ => 0)))), (u1_24, .inl (ct 1, 42, .inr (.inl (fun _ => 0)))), (q_32, .inl (ct 5, 1, .inr (.inr (.inr (.inl (fun _ => 0)))))), (q_31, .inl (ct 1, 1, .inr (.inl (fun _ => 0)))), (fc_WO wb_6 fw_W0), (fc_SE wb_6 fw_W0), (fc_CU wb_6 fw_W0), (fc_NM ct (wb_6 3) fw_W0.2.2), (rf_RW ct 0 (wb_6 4) 4 (fw_W0.2.1 0)), (rf_RW ct 0 (wb_6 5) 44 (fw_W0.2.1 1)), (fc_PR wb_6 fw_W0), (rf_RW ct 0 (wb_6 7) 4 (fw_W0.2.1 2)), (rf_RW ct 0 (wb_6 8) 48 (fw_W0.2.1 3)), (rf_RW ct 0 (wb_6 9) 48 (fw_W0.2.1 4)), (rf_RW ct 0 (wb_6 10) 48 (fw_W0.2.1 5)), (fc_CS ct wb_6), (fc_RC wb_6 fw_W0), (rf_RW ct 0 (wb_6 13) 150 (fw_W0.2.1 6)), (fc_LG wb_6 fw_W0), (rf_RW ct 0 (wb_6 15) 240 (fw_W0.2.1 7)), (fc_WO wa_5 fw_W0), (fc_SE wa_5 fw_W0), (fc_CU wa_5 fw_W0), (fc_NM ct (wa_5 3) fw_W0.2.2), (rf_RW ct 0 (wa_5 4) 4 (fw_W0.2.1 0)), (rf_RW ct 0 (wa_5 5) 44 (fw_W0.2.1 1)), (fc_PR wa_5 fw_W0), (rf_RW ct 0 (wa_5 7) 4 (fw_W0.2.1 2)), (rf_RW ct 0 (wa_5 8) 48 (fw_W0.2.1 3)), (rf_RW ct 0 (wa_5 9) 48 (fw_W0.2.1 4)), (rf_RW ct 0 (wa_5 10) 48 (fw_W0.2.1 5)), (fc_CS ct wa_5), (fc_RC wa_5 fw_W0), (rf_RW ct 0 (wa_5 13) 150 (fw_W0.2.1 6)), (fc_LG wa_5 fw_W0), (rf_RW ct 0 (wa_5 15) 240 (fw_W0.2.1 7))]) (n := 49) [0, 33, 34, 35, 36, 37, 38, 39, 40, 41, 42, 43, 44, 45, 46, 48, 47, 17, 18, 19, 20, 21, 22, 23, 24, 25, 26, 27, 28, 29, 30, 31, 32, 1, 2, 3, 4, 5, 6, 7, 8, 9, 10, 11, 12, 13, 14, 15, 16] hP hD rfl rfl (by decide +kernel)
  have hP : va_P D vwCl ([(ty_XO q_1 (wa_5 0) (wb_6 0) sv_7 bu_8 (0) (0)), (sv_7, .inl (ct 4, 2, .inr (.inr (.inr (.inr (fw_sq none none)))))), (rf_RW ct 0 bu_8 800 (fun _ => 0)), (rf_MO q_11 mw_16 ma_17 mf_18 m0_19 m1_20 mu_21 mv_22 u0_23 u1_24 iz_25 (0) mb_26 (0) (0) (0) (0) (0) (0) (0)), (rf_RW ct 0 mw_16 958 h_27), (rf_RW ct 0 ma_17 958 (fun _ => 0)), (rf_RW ct 0 mf_18 958 (fun _ => 0)), (rf_RW ct 0 m0_19 958 (fun _ => 0)), (rf_RW ct 0 m1_20 958 (fun _ => 0)), (rf_RW ct 2 iz_25 2 (fun _ => 0)), (rf_RW ct 0 mb_26 800 (fun _ => 0)), (mu_21, .inl (ct 1, 42, .inr (.inl (fun _ => 0)))), (mv_22, .inl (ct 1, 42, .inr (.inl (fun _ => 0)))), (u0_23, .inl (ct 1, 42, .inr (.inl (fun _ => 0)))), (u1_24, .inl (ct 1, 42, .inr (.inl (fun _ => 0)))), (q_32, .inl (ct 5, 1, .inr (.inr (.inr (.inl (fun _ => 0)))))), (q_31, .inl (ct 1, 1, .inr (.inl (fun _ => 0)))), (fc_WO wb_6 fw_W0), (fc_SE wb_6 fw_W0), (fc_CU wb_6 fw_W0), (fc_NM ct (wb_6 3) fw_W0.2.2), (rf_RW ct 0 (wb_6 4) 4 (fw_W0.2.1 0)), (rf_RW ct 0 (wb_6 5) 44 (fw_W0.2.1 1)), (fc_PR wb_6 fw_W0), (rf_RW ct 0 (wb_6 7) 4 (fw_W0.2.1 2)), (rf_RW ct 0 (wb_6 8) 48 (fw_W0.2.1 3)), (rf_RW ct 0 (wb_6 9) 48 (fw_W0.2.1 4)), (rf_RW ct 0 (wb_6 10) 48 (fw_W0.2.1 5)), (fc_CS ct wb_6), (fc_RC wb_6 fw_W0), (rf_RW ct 0 (wb_6 13) 150 (fw_W0.2.1 6)), (fc_LG wb_6 fw_W0), (rf_RW ct 0 (wb_6 15) 240 (fw_W0.2.1 7)), (fc_WO wa_5 fw_W0), (fc_SE wa_5 fw_W0), (fc_CU wa_5 fw_W0), (fc_NM ct (wa_5 3) fw_W0.2.2), (rf_RW ct 0 (wa_5 4) 4 (fw_W0.2.1 0)), (rf_RW ct 0 (wa_5 5) 44 (fw_W0.2.1 1)), (fc_PR wa_5 fw_W0), (rf_RW ct 0 (wa_5 7) 4 (fw_W0.2.1 2)), (rf_RW ct 0 (wa_5 8) 48 (fw_W0.2.1 3)), (rf_RW ct 0 (wa_5 9) 48 (fw_W0.2.1 4)), (rf_RW ct 0 (wa_5 10) 48 (fw_W0.2.1 5)), (fc_CS ct wa_5), (fc_RC wa_5 fw_W0), (rf_RW ct 0 (wa_5 13) 150 (fw_W0.2.1 6)), (fc_LG wa_5 fw_W0), (rf_RW ct 0 (wa_5 15) 240 (fw_W0.2.1 7))] ++ (fw_all ct wb_6 fw_X0 ++ (fw_all ct wa_5 fw_X0 ++ (fw_slo ct none ++ fw_slo ct none)))) H := by have e9 := hP; rw [fw_sq00] at e9; exact e9
  have hD : va_D A ([(ty_XO q_1 (wa_5 0) (wb_6 0) sv_7 bu_8 (0) (0)), (sv_7, .inl (ct 4, 2, .inr (.inr (.inr (.inr (fw_sq none none)))))), (rf_RW ct 0 bu_8 800 (fun _ => 0)), (rf_MO q_11 mw_16 ma_17 mf_18 m0_19 m1_20 mu_21 mv_22 u0_23 u1_24 iz_25 (0) mb_26 (0) (0) (0) (0) (0) (0) (0)), (rf_RW ct 0 mw_16 958 h_27), (rf_RW ct 0 ma_17 958 (fun _ => 0)), (rf_RW ct 0 mf_18 958 (fun _ => 0)), (rf_RW ct 0 m0_19 958 (fun _ => 0)), (rf_RW ct 0 m1_20 958 (fun _ => 0)), (rf_RW ct 2 iz_25 2 (fun _ => 0)), (rf_RW ct 0 mb_26 800 (fun _ => 0)), (mu_21, .inl (ct 1, 42, .inr (.inl (fun _ => 0)))), (mv_22, .inl (ct 1, 42, .inr (.inl (fun _ => 0)))), (u0_23, .inl (ct 1, 42, .inr (.inl (fun _ => 0)))), (u1_24, .inl (ct 1, 42, .inr (.inl (fun _ => 0)))), (q_32, .inl (ct 5, 1, .inr (.inr (.inr (.inl (fun _ => 0)))))), (q_31, .inl (ct 1, 1, .inr (.inl (fun _ => 0)))), (fc_WO wb_6 fw_W0), (fc_SE wb_6 fw_W0), (fc_CU wb_6 fw_W0), (fc_NM ct (wb_6 3) fw_W0.2.2), (rf_RW ct 0 (wb_6 4) 4 (fw_W0.2.1 0)), (rf_RW ct 0 (wb_6 5) 44 (fw_W0.2.1 1)), (fc_PR wb_6 fw_W0), (rf_RW ct 0 (wb_6 7) 4 (fw_W0.2.1 2)), (rf_RW ct 0 (wb_6 8) 48 (fw_W0.2.1 3)), (rf_RW ct 0 (wb_6 9) 48 (fw_W0.2.1 4)), (rf_RW ct 0 (wb_6 10) 48 (fw_W0.2.1 5)), (fc_CS ct wb_6), (fc_RC wb_6 fw_W0), (rf_RW ct 0 (wb_6 13) 150 (fw_W0.2.1 6)), (fc_LG wb_6 fw_W0), (rf_RW ct 0 (wb_6 15) 240 (fw_W0.2.1 7)), (fc_WO wa_5 fw_W0), (fc_SE wa_5 fw_W0), (fc_CU wa_5 fw_W0), (fc_NM ct (wa_5 3) fw_W0.2.2), (rf_RW ct 0 (wa_5 4) 4 (fw_W0.2.1 0)), (rf_RW ct 0 (wa_5 5) 44 (fw_W0.2.1 1)), (fc_PR wa_5 fw_W0), (rf_RW ct 0 (wa_5 7) 4 (fw_W0.2.1 2)), (rf_RW ct 0 (wa_5 8) 48 (fw_W0.2.1 3)), (rf_RW ct 0 (wa_5 9) 48 (fw_W0.2.1 4)), (rf_RW ct 0 (wa_5 10) 48 (fw_W0.2.1 5)), (fc_CS ct wa_5), (fc_RC wa_5 fw_W0), (rf_RW ct 0 (wa_5 13) 150 (fw_W0.2.1 6)), (fc_LG wa_5 fw_W0), (rf_RW ct 0 (wa_5 15) 240 (fw_W0.2.1 7))] ++ (fw_all ct wb_6 fw_X0 ++ (fw_all ct wa_5 fw_X0 ++ (fw_slo ct none ++ fw_slo ct none)))) := by have e9 := hD; rw [fw_sq00] at e9; exact e9
  obtain ⟨hP, hD⟩ := ty_pmPD (w2 := ([(ty_XO q_1 (wa_5 0) (wb_6 0) sv_7 bu_8 (0) (0)), (sv_7, .inl (ct 4, 2, .inr (.inr (.inr (.inr (fw_sq none none)))))), (rf_RW ct 0 bu_8 800 (fun _ => 0)), (rf_MO q_11 mw_16 ma_17 mf_18 m0_19 m1_20 mu_21 mv_22 u0_23 u1_24 iz_25 (0) mb_26 (0) (0) (0) (0) (0) (0) (0)), (rf_RW ct 0 mw_16 958 h_27), (rf_RW ct 0 ma_17 958 (fun _ => 0)), (rf_RW ct 0 mf_18 958 (fun _ => 0)), (rf_RW ct 0 m0_19 958 (fun _ => 0)), (rf_RW ct 0 m1_20 958 (fun _ => 0)), (rf_RW ct 2 iz_25 2 (fun _ => 0)), (rf_RW ct 0 mb_26 800 (fun _ => 0)), (mu_21, .inl (ct 1, 42, .inr (.inl (fun _ => 0)))), (mv_22, .inl (ct 1, 42, .inr (.inl (fun _ => 0)))), (u0_23, .inl (ct 1, 42, .inr (.inl (fun _ => 0)))), (u1_24, .inl (ct 1, 42, .inr (.inl (fun _ => 0)))), (q_32, .inl (ct 5, 1, .inr (.inr (.inr (.inl (fun _ => 0)))))), (q_31, .inl (ct 1, 1, .inr (.inl (fun _ => 0))))] ++ (fw_wd ct wb_6 fw_W0 fw_X0 ++ (fw_wd ct wa_5 fw_W0 fw_X0 ++ (fw_slo ct none ++ fw_slo ct none))))) hP hD (fw_unp (E := [(ty_XO q_1 (wa_5 0) (wb_6 0) sv_7 bu_8 (0) (0)), (sv_7, .inl (ct 4, 2, .inr (.inr (.inr (.inr (fw_sq none none)))))), (rf_RW ct 0 bu_8 800 (fun _ => 0)), (rf_MO q_11 mw_16 ma_17 mf_18 m0_19 m1_20 mu_21 mv_22 u0_23 u1_24 iz_25 (0) mb_26 (0) (0) (0) (0) (0) (0) (0)), (rf_RW ct 0 mw_16 958 h_27), (rf_RW ct 0 ma_17 958 (fun _ => 0)), (rf_RW ct 0 mf_18 958 (fun _ => 0)), (rf_RW ct 0 m0_19 958 (fun _ => 0)), (rf_RW ct 0 m1_20 958 (fun _ => 0)), (rf_RW ct 2 iz_25 2 (fun _ => 0)), (rf_RW ct 0 mb_26 800 (fun _ => 0)), (mu_21, .inl (ct 1, 42, .inr (.inl (fun _ => 0)))), (mv_22, .inl (ct 1, 42, .inr (.inl (fun _ => 0)))), (u0_23, .inl (ct 1, 42, .inr (.inl (fun _ => 0)))), (u1_24, .inl (ct 1, 42, .inr (.inl (fun _ => 0)))), (q_32, .inl (ct 5, 1, .inr (.inr (.inr (.inl (fun _ => 0)))))), (q_31, .inl (ct 1, 1, .inr (.inl (fun _ => 0))))])).symm
  exact law_go hfl C1 hNc hL 513 0 200 9000 _ _ _ _ _ (by decide) (by have z : (0 : Int32).toInt = 0 := (by decide); omega) (by decide) (by decide) ⟨q_1, sv_7, bu_8, q_11, mw_16, ma_17, mf_18, m0_19, m1_20, mu_21, mv_22, u0_23, u1_24, iz_25, mb_26, q_31, q_32, (0 : Int32), (0 : Int32), (0 : Int32), (0 : Int32), (0 : Int32), (0 : Int32), (0 : Int32), (0 : Int32), h_27, (fun _ => 0), (fun _ => 0), (fun _ => 0), (fun _ => 0), (fun _ => 0), (fun _ => 0), (fun _ => 0), (fun _ => 0), (fun _ => 0), (fun _ => 0), (fun _ => 0), (fun _ => 0), wa_5, wb_6, fw_W0, fw_W0, fw_X0, fw_X0, none, none, hP, hD, hS, (lv_sub hl [5, 4, 3, 2, 1, 0] rfl), (by decide), (rp_by0 _), hp_30.1, Or.inl rfl, Or.inl rfl, (sd_00 hp_30.2).1, (sd_00 hp_30.2).2, fw_X0nb, rfl, rfl, (by exact Nat.le_of_ble_eq_true rfl), (by exact Nat.le_of_ble_eq_true rfl)⟩
