/-! the layer: which words keep, one list of words for all methods, the shape of contracts, calls with their frame -/
def cm_good (w : Cond) : Bool := (w.onTables && w.keepsH) || (match w with
  | .arrayClass _ => true
  | .castable _ _ => true
  | .declares _ => true
  | .arrayOver (.object _) => true
  | _ => false)
theorem cm_word {args a' : Array Value} {s U : State} (hW : s.WarmedH U.vm) {w : Cond} (hg : cm_good w = true) (h : w.before args s = true) : w.before a' U = true := by
  unfold cm_good at hg
  rw [Bool.or_eq_true] at hg
  rcases hg with hg | hg
  · rw [Bool.and_eq_true] at hg
    have h1 := Cond.onTables_warmH (T := U) (args' := a') hW hg.1 hg.2 h
    rwa [State.setVm_self] at h1
  · split at hg
    · exact word_at hW (Or.inr ⟨_, rfl⟩) h
    · exact va_Nw.use rfl (va_Nw.warmC hW (va_Nw.of rfl h))
    · exact va_Nw.use rfl (va_Nw.warmD hW (va_Nw.of rfl h))
    · exact va_AO.use (va_AO.moved hW.alike (va_AO.of h))
    · cases hg
def cm_all : List Cond := lw_tbl.filter cm_good
theorem cm_in {w : Cond} (h : w ∈ lw_tbl) (g : cm_good w = true) : w ∈ cm_all := List.mem_filter.mpr ⟨h, g⟩
theorem cm_inT {w : Cond} (h : w ∈ tables_1) (g : cm_good w = true) : w ∈ cm_all := cm_in (List.mem_append_right _ h) g
theorem cm_places {ws : List Cond} (T : List Cond) (ps : List Nat) (hT : ∀ w ∈ T, w ∈ tables_1) (hp : ws = ps.filterMap (fun i => T[i]?)) (hg : ws.all cm_good = true) : ∀ w ∈ ws, w ∈ cm_all := by
  intro w hw
  have g := List.all_eq_true.mp hg w hw
  rw [hp] at hw
  obtain ⟨i, -, hi⟩ := List.mem_filterMap.mp hw
  exact cm_inT (hT w (List.mem_of_getElem? hi)) g
theorem cm_pay {args : Array Value} {s : State} (hts : ∀ w ∈ cm_all, w.before args s = true) {c : Cond} (hc : c ∈ cm_all) : ∀ w ∈ c :: cm_all, ∀ (a' : Array Value) (U : State), s.WarmedH U.vm → w.before a' U = true := by
  have k : ∀ w ∈ cm_all, ∀ (a' : Array Value) (U : State), s.WarmedH U.vm → w.before a' U = true := fun w hw a' U hW => cm_word hW (List.mem_filter.mp hw).2 (hts w hw)
  intro w hw a' U hW
  rcases List.mem_cons.mp hw with rfl | hw
  · exact k _ hc a' U hW
  · exact k _ hw a' U hW
/-- the words of a method -/
abbrev ws_ (y : MethodName) (cc : ByteArray) (n : Nat) (r : Option FieldType) : List Cond := Cond.code y cc n r :: cm_all
theorem ws_all {y : MethodName} {cc : ByteArray} {n : Nat} {r : Option FieldType} {args : Array Value} {s : State} (h : ∀ w ∈ ws_ y cc n r, w.before args s = true) : ∀ w ∈ cm_all, w.before args s = true := fun w hw => h w (List.mem_cons_of_mem _ hw)
/-- the classes of the arrays -/
abbrev cT (ct : Nat → ClassId) : List (ClassId × FieldType) := [(ct 0, .int), (ct 1, .long), (ct 2, .boolean), (ct 3, .object "CellCycler$Channel"), (ct 4, .object "CellCycler$World"), (ct 5, .double)]
/-- the String constants: class, place, text, bytes -/
abbrev cm_sq : Type := String × Nat × String × List Int32
def cm_strs : List cm_sq := [("CellCycler$Reader", 26, "curve", [99, 117, 114, 118, 101]),
  ("CellCycler$Reader", 35, "cell", [99, 101, 108, 108]),
  ("CellCycler$Reader", 40, "program", [112, 114, 111, 103, 114, 97, 109]),
  ("CellCycler$Reader", 209, "charge", [99, 104, 97, 114, 103, 101]),
  ("CellCycler$Reader", 215, "hold", [104, 111, 108, 100]),
  ("CellCycler$Reader", 217, "discharge", [100, 105, 115, 99, 104, 97, 114, 103, 101]),
  ("CellCycler$Reader", 219, "rest", [114, 101, 115, 116]),
  ("CellCycler$Reader", 221, "repeat", [114, 101, 112, 101, 97, 116]),
  ("CellCycler$Reader", 72, "efficiency", [101, 102, 102, 105, 99, 105, 101, 110, 99, 121]),
  ("CellCycler$Reader", 82, "fade", [102, 97, 100, 101]),
  ("CellCycler$Reader", 87, "heat", [104, 101, 97, 116]),
  ("CellCycler$Reader", 99, "limits", [108, 105, 109, 105, 116, 115]),
  ("CellCycler$Reader", 110, "ambient", [97, 109, 98, 105, 101, 110, 116]),
  ("CellCycler$Reader", 114, "warn", [119, 97, 114, 110]),
  ("CellCycler$Reader", 125, "derate", [100, 101, 114, 97, 116, 101]),
  ("CellCyclerModel", 162, "curve", [99, 117, 114, 118, 101]),
  ("CellCyclerModel", 167, "cell", [99, 101, 108, 108]),
  ("CellCyclerModel", 172, "program", [112, 114, 111, 103, 114, 97, 109]),
  ("CellCyclerModel", 144, "charge", [99, 104, 97, 114, 103, 101]),
  ("CellCyclerModel", 150, "hold", [104, 111, 108, 100]),
  ("CellCyclerModel", 152, "discharge", [100, 105, 115, 99, 104, 97, 114, 103, 101]),
  ("CellCyclerModel", 154, "rest", [114, 101, 115, 116]),
  ("CellCyclerModel", 156, "repeat", [114, 101, 112, 101, 97, 116]),
  ("CellCyclerModel", 177, "efficiency", [101, 102, 102, 105, 99, 105, 101, 110, 99, 121]),
  ("CellCyclerModel", 179, "fade", [102, 97, 100, 101]),
  ("CellCyclerModel", 182, "heat", [104, 101, 97, 116]),
  ("CellCyclerModel", 187, "limits", [108, 105, 109, 105, 116, 115]),
  ("CellCyclerModel", 189, "warn", [119, 97, 114, 110]),
  ("CellCyclerModel", 191, "derate", [100, 101, 114, 97, 116, 101]),
  ("CellCyclerModel", 193, "ambient", [97, 109, 98, 105, 101, 110, 116])]
def cm_str (q : cm_sq) (A : Nat → Prop) (U : State) (H : Heap) : Prop := ∃ a v : Nat, vk_R q.1 q.2.1 q.2.2.1 a U ∧ vk_S 1 [q.2.2.2.length] [q.2.2.2] (fun _ => a) (fun _ => v) A U H
/-- the static references that a throw and an index check read, and the String constants -/
abbrev cm_sio (A : Nat → Prop) (U : State) (H : Heap) : Prop := vx_Zq "jdk/internal/util/Preconditions" "SIOOBE_FORMATTER" "Ljava/util/function/BiFunction;" A U H
def cmX (A : Nat → Prop) (U : State) (H : Heap) : Prop := vx_Zq Bundle.tN "UNASSIGNED_STACK" Bundle.steD A U H ∧ vx_Zq Bundle.tN "SUPPRESSED_SENTINEL" Bundle.listD A U H ∧ va_Z "java/lang/String" "COMPACT_STRINGS" "Z" (.int 1) A U H ∧ (∀ q ∈ cm_strs, cm_str q A U H) ∧ cm_sio A U H
theorem cmX.warm {A : Nat → Prop} {s U : State} {H : Heap} (hW : s.WarmedH U.vm) (h : cmX A s H) : cmX A U H := ⟨vx_Zq.moved hW.alike h.1, vx_Zq.moved hW.alike h.2.1, va_Z.moved hW.alike h.2.2.1, fun q hq => by
  obtain ⟨a, v, h1, h2⟩ := h.2.2.2.1 q hq
  exact ⟨a, v, vk_R.warm hW h1, vk_S.moved hW.alike h2⟩, vx_Zq.moved hW.alike h.2.2.2.2⟩
theorem cmX.same {A : Nat → Prop} {u U : State} {H : Heap} (hv : U.vm = u.vm) (h : cmX A u H) : cmX A U H := by
  have hal : u.vm.Alike U.vm := by rw [hv]; exact Vm.Alike.refl u.vm
  exact ⟨vx_Zq.moved hal h.1, vx_Zq.moved hal h.2.1, va_Z.moved hal h.2.2.1, fun q hq => by
    obtain ⟨a, v, h1, h2⟩ := h.2.2.2.1 q hq
    exact ⟨a, v, vk_R.same hv h1, vk_S.moved hal h2⟩, vx_Zq.moved hal h.2.2.2.2⟩
theorem cmX.kept {A : Nat → Prop} {U : State} {H H1 : Heap} (h : cmX A U H) (hq : ∀ a : Nat, a < H.size → ¬ A a → H1[a]? = H[a]?) : cmX A U H1 := ⟨vx_Zq.kept h.1 hq, vx_Zq.kept h.2.1 hq, va_Z.kept h.2.2.1 hq, fun q hq' => by
  obtain ⟨a, v, h1, h2⟩ := h.2.2.2.1 q hq'
  exact ⟨a, v, h1, vk_S.kept h2 hq⟩, vx_Zq.kept h.2.2.2.2 hq⟩
theorem cmX.narrow {A B : Nat → Prop} {U : State} {H : Heap} (h : cmX A U H) (hAB : ∀ q, B q → A q) : cmX B U H := ⟨vx_Zq.narrow h.1 hAB, vx_Zq.narrow h.2.1 hAB, va_Z.narrow h.2.2.1 hAB, fun q hq => by
  obtain ⟨a, v, h1, h2⟩ := h.2.2.2.1 q hq
  exact ⟨a, v, h1, vk_S.narrow h2 hAB⟩, vx_Zq.narrow h.2.2.2.2 hAB⟩
/-- a method's start: its cells W0, the tables, what a throw reads -/
def cmP (D : va_G) (ct : Nat → ClassId) (sz : Nat) (W0 : va_W) (U : State) : Prop := U.heap.size = sz ∧ va_P D vwCl W0 U.heap ∧ va_K D vwCl (cT ct) U ∧ va_D (fun _ => True) W0 ∧ cmX (va_A W0 sz) U U.heap
/-- its end: the cells that it leaves -/
def cmB (D : va_G) (W0 : va_W) (sz : Nat) {S : Type} (OUT : S → va_W) (u : S) (t : State) : Prop := va_P D vwCl (OUT u) t.heap ∧ va_D (va_A W0 sz) (OUT u)
def cmBX (D : va_G) (W0 : va_W) (sz : Nat) {S : Type} (EX : String) (OX : S → va_W) (E : String) (u : S) (t : State) : Prop := E = EX ∧ va_P D vwCl (OX u) t.heap ∧ va_D (va_A W0 sz) (OX u)
abbrev cm_names : List String := ["java/lang/RuntimeException", "java/lang/Exception"]
theorem cm_sub {ws : List Cond} (h : ws.all (fun w => decide (w ∈ tables_1)) = true) (g : ws.all cm_good = true) : ∀ w ∈ ws, w ∈ cm_all := fun w hw => cm_inT (of_decide_eq_true (List.all_eq_true.mp h w hw)) (List.all_eq_true.mp g w hw)
theorem cm_blind {D : va_G} {ct : Nat → ClassId} {sz : Nat} {W0 : va_W} {av : List Value} : FrameBlind (va_Pc av (cmP D ct sz W0)) := by
  intro a U g mk h
  obtain ⟨h0, h1, h2, h3, h4, h5⟩ := h
  exact ⟨h0, h1, h2, va_K.moved (u := U) (U := U.calling g mk a) (Vm.Alike.refl U.vm) h3, h4, cmX.same (u := U) (U := U.calling g mk a) rfl h5⟩
theorem cm_le {x y : Int32} (h : ¬ x < y) : y ≤ x := by
  rw [Int32.lt_iff_toInt_lt] at h
  rw [Int32.le_iff_toInt_le]
  omega
theorem cm_lt {x y : Int32} (h : ¬ x ≤ y) : y < x := by
  rw [Int32.le_iff_toInt_le] at h
  rw [Int32.lt_iff_toInt_lt]
  omega
theorem cm_nle {x y : Int32} (h : y < x) : ¬ x ≤ y := by
  rw [Int32.lt_iff_toInt_lt] at h
  rw [Int32.le_iff_toInt_le]
  omega
theorem cm_nlt {x y : Int32} (h : y ≤ x) : ¬ x < y := by
  rw [Int32.le_iff_toInt_le] at h
  rw [Int32.lt_iff_toInt_lt]
  omega
section CM
variable {p : Program} {l : Launch} {e : Env} {R : Room} {s : State} {m : MethodId} {args : Array Value} {below : List Frame} {meth : Method} {c : Code} {H : Heap} {locs : List Loc} {cells slots : Nat} {Q : State → Prop}
variable {mc ms : Nat} {A : Nat → Prop} {H0 : Heap} {a : Array Value} {pc : Nat} {ls : Array Slot} {st0 rest : List Value} {D : va_G} {ct : Nat → ClassId} {ws wc wr : va_W} {free : Addr → Prop}
theorem cm_preS {As : List Value} (hP : va_P D vwCl ws H) (hK : va_K D vwCl (cT ct) s) (hD : va_D A ws) (hS : va_S A s.heap H locs) (hA : ∀ q, s.heap.size ≤ q → A q) (hX : cmX A s s.heap) (isC : List Nat) (hC : isC.map (fun i => ws[i]?) = wc.map some) (hn : va_nd isC = true) (hf : isC.filterMap (fun i => ws[i]?) = wc) : PreS s H (va_Pc As (cmP D ct H.size wc)) As := by
  refine ⟨cm_blind, fun U hU hW => ⟨rfl, by rw [hU], ?_, va_K.moved hW.alike hK, (hD.sub isC hn hC).weaken (fun _ _ _ _ => trivial), ?_⟩⟩
  · rw [hU]; exact hP.sub isC hf
  · rw [hU]
    exact (cmX.warm hW (hX.kept hS.2.1)).narrow (va_free hD hS hA isC hC)
theorem cm_preV {b q0 ci : Nat} {q : vw_C} {fs : List Value} {As : List Value} (hP : va_P D vwCl ws H) (hK : va_K D vwCl (cT ct) s) (hD : va_D A ws) (hS : va_S A s.heap H locs) (hA : ∀ q, s.heap.size ≤ q → A q) (hX : cmX A s s.heap) (isC : List Nat) (hC : isC.map (fun i => ws[i]?) = wc.map some) (hn : va_nd isC = true) (hf : isC.filterMap (fun i => ws[i]?) = wc) (hc : vwCl[ci]? = some q) (he : ws[q0]? = some (b, .inr (ci, fs))) : PreV s H q.1 b (va_Pc (.ref b :: As) (cmP D ct H.size wc)) As := by
  have h := cm_preS (As := .ref b :: As) hP hK hD hS hA hX isC hC hn hf
  exact ⟨h.1, va_recv hK hP hc he, h.2⟩
/-- behind a call: the rest beside what came back -/
theorem cm_ki {S : Type} {post : Int32 → S → Prop} {OUT : S → va_W} (hr : va_Run p l e R s m args below meth c H locs cells slots mc ms (F0 m pc ls st0) rest (va_Qi post (cmB D wc H.size OUT) (va_A wc H.size) a) (va_A wc H.size)) (hP : va_P D vwCl ws H) (hD : va_D A ws) (hS : va_S A H0 H locs) (hA : ∀ q, H0.size ≤ q → A q) (isC isR : List Nat) (hC : isC.map (fun i => ws[i]?) = wc.map some) (hR : isR.map (fun i => ws[i]?) = wr.map some) (hn : va_nd isR = true) (hdis : ∀ i ∈ isR, i ∉ isC)
    (kk : ∀ (r : Int32) (u : S) (H1 : Heap) (locs1 : List Loc), post r u → va_P D vwCl (wr ++ OUT u) H1 → va_D A (wr ++ OUT u) → va_S A H0 H1 locs1 → W p l e R s m args below meth c H1 locs1 (cells + mc) (slots + ms) Q (F0 m (pc + 3) ls (.int r :: rest))) : W p l e R s m args below meth c H locs cells slots Q (F0 m pc ls st0) := by
  have hF := va_free hD hS hA isC hC
  refine va_calli hr hS (fun q _ h => hF q h) hF (fun r u t H1 locs1 ht hvm hw hB hz1 hk1 hS1 => ?_)
  obtain ⟨hP1, hD1⟩ := hB
  rw [ht] at hP1
  obtain ⟨hP2, hD2⟩ := va_join hP hD isC isR hC hR hn hdis hk1 hF hP1 hD1
  exact kk r u H1 locs1 hw hP2 hD2 hS1
theorem cm_kl {S : Type} {post : Int64 → S → Prop} {OUT : S → va_W} (hr : va_Run p l e R s m args below meth c H locs cells slots mc ms (F0 m pc ls st0) rest (va_Ql post (cmB D wc H.size OUT) (va_A wc H.size) a) (va_A wc H.size)) (hP : va_P D vwCl ws H) (hD : va_D A ws) (hS : va_S A H0 H locs) (hA : ∀ q, H0.size ≤ q → A q) (isC isR : List Nat) (hC : isC.map (fun i => ws[i]?) = wc.map some) (hR : isR.map (fun i => ws[i]?) = wr.map some) (hn : va_nd isR = true) (hdis : ∀ i ∈ isR, i ∉ isC)
    (kk : ∀ (r : Int64) (u : S) (H1 : Heap) (locs1 : List Loc), post r u → va_P D vwCl (wr ++ OUT u) H1 → va_D A (wr ++ OUT u) → va_S A H0 H1 locs1 → W p l e R s m args below meth c H1 locs1 (cells + mc) (slots + ms) Q (F0 m (pc + 3) ls (.long r :: rest))) : W p l e R s m args below meth c H locs cells slots Q (F0 m pc ls st0) := by
  have hF := va_free hD hS hA isC hC
  refine va_calll hr hS (fun q _ h => hF q h) hF (fun r u t H1 locs1 ht hvm hw hB hz1 hk1 hS1 => ?_)
  obtain ⟨hP1, hD1⟩ := hB
  rw [ht] at hP1
  obtain ⟨hP2, hD2⟩ := va_join hP hD isC isR hC hR hn hdis hk1 hF hP1 hD1
  exact kk r u H1 locs1 hw hP2 hD2 hS1
theorem cm_kv {S : Type} {post : S → Prop} {OUT : S → va_W} (hr : va_Run p l e R s m args below meth c H locs cells slots mc ms (F0 m pc ls st0) rest (va_Qv post (cmB D wc H.size OUT) (va_A wc H.size) a) (va_A wc H.size)) (hP : va_P D vwCl ws H) (hD : va_D A ws) (hS : va_S A H0 H locs) (hA : ∀ q, H0.size ≤ q → A q) (isC isR : List Nat) (hC : isC.map (fun i => ws[i]?) = wc.map some) (hR : isR.map (fun i => ws[i]?) = wr.map some) (hn : va_nd isR = true) (hdis : ∀ i ∈ isR, i ∉ isC)
    (kk : ∀ (u : S) (H1 : Heap) (locs1 : List Loc), post u → va_P D vwCl (wr ++ OUT u) H1 → va_D A (wr ++ OUT u) → va_S A H0 H1 locs1 → W p l e R s m args below meth c H1 locs1 (cells + mc) (slots + ms) Q (F0 m (pc + 3) ls rest)) : W p l e R s m args below meth c H locs cells slots Q (F0 m pc ls st0) := by
  have hF := va_free hD hS hA isC hC
  refine va_callv hr hS (fun q _ h => hF q h) hF (fun u t H1 locs1 ht hvm hw hB hz1 hk1 hS1 => ?_)
  obtain ⟨hP1, hD1⟩ := hB
  rw [ht] at hP1
  obtain ⟨hP2, hD2⟩ := va_join hP hD isC isR hC hR hn hdis hk1 hF hP1 hD1
  exact kk u H1 locs1 hw hP2 hD2 hS1
theorem cm_kq {S : Type} {post : Option Nat → S → Prop} {OUT : S → va_W} (hr : va_Run p l e R s m args below meth c H locs cells slots mc ms (F0 m pc ls st0) rest (va_Qq post (cmB D wc H.size OUT) (va_A wc H.size) a) (va_A wc H.size)) (hP : va_P D vwCl ws H) (hD : va_D A ws) (hS : va_S A H0 H locs) (hA : ∀ q, H0.size ≤ q → A q) (isC isR : List Nat) (hC : isC.map (fun i => ws[i]?) = wc.map some) (hR : isR.map (fun i => ws[i]?) = wr.map some) (hn : va_nd isR = true) (hdis : ∀ i ∈ isR, i ∉ isC)
    (kk : ∀ (r : Option Nat) (u : S) (H1 : Heap) (locs1 : List Loc), post r u → va_P D vwCl (wr ++ OUT u) H1 → va_D A (wr ++ OUT u) → va_S A H0 H1 locs1 → W p l e R s m args below meth c H1 locs1 (cells + mc) (slots + ms) Q (F0 m (pc + 3) ls (va_rf r :: rest))) : W p l e R s m args below meth c H locs cells slots Q (F0 m pc ls st0) := by
  have hF := va_free hD hS hA isC hC
  refine va_callq hr hS (fun q _ h => hF q h) hF (fun r u t H1 locs1 ht hvm hw hB hz1 hk1 hS1 => ?_)
  obtain ⟨hP1, hD1⟩ := hB
  rw [ht] at hP1
  obtain ⟨hP2, hD2⟩ := va_join hP hD isC isR hC hR hn hdis hk1 hF hP1 hD1
  exact kk r u H1 locs1 hw hP2 hD2 hS1
/-- the words of a call -/
theorem cm_B {own : String} {index maxL : Nat} {y : MethodName} {bytes : ByteArray} {ret : Option FieldType} {rm : Room} (n : Nat) (hts : ∀ w ∈ cm_all, w.before args s = true) (hc : Cond.code y bytes maxL ret ∈ cm_all) (hini : Cond.initialized y.cls ∈ cm_all) (hl : Cond.methodLink own index y ∈ cm_all)
    (hd : y.cls ≠ "java/lang/invoke/MethodHandle" ∧ y.cls ≠ "java/lang/invoke/VarHandle" ∧ (parseMethodDescriptor y.desc).map (fun d => d.parameters.length) = some n) (hR : rm.frames + 1 ≤ R.frames ∧ 8 + (maxL + 11) + rm.locals ≤ R.locals) : CallB R s args own index y bytes maxL ret (ws_ y bytes maxL ret) rm rm.cells rm.slots n := by
  refine ⟨rfl, rfl, hR.1, hR.2, cm_pay hts hc, List.mem_cons_self, hts _ hc, hts _ hini, ⟨hd.1, hd.2.1⟩, fun sig h => ?_, hts _ hl⟩
  have h2 := hd.2.2
  rw [h] at h2
  exact (Option.some.inj h2).symm
theorem cm_V {own : String} {index maxL : Nat} {y : MethodName} {bytes : ByteArray} {ret : Option FieldType} {rm : Room} (n : Nat) (hts : ∀ w ∈ cm_all, w.before args s = true) (hc : Cond.code y bytes maxL ret ∈ cm_all) (hini : Cond.initialized y.cls ∈ cm_all) (hl : Cond.methodLink own index y ∈ cm_all) (hi : Cond.instanceMethod y ∈ cm_all) (hs : Cond.selects y.cls y y ∈ cm_all)
    (hd : y.cls ≠ "java/lang/invoke/MethodHandle" ∧ y.cls ≠ "java/lang/invoke/VarHandle" ∧ (parseMethodDescriptor y.desc).map (fun d => d.parameters.length) = some n) (hR : rm.frames + 1 ≤ R.frames ∧ 8 + (maxL + 11) + rm.locals ≤ R.locals) : CallW R s args own y.cls index y bytes maxL ret (ws_ y bytes maxL ret) rm rm.cells rm.slots n := ⟨cm_B n hts hc hini hl hd hR, hts _ hi, hts _ hs⟩
theorem cm_S {own : String} {index maxL : Nat} {y : MethodName} {bytes : ByteArray} {ret : Option FieldType} {rm : Room} (n : Nat) (hts : ∀ w ∈ cm_all, w.before args s = true) (hc : Cond.code y bytes maxL ret ∈ cm_all) (hini : Cond.initialized y.cls ∈ cm_all) (hl : Cond.methodLink own index y ∈ cm_all) (hi : Cond.static y ∈ cm_all)
    (hd : y.cls ≠ "java/lang/invoke/MethodHandle" ∧ y.cls ≠ "java/lang/invoke/VarHandle" ∧ (parseMethodDescriptor y.desc).map (fun d => d.parameters.length) = some n) (hR : rm.frames + 1 ≤ R.frames ∧ 8 + (maxL + 11) + rm.locals ≤ R.locals) : CallB R s args own index y bytes maxL ret (ws_ y bytes maxL ret) rm rm.cells rm.slots n ∧ (Cond.static y).before args s = true := ⟨cm_B n hts hc hini hl hd hR, hts _ hi⟩
theorem cm_I {own : String} {index maxL : Nat} {y : MethodName} {bytes : ByteArray} {rm : Room} (n : Nat) (hts : ∀ w ∈ cm_all, w.before args s = true) (hc : Cond.code y bytes maxL none ∈ cm_all) (hini : Cond.initialized y.cls ∈ cm_all) (hl : Cond.methodLink own index y ∈ cm_all) (hi : Cond.instanceMethod y ∈ cm_all) (hy : y.name = "<init>")
    (hd : y.cls ≠ "java/lang/invoke/MethodHandle" ∧ y.cls ≠ "java/lang/invoke/VarHandle" ∧ (parseMethodDescriptor y.desc).map (fun d => d.parameters.length) = some n) (hR : rm.frames + 1 ≤ R.frames ∧ 8 + (maxL + 11) + rm.locals ≤ R.locals) : CallB R s args own index y bytes maxL none (ws_ y bytes maxL none) rm rm.cells rm.slots n ∧ y.name = "<init>" ∧ (Cond.instanceMethod y).before args s = true := ⟨cm_B n hts hc hini hl hd hR, hy, hts _ hi⟩
theorem cm_N {own host : String} {index maxL : Nat} {y : MethodName} {bytes : ByteArray} {ret : Option FieldType} {rm : Room} (n : Nat) (hts : ∀ w ∈ cm_all, w.before args s = true) (hc : Cond.code y bytes maxL ret ∈ cm_all) (hini : Cond.initialized y.cls ∈ cm_all) (hl : Cond.methodLinkNest own index y host ∈ cm_all)
    (hd : y.cls ≠ "java/lang/invoke/MethodHandle" ∧ y.cls ≠ "java/lang/invoke/VarHandle" ∧ (parseMethodDescriptor y.desc).map (fun d => d.parameters.length) = some n) (hR : rm.frames + 1 ≤ R.frames ∧ 8 + (maxL + 11) + rm.locals ≤ R.locals) : va_CN R s args own index y host bytes maxL ret (ws_ y bytes maxL ret) rm rm.cells rm.slots n := by
  refine ⟨⟨rfl, rfl, hR.1, hR.2, cm_pay hts hc, List.mem_cons_self⟩, hts _ hc, hts _ hini, ⟨hd.1, hd.2.1⟩, fun sig h => ?_, hts _ hl⟩
  have h2 := hd.2.2
  rw [h] at h2
  exact (Option.some.inj h2).symm
theorem cm_VN {own host : String} {index maxL : Nat} {y : MethodName} {bytes : ByteArray} {ret : Option FieldType} {rm : Room} (n : Nat) (hts : ∀ w ∈ cm_all, w.before args s = true) (hc : Cond.code y bytes maxL ret ∈ cm_all) (hini : Cond.initialized y.cls ∈ cm_all) (hl : Cond.methodLinkNest own index y host ∈ cm_all) (hi : Cond.instanceMethod y ∈ cm_all) (hs : Cond.selects y.cls y y ∈ cm_all)
    (hd : y.cls ≠ "java/lang/invoke/MethodHandle" ∧ y.cls ≠ "java/lang/invoke/VarHandle" ∧ (parseMethodDescriptor y.desc).map (fun d => d.parameters.length) = some n) (hR : rm.frames + 1 ≤ R.frames ∧ 8 + (maxL + 11) + rm.locals ≤ R.locals) : va_CN R s args own index y host bytes maxL ret (ws_ y bytes maxL ret) rm rm.cells rm.slots n ∧ (Cond.instanceMethod y).before args s = true ∧ (Cond.selects y.cls y y).before args s = true := ⟨cm_N n hts hc hini hl hd hR, hts _ hi, hts _ hs⟩
theorem cm_SN {own host : String} {index maxL : Nat} {y : MethodName} {bytes : ByteArray} {ret : Option FieldType} {rm : Room} (n : Nat) (hts : ∀ w ∈ cm_all, w.before args s = true) (hc : Cond.code y bytes maxL ret ∈ cm_all) (hini : Cond.initialized y.cls ∈ cm_all) (hl : Cond.methodLinkNest own index y host ∈ cm_all) (hi : Cond.static y ∈ cm_all)
    (hd : y.cls ≠ "java/lang/invoke/MethodHandle" ∧ y.cls ≠ "java/lang/invoke/VarHandle" ∧ (parseMethodDescriptor y.desc).map (fun d => d.parameters.length) = some n) (hR : rm.frames + 1 ≤ R.frames ∧ 8 + (maxL + 11) + rm.locals ≤ R.locals) : va_CN R s args own index y host bytes maxL ret (ws_ y bytes maxL ret) rm rm.cells rm.slots n ∧ (Cond.static y).before args s = true ∧ True := ⟨cm_N n hts hc hini hl hd hR, hts _ hi, trivial⟩
theorem cm_IN {own host : String} {index maxL : Nat} {y : MethodName} {bytes : ByteArray} {rm : Room} (n : Nat) (hts : ∀ w ∈ cm_all, w.before args s = true) (hc : Cond.code y bytes maxL none ∈ cm_all) (hini : Cond.initialized y.cls ∈ cm_all) (hl : Cond.methodLinkNest own index y host ∈ cm_all) (hi : Cond.instanceMethod y ∈ cm_all) (hy : y.name = "<init>")
    (hd : y.cls ≠ "java/lang/invoke/MethodHandle" ∧ y.cls ≠ "java/lang/invoke/VarHandle" ∧ (parseMethodDescriptor y.desc).map (fun d => d.parameters.length) = some n) (hR : rm.frames + 1 ≤ R.frames ∧ 8 + (maxL + 11) + rm.locals ≤ R.locals) : va_CN R s args own index y host bytes maxL none (ws_ y bytes maxL none) rm rm.cells rm.slots n ∧ y.name = "<init>" ∧ (Cond.instanceMethod y).before args s = true := ⟨cm_N n hts hc hini hl hd hR, hy, hts _ hi⟩
/-- a new array of a known class -/
theorem cm_newa {cc : ByteArray} (hexec : p.tables.exec = Jvm.exec) (hb : c.code = cc) {atype : ArrayType} {ty : FieldType} (harr : (Cond.arrayClass (newarray.typeOf atype)).before args s = true) (hty : newarray.typeOf atype = ty) (hK : va_K D vwCl (cT ct) s) (k : Nat) (hk : (cT ct)[k]? = some (ct k, ty)) (hra : ∀ (x y : ClassId), va_RA s x ty → va_RA s y ty → x = y) (hP : va_P D vwCl ws H) (hD : va_D A ws) (hS : va_S A H0 H locs) (hA : ∀ q, H0.size ≤ q → A q)
    {n : Int32} {N' : Nat} {a0 : vp_A} (ha : ∀ cA : ClassId, vp_cell cA a0 = arrV cA N' (fun _ => defaultValue ty)) (hn : ¬ n < 0) (hN : n.toNatClampNeg = N') (hbytes : N' * componentBytes ty ≤ 536870912) (hcells : cells + 1 ≤ R.cells) (hslots : slots + N' ≤ R.slots) (hdg : decode cc pc = .ok (.newarray atype, 2))
    (kk : ∀ (q : Nat) (H1 : Heap), va_P D vwCl (ws ++ [(q, .inl (ct k, a0))]) H1 → va_D A (ws ++ [(q, .inl (ct k, a0))]) → va_S A H0 H1 locs →
      W p l e R s m args below meth c H1 locs (cells + 1) (slots + N') Q (F0 m (pc + 2) ls (.ref q :: rest))) : W p l e R s m args below meth c H locs cells slots Q (F0 m pc ls (.int n :: rest)) := by
  refine va_newa hexec hb harr hty hK hP hD hS hA ha hn hN hbytes hcells hslots hdg (fun q cA H1 hK1 hP1 hD1 hS1 => ?_)
  have e : cA = ct k := hra _ _ (hK1.2 6 _ rfl).2 (hK.2 k _ hk).2
  subst e
  exact kk q H1 hP1 hD1 hS1
theorem cm_raI (x y : ClassId) (h1 : va_RA s x .int) (h2 : va_RA s y .int) : x = y := Option.some.inj (h1.symm.trans h2)
theorem cm_raJ (x y : ClassId) (h1 : va_RA s x .long) (h2 : va_RA s y .long) : x = y := Option.some.inj (h1.symm.trans h2)
theorem cm_raZ (x y : ClassId) (h1 : va_RA s x .boolean) (h2 : va_RA s y .boolean) : x = y := Option.some.inj (h1.symm.trans h2)
theorem cm_raD (x y : ClassId) (h1 : va_RA s x .double) (h2 : va_RA s y .double) : x = y := Option.some.inj (h1.symm.trans h2)
theorem cm_raO {C : String} (x y : ClassId) (h1 : va_RA s x (.object C)) (h2 : va_RA s y (.object C)) : x = y := by
  obtain ⟨_, _, _, _, _, g1⟩ := h1
  obtain ⟨_, _, _, _, _, g2⟩ := h2
  exact Option.some.inj (g1.symm.trans g2)
theorem cm_newq {cc : ByteArray} (hexec : p.tables.exec = Jvm.exec) (hb : c.code = cc) {own C : String} {index : Nat} (hown : s.vm.findClass own = some m.cls) (hclink : (Cond.classLink own index C).before args s = true) (hover : va_AO C s) (hK : va_K D vwCl (cT ct) s) (k : Nat) (hk : (cT ct)[k]? = some (ct k, .object C)) (hP : va_P D vwCl ws H) (hD : va_D A ws) (hS : va_S A H0 H locs) (hA : ∀ q, H0.size ≤ q → A q)
    {n : Int32} {N' : Nat} (hn : ¬ n < 0) (hN : n.toNatClampNeg = N') (hbytes : N' * 4 ≤ 536870912) (hcells : cells + 1 ≤ R.cells) (hslots : slots + N' ≤ R.slots) (hdg : decode cc pc = .ok (.anewarray index, 3))
    (kk : ∀ (q : Nat) (H1 : Heap), va_P D vwCl (ws ++ [(q, .inl (ct k, N', .inr (.inr (.inr (.inr (fun _ => none))))))]) H1 → va_D A (ws ++ [(q, .inl (ct k, N', .inr (.inr (.inr (.inr (fun _ => none))))))]) → va_S A H0 H1 locs →
      W p l e R s m args below meth c H1 locs (cells + 1) (slots + N') Q (F0 m (pc + 3) ls (.ref q :: rest))) : W p l e R s m args below meth c H locs cells slots Q (F0 m pc ls (.int n :: rest)) := by
  refine va_newq hexec hb hown hclink hover hK hP hD hS hA hn hN hbytes hcells hslots hdg (fun q cA H1 hK1 hP1 hD1 hS1 => ?_)
  have e : cA = ct k := cm_raO _ _ (hK1.2 6 _ rfl).2 (hK.2 k _ hk).2
  subst e
  exact kk q H1 hP1 hD1 hS1
theorem cm_cst {x y : Int32} (h : x = y) (k : W p l e R s m args below meth c H locs cells slots Q (F0 m pc ls (.int y :: rest))) : W p l e R s m args below meth c H locs cells slots Q (F0 m pc ls (.int x :: rest)) := by
  rw [h]
  exact k
theorem cm_cstl {x y : Int64} (h : x = y) (k : W p l e R s m args below meth c H locs cells slots Q (F0 m pc ls (.long y :: rest))) : W p l e R s m args below meth c H locs cells slots Q (F0 m pc ls (.long x :: rest)) := by
  rw [h]
  exact k
theorem cm_F {t : State} (hS : va_S A s.heap H locs) (hz : H.size ≤ t.heap.size) (hk : ∀ q : Nat, q < H.size → t.heap[q]? = H[q]?) : va_F A s t := ⟨Nat.le_trans hS.1 hz, fun q h1 h2 => (hk q (Nat.lt_of_lt_of_le h1 hS.1)).trans (hS.2.1 q h1 h2)⟩
theorem cm_at0 {own X : String} {ic : Nat} {names : List String} (h : ∀ w ∈ vx_at0 own ic X names, w ∈ cm_all) (hts : ∀ w ∈ cm_all, w.before args s = true) : ∀ w ∈ vx_at0 own ic X names, w.before args s = true := fun w hw => hts w (h w hw)
theorem cm_xi {S SX : Type} {post : Int32 → S → Prop} {px : SX → Prop} {EX : String} {OUT : S → va_W} {OX : SX → va_W} (hr : vx_Run p l e R s m args below meth c H locs cells slots mc ms (F0 m pc ls st0) rest (va_Qi post (cmB D wc H.size OUT) (va_A wc H.size) a) (vx_X px (cmBX D wc H.size EX OX) (va_A wc H.size)) (va_A wc H.size)) (hP : va_P D vwCl ws H) (hD : va_D A ws) (hS : va_S A H0 H locs) (hA : ∀ q, H0.size ≤ q → A q) (isC isR : List Nat) (hC : isC.map (fun i => ws[i]?) = wc.map some) (hR : isR.map (fun i => ws[i]?) = wr.map some) (hn : va_nd isR = true) (hdis : ∀ i ∈ isR, i ∉ isC)
    (kx : ∀ (E : String) (ce : Cell) (q9 : Addr) (u : SX) (H1 : Heap) (locs1 : List Loc), px u → E = EX → va_P D vwCl (wr ++ OX u) H1 → va_D A (wr ++ OX u) → va_S A H0 H1 locs1 → H1[q9]? = some ce → ce.vm = .none → s.vm.findClass E = some ce.cls → vx_W p l e R s m args below meth c H1 locs1 (cells + mc) (slots + ms) Q (F0 m pc ls rest) q9)
    (kk : ∀ (r : Int32) (u : S) (H1 : Heap) (locs1 : List Loc), post r u → va_P D vwCl (wr ++ OUT u) H1 → va_D A (wr ++ OUT u) → va_S A H0 H1 locs1 → W p l e R s m args below meth c H1 locs1 (cells + mc) (slots + ms) Q (F0 m (pc + 3) ls (.int r :: rest))) : W p l e R s m args below meth c H locs cells slots Q (F0 m pc ls st0) := by
  have hF := va_free hD hS hA isC hC
  refine vx_calli hr hS (fun q _ h => hF q h) hF (fun q _ h => hF q h) (fun E ce q9 u t H1 locs1 ht hvm hu hB hz1 hk1 hS1 hce hcv hcl => ?_) (fun r u t H1 locs1 ht hvm hw hB hz1 hk1 hS1 => ?_)
  · obtain ⟨hE, hP1, hD1⟩ := hB
    rw [ht] at hP1
    obtain ⟨hP2, hD2⟩ := va_join hP hD isC isR hC hR hn hdis hk1 hF hP1 hD1
    exact kx E ce q9 u H1 locs1 hu hE hP2 hD2 hS1 hce hcv hcl
  · obtain ⟨hP1, hD1⟩ := hB
    rw [ht] at hP1
    obtain ⟨hP2, hD2⟩ := va_join hP hD isC isR hC hR hn hdis hk1 hF hP1 hD1
    exact kk r u H1 locs1 hw hP2 hD2 hS1
theorem cm_xl {S SX : Type} {post : Int64 → S → Prop} {px : SX → Prop} {EX : String} {OUT : S → va_W} {OX : SX → va_W} (hr : vx_Run p l e R s m args below meth c H locs cells slots mc ms (F0 m pc ls st0) rest (va_Ql post (cmB D wc H.size OUT) (va_A wc H.size) a) (vx_X px (cmBX D wc H.size EX OX) (va_A wc H.size)) (va_A wc H.size)) (hP : va_P D vwCl ws H) (hD : va_D A ws) (hS : va_S A H0 H locs) (hA : ∀ q, H0.size ≤ q → A q) (isC isR : List Nat) (hC : isC.map (fun i => ws[i]?) = wc.map some) (hR : isR.map (fun i => ws[i]?) = wr.map some) (hn : va_nd isR = true) (hdis : ∀ i ∈ isR, i ∉ isC)
    (kx : ∀ (E : String) (ce : Cell) (q9 : Addr) (u : SX) (H1 : Heap) (locs1 : List Loc), px u → E = EX → va_P D vwCl (wr ++ OX u) H1 → va_D A (wr ++ OX u) → va_S A H0 H1 locs1 → H1[q9]? = some ce → ce.vm = .none → s.vm.findClass E = some ce.cls → vx_W p l e R s m args below meth c H1 locs1 (cells + mc) (slots + ms) Q (F0 m pc ls rest) q9)
    (kk : ∀ (r : Int64) (u : S) (H1 : Heap) (locs1 : List Loc), post r u → va_P D vwCl (wr ++ OUT u) H1 → va_D A (wr ++ OUT u) → va_S A H0 H1 locs1 → W p l e R s m args below meth c H1 locs1 (cells + mc) (slots + ms) Q (F0 m (pc + 3) ls (.long r :: rest))) : W p l e R s m args below meth c H locs cells slots Q (F0 m pc ls st0) := by
  have hF := va_free hD hS hA isC hC
  refine vx_calll hr hS (fun q _ h => hF q h) hF (fun q _ h => hF q h) (fun E ce q9 u t H1 locs1 ht hvm hu hB hz1 hk1 hS1 hce hcv hcl => ?_) (fun r u t H1 locs1 ht hvm hw hB hz1 hk1 hS1 => ?_)
  · obtain ⟨hE, hP1, hD1⟩ := hB
    rw [ht] at hP1
    obtain ⟨hP2, hD2⟩ := va_join hP hD isC isR hC hR hn hdis hk1 hF hP1 hD1
    exact kx E ce q9 u H1 locs1 hu hE hP2 hD2 hS1 hce hcv hcl
  · obtain ⟨hP1, hD1⟩ := hB
    rw [ht] at hP1
    obtain ⟨hP2, hD2⟩ := va_join hP hD isC isR hC hR hn hdis hk1 hF hP1 hD1
    exact kk r u H1 locs1 hw hP2 hD2 hS1
theorem cm_xf {S SX : Type} {post : UInt32 → S → Prop} {px : SX → Prop} {EX : String} {OUT : S → va_W} {OX : SX → va_W} (hr : vx_Run p l e R s m args below meth c H locs cells slots mc ms (F0 m pc ls st0) rest (va_Qf post (cmB D wc H.size OUT) (va_A wc H.size) a) (vx_X px (cmBX D wc H.size EX OX) (va_A wc H.size)) (va_A wc H.size)) (hP : va_P D vwCl ws H) (hD : va_D A ws) (hS : va_S A H0 H locs) (hA : ∀ q, H0.size ≤ q → A q) (isC isR : List Nat) (hC : isC.map (fun i => ws[i]?) = wc.map some) (hR : isR.map (fun i => ws[i]?) = wr.map some) (hn : va_nd isR = true) (hdis : ∀ i ∈ isR, i ∉ isC)
    (kx : ∀ (E : String) (ce : Cell) (q9 : Addr) (u : SX) (H1 : Heap) (locs1 : List Loc), px u → E = EX → va_P D vwCl (wr ++ OX u) H1 → va_D A (wr ++ OX u) → va_S A H0 H1 locs1 → H1[q9]? = some ce → ce.vm = .none → s.vm.findClass E = some ce.cls → vx_W p l e R s m args below meth c H1 locs1 (cells + mc) (slots + ms) Q (F0 m pc ls rest) q9)
    (kk : ∀ (r : UInt32) (u : S) (H1 : Heap) (locs1 : List Loc), post r u → va_P D vwCl (wr ++ OUT u) H1 → va_D A (wr ++ OUT u) → va_S A H0 H1 locs1 → W p l e R s m args below meth c H1 locs1 (cells + mc) (slots + ms) Q (F0 m (pc + 3) ls (.float r :: rest))) : W p l e R s m args below meth c H locs cells slots Q (F0 m pc ls st0) := by
  have hF := va_free hD hS hA isC hC
  refine vx_callf hr hS (fun q _ h => hF q h) hF (fun q _ h => hF q h) (fun E ce q9 u t H1 locs1 ht hvm hu hB hz1 hk1 hS1 hce hcv hcl => ?_) (fun r u t H1 locs1 ht hvm hw hB hz1 hk1 hS1 => ?_)
  · obtain ⟨hE, hP1, hD1⟩ := hB
    rw [ht] at hP1
    obtain ⟨hP2, hD2⟩ := va_join hP hD isC isR hC hR hn hdis hk1 hF hP1 hD1
    exact kx E ce q9 u H1 locs1 hu hE hP2 hD2 hS1 hce hcv hcl
  · obtain ⟨hP1, hD1⟩ := hB
    rw [ht] at hP1
    obtain ⟨hP2, hD2⟩ := va_join hP hD isC isR hC hR hn hdis hk1 hF hP1 hD1
    exact kk r u H1 locs1 hw hP2 hD2 hS1
theorem cm_xd {S SX : Type} {post : UInt64 → S → Prop} {px : SX → Prop} {EX : String} {OUT : S → va_W} {OX : SX → va_W} (hr : vx_Run p l e R s m args below meth c H locs cells slots mc ms (F0 m pc ls st0) rest (va_Qd post (cmB D wc H.size OUT) (va_A wc H.size) a) (vx_X px (cmBX D wc H.size EX OX) (va_A wc H.size)) (va_A wc H.size)) (hP : va_P D vwCl ws H) (hD : va_D A ws) (hS : va_S A H0 H locs) (hA : ∀ q, H0.size ≤ q → A q) (isC isR : List Nat) (hC : isC.map (fun i => ws[i]?) = wc.map some) (hR : isR.map (fun i => ws[i]?) = wr.map some) (hn : va_nd isR = true) (hdis : ∀ i ∈ isR, i ∉ isC)
    (kx : ∀ (E : String) (ce : Cell) (q9 : Addr) (u : SX) (H1 : Heap) (locs1 : List Loc), px u → E = EX → va_P D vwCl (wr ++ OX u) H1 → va_D A (wr ++ OX u) → va_S A H0 H1 locs1 → H1[q9]? = some ce → ce.vm = .none → s.vm.findClass E = some ce.cls → vx_W p l e R s m args below meth c H1 locs1 (cells + mc) (slots + ms) Q (F0 m pc ls rest) q9)
    (kk : ∀ (r : UInt64) (u : S) (H1 : Heap) (locs1 : List Loc), post r u → va_P D vwCl (wr ++ OUT u) H1 → va_D A (wr ++ OUT u) → va_S A H0 H1 locs1 → W p l e R s m args below meth c H1 locs1 (cells + mc) (slots + ms) Q (F0 m (pc + 3) ls (.double r :: rest))) : W p l e R s m args below meth c H locs cells slots Q (F0 m pc ls st0) := by
  have hF := va_free hD hS hA isC hC
  refine vx_calld hr hS (fun q _ h => hF q h) hF (fun q _ h => hF q h) (fun E ce q9 u t H1 locs1 ht hvm hu hB hz1 hk1 hS1 hce hcv hcl => ?_) (fun r u t H1 locs1 ht hvm hw hB hz1 hk1 hS1 => ?_)
  · obtain ⟨hE, hP1, hD1⟩ := hB
    rw [ht] at hP1
    obtain ⟨hP2, hD2⟩ := va_join hP hD isC isR hC hR hn hdis hk1 hF hP1 hD1
    exact kx E ce q9 u H1 locs1 hu hE hP2 hD2 hS1 hce hcv hcl
  · obtain ⟨hP1, hD1⟩ := hB
    rw [ht] at hP1
    obtain ⟨hP2, hD2⟩ := va_join hP hD isC isR hC hR hn hdis hk1 hF hP1 hD1
    exact kk r u H1 locs1 hw hP2 hD2 hS1
theorem cm_xv {S SX : Type} {post : S → Prop} {px : SX → Prop} {EX : String} {OUT : S → va_W} {OX : SX → va_W} (hr : vx_Run p l e R s m args below meth c H locs cells slots mc ms (F0 m pc ls st0) rest (va_Qv post (cmB D wc H.size OUT) (va_A wc H.size) a) (vx_X px (cmBX D wc H.size EX OX) (va_A wc H.size)) (va_A wc H.size)) (hP : va_P D vwCl ws H) (hD : va_D A ws) (hS : va_S A H0 H locs) (hA : ∀ q, H0.size ≤ q → A q) (isC isR : List Nat) (hC : isC.map (fun i => ws[i]?) = wc.map some) (hR : isR.map (fun i => ws[i]?) = wr.map some) (hn : va_nd isR = true) (hdis : ∀ i ∈ isR, i ∉ isC)
    (kx : ∀ (E : String) (ce : Cell) (q9 : Addr) (u : SX) (H1 : Heap) (locs1 : List Loc), px u → E = EX → va_P D vwCl (wr ++ OX u) H1 → va_D A (wr ++ OX u) → va_S A H0 H1 locs1 → H1[q9]? = some ce → ce.vm = .none → s.vm.findClass E = some ce.cls → vx_W p l e R s m args below meth c H1 locs1 (cells + mc) (slots + ms) Q (F0 m pc ls rest) q9)
    (kk : ∀ (u : S) (H1 : Heap) (locs1 : List Loc), post u → va_P D vwCl (wr ++ OUT u) H1 → va_D A (wr ++ OUT u) → va_S A H0 H1 locs1 → W p l e R s m args below meth c H1 locs1 (cells + mc) (slots + ms) Q (F0 m (pc + 3) ls (rest))) : W p l e R s m args below meth c H locs cells slots Q (F0 m pc ls st0) := by
  have hF := va_free hD hS hA isC hC
  refine vx_callv hr hS (fun q _ h => hF q h) hF (fun q _ h => hF q h) (fun E ce q9 u t H1 locs1 ht hvm hu hB hz1 hk1 hS1 hce hcv hcl => ?_) (fun u t H1 locs1 ht hvm hw hB hz1 hk1 hS1 => ?_)
  · obtain ⟨hE, hP1, hD1⟩ := hB
    rw [ht] at hP1
    obtain ⟨hP2, hD2⟩ := va_join hP hD isC isR hC hR hn hdis hk1 hF hP1 hD1
    exact kx E ce q9 u H1 locs1 hu hE hP2 hD2 hS1 hce hcv hcl
  · obtain ⟨hP1, hD1⟩ := hB
    rw [ht] at hP1
    obtain ⟨hP2, hD2⟩ := va_join hP hD isC isR hC hR hn hdis hk1 hF hP1 hD1
    exact kk u H1 locs1 hw hP2 hD2 hS1
theorem cm_xq {S SX : Type} {post : Option Nat → S → Prop} {px : SX → Prop} {EX : String} {OUT : S → va_W} {OX : SX → va_W} (hr : vx_Run p l e R s m args below meth c H locs cells slots mc ms (F0 m pc ls st0) rest (va_Qq post (cmB D wc H.size OUT) (va_A wc H.size) a) (vx_X px (cmBX D wc H.size EX OX) (va_A wc H.size)) (va_A wc H.size)) (hP : va_P D vwCl ws H) (hD : va_D A ws) (hS : va_S A H0 H locs) (hA : ∀ q, H0.size ≤ q → A q) (isC isR : List Nat) (hC : isC.map (fun i => ws[i]?) = wc.map some) (hR : isR.map (fun i => ws[i]?) = wr.map some) (hn : va_nd isR = true) (hdis : ∀ i ∈ isR, i ∉ isC)
    (kx : ∀ (E : String) (ce : Cell) (q9 : Addr) (u : SX) (H1 : Heap) (locs1 : List Loc), px u → E = EX → va_P D vwCl (wr ++ OX u) H1 → va_D A (wr ++ OX u) → va_S A H0 H1 locs1 → H1[q9]? = some ce → ce.vm = .none → s.vm.findClass E = some ce.cls → vx_W p l e R s m args below meth c H1 locs1 (cells + mc) (slots + ms) Q (F0 m pc ls rest) q9)
    (kk : ∀ (r : Option Nat) (u : S) (H1 : Heap) (locs1 : List Loc), post r u → va_P D vwCl (wr ++ OUT u) H1 → va_D A (wr ++ OUT u) → va_S A H0 H1 locs1 → W p l e R s m args below meth c H1 locs1 (cells + mc) (slots + ms) Q (F0 m (pc + 3) ls (va_rf r :: rest))) : W p l e R s m args below meth c H locs cells slots Q (F0 m pc ls st0) := by
  have hF := va_free hD hS hA isC hC
  refine vx_callq hr hS (fun q _ h => hF q h) hF (fun q _ h => hF q h) (fun E ce q9 u t H1 locs1 ht hvm hu hB hz1 hk1 hS1 hce hcv hcl => ?_) (fun r u t H1 locs1 ht hvm hw hB hz1 hk1 hS1 => ?_)
  · obtain ⟨hE, hP1, hD1⟩ := hB
    rw [ht] at hP1
    obtain ⟨hP2, hD2⟩ := va_join hP hD isC isR hC hR hn hdis hk1 hF hP1 hD1
    exact kx E ce q9 u H1 locs1 hu hE hP2 hD2 hS1 hce hcv hcl
  · obtain ⟨hP1, hD1⟩ := hB
    rw [ht] at hP1
    obtain ⟨hP2, hD2⟩ := va_join hP hD isC isR hC hR hn hdis hk1 hF hP1 hD1
    exact kk r u H1 locs1 hw hP2 hD2 hS1
theorem cm_loop {N : Nat} {I : Nat → Heap → List Loc → Array Slot → Prop} (h0 : I 0 H locs ls) (step : ∀ (i : Nat) (H : Heap) (locs : List Loc) (ls : Array Slot), i < N → I i H locs ls → (∀ (H' : Heap) (locs' : List Loc) (ls' : Array Slot), I (i + 1) H' locs' ls' → W p l e R s m args below meth c H' locs' cells slots Q (F0 m pc ls' rest)) → W p l e R s m args below meth c H locs cells slots Q (F0 m pc ls rest))
    (done : ∀ (H : Heap) (locs : List Loc) (ls : Array Slot), I N H locs ls → W p l e R s m args below meth c H locs cells slots Q (F0 m pc ls rest)) : W p l e R s m args below meth c H locs cells slots Q (F0 m pc ls rest) := by
  have K : ∀ (n i : Nat) (H : Heap) (locs : List Loc) (ls : Array Slot), i + n = N → I i H locs ls → W p l e R s m args below meth c H locs cells slots Q (F0 m pc ls rest) := by
    intro n
    induction n with
    | zero =>
      intro i H locs ls hi h
      have e : i = N := by omega
      subst e
      exact done H locs ls h
    | succ n ih =>
      intro i H locs ls hi h
      exact step i H locs ls (by omega) h (fun H' locs' ls' h' => ih (i + 1) H' locs' ls' (by omega) h')
  exact K N 0 H locs ls (by omega) h0
end CM
