/-! typed worlds: each address has a kind, each reference leads to its kind; a method that needs no more is proved over any world of that shape -/
abbrev ty_K : Type := Nat ⊕ (Nat × Nat)
abbrev ty_S : Type := Nat → Option ty_K
abbrev ty_Q : Type := ty_S → Value → Prop
def ty_I : ty_Q := fun _ v => ∃ x : Int32, v = .int x
def ty_J : ty_Q := fun _ v => ∃ x : Int64, v = .long x
def ty_Z : ty_Q := fun _ v => ∃ x : Int32, v = .int x ∧ vp_nar .boolean x = x
def ty_B (lo hi : Int) : ty_Q := fun _ v => ∃ x : Int32, v = .int x ∧ lo ≤ x.toInt ∧ x.toInt ≤ hi
def ty_R (c : Nat) : ty_Q := fun S v => ∃ a : Nat, v = .ref a ∧ S a = some (.inl c)
def ty_A (k : Nat) : ty_Q := fun S v => ∃ a n : Nat, v = .ref a ∧ S a = some (.inr (k, n))
def ty_F : Nat → List ty_Q
  | 0 => [ty_A 0, ty_I, ty_I, ty_I, ty_I, ty_I, ty_I, ty_I, ty_I, ty_I, ty_I, ty_I, ty_I, ty_I, ty_I, ty_R 3]
  | 1 => [ty_I, ty_R 0, ty_R 4, ty_I, ty_I, ty_I, ty_I, ty_A 0, ty_A 0, ty_I, ty_J, ty_J, ty_Z, ty_J]
  | 2 => [ty_I, ty_A 1, ty_A 0, ty_A 0]
  | 3 => [ty_J, ty_J, ty_J, ty_J]
  | 4 => [ty_I, ty_I, ty_I, ty_I, ty_I, ty_I, ty_A 0]
  | 5 => [ty_B 0 4, ty_A 0, ty_A 0, ty_A 0, ty_A 0]
  | 6 => []
  | 7 => [ty_I, ty_I, ty_I, ty_I, ty_I, ty_I, ty_I, ty_I, ty_I, ty_I, ty_I, ty_I]
  | 8 => [ty_I, ty_I, ty_A 0, ty_I, ty_I]
  | 9 => [ty_I, ty_R 7, ty_R 2, ty_R 5, ty_I, ty_A 3, ty_R 8, ty_R 8]
  | _ + 10 => []
def ty_ar (ct : Nat → ClassId) (S : ty_S) (n : Nat) (e : va_E) : Nat → Prop
  | 0 => ∃ f : Nat → Int32, e = .inl (ct 0, n, .inl f)
  | 1 => ∃ f : Nat → Int64, e = .inl (ct 1, n, .inr (.inl f))
  | 2 => False
  | 3 => ∃ f : Nat → Option Nat, e = .inl (ct 3, n, .inr (.inr (.inr (.inr f)))) ∧ ∀ (j b : Nat), f j = some b → S b = some (.inl 1)
  | 4 => ∃ f : Nat → Option Nat, e = .inl (ct 4, n, .inr (.inr (.inr (.inr f)))) ∧ ∀ (j b : Nat), f j = some b → S b = some (.inl 9)
  | _ + 5 => False
def ty_ok (ct : Nat → ClassId) (S : ty_S) (κ : ty_K) (e : va_E) : Prop := match κ with
  | .inl c => ∃ fs : List Value, e = .inr (c, fs) ∧ fs.length = (ty_F c).length ∧ ∀ (k : Nat) (q : ty_Q), (ty_F c)[k]? = some q → ∃ v, fs[k]? = some v ∧ q S v
  | .inr q => q.2 < 2 ^ 31 ∧ ty_ar ct S q.2 e q.1
def ty_W (ct : Nat → ClassId) (S : ty_S) (ws : va_W) : Prop := ∀ (a : Nat) (κ : ty_K), S a = some κ → ∃ (j : Nat) (e : va_E), ws[j]? = some (a, e) ∧ ty_ok ct S κ e
/-- a predicate on worlds that is kept by stores: to fields where xx allows it, to rows of numbers, to new cells -/
def ty_C (ph : va_W → Prop) (xx : Nat → Nat → Nat → Prop) : Prop :=
  (∀ (ws : va_W) (j b c k : Nat) (fs : List Value) (v : Value), ws[j]? = some (b, .inr (c, fs)) → xx c k b → ph ws → ph (ws.set j (b, .inr (c, fs.set k v)))) ∧
  (∀ (ws : va_W) (j b n : Nat) (cA : ClassId) (f g : Nat → Int32), ws[j]? = some (b, .inl (cA, n, .inl f)) → ph ws → ph (ws.set j (b, .inl (cA, n, .inl g)))) ∧
  (∀ (ws : va_W) (j b n : Nat) (cA : ClassId) (f g : Nat → Int64), ws[j]? = some (b, .inl (cA, n, .inr (.inl f))) → xx 11 0 b → ph ws → ph (ws.set j (b, .inl (cA, n, .inr (.inl g))))) ∧
  (∀ (ws : va_W) (j b n : Nat) (cA : ClassId) (f g : Nat → Option Nat), ws[j]? = some (b, .inl (cA, n, .inr (.inr (.inr (.inr f))))) → xx 14 0 b → ph ws → ph (ws.set j (b, .inl (cA, n, .inr (.inr (.inr (.inr g))))))) ∧
  (∀ (ws : va_W) (x : Nat × va_E), ph ws → ph (x :: ws))
def ty_V (ct : Nat → ClassId) (S : ty_S) (ph : va_W → Prop) (ws : va_W) : Prop := ty_W ct S ws ∧ ph ws
def ty_fr (c : Nat) : Bool := !(c == 9 || c == 2 || c == 5 || c == 7 || c == 11 || c == 14)
def ty_y1 (xx : Nat → Nat → Nat → Prop) : Prop := ∀ c k b : Nat, ty_fr c = true → xx c k b
def ty_y0 (xx : Nat → Nat → Nat → Prop) (c : Nat) : Prop := ∀ b : Nat, xx c 0 b
theorem ty_app {E ws : va_W} {j : Nat} {x : Nat × va_E} (h : ws[j]? = some x) : (E ++ ws)[E.length + j]? = some x := sorry
theorem ty_rng : ∀ (ws E : va_W), (List.range' E.length ws.length).map (fun i => (E ++ ws)[i]?) = ws.map some := sorry
theorem ty_rng0 : ∀ (ws E : va_W), (List.range' 0 E.length).map (fun i => (E ++ ws)[i]?) = E.map some := sorry
theorem ty_nd (s n : Nat) : va_nd (List.range' s n) = true := sorry
theorem ty_fil {ws wc : va_W} {is : List Nat} (h : is.map (fun i => ws[i]?) = wc.map some) : is.filterMap (fun i => ws[i]?) = wc := sorry
theorem ty_dis {a b : Nat} : ∀ i ∈ List.range' 0 a, i ∉ List.range' a b := sorry
/-- the class's object and its reader, folded -/
def ty_XO (x w sp sv bu : Nat) (bl le : Int32) : Nat × va_E := (x, .inr (10, [.ref w, .ref sp, .ref sv, .ref bu, .int bl, .int le]))
def rf_RW (ct : Nat → ClassId) (j a n : Nat) (f : Nat → Int32) : Nat × va_E := (a, .inl (ct j, n, .inl f))
def ty_RD (rd bt : Nat) (ln : Int32) (tg : Nat) (pl wst er ep : Int32) : Nat × va_E := (rd, .inr (6, [.ref bt, .int ln, .ref tg, .int pl, .int wst, .int er, .int ep]))
/-- facts of a world, and by what stores they are kept -/
def cmBY (D : va_G) (W0 : va_W) (sz : Nat) {S : Type} (EX : List String) (OX : S → va_W) (E : String) (u : S) (t : State) : Prop := E ∈ EX ∧ va_P D vwCl (OX u) t.heap ∧ va_D (va_A W0 sz) (OX u)
section TY
variable {p : Program} {l : Launch} {e : Env} {R : Room} {s : State} {m : MethodId} {args : Array Value} {below : List Frame} {meth : Method} {c : Code} {H : Heap} {locs : List Loc} {cells slots : Nat} {Q : State → Prop}
variable {mc ms : Nat} {A : Nat → Prop} {H0 : Heap} {a : Array Value} {pc : Nat} {ls : Array Slot} {st0 rest : List Value} {D : va_G} {ct : Nat → ClassId} {ws wc wr E : va_W} {free : Addr → Prop} {S : ty_S} {b : Nat} {ph : va_W → Prop} {xx : Nat → Nat → Nat → Prop}
/-- the calls: the callee's world is the tail -/
theorem ty_preS {As : List Value} (hP : va_P D vwCl (wr ++ wc) H) (hK : va_K D vwCl (cT ct) s) (hD : va_D A (wr ++ wc)) (hS : va_S A s.heap H locs) (hA : ∀ q, s.heap.size ≤ q → A q) (hX : cmX A s s.heap) : PreS s H (va_Pc As (cmP D ct H.size wc)) As := sorry
theorem ty_preE {ci q0 : Nat} {q : vw_C} {fs : List Value} {As : List Value} (hP : va_P D vwCl (wr ++ wc) H) (hK : va_K D vwCl (cT ct) s) (hD : va_D A (wr ++ wc)) (hS : va_S A s.heap H locs) (hA : ∀ q, s.heap.size ≤ q → A q) (hX : cmX A s s.heap) (hc : vwCl[ci]? = some q) (he : (wr ++ wc)[q0]? = some (b, .inr (ci, fs))) : PreV s H q.1 b (va_Pc (.ref b :: As) (cmP D ct H.size wc)) As := sorry
theorem ty_ki {S9 : Type} {post : Int32 → S9 → Prop} {OUT : S9 → va_W} (hr : va_Run p l e R s m args below meth c H locs cells slots mc ms (F0 m pc ls st0) rest (va_Qi post (cmB D wc H.size OUT) (va_A wc H.size) a) (va_A wc H.size)) (hP : va_P D vwCl (wr ++ wc) H) (hD : va_D A (wr ++ wc)) (hS : va_S A H0 H locs) (hA : ∀ q, H0.size ≤ q → A q)
    (kk : ∀ (r : Int32) (u : S9) (H1 : Heap) (locs1 : List Loc), post r u → va_P D vwCl (wr ++ OUT u) H1 → va_D A (wr ++ OUT u) → va_S A H0 H1 locs1 → W p l e R s m args below meth c H1 locs1 (cells + mc) (slots + ms) Q (F0 m (pc + 3) ls (.int r :: rest))) : W p l e R s m args below meth c H locs cells slots Q (F0 m pc ls st0) := sorry
theorem ty_kl {S9 : Type} {post : Int64 → S9 → Prop} {OUT : S9 → va_W} (hr : va_Run p l e R s m args below meth c H locs cells slots mc ms (F0 m pc ls st0) rest (va_Ql post (cmB D wc H.size OUT) (va_A wc H.size) a) (va_A wc H.size)) (hP : va_P D vwCl (wr ++ wc) H) (hD : va_D A (wr ++ wc)) (hS : va_S A H0 H locs) (hA : ∀ q, H0.size ≤ q → A q)
    (kk : ∀ (r : Int64) (u : S9) (H1 : Heap) (locs1 : List Loc), post r u → va_P D vwCl (wr ++ OUT u) H1 → va_D A (wr ++ OUT u) → va_S A H0 H1 locs1 → W p l e R s m args below meth c H1 locs1 (cells + mc) (slots + ms) Q (F0 m (pc + 3) ls (.long r :: rest))) : W p l e R s m args below meth c H locs cells slots Q (F0 m pc ls st0) := sorry
theorem ty_kv {S9 : Type} {post : S9 → Prop} {OUT : S9 → va_W} (hr : va_Run p l e R s m args below meth c H locs cells slots mc ms (F0 m pc ls st0) rest (va_Qv post (cmB D wc H.size OUT) (va_A wc H.size) a) (va_A wc H.size)) (hP : va_P D vwCl (wr ++ wc) H) (hD : va_D A (wr ++ wc)) (hS : va_S A H0 H locs) (hA : ∀ q, H0.size ≤ q → A q)
    (kk : ∀ (u : S9) (H1 : Heap) (locs1 : List Loc), post u → va_P D vwCl (wr ++ OUT u) H1 → va_D A (wr ++ OUT u) → va_S A H0 H1 locs1 → W p l e R s m args below meth c H1 locs1 (cells + mc) (slots + ms) Q (F0 m (pc + 3) ls rest)) : W p l e R s m args below meth c H locs cells slots Q (F0 m pc ls st0) := sorry
theorem ty_kq {S9 : Type} {post : Option Nat → S9 → Prop} {OUT : S9 → va_W} (hr : va_Run p l e R s m args below meth c H locs cells slots mc ms (F0 m pc ls st0) rest (va_Qq post (cmB D wc H.size OUT) (va_A wc H.size) a) (va_A wc H.size)) (hP : va_P D vwCl (wr ++ wc) H) (hD : va_D A (wr ++ wc)) (hS : va_S A H0 H locs) (hA : ∀ q, H0.size ≤ q → A q)
    (kk : ∀ (r : Option Nat) (u : S9) (H1 : Heap) (locs1 : List Loc), post r u → va_P D vwCl (wr ++ OUT u) H1 → va_D A (wr ++ OUT u) → va_S A H0 H1 locs1 → W p l e R s m args below meth c H1 locs1 (cells + mc) (slots + ms) Q (F0 m (pc + 3) ls (va_rf r :: rest))) : W p l e R s m args below meth c H locs cells slots Q (F0 m pc ls st0) := sorry
theorem ty_xi {S9 SX : Type} {post : Int32 → S9 → Prop} {px : SX → Prop} {EX : List String} {OUT : S9 → va_W} {OX : SX → va_W} (hr : vx_Run p l e R s m args below meth c H locs cells slots mc ms (F0 m pc ls st0) rest (va_Qi post (cmB D wc H.size OUT) (va_A wc H.size) a) (vx_X px (cmBY D wc H.size EX OX) (va_A wc H.size)) (va_A wc H.size)) (hP : va_P D vwCl (wr ++ wc) H) (hD : va_D A (wr ++ wc)) (hS : va_S A H0 H locs) (hA : ∀ q, H0.size ≤ q → A q)
    (kx : ∀ (E : String) (ce : Cell) (q9 : Addr) (u : SX) (H1 : Heap) (locs1 : List Loc), px u → E ∈ EX → va_P D vwCl (wr ++ OX u) H1 → va_D A (wr ++ OX u) → va_S A H0 H1 locs1 → H1[q9]? = some ce → ce.vm = .none → s.vm.findClass E = some ce.cls → vx_W p l e R s m args below meth c H1 locs1 (cells + mc) (slots + ms) Q (F0 m pc ls rest) q9)
    (kk : ∀ (r : Int32) (u : S9) (H1 : Heap) (locs1 : List Loc), post r u → va_P D vwCl (wr ++ OUT u) H1 → va_D A (wr ++ OUT u) → va_S A H0 H1 locs1 → W p l e R s m args below meth c H1 locs1 (cells + mc) (slots + ms) Q (F0 m (pc + 3) ls (.int r :: rest))) : W p l e R s m args below meth c H locs cells slots Q (F0 m pc ls st0) := sorry
theorem ty_xl {S9 SX : Type} {post : Int64 → S9 → Prop} {px : SX → Prop} {EX : List String} {OUT : S9 → va_W} {OX : SX → va_W} (hr : vx_Run p l e R s m args below meth c H locs cells slots mc ms (F0 m pc ls st0) rest (va_Ql post (cmB D wc H.size OUT) (va_A wc H.size) a) (vx_X px (cmBY D wc H.size EX OX) (va_A wc H.size)) (va_A wc H.size)) (hP : va_P D vwCl (wr ++ wc) H) (hD : va_D A (wr ++ wc)) (hS : va_S A H0 H locs) (hA : ∀ q, H0.size ≤ q → A q)
    (kx : ∀ (E : String) (ce : Cell) (q9 : Addr) (u : SX) (H1 : Heap) (locs1 : List Loc), px u → E ∈ EX → va_P D vwCl (wr ++ OX u) H1 → va_D A (wr ++ OX u) → va_S A H0 H1 locs1 → H1[q9]? = some ce → ce.vm = .none → s.vm.findClass E = some ce.cls → vx_W p l e R s m args below meth c H1 locs1 (cells + mc) (slots + ms) Q (F0 m pc ls rest) q9)
    (kk : ∀ (r : Int64) (u : S9) (H1 : Heap) (locs1 : List Loc), post r u → va_P D vwCl (wr ++ OUT u) H1 → va_D A (wr ++ OUT u) → va_S A H0 H1 locs1 → W p l e R s m args below meth c H1 locs1 (cells + mc) (slots + ms) Q (F0 m (pc + 3) ls (.long r :: rest))) : W p l e R s m args below meth c H locs cells slots Q (F0 m pc ls st0) := sorry
theorem ty_xf {S9 SX : Type} {post : UInt32 → S9 → Prop} {px : SX → Prop} {EX : List String} {OUT : S9 → va_W} {OX : SX → va_W} (hr : vx_Run p l e R s m args below meth c H locs cells slots mc ms (F0 m pc ls st0) rest (va_Qf post (cmB D wc H.size OUT) (va_A wc H.size) a) (vx_X px (cmBY D wc H.size EX OX) (va_A wc H.size)) (va_A wc H.size)) (hP : va_P D vwCl (wr ++ wc) H) (hD : va_D A (wr ++ wc)) (hS : va_S A H0 H locs) (hA : ∀ q, H0.size ≤ q → A q)
    (kx : ∀ (E : String) (ce : Cell) (q9 : Addr) (u : SX) (H1 : Heap) (locs1 : List Loc), px u → E ∈ EX → va_P D vwCl (wr ++ OX u) H1 → va_D A (wr ++ OX u) → va_S A H0 H1 locs1 → H1[q9]? = some ce → ce.vm = .none → s.vm.findClass E = some ce.cls → vx_W p l e R s m args below meth c H1 locs1 (cells + mc) (slots + ms) Q (F0 m pc ls rest) q9)
    (kk : ∀ (r : UInt32) (u : S9) (H1 : Heap) (locs1 : List Loc), post r u → va_P D vwCl (wr ++ OUT u) H1 → va_D A (wr ++ OUT u) → va_S A H0 H1 locs1 → W p l e R s m args below meth c H1 locs1 (cells + mc) (slots + ms) Q (F0 m (pc + 3) ls (.float r :: rest))) : W p l e R s m args below meth c H locs cells slots Q (F0 m pc ls st0) := sorry
theorem ty_xd {S9 SX : Type} {post : UInt64 → S9 → Prop} {px : SX → Prop} {EX : List String} {OUT : S9 → va_W} {OX : SX → va_W} (hr : vx_Run p l e R s m args below meth c H locs cells slots mc ms (F0 m pc ls st0) rest (va_Qd post (cmB D wc H.size OUT) (va_A wc H.size) a) (vx_X px (cmBY D wc H.size EX OX) (va_A wc H.size)) (va_A wc H.size)) (hP : va_P D vwCl (wr ++ wc) H) (hD : va_D A (wr ++ wc)) (hS : va_S A H0 H locs) (hA : ∀ q, H0.size ≤ q → A q)
    (kx : ∀ (E : String) (ce : Cell) (q9 : Addr) (u : SX) (H1 : Heap) (locs1 : List Loc), px u → E ∈ EX → va_P D vwCl (wr ++ OX u) H1 → va_D A (wr ++ OX u) → va_S A H0 H1 locs1 → H1[q9]? = some ce → ce.vm = .none → s.vm.findClass E = some ce.cls → vx_W p l e R s m args below meth c H1 locs1 (cells + mc) (slots + ms) Q (F0 m pc ls rest) q9)
    (kk : ∀ (r : UInt64) (u : S9) (H1 : Heap) (locs1 : List Loc), post r u → va_P D vwCl (wr ++ OUT u) H1 → va_D A (wr ++ OUT u) → va_S A H0 H1 locs1 → W p l e R s m args below meth c H1 locs1 (cells + mc) (slots + ms) Q (F0 m (pc + 3) ls (.double r :: rest))) : W p l e R s m args below meth c H locs cells slots Q (F0 m pc ls st0) := sorry
theorem ty_xv {S9 SX : Type} {post : S9 → Prop} {px : SX → Prop} {EX : List String} {OUT : S9 → va_W} {OX : SX → va_W} (hr : vx_Run p l e R s m args below meth c H locs cells slots mc ms (F0 m pc ls st0) rest (va_Qv post (cmB D wc H.size OUT) (va_A wc H.size) a) (vx_X px (cmBY D wc H.size EX OX) (va_A wc H.size)) (va_A wc H.size)) (hP : va_P D vwCl (wr ++ wc) H) (hD : va_D A (wr ++ wc)) (hS : va_S A H0 H locs) (hA : ∀ q, H0.size ≤ q → A q)
    (kx : ∀ (E : String) (ce : Cell) (q9 : Addr) (u : SX) (H1 : Heap) (locs1 : List Loc), px u → E ∈ EX → va_P D vwCl (wr ++ OX u) H1 → va_D A (wr ++ OX u) → va_S A H0 H1 locs1 → H1[q9]? = some ce → ce.vm = .none → s.vm.findClass E = some ce.cls → vx_W p l e R s m args below meth c H1 locs1 (cells + mc) (slots + ms) Q (F0 m pc ls rest) q9)
    (kk : ∀ (u : S9) (H1 : Heap) (locs1 : List Loc), post u → va_P D vwCl (wr ++ OUT u) H1 → va_D A (wr ++ OUT u) → va_S A H0 H1 locs1 → W p l e R s m args below meth c H1 locs1 (cells + mc) (slots + ms) Q (F0 m (pc + 3) ls (rest))) : W p l e R s m args below meth c H locs cells slots Q (F0 m pc ls st0) := sorry
theorem ty_xq {S9 SX : Type} {post : Option Nat → S9 → Prop} {px : SX → Prop} {EX : List String} {OUT : S9 → va_W} {OX : SX → va_W} (hr : vx_Run p l e R s m args below meth c H locs cells slots mc ms (F0 m pc ls st0) rest (va_Qq post (cmB D wc H.size OUT) (va_A wc H.size) a) (vx_X px (cmBY D wc H.size EX OX) (va_A wc H.size)) (va_A wc H.size)) (hP : va_P D vwCl (wr ++ wc) H) (hD : va_D A (wr ++ wc)) (hS : va_S A H0 H locs) (hA : ∀ q, H0.size ≤ q → A q)
    (kx : ∀ (E : String) (ce : Cell) (q9 : Addr) (u : SX) (H1 : Heap) (locs1 : List Loc), px u → E ∈ EX → va_P D vwCl (wr ++ OX u) H1 → va_D A (wr ++ OX u) → va_S A H0 H1 locs1 → H1[q9]? = some ce → ce.vm = .none → s.vm.findClass E = some ce.cls → vx_W p l e R s m args below meth c H1 locs1 (cells + mc) (slots + ms) Q (F0 m pc ls rest) q9)
    (kk : ∀ (r : Option Nat) (u : S9) (H1 : Heap) (locs1 : List Loc), post r u → va_P D vwCl (wr ++ OUT u) H1 → va_D A (wr ++ OUT u) → va_S A H0 H1 locs1 → W p l e R s m args below meth c H1 locs1 (cells + mc) (slots + ms) Q (F0 m (pc + 3) ls (va_rf r :: rest))) : W p l e R s m args below meth c H locs cells slots Q (F0 m pc ls st0) := sorry
theorem ty_loop {I : Nat → Heap → List Loc → Array Slot → Prop} (h0 : ∃ n, I n H locs ls) (step : ∀ (n : Nat) (H : Heap) (locs : List Loc) (ls : Array Slot), I n H locs ls → (∀ (n' : Nat) (H' : Heap) (locs' : List Loc) (ls' : Array Slot), n' < n → I n' H' locs' ls' → W p l e R s m args below meth c H' locs' cells slots Q (F0 m pc ls' rest)) → W p l e R s m args below meth c H locs cells slots Q (F0 m pc ls rest)) : W p l e R s m args below meth c H locs cells slots Q (F0 m pc ls rest) := sorry
end TY
theorem cm_lceq (x : Int64) : lg_cmp x x = 0 := sorry
theorem ty_nneg {y : Int32} (h : 0 ≤ y.toInt) : ¬ y < 0 := sorry
theorem ty_nn {y N : Int32} (h0 : 0 ≤ y.toInt) (h : y < N) : 0 ≤ (y + Int32.ofInt 1).toInt := sorry
theorem ty_inc {y N : Int32} (h : y < N) : (2147483648 - (y + Int32.ofInt 1).toInt).toNat < (2147483648 - y.toInt).toNat := sorry
theorem ty_inc1 {y N : Int32} (h : y < N) : (2147483648 - (y + 1).toInt).toNat < (2147483648 - y.toInt).toNat := sorry
theorem ty_lk01 {x : Int32} {a b d : Int} (h0 : ¬ x = 0) (h1 : ¬ x = 1) : Op.lookupswitch.offset [(0, a), (1, b)] d x.toInt = d := sorry
theorem ty_incle {y N : Int32} (h : ¬ N < y) (hN : N.toInt < 2147483647) : (2147483648 - (y + Int32.ofInt 1).toInt).toNat < (2147483648 - y.toInt).toNat := sorry
theorem ty_dec {y k d : Int32} (h : ¬ y ≤ k) (hd : d.toInt < 0) (hk : -1000000 ≤ d.toInt ∧ -1000000 ≤ k.toInt) : ((y + d).toInt + 2147483648).toNat < (y.toInt + 2147483648).toNat := sorry
theorem ty_permP {D : va_G} {cl : List vw_C} {w1 w2 : va_W} {H : Heap} (h : va_P D cl w1 H) (hp : w1.Perm w2) : va_P D cl w2 H := sorry
theorem ty_Dnd {A : Nat → Prop} {ws : va_W} (h : va_D A ws) : (ws.map Prod.fst).Nodup := sorry
theorem ty_Dof {A : Nat → Prop} {ws : va_W} (h1 : (ws.map Prod.fst).Nodup) (h2 : ∀ q ∈ ws, A q.1) : va_D A ws := sorry
theorem ty_permD {A : Nat → Prop} {w1 w2 : va_W} (h : va_D A w1) (hp : w1.Perm w2) : va_D A w2 := sorry
theorem ty_ordp {E E2 ws : va_W} {n : Nat} (is : List Nat) (hE : is.map (fun i => E[i]?) = E2.map some) (hn : E.length = n) (hp : is.Perm (List.range' 0 n)) : (E ++ ws).Perm (E2 ++ ws) := sorry
def ty_le (S S' : ty_S) : Prop := ∀ (a : Nat) (κ : ty_K), S a = some κ → S' a = some κ
theorem ty_subP {D : va_G} {cl : List vw_C} {w1 w2 : va_W} {H : Heap} (h : va_P D cl w1 H) (hs : w2.Sublist w1) : va_P D cl w2 H := sorry
theorem ty_subD {A : Nat → Prop} {w1 w2 : va_W} (h : va_D A w1) (hs : w2.Sublist w1) : va_D A w2 := sorry
theorem ty_dr1 {E ws : va_W} {x : Nat × va_E} : (E ++ ws).Sublist ((E ++ [x]) ++ ws) := sorry
/-- what else is known, and which stores keep it -/
def rp_PS (sp : Nat) : Type := { q : (va_W → Prop) × (Nat → Nat → Nat → Prop) // ty_C q.1 q.2 ∧ (∀ c k b : Nat, c ≠ 9 → c ≠ 14 → q.2 c k b) ∧ ∀ k : Nat, k ≠ 0 → q.2 9 k sp }
def rp_PS.p {sp : Nat} (ps : rp_PS sp) : va_W → Prop := ps.1.1
def rp_PS.x {sp : Nat} (ps : rp_PS sp) : Nat → Nat → Nat → Prop := ps.1.2
/-- a call that needs nothing of the typed world: it stays in the frame -/
theorem ty_V0 {ct : Nat → ClassId} : ty_V ct (fun _ => none) (fun _ => True) [] := sorry
theorem ty_C0 : ty_C (fun _ => True) (fun _ _ _ => True) := sorry
theorem ty_y10 : ty_y1 (fun _ _ _ => True) := sorry
theorem ty_mv2 {E1 E2 ws : va_W} : ((E1 ++ E2) ++ ws).Perm ((E1 ++ ws) ++ (E2 ++ [])) := sorry
theorem ty_mv3 {E1 E2 ws u : va_W} : ((E1 ++ ws) ++ (E2 ++ u)).Perm (((E1 ++ E2) ++ ws) ++ u) := sorry
theorem ty_bkP {D : va_G} {cl : List vw_C} {E1 E2 ws u : va_W} {H : Heap} (h : va_P D cl ((E1 ++ ws) ++ (E2 ++ u)) H) : va_P D cl ((E1 ++ E2) ++ ws) H := sorry
theorem ty_bkD {A : Nat → Prop} {E1 E2 ws u : va_W} (h : va_D A ((E1 ++ ws) ++ (E2 ++ u))) : va_D A ((E1 ++ E2) ++ ws) := sorry
theorem ty_decn {y : Int32} (h : ¬ y < 0) : ((y + Int32.ofInt (-8)).toInt + 2147483648).toNat < (y.toInt + 2147483648).toNat := sorry
theorem ty_mvp {E ws : va_W} {x : Nat × va_E} : ((E ++ ws) ++ [x]).Perm ((E ++ [x]) ++ ws) := sorry
theorem ty_sw0_3 {x : Int32} (h0 : ¬ x = 0) (h1 : ¬ x = 1) (h2 : ¬ x = 2) (h3 : ¬ x = 3) : x.toInt < 0 ∨ 3 < x.toInt := sorry
theorem ty_sw0_2 {x : Int32} (h0 : ¬ x = 0) (h1 : ¬ x = 1) (h2 : ¬ x = 2) : x.toInt < 0 ∨ 2 < x.toInt := sorry
theorem ty_sw1_3 {x : Int32} (h1 : ¬ x = 1) (h2 : ¬ x = 2) (h3 : ¬ x = 3) : x.toInt < 1 ∨ 3 < x.toInt := sorry
theorem ty_sw0_6 {x : Int32} (h0 : ¬ x = 0) (h1 : ¬ x = 1) (h2 : ¬ x = 2) (h3 : ¬ x = 3) (h4 : ¬ x = 4) (h5 : ¬ x = 5) (h6 : ¬ x = 6) : x.toInt < 0 ∨ 6 < x.toInt := sorry
theorem ty_sw0_9 {x : Int32} (h0 : ¬ x = 0) (h1 : ¬ x = 1) (h2 : ¬ x = 2) (h3 : ¬ x = 3) (h4 : ¬ x = 4) (h5 : ¬ x = 5) (h6 : ¬ x = 6) (h7 : ¬ x = 7) (h8 : ¬ x = 8) (h9 : ¬ x = 9) : x.toInt < 0 ∨ 9 < x.toInt := sorry
