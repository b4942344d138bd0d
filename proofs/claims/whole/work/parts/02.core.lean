/-! THE SMALL MACHINE: values with places for addresses, a world of shapes and numbers, and the walk 'zW' over it; every row below says that the true machine goes as the small one does -/
/-- a shape: an array (kind 0 int, 1 boolean, 2 long; length), or an object (class number; fields: none a number, 'some r' a reference) -/
abbrev zs : Type := (Nat × Nat) ⊕ (Nat × List (Option (Option Nat)))
/-- a world: the shapes by place, and the numbers in them -/
abbrev zS : Type := List zs × (Nat → Nat → Int32)
/-- a method: name, bytes, locals, answer, handlers; the law's own: the script, which lies at place 999 -/
abbrev zM : Type := MethodName × ByteArray × Nat × Option FieldType × List (Nat × Nat × Nat × Nat) × Option (Nat × (Nat → Int32))
/-- an end: the answer or the class of what was thrown; the world; cells and slots made since the method began -/
abbrev zR : Type := (Option Value ⊕ String) × zS × Nat × Nat
def zc (ad : Nat → Nat) : Value → Value
  | .ref k => .ref (ad k)
  | v => v
def zfv (ad : Nat → Nat) (g : Nat → Int32) (j : Nat) : Option (Option Nat) → Value
  | none => .int (g j)
  | some none => .null
  | some (some q) => .ref (ad q)
def zce (tc : Nat → ClassId) (ad : Nat → Nat) (g : Nat → Int32) : zs → va_E
  | .inl (t, n) => .inl (tc t, n, if t = 2 then .inr (.inl (fun j => (g j).toInt64)) else .inl g)
  | .inr (c, fs) => .inr (c, fs.mapIdx (fun j f => zfv ad g j f))
def zw (tc : Nat → ClassId) (ad : Nat → Nat) (S : zS) : va_W := S.1.mapIdx (fun k z => (ad k, zce tc ad (S.2 k) z))
def zty (t : Nat) : FieldType := match t with
  | 0 => .int
  | 1 => .boolean
  | _ => .long
def zK (tc : Nat → ClassId) : List (ClassId × FieldType) := [(tc 0, .int), (tc 1, .boolean), (tc 2, .long)]
theorem zw_at {tc : Nat → ClassId} {ad : Nat → Nat} {S : zS} {k : Nat} {z : zs} (h : S.1[k]? = some z) : (zw tc ad S)[k]? = some (ad k, zce tc ad (S.2 k) z) := by
  unfold zw
  rw [List.getElem?_mapIdx, h]
  rfl
theorem zK_at (tc : Nat → ClassId) (t : Nat) (h : t < 3) : (zK tc)[t]? = some (tc t, zty t) := by
  match t, h with
  | 0, _ => rfl
  | 1, _ => rfl
  | 2, _ => rfl
/-! the words -/
def zgood : Cond → Bool
  | .methodLinkNest .. => true
  | .castable .. => true
  | .declares _ => true
  | w => goodWord w
theorem zgood_warm {s U : State} {w : Cond} (hW : s.WarmedH U.vm) (hg : zgood w = true) {a a' : Array Value} (h : w.before a s = true) : w.before a' U = true := by
  cases w
  case methodLinkNest x1 x2 x3 x4 => exact va_Nw.use rfl (va_Nw.warmM hW (va_Nw.of rfl h))
  case declares x => exact va_Nw.use rfl (va_Nw.warmD hW (va_Nw.of rfl h))
  case castable x y =>
    have h1 : (Cond.castable x y).before a (s.setVm U.vm) = true := Cond.before_shiftedCast (State.Shifted.of_warmed hW) _ rfl h
    exact va_tabs rfl (rfl : (s.setVm U.vm).vm = U.vm) h1
  all_goals exact word_at hW (good_of_word hg) h
abbrev tN9 : String := "java/lang/Throwable"
def zsl (n d : String) (A : Nat → Prop) (U : State) (H : Heap) : Prop := ∃ (c : ClassId) (k : Class) (i : Nat) (f : Field) (a : Nat) (cell : Cell) (v : Value), U.vm.findClass tN9 = some c ∧ U.fieldFound? tN9 n d = some (c, k, i, f) ∧ f.isStatic = true ∧ k.statics = some a ∧ H[a]? = some cell ∧ cell.vm.isStatics = true ∧ cell.cls = c ∧ f.slot < cell.slots.size ∧ k.staticTypes[f.slot]? = some f.type ∧ cell.slots[f.slot]? = some v ∧ v.isRef = true ∧ ¬ A a
theorem zsl.moved {n d : String} {A : Nat → Prop} {u U : State} {H H1 : Heap} (hvm : u.vm.Alike U.vm) (hq : ∀ q : Nat, q < H.size → ¬ A q → H1[q]? = H[q]?) (h : zsl n d A u H) : zsl n d A U H1 := by
  obtain ⟨c, k, i, f, a, cell, v, h1, h2, h3, h4, h5, h6, h7, h8, h9, h10, h11, h12⟩ := h
  obtain ⟨k', hi', he⟩ := State.fieldFound?_setVm hvm h2
  refine ⟨c, k', i, f, a, cell, v, by rw [hvm.findClass]; exact h1, hi', h3, by rw [he]; exact h4, ?_, h6, h7, h8, by rw [he]; exact h9, h10, h11, h12⟩
  rw [hq a (Array.getElem?_eq_some_iff.mp h5).1 h12]
  exact h5
abbrev steD9 : String := "[Ljava/lang/StackTraceElement;"
abbrev listD9 : String := "Ljava/util/List;"
/-- what every method finds true of the tables: the words, the classes that are no others, the texts, and where Throwable's two statics lie (in no cell of A) -/
def zT (A : Nat → Prop) (U : State) : Prop :=
  (∀ w ∈ lw_tbl, zgood w = true → w.before #[] U = true) ∧ (∀ q ∈ zNC, va_Nc q.1 q.2 U) ∧ (∀ q ∈ zSR, ∃ a, vk_R "LeagueRounds" q.1 q.2 a U) ∧ zsl "UNASSIGNED_STACK" steD9 A U U.heap ∧ zsl "SUPPRESSED_SENTINEL" listD9 A U U.heap
theorem zT.warm {A : Nat → Prop} {s U : State} (h : zT A s) (hW : s.WarmedH U.vm) (hq : ∀ q : Nat, q < s.heap.size → ¬ A q → U.heap[q]? = s.heap[q]?) : zT A U := by
  obtain ⟨h1, h2, h3, h4, h5⟩ := h
  refine ⟨fun w hw hg => zgood_warm hW hg (h1 w hw hg), fun q hm => va_Nc.moved hW.alike (h2 q hm), fun q hm => ?_, h4.moved hW.alike hq, h5.moved hW.alike hq⟩
  obtain ⟨a, ha⟩ := h3 q hm
  exact ⟨a, vk_R.warm hW ha⟩
/-- a word of the tables that stays -/
def zI (w : Cond) : Prop := w ∈ lw_tbl ∧ zgood w = true
theorem zT.w {A : Nat → Prop} {s : State} (h : zT A s) {w : Cond} (hw : zI w) {a : Array Value} : w.before a s = true := zgood_warm (State.WarmedH.refl s) hw.2 (h.1 w hw.1 hw.2)
theorem zI_at (i : Nat) {w : Cond} (h : tables_1[i]? = some w) (hg : zgood w = true) : zI w := ⟨List.mem_append_right _ (List.mem_of_getElem? h), hg⟩
theorem zI_sel (i : Nat) {w : Cond} (h : (k2_sels lw_privs)[i]? = some w) (hg : zgood w = true) : zI w := ⟨List.mem_append_left _ (List.mem_of_getElem? h), hg⟩
/-! locals -/
def zloc (lsM : Array Slot) (n : Nat) (ad : Nat → Nat) (ls : List Value) : Prop := lsM.size = n ∧ lv_wf lsM ∧ ∀ (i : Nat) (v : Value), ls[i]? = some v → v ≠ .null → v.category = 1 ∧ lsM[i]? = some (.val (zc ad v))
/-- what holds all through a method -/
def zX (l : Launch) (p : Program) (s : State) (m : MethodId) (meth : Method) (c : Code) (M : zM) (D : va_G) (tc : Nat → ClassId) (A : Nat → Prop) : Prop :=
  p.tables.exec = Jvm.exec ∧ c.code = M.2.1 ∧ c.maxLocals = M.2.2.1 ∧ meth.sig.returnType = M.2.2.2.1 ∧ meth.locks = false ∧ meth.name = M.1.name ∧ s.vm.findClass M.1.cls = some m.cls ∧ c.exceptionTable.toList = tableOf M.2.2.2.2.1 ∧ zT A s ∧ va_K D zcl (zK tc) s ∧ (∀ q, s.heap.size ≤ q → A q) ∧ l.stackTraces = false
/-- what holds now -/
def zL (M : zM) (D : va_G) (tc : Nat → ClassId) (A : Nat → Prop) (ad : Nat → Nat) (s : State) (S : zS) (H : Heap) (locs : List Loc) : Prop := va_P D zcl (zw tc ad S) H ∧ va_D A (zw tc ad S) ∧ va_S A s.heap H locs ∧ ∀ (L : Nat) (xs : Nat → Int32), M.2.2.2.2.2 = some (L, xs) → va_X (ad 999) L xs s s.heap ∧ ad 999 < s.heap.size ∧ ¬ A (ad 999)
/-- what holds at the end -/
def zQ (D : va_G) (tc : Nat → ClassId) (A : Nat → Prop) (ad : Nat → Nat) (S : zS) (r : zR) (st : State) (o : Outcome) (t : State) : Prop :=
  ∃ ad' : Nat → Nat, (∀ k, k < S.1.length ∨ k = 999 → ad' k = ad k) ∧ (r.2.1.1 = S.1 → ad' = ad) ∧ S.1.length ≤ r.2.1.1.length ∧
    (match r.1 with
      | .inl v => o = .returned (v.map (zc ad'))
      | .inr E => ∃ (q : Addr) (ce : Cell), o = .threw q ∧ t.heap[q]? = some ce ∧ ce.vm = .none ∧ t.vm.findClass E = some ce.cls) ∧
    va_P D zcl (zw tc ad' r.2.1) t.heap ∧ va_D A (zw tc ad' r.2.1) ∧ va_F A st t
def zE (below : List Frame) (s : State) (D : va_G) (tc : Nat → ClassId) (A : Nat → Prop) (ad : Nat → Nat) (S : zS) (r : zR) : State → Prop := fun t =>
  ∃ o, t.status = .running ∧ Ended t below o ∧ zQ D tc A ad S r s o t ∧ s.WarmedH t.vm ∧ ∃ L, s.sameButNew ({ t with vm := s.vm } : State) L r.2.2.1 r.2.2.2 ∧ ∀ q ∈ L, A q.base
def zrm (d : Nat) (r : zR) : Room := { frames := d, cells := r.2.2.1, slots := r.2.2.2, locals := 64 * d }
/-- THE WALK: the method M, now at pc with these locals, this stack, this world, so many cells and slots made, comes to the end r; d frames are left -/
def zW (l : Launch) (d : Nat) (M : zM) (pc : Nat) (ls st : List Value) (S : zS) (cs : Nat × Nat) (r : zR) : Prop :=
  ∀ (p : Program) (e : Env) (s : State) (m : MethodId) (args : Array Value) (below : List Frame) (meth : Method) (c : Code) (D : va_G) (tc : Nat → ClassId) (A : Nat → Prop), zX l p s m meth c M D tc A →
    ∀ (ad : Nat → Nat) (H : Heap) (locs : List Loc) (lsM : Array Slot), zL M D tc A ad s S H locs → zloc lsM M.2.2.1 ad ls →
      W p l e (zrm d r) s m args below meth c H locs cs.1 cs.2 (zE below s D tc A ad S r) (F0 m pc lsM (st.map (zc ad)))
def zcw (M : zM) : Cond := match M.2.2.2.2.1 with
  | [] => .code M.1 M.2.1 M.2.2.1 M.2.2.2.1
  | hh => .codeWith M.1 M.2.1 M.2.2.1 M.2.2.2.1 hh
/-- THE CONTRACT: called with these arguments in this world the method comes to the end r -/
def zMet (l : Launch) (d : Nat) (M : zM) (as : List Value) (S : zS) (r : zR) : Prop :=
  ∀ (D : va_G) (tc : Nat → ClassId) (A : Nat → Prop) (ad : Nat → Nat), l.stackTraces = false → MetFree l M.1 (headSpec [zcw M] (zrm d r))
    (va_Pc (as.map (zc ad)) (fun U => zT A U ∧ va_K D zcl (zK tc) U ∧ va_P D zcl (zw tc ad S) U.heap ∧ va_D A (zw tc ad S) ∧ ∀ q, U.heap.size ≤ q → A q)) (fun _ _ _ _ _ => True)
    (fun _ st o t => zQ D tc A ad S r st o t ∧ st.WarmedH t.vm ∧ ∃ L, st.sameButNew ({ t with vm := st.vm } : State) L r.2.2.1 r.2.2.2 ∧ ∀ q ∈ L, A q.base)
