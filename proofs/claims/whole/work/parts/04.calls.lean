/-! contracts: from a walk to a contract, and calls -/
theorem zcw_spec {M : zM} {args : Array Value} {s : State} {m : MethodId} (h : (zcw M).before args s = true) (hn : s.methodNamed? M.1 = some m) : ∃ meth c, s.vm.method? m = some meth ∧ meth.code = some c ∧ c.code = M.2.1 ∧ c.maxLocals = M.2.2.1 ∧ meth.sig.returnType = M.2.2.2.1 ∧ meth.locks = false ∧ c.exceptionTable.toList = tableOf M.2.2.2.2.1 ∧ parseMethodDescriptor M.1.desc = some meth.sig := by
  obtain ⟨y, b, n, ret, hh, sc⟩ := M
  cases hh with
  | nil =>
    obtain ⟨meth, c, h1, h2, h3, h4, h5, h6, h7, h8⟩ := Cond.code_spec hn (show (Cond.code y b n ret).before args s = true from h)
    refine ⟨meth, c, h1, h2, h3, h4, h5, h6, ?_, h8⟩
    have : c.exceptionTable = #[] := by simpa using h7
    rw [this]
    rfl
  | cons q hh =>
    obtain ⟨m', meth, c, hn', h1, h2, h3, h4, h5, h6, h7, h8⟩ := Cond.codeWith_spec (show (Cond.codeWith y b n ret (q :: hh)).before args s = true from h)
    cases hn.symm.trans hn'
    exact ⟨meth, c, h1, h2, h3, h4, h6, h7, by rw [← table_eq c.exceptionTable.toList, h5], h8⟩
theorem zargs_in : ∀ (vs : List Value) (i j : Nat) (v : Value), (∀ w ∈ vs, w.category = 1) → vs[j]? = some v → (i + j, v) ∈ lv_args i vs
  | [], i, j, v, _, h => by simp at h
  | w :: vs, i, 0, v, hc, h => by
    simp at h
    subst h
    exact List.mem_cons_self
  | w :: vs, i, j + 1, v, hc, h => by
    have hw : ¬ w.category = 2 := by have := hc w List.mem_cons_self; omega
    have h1 := zargs_in vs (i + 1) j v (fun x hx => hc x (List.mem_cons_of_mem _ hx)) (by simpa using h)
    refine List.mem_cons_of_mem _ ?_
    rw [if_neg hw, show i + (j + 1) = i + 1 + j by omega]
    exact h1
theorem zsl_len : ∀ (vs : List Value), (∀ w ∈ vs, w.category = 1) → (lg_sl vs).length = vs.length
  | [], _ => rfl
  | w :: vs, hc => by
    have hw : ¬ w.category = 2 := by have := hc w List.mem_cons_self; omega
    have h1 := zsl_len vs (fun x hx => hc x (List.mem_cons_of_mem _ hx))
    unfold lg_sl at h1 ⊢
    rw [List.flatMap_cons, if_neg hw, List.length_append, h1]
    simp
    omega
theorem zMet_of {l : Launch} {d : Nat} {M : zM} {as ls : List Value} {S : zS} {r : zR} (hy : plainName M.1.cls = true) (hs : M.2.2.2.2.2 = none) (hc : ∀ v ∈ as, v.category = 1) (hnb : Nat.ble as.length M.2.2.1 = true) (hls : ls = as ++ List.replicate (M.2.2.1 - as.length) .null)
    (k : zW l d M 0 ls [] S (0, 0) r) : zMet l d M as S r := by
  have hn := Nat.le_of_ble_eq_true hnb
  intro D tc A ad hl
  refine MetFree.of_bodyS (code := M.2.1) (maxLocals := M.2.2.1) (ret := M.2.2.2.1) hy ?_ ?_
  · intro args s m h hn
    obtain ⟨meth, c, h1, h2, h3, h4, h5, h6, -⟩ := zcw_spec (atoms_spec (ws := [zcw M]) h _ List.mem_cons_self) hn
    exact ⟨meth, c, h1, h2, h3, h4, h5, h6⟩
  · intro p e s m args below meth c s₁ B hml hP _
    obtain ⟨hav, hT, hK, hP, hD, hA⟩ := hP
    have hcw := atoms_spec (ws := [zcw M]) B.pre _ List.mem_cons_self
    obtain ⟨meth', c', h1, h2, h3, h4, h5, h6, h7, h8⟩ := zcw_spec hcw B.named
    cases B.method.symm.trans h1
    have X := Stand.of_body B
    cases X.code.symm.trans h2
    have hX : zX l p s m meth c M D tc A := ⟨B.exec, h3, h4, h5, h6, (name_of_methodNamed B.named B.method).1, findClass_of_methodNamed B.named, h7, hT, hK, hA, hl⟩
    have hh0 : s₁.heap = s.heap := by rw [B.state]; rfl
    have hc2 : ∀ w ∈ as.map (zc ad), w.category = 1 := fun w hw => by
      obtain ⟨v, hv, rfl⟩ := List.mem_map.mp hw
      rw [zc_cat]; exact hc v hv
    have hen := lv_entry (as.map (zc ad)) (n := M.2.2.1) (by rw [zsl_len _ hc2]; simpa using hn)
    have hlo : zloc ((lg_sl (as.map (zc ad)) ++ List.replicate (M.2.2.1 - (lg_sl (as.map (zc ad))).length) Slot.unset).toArray) M.2.2.1 ad ls := by
      refine ⟨hen.1, hen.2.1, fun i v hi hv => ?_⟩
      rw [hls] at hi
      by_cases hlt : i < as.length
      · rw [List.getElem?_append_left hlt] at hi
        have hc1 := hc v (List.mem_of_getElem? hi)
        refine ⟨hc1, hen.2.2 (i, zc ad v) ?_⟩
        have := zargs_in (as.map (zc ad)) 0 i (zc ad v) hc2 (by rw [List.getElem?_map, hi]; rfl)
        simpa using this
      · rw [List.getElem?_append_right (by omega)] at hi
        have := List.mem_of_getElem? hi
        rw [List.mem_replicate] at this
        exact absurd this.2 hv
    have key := k p e s m args below meth c D tc A hX ad s.heap [] _ ⟨hP, hD, ⟨Nat.le_refl _, fun _ _ _ => rfl, fun q hq => (by cases hq)⟩, fun L xs h => (by rw [hs] at h; cases h)⟩ hlo
    have key2 : W p l e (zrm d r) s m args below meth c s.heap [] 0 0 (zE below s D tc A ad S r) (entryFrame m args M.2.2.1) := by
      rw [hav, lg_entry_eq]
      rw [hav] at key
      exact key
    obtain ⟨t, a1, o, b1, b2, b3, b4⟩ := key2 s₁ hh0 X
    exact ⟨t, o, a1, b1, b2, b3, b4⟩
section ZC
variable {p : Program} {l : Launch} {e : Env} {R : Room} {s : State} {m : MethodId} {args : Array Value} {below : List Frame} {meth : Method} {c : Code} {T : State} {locs : List Loc} {cells slots : Nat}
/-- the invoking instruction itself: which method comes, at what state -/
def zinv (p : Program) (l : Launch) (e : Env) (R : Room) (s : State) (m : MethodId) (args : Array Value) (below : List Frame) (meth : Method) (c : Code) (T : State) (locs : List Loc) (cells slots : Nat) (g : JFrame) (y : MethodName) (a : Array Value) (rest : List Value) : Prop :=
  ∃ (mk : MethodId) (vm₁ : Vm), s.methodNamed? y = some mk ∧ s.WarmedH vm₁ ∧ Stand p l e R s m args below meth c (T.setVm vm₁) locs cells slots ∧
    ∀ target, (∀ acts, Steps p.tables e below (doInvoke e ((T.setVm vm₁).setTop { g with stack := rest }) acts mk a).1 target) → Steps p.tables e below (T.setTop g) target
/-- a call's run, whatever its end -/
theorem zcall0 {M' : zM} {d : Nat} {as : List Value} {S : zS} {r' : zR} {D : va_G} {tc : Nat → ClassId} {A : Nat → Prop} {ad : Nat → Nat} (X : Stand p l e R s m args below meth c T locs cells slots) (hM : zMet l d M' as S r') (hl : l.stackTraces = false)
    (hPc : zT A T ∧ va_K D zcl (zK tc) T ∧ va_P D zcl (zw tc ad S) T.heap ∧ va_D A (zw tc ad S) ∧ ∀ q, T.heap.size ≤ q → A q) (hcw : zI (zcw M')) (hini : zI (.initialized M'.1.cls)) {mk : MethodId} (hn : T.methodNamed? M'.1 = some mk)
    {g : JFrame} (hg : g.method = m) (hsize : g.locals.size = c.maxLocals) {ig : Instr} {len : Nat} (hdg : decode c.code g.pc = .ok (ig, len)) (hW : 2 * g.monitorRoom + (g.stack.map fun v => v.category).sum ≤ 8) (hfr : d + 1 ≤ R.frames) (hlo : 8 + (M'.2.2.1 + 11) + 64 * d ≤ R.locals) (h4 : cells + r'.2.2.1 ≤ R.cells) (h5 : slots + r'.2.2.2 ≤ R.slots) :
    ∃ (o : Outcome) (t : State) (L : List Loc), Steps p.tables e below (doInvoke e (T.setTop g) [] mk (as.map (zc ad)).toArray).1 t ∧ Ended t (.java g :: below) o ∧ zQ D tc A ad S r' (T.calling g mk (as.map (zc ad)).toArray) o t ∧ (T.calling g mk (as.map (zc ad)).toArray).WarmedH t.vm ∧
      (T.calling g mk (as.map (zc ad)).toArray).sameButNew ({ t with vm := (T.calling g mk (as.map (zc ad)).toArray).vm } : State) L r'.2.2.1 r'.2.2.2 ∧ ∀ q ∈ L, A q.base := by
  have h1 : (headSpec [zcw M'] (zrm d r')).pre.before (as.map (zc ad)).toArray T = true := atoms_intro fun w hw => by
    rw [List.mem_singleton.mp hw]
    exact hPc.1.w hcw
  obtain ⟨methY, cY, hmY, hcY, -, hlY, -⟩ := zcw_spec (hPc.1.w hcw (a := #[])) hn
  obtain ⟨kY, hkY, -⟩ := className_of_methodNamed hn
  have hinitY : kY.init = .initialized := Cond.initialized_spec (findClass_of_methodNamed hn) hkY (hPc.1.w hini (a := #[]))
  have h : At T g.method c below := by rw [hg]; exact X.here
  have happ : (headSpec [zcw M'] (zrm d r')).appliesLoose M'.1 e.platform (T.calling g mk (as.map (zc ad)).toArray) = true :=
    Spec.appliesLoose_calling (g := g) h hdg hn hkY hinitY
      (X.room_calling (g := g) (R' := (headSpec [zcw M'] (zrm d r')).room) hsize hmY hcY hfr (by rw [hlY]; show _ + _ + 64 * d ≤ _; omega) h4 h5) h1
  obtain ⟨mid, hmid⟩ := h.above
  have hfrm : (T.setTop g).frames = (.java g :: mid) ++ below := by rw [State.frames_setTop' g h.top, hmid]; rfl
  have hv2 : ((T.setTop g).pushFrame (.invoking mk (as.map (zc ad)).toArray)).vm = T.vm := by simp [State.pushFrame, State.setFrames, State.setTop, State.modifyTopJava]
  have hh2 : ((T.setTop g).pushFrame (.invoking mk (as.map (zc ad)).toArray)).heap = T.heap := by simp [State.pushFrame, State.setFrames, State.setTop, State.modifyTopJava]
  have hW2 : T.WarmedH ((T.setTop g).pushFrame (.invoking mk (as.map (zc ad)).toArray)).vm := by rw [hv2]; exact State.WarmedH.refl T
  have hPc2 : zT A ((T.setTop g).pushFrame (.invoking mk (as.map (zc ad)).toArray)) ∧ va_K D zcl (zK tc) ((T.setTop g).pushFrame (.invoking mk (as.map (zc ad)).toArray)) ∧ va_P D zcl (zw tc ad S) ((T.setTop g).pushFrame (.invoking mk (as.map (zc ad)).toArray)).heap ∧ va_D A (zw tc ad S) ∧ ∀ q, ((T.setTop g).pushFrame (.invoking mk (as.map (zc ad)).toArray)).heap.size ≤ q → A q := by
    refine ⟨hPc.1.warm hW2 (fun q _ _ => by rw [hh2]), hPc.2.1.moved hW2.alike, ?_⟩
    rw [hh2]
    exact hPc.2.2
  obtain ⟨o, s₂, hsteps, -, hend, hq, hw, L, hsm, hL⟩ := Steps.callFree (hM D tc A ad hl) p X.admits X.cas X.clock (acts := []) hfrm happ ⟨rfl, hPc2⟩ trivial
  rw [State.frames_setTop' g h.top, X.tail] at hend
  exact ⟨o, s₂, L, hsteps, hend, hq, hw, hsm, hL⟩
end ZC
/-- at pc the machine calls y with the arguments 'as', 'rest' stays on the stack -/
def zJ (l : Launch) (M : zM) (pc : Nat) (S : zS) (stk : List Value) (y : MethodName) (as rest : List Value) : Prop :=
  (∃ ig, decode M.2.1 pc = .ok (ig, 3)) ∧ ∀ (p : Program) (e : Env) (s : State) (m : MethodId) (args : Array Value) (below : List Frame) (meth : Method) (c : Code) (D : va_G) (tc : Nat → ClassId) (A : Nat → Prop), zX l p s m meth c M D tc A →
    ∀ (R : Room) (ad : Nat → Nat) (H : Heap) (locs : List Loc) (cells slots : Nat) (lsM : Array Slot) (T : State), zL M D tc A ad s S H locs → lsM.size = M.2.2.1 → T.heap = H → Stand p l e R s m args below meth c T locs cells slots →
      zinv p l e R s m args below meth c T locs cells slots (F0 m pc lsM (stk.map (zc ad))) y (as.map (zc ad)).toArray (rest.map (zc ad))
theorem zsum (ad : Nat → Nat) : ∀ (vs : List Value), ((vs.map (zc ad)).map fun v => v.category).sum ≤ 2 * vs.length
  | [] => Nat.le_refl _
  | v :: vs => by
    have h1 := zsum ad vs
    have h2 := lv_cat (zc ad v)
    simp only [List.map_cons, List.sum_cons, List.length_cons]
    omega
section ZC2
variable {l : Launch} {d : Nat} {M M' : zM} {pc : Nat} {ls st as rest : List Value} {S S' : zS} {cs : Nat × Nat} {r : zR} {v : Option Value} {mc ms : Nat}
/-- what a call finds and leaves, machine side -/
theorem zcall1 {r' : zR} (hJ : zJ l M pc S st M'.1 as rest) (hM : zMet l d M' as S r') (hcw : zI (zcw M')) (hini : zI (.initialized M'.1.cls)) (hml : M'.2.2.1 ≤ 45) (hre : rest.length ≤ 4) (h1 : cs.1 + r'.2.2.1 ≤ r.2.2.1) (h2 : cs.2 + r'.2.2.2 ≤ r.2.2.2)
    {p : Program} {e : Env} {s : State} {m : MethodId} {args : Array Value} {below : List Frame} {meth : Method} {c : Code} {D : va_G} {tc : Nat → ClassId} {A : Nat → Prop} (hX : zX l p s m meth c M D tc A) {ad : Nat → Nat} {H : Heap} {locs : List Loc} {lsM : Array Slot} (hL : zL M D tc A ad s S H locs) (hls : zloc lsM M.2.2.1 ad ls)
    {T : State} (hT : T.heap = H) (X : Stand p l e (zrm (d + 1) r) s m args below meth c T locs cs.1 cs.2) :
    ∃ (o : Outcome) (t U T' : State) (L : List Loc) (mk : MethodId), (∀ target, Steps p.tables e below t target → Steps p.tables e below (T.setTop (F0 m pc lsM (st.map (zc ad)))) target) ∧ zQ D tc A ad S r' (U.calling (F0 m pc lsM (rest.map (zc ad))) mk (as.map (zc ad)).toArray) o t ∧ U.heap = H ∧ s.WarmedH t.vm ∧ (∀ q ∈ L, A q.base) ∧
      T'.heap = t.heap ∧ T'.vm = t.vm ∧ Stand p l e (zrm (d + 1) r) s m args below meth c T' (locs ++ L) (cs.1 + r'.2.2.1) (cs.2 + r'.2.2.2) ∧
      ((∀ w, o = .returned w → t = T'.setTop (F0 m (pc + 3) lsM (w.toList ++ rest.map (zc ad)))) ∧ ∀ q, o = .threw q → t = (T'.setTop (F0 m pc lsM (rest.map (zc ad)))).pushFrame (.throwing q)) := by
  obtain ⟨⟨ig, hdg⟩, hJ⟩ := hJ
  obtain ⟨mk, vm₁, hn, hW₁, X₁, hst⟩ := hJ p e s m args below meth c D tc A hX _ ad H locs _ _ lsM T hL hls.1 hT X
  have hT1 : (T.setVm vm₁).heap = H := hT
  have hdg' : decode c.code (F0 m pc lsM (rest.map (zc ad))).pc = .ok (ig, 3) := by rw [hX.2.1]; exact hdg
  obtain ⟨o, t, L, hsteps, hend, hq, hw, hsm, hLA⟩ := zcall0 (ad := ad) (D := D) (tc := tc) (A := A) X₁ hM hX.2.2.2.2.2.2.2.2.2.2.2
    ⟨hX.T.warm hW₁ (fun q g1 g2 => by rw [hT1]; exact hL.2.2.1.2.1 q g1 g2), hX.K.moved hW₁.alike, by rw [hT1]; exact hL.1, hL.2.1, fun q hq => hX.2.2.2.2.2.2.2.2.2.2.1 q (Nat.le_trans hL.2.2.1.1 (by rw [← hT1]; exact hq))⟩
    hcw hini (X₁.named hn) (g := F0 m pc lsM (rest.map (zc ad))) rfl (by show lsM.size = _; rw [hls.1, hX.2.2.1]) hdg' (by show 2 * 0 + ((rest.map (zc ad)).map fun v => v.category).sum ≤ 8; have := zsum ad rest; omega) (Nat.le_refl _) (by show _ ≤ 64 * (d + 1); omega) h1 h2
  have hWt : s.WarmedH t.vm := State.WarmedH.trans hW₁ hw
  cases o with
  | returned w =>
    obtain ⟨T', X', hW', -, ht⟩ := X₁.outOf (g := F0 m pc lsM (rest.map (zc ad))) rfl hdg' hend hw hsm
    refine ⟨.returned w, t, T.setVm vm₁, T', L, mk, fun target h => hst _ fun acts => by rw [doInvoke_state]; exact hsteps.trans h, hq, hT1, hWt, hLA, by rw [ht]; simp [State.setTop, State.modifyTopJava], by rw [ht]; simp [State.setTop, State.modifyTopJava], X', fun w' h => ?_, fun q h => (by cases h)⟩
    cases h
    exact ht
  | threw x =>
    obtain ⟨T', X', hW', -, ht⟩ := X₁.outOfThrown (g := F0 m pc lsM (rest.map (zc ad))) rfl hend hw hsm
    refine ⟨.threw x, t, T.setVm vm₁, T', L, mk, fun target h => hst _ fun acts => by rw [doInvoke_state]; exact hsteps.trans h, hq, hT1, hWt, hLA, by rw [ht, throwing_heap], by rw [ht, throwing_vm], X', fun w' h => (by cases h), fun q h => ?_⟩
    cases h
    exact ht
theorem zS_after {D : va_G} {tc : Nat → ClassId} {A : Nat → Prop} {ad : Nat → Nat} {s U t : State} {H H1 : Heap} {locs L : List Loc} (hL : zL M D tc A ad s S H locs) (hU : U.heap = H) (h1 : H1 = t.heap) (hF : va_F A U t) (hLA : ∀ q ∈ L, A q.base) : va_S A s.heap H1 (locs ++ L) := by
  subst h1
  rw [← hU] at hL
  refine ⟨Nat.le_trans hL.2.2.1.1 hF.1, fun q g1 g2 => ?_, fun q hq => ?_⟩
  · rw [hF.2 q (Nat.lt_of_lt_of_le g1 hL.2.2.1.1) g2]
    exact hL.2.2.1.2.1 q g1 g2
  · rcases List.mem_append.mp hq with h | h
    · exact hL.2.2.1.2.2 q h
    · exact hLA q h
/-- a call that returns and makes no cells that last -/
theorem zr_call (hJ : zJ l M pc S st M'.1 as rest) (hM : zMet l d M' as S (.inl v, S', mc, ms)) (hcw : zI (zcw M')) (hini : zI (.initialized M'.1.cls)) (hml : M'.2.2.1 ≤ 45) (hre : rest.length ≤ 4) (hsh : S'.1 = S.1) (h1 : cs.1 + mc ≤ r.2.2.1) (h2 : cs.2 + ms ≤ r.2.2.2)
    (k : zW l (d + 1) M (pc + 3) ls (v.toList ++ rest) S' (cs.1 + mc, cs.2 + ms) r) : zW l (d + 1) M pc ls st S cs r := by
  intro p e s m args below meth c D tc A hX ad H locs lsM hL hls T hT X
  obtain ⟨o, t, U, T', L, mk, hst, ⟨ad', q1, q2, q3, q4, q5, q6, q7⟩, hU, hW, hLA, e1, e2, X', ho, -⟩ := zcall1 (r := r) hJ hM hcw hini hml hre h1 h2 hX hL hls hT X
  have had : ad' = ad := q2 hsh
  subst had
  have ht := ho _ q4
  have hUc : (U.calling (F0 m pc lsM (rest.map (zc ad'))) mk (as.map (zc ad')).toArray).heap = H := hU
  have hL1 : zL M D tc A ad' s S' T'.heap (locs ++ L) := hL.next (by rw [e1]; exact q5) q6 (zS_after hL hUc e1 q7 hLA)
  obtain ⟨t2, a1, b1⟩ := k p e s m args below meth c D tc A hX ad' T'.heap (locs ++ L) lsM hL1 hls T' rfl X'
  refine ⟨t2, hst t2 ?_, zE.keep hsh b1⟩
  rw [ht]
  have e3 : (v.map (zc ad')).toList ++ rest.map (zc ad') = (v.toList ++ rest).map (zc ad') := by cases v <;> rfl
  rw [e3]
  exact a1
/-! the invoking instructions -/
theorem zJ_virt {index q ci N : Nat} {C : String} {T0 : u_T} {ty : Nat → FieldType} {fs : List (Option (Option Nat))} {n : Nat} (hd : decode M.2.1 pc = .ok (.invokevirtual index, 3)) (hC : zC ci C T0 N ty) (hy : M'.1.cls = C) (hlink : zI (.methodLink M.1.cls index M'.1)) (hin : zI (.instanceMethod M'.1)) (hsel : zI (.selects C M'.1 M'.1)) (hcw : zI (zcw M')) (hne : C ≠ "java/lang/invoke/MethodHandle" ∧ C ≠ "java/lang/invoke/VarHandle")
    (hn : (parseMethodDescriptor M'.1.desc).map (fun d => d.parameters.length) = some n) (hS : S.1[q]? = some (.inr (ci, fs))) (has : as.length = n) (hst : st = as.reverse ++ .ref q :: rest) : zJ l M pc S st M'.1 (.ref q :: as) rest := by
  refine ⟨⟨_, hd⟩, ?_⟩
  intro p e s m args below meth c D tc A hX R ad H locs cells slots lsM T hL hsz hT X
  subst hT
  obtain ⟨cellB, hcell, hobj, hcls⟩ := va_recv hX.K hL.1 hC.1 (zw_at hS)
  obtain ⟨mk, methM, hnamed, hmethM, hstM, habM⟩ := Cond.instanceMethod_spec (hX.T.w hin (a := args))
  obtain ⟨methM', cM, hmethM', -, -, -, -, -, -, hsigM⟩ := zcw_spec (hX.T.w hcw (a := args)) hnamed
  cases hmethM.symm.trans hmethM'
  have hy' : M'.1.cls ≠ "java/lang/invoke/MethodHandle" ∧ M'.1.cls ≠ "java/lang/invoke/VarHandle" := by rw [hy]; exact hne
  obtain ⟨c2, r2, m2, q1, q2, q3, q4, kP, hkP, hkPi⟩ := Cond.selects_spec (hX.T.w hsel (a := args))
  cases hcls.symm.trans q1
  cases (State.methodFound?_of_named hnamed hy').symm.trans q2
  cases hnamed.symm.trans q3
  have hselP : selectMethod e.platform s.vm cellB.cls mk = .method mk := by rw [Launch.admits_selectMethod X.admits]; exact q4
  have hlen : (as.map (zc ad)).length = methM.sig.parameters.length := by
    rw [hsigM] at hn
    rw [List.length_map, has]
    exact (Option.some.inj hn).symm
  obtain ⟨vm₁, X₁, hstep₁⟩ := X.invokevirtual hX.1 hX.own (hX.T.w hlink) hnamed hmethM hstM hkP hkPi hy' (a := ad q) (cell := cellB) hcell
    (fun z h => by rw [h] at hobj; cases hobj) hselP hmethM habM hkP hkPi (g := F0 m pc lsM (st.map (zc ad))) rfl (argsL := as.map (zc ad)) (rest := rest.map (zc ad)) hlen (by subst hst; simp [zc]) (by rw [hX.2.1]; exact hd)
  exact ⟨mk, vm₁, hnamed, X₁.warmed, X₁, hstep₁⟩
theorem zJ_stat {index n : Nat} (hd : decode M.2.1 pc = .ok (.invokestatic index, 3)) (hlink : zI (.methodLink M.1.cls index M'.1)) (hin : zI (.static M'.1)) (hini : zI (.initialized M'.1.cls)) (hcw : zI (zcw M')) (hne : M'.1.cls ≠ "java/lang/invoke/MethodHandle" ∧ M'.1.cls ≠ "java/lang/invoke/VarHandle")
    (hn : (parseMethodDescriptor M'.1.desc).map (fun d => d.parameters.length) = some n) (has : as.length = n) (hst : st = as.reverse ++ rest) : zJ l M pc S st M'.1 as rest := by
  refine ⟨⟨_, hd⟩, ?_⟩
  intro p e s m args below meth c D tc A hX R ad H locs cells slots lsM T hL hsz hT X
  obtain ⟨mk, hnamed⟩ : ∃ mk, s.methodNamed? M'.1 = some mk := by
    obtain ⟨y, b, n0, ret, hh, sc⟩ := M'
    cases hh with
    | nil => exact Cond.code_named (hX.T.w hcw (a := args))
    | cons q hh =>
      obtain ⟨m', -, -, hn', -⟩ := Cond.codeWith_spec (hX.T.w hcw (a := args))
      exact ⟨m', hn'⟩
  obtain ⟨methM, cM, hmethM, -, -, -, -, -, -, hsigM⟩ := zcw_spec (hX.T.w hcw (a := args)) hnamed
  have hstatic : methM.isStatic = true := Cond.static_spec hnamed hmethM (hX.T.w hin (a := args))
  obtain ⟨kP, hkP, -⟩ := className_of_methodNamed hnamed
  have hinitP : kP.init = .initialized := Cond.initialized_spec (findClass_of_methodNamed hnamed) hkP (hX.T.w hini (a := args))
  have hlen : (as.map (zc ad)).length = methM.sig.parameters.length := by
    rw [hsigM] at hn
    rw [List.length_map, has]
    exact (Option.some.inj hn).symm
  obtain ⟨vm₁, X₁, hstep₁⟩ := X.invokestatic hX.1 hX.own (hX.T.w hlink) hnamed hmethM hstatic hkP hinitP hne (g := F0 m pc lsM (st.map (zc ad))) rfl (argsL := as.map (zc ad)) (rest := rest.map (zc ad)) hlen (by subst hst; simp) (by rw [hX.2.1]; exact hd)
  exact ⟨mk, vm₁, hnamed, X₁.warmed, X₁, hstep₁⟩
theorem zJ_statN {index n : Nat} {host : String} (hd : decode M.2.1 pc = .ok (.invokestatic index, 3)) (hlink : zI (.methodLinkNest M.1.cls index M'.1 host)) (hin : zI (.static M'.1)) (hini : zI (.initialized M'.1.cls)) (hcw : zI (zcw M')) (hhh : M'.2.2.2.2.1 = []) (hne : M'.1.cls ≠ "java/lang/invoke/MethodHandle" ∧ M'.1.cls ≠ "java/lang/invoke/VarHandle")
    (hn : (parseMethodDescriptor M'.1.desc).map (fun d => d.parameters.length) = some n) (has : as.length = n) (hst : st = as.reverse ++ rest) : zJ l M pc S st M'.1 as rest := by
  refine ⟨⟨_, hd⟩, ?_⟩
  intro p e s m args below meth c D tc A hX R ad H locs cells slots lsM T hL hsz hT X
  obtain ⟨mk, hnamed⟩ : ∃ mk, s.methodNamed? M'.1 = some mk := by
    obtain ⟨y, b, n0, ret, hh, sc⟩ := M'
    cases hhh
    exact Cond.code_named (hX.T.w hcw (a := args))
  obtain ⟨methM, cM, hmethM, -, -, -, -, -, -, hsigM⟩ := zcw_spec (hX.T.w hcw (a := args)) hnamed
  have hstatic : methM.isStatic = true := Cond.static_spec hnamed hmethM (hX.T.w hin (a := args))
  obtain ⟨kP, hkP, -⟩ := className_of_methodNamed hnamed
  have hinitP : kP.init = .initialized := Cond.initialized_spec (findClass_of_methodNamed hnamed) hkP (hX.T.w hini (a := args))
  have hlen : (as.map (zc ad)).length = methM.sig.parameters.length := by
    rw [hsigM] at hn
    rw [List.length_map, has]
    exact (Option.some.inj hn).symm
  obtain ⟨vm₁, X₁, hstep₁⟩ := X.invokestaticNest hX.1 hX.own (hX.T.w hlink) hnamed hmethM hstatic hkP hinitP hne (g := F0 m pc lsM (st.map (zc ad))) rfl (argsL := as.map (zc ad)) (rest := rest.map (zc ad)) hlen (by subst hst; simp) (by rw [hX.2.1]; exact hd)
  exact ⟨mk, vm₁, hnamed, X₁.warmed, X₁, hstep₁⟩
theorem zJ_spec {index q n : Nat} (hd : decode M.2.1 pc = .ok (.invokespecial index, 3)) (hi : M'.1.name = "<init>") (hlink : zI (.methodLink M.1.cls index M'.1)) (hin : zI (.instanceMethod M'.1)) (hcw : zI (.code M'.1 M'.2.1 M'.2.2.1 none)) (hne : M'.1.cls ≠ "java/lang/invoke/MethodHandle" ∧ M'.1.cls ≠ "java/lang/invoke/VarHandle")
    (hn : (parseMethodDescriptor M'.1.desc).map (fun d => d.parameters.length) = some n) (has : as.length = n) (hst : st = as.reverse ++ .ref q :: rest) : zJ l M pc S st M'.1 (.ref q :: as) rest := by
  refine ⟨⟨_, hd⟩, ?_⟩
  intro p e s m args below meth c D tc A hX R ad H locs cells slots lsM T hL hsz hT X
  have hpl : e.platform.magicAccessors = ({} : Platform).magicAccessors := by rw [X.admits.platform]
  have hlen : ∀ sig, parseMethodDescriptor M'.1.desc = some sig → (as.map (zc ad)).length = sig.parameters.length := fun sig h => by
    rw [h] at hn
    rw [List.length_map, has]
    exact (Option.some.inj hn).symm
  obtain ⟨mk, methM, cM, kP, vm₁, hnamed, hmethM, hcodeM, -, hlocalsM, -, hkP, -, hW₁, hstep₁⟩ := Steps.initColdArgs (e := e) (args := args) X.here hX.1 X.warmed hpl hX.own hi hne (hX.T.w hlink) (hX.T.w hin) (hX.T.w hcw) (f := F0 m pc lsM (st.map (zc ad))) rfl (a := ad q) (argsL := as.map (zc ad)) (rest := rest.map (zc ad)) hlen (by subst hst; simp [zc]) (by rw [hX.2.1]; exact hd)
  exact ⟨mk, vm₁, hnamed, hW₁, X.noted hW₁, hstep₁⟩
theorem zJ_specN {index q n : Nat} {host : String} (hd : decode M.2.1 pc = .ok (.invokespecial index, 3)) (hi : M'.1.name = "<init>") (hlink : zI (.methodLinkNest M.1.cls index M'.1 host)) (hin : zI (.instanceMethod M'.1)) (hcw : zI (.code M'.1 M'.2.1 M'.2.2.1 none)) (hne : M'.1.cls ≠ "java/lang/invoke/MethodHandle" ∧ M'.1.cls ≠ "java/lang/invoke/VarHandle")
    (hn : (parseMethodDescriptor M'.1.desc).map (fun d => d.parameters.length) = some n) (has : as.length = n) (hst : st = as.reverse ++ .ref q :: rest) : zJ l M pc S st M'.1 (.ref q :: as) rest := by
  refine ⟨⟨_, hd⟩, ?_⟩
  intro p e s m args below meth c D tc A hX R ad H locs cells slots lsM T hL hsz hT X
  have hpl : e.platform.magicAccessors = ({} : Platform).magicAccessors := by rw [X.admits.platform]
  have hlen : ∀ sig, parseMethodDescriptor M'.1.desc = some sig → (as.map (zc ad)).length = sig.parameters.length := fun sig h => by
    rw [h] at hn
    rw [List.length_map, has]
    exact (Option.some.inj hn).symm
  obtain ⟨mk, methM, cM, kP, vm₁, hnamed, hmethM, hcodeM, -, hlocalsM, -, hkP, -, hW₁, hstep₁⟩ := Steps.initColdArgsNest (e := e) (args := args) X.here hX.1 X.warmed hpl hX.own hi hne (hX.T.w hlink) (hX.T.w hin) (hX.T.w hcw) (f := F0 m pc lsM (st.map (zc ad))) rfl (a := ad q) (argsL := as.map (zc ad)) (rest := rest.map (zc ad)) hlen (by subst hst; simp [zc]) (by rw [hX.2.1]; exact hd)
  exact ⟨mk, vm₁, hnamed, hW₁, X.noted hW₁, hstep₁⟩
end ZC2
