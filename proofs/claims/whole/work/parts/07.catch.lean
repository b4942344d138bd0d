/-! what is thrown goes through, or is caught by name -/
section ZH1
variable {l : Launch} {d : Nat} {M M' : zM} {pc : Nat} {ls st as rest : List Value} {S S' : zS} {cs : Nat × Nat} {E : String} {mc' ms' mc ms : Nat}
/-- the callee throws, and this method has no handlers -/
theorem zr_callX (hJ : zJ l M pc S st M'.1 as rest) (hM : zMet l d M' as S (.inr E, S', mc', ms')) (hcw : zI (zcw M')) (hini : zI (.initialized M'.1.cls)) (hml : M'.2.2.1 ≤ 45) (hre : rest.length ≤ 4) (hsh : S'.1 = S.1) (hh : M.2.2.2.2.1 = []) (h1 : cs.1 + mc' ≤ mc) (h2 : cs.2 + ms' ≤ ms) :
    zW l (d + 1) M pc ls st S cs (.inr E, S', mc, ms) := by
  intro p e s m args below meth c D tc A hX ad H locs lsM hL hls T hT X
  obtain ⟨o, t, U, T', L, mk, hst, ⟨ad', q1, q2, q3, ⟨q, ce, q4, b1, b2, b3⟩, q5, q6, q7⟩, hU, hW, hLA, e1, e2, X', -, ho⟩ := zcall1 (r := (.inr E, S', mc, ms)) hJ hM hcw hini hml hre h1 h2 hX hL hls hT X
  have had : ad' = ad := q2 hsh
  subst had
  have ht := ho _ q4
  have hUc : (U.calling (F0 m pc lsM (rest.map (zc ad'))) mk (as.map (zc ad')).toArray).heap = H := hU
  have hS1 := zS_after hL hUc e1 q7 hLA
  obtain ⟨st1, hrun, hend, hWt, hsm⟩ := X'.leaveThrown q (g := F0 m pc lsM (rest.map (zc ad'))) rfl rfl rfl (fun x hx => by rw [hX.2.2.2.2.2.2.2.1, hh] at hx; cases hx) hX.2.2.2.2.1
  have hhp : (T'.setFrames (.throwing q :: below)).heap = t.heap := e1
  have hvm : (T'.setFrames (.throwing q :: below)).vm = t.vm := e2
  refine ⟨_, hst _ (by rw [ht]; exact st1), .threw q, hrun, hend, ⟨ad', q1, q2, q3, ⟨q, ce, rfl, by rw [hhp]; exact b1, b2, by rw [hvm]; exact b3⟩, by rw [hhp]; exact q5, q6, ?_⟩, hWt, locs ++ L, hsm.mono h1 h2, hS1.2.2⟩
  rw [e1] at hS1
  exact ⟨by rw [hhp]; exact hS1.1, fun z g1 g2 => by rw [hhp]; exact hS1.2.1 z g1 g2⟩
end ZH1
section ZH2
variable {e : Env} {f : JFrame} {a : Addr} {cell : Cell}
/-- one row of the table that covers the place and names a class, resolved or not -/
theorem zseek1 {s : State} {x : ExceptionTableEntry} {t : List ExceptionTableEntry} {c : ClassId} {Q : Handler → Pre} {E : CtlPost} {d : Bool} {acts : List Action} (hx : covers x f.pc = true) (h0 : x.catchType ≠ 0) (hl : s.vm.ClassLinks e.platform f.method.cls x.catchType c)
    (hcell : s.heap[a]? = some cell) (hobj : ∀ k, cell.vm ≠ .statics k) {k1 k2 : Class} (hk1 : s.vm.classes[cell.cls]? = some k1) (hk2 : s.vm.classes[c]? = some k2) (b : Bool) (hb : s.vm.assignable cell.cls c = b) :
    wp (findHandler.go f a (x :: t)) Q E e d acts s ↔ (if b then Q (.found x.handlerPc) d acts (s.setVm (s.vm.noted f.method.cls x.catchType (.cls c))) else wp (findHandler.go f a t) Q E e d acts (s.setVm (s.vm.noted f.method.cls x.catchType (.cls c)))) := by
  have hcov : (decide (x.startPc ≤ f.pc) && decide (f.pc < x.endPc)) = true := by simpa only [covers] using hx
  obtain ⟨ha, ht⟩ := (resolveClass_links e.toSetting hl).op (op := VmOp.resolveClass f.method.cls x.catchType) rfl
  have hal : s.vm.Alike (s.vm.noted f.method.cls x.catchType (.cls c)) := (Vm.Alike.refl s.vm).noted _ _ _
  obtain ⟨k1', hk1', -⟩ := hal.2.2 _ _ hk1
  obtain ⟨k2', hk2', -⟩ := hal.2.2 _ _ hk2
  have hb' : (s.vm.noted f.method.cls x.catchType (.cls c)).assignable cell.cls c = b := by rw [hal.assignable]; exact hb
  cases b <;> simp [findHandler.go, hcov, h0, ha, ht, hcell, hobj, hk1', hk2', hb', VmOp.dirties, VmOp.acts]
/-- a row: it covers the place, and links to a class to which the thrown object's can, or can not, be assigned -/
def zrow (s₀ : State) (pl : Platform) (dc : ClassId) (pc : Nat) (cls : ClassId) (b : Bool) (x : ExceptionTableEntry) : Prop := covers x pc = true ∧ x.catchType ≠ 0 ∧ ∃ c, s₀.vm.ClassLinks pl dc x.catchType c ∧ s₀.vm.assignable cls c = b
theorem zseek {s₀ : State} (hobj : ∀ k, cell.vm ≠ .statics k) {k0 : Class} (hk0 : s₀.vm.classes[cell.cls]? = some k0) {x : ExceptionTableEntry} (rest : List ExceptionTableEntry) (hx : zrow s₀ e.platform f.method.cls f.pc cell.cls true x) :
    ∀ (pre : List ExceptionTableEntry) (s : State), s₀.WarmedH s.vm → s.heap[a]? = some cell → (∀ y ∈ pre, zrow s₀ e.platform f.method.cls f.pc cell.cls false y) →
      ∃ vm', s₀.WarmedH vm' ∧ ∀ (Q : Handler → Pre) (E : CtlPost) (d : Bool) (acts : List Action), wp (findHandler.go f a (pre ++ x :: rest)) Q E e d acts s ↔ Q (.found x.handlerPc) d acts (s.setVm vm') := by
  have one : ∀ (y : ExceptionTableEntry) (b : Bool) (s : State), zrow s₀ e.platform f.method.cls f.pc cell.cls b y → s₀.WarmedH s.vm → s.heap[a]? = some cell → ∃ vm', s₀.WarmedH vm' ∧
      ∀ (t : List ExceptionTableEntry) (Q : Handler → Pre) (E : CtlPost) (d : Bool) (acts : List Action), wp (findHandler.go f a (y :: t)) Q E e d acts s ↔ (if b then Q (.found y.handlerPc) d acts (s.setVm vm') else wp (findHandler.go f a t) Q E e d acts (s.setVm vm')) := by
    intro y b s hy hW hcell
    obtain ⟨h1, h2, c, hl, hb⟩ := hy
    obtain ⟨dk, _, _, kt, hd, _, _, _, _, hkt, _, hopen⟩ := hl.here
    obtain ⟨k0', hk0', -⟩ := hW.alike.2.2 _ _ hk0
    obtain ⟨kt', hkt', -⟩ := hW.alike.2.2 _ _ hkt
    exact ⟨_, hW.noted hd hopen (State.rightAt_cls hl), fun t Q E d acts => zseek1 h1 h2 (hW.classLinks hl) hcell hobj hk0' hkt' b (by rw [hW.alike.assignable]; exact hb)⟩
  intro pre
  induction pre with
  | nil =>
    intro s hW hcell _
    obtain ⟨vm', hW', h⟩ := one x true s hx hW hcell
    exact ⟨vm', hW', fun Q E d acts => by rw [List.nil_append]; exact (h rest Q E d acts).trans (by simp)⟩
  | cons y ys ih =>
    intro s hW hcell hp
    obtain ⟨vm1, hW1, h1⟩ := one y false s (hp y List.mem_cons_self) hW hcell
    obtain ⟨vm2, hW2, h2⟩ := ih (s.setVm vm1) hW1 hcell (fun z hz => hp z (List.mem_cons_of_mem _ hz))
    exact ⟨vm2, hW2, fun Q E d acts => by rw [List.cons_append]; exact ((h1 (ys ++ x :: rest) Q E d acts).trans (by simp)).trans (h2 Q E d acts)⟩
end ZH2
section ZH3
variable {p : Program} {l : Launch} {e : Env} {R : Room} {s : State} {m : MethodId} {args : Array Value} {below : List Frame} {meth : Method} {c : Code} {T : State} {locs : List Loc} {cells slots : Nat}
/-- caught: the walk goes on at the handler -/
theorem zcaught (X : Stand p l e R s m args below meth c T locs cells slots) {q : Addr} {g : JFrame} (hg : g.method = m) {cell : Cell} (hcell : T.heap[q]? = some cell) (hobj : ∀ k, cell.vm ≠ .statics k) {k0 : Class} (hk0 : s.vm.classes[cell.cls]? = some k0)
    (pre : List ExceptionTableEntry) (x : ExceptionTableEntry) (rest : List ExceptionTableEntry) (hsplit : c.exceptionTable.toList = pre ++ x :: rest) (hp : ∀ y ∈ pre, zrow s e.platform m.cls g.pc cell.cls false y) (hx : zrow s e.platform m.cls g.pc cell.cls true x) :
    ∃ vm', Stand p l e R s m args below meth c (T.setVm vm') locs cells slots ∧ ∀ target, Steps p.tables e below ((T.setVm vm').setTop { g with pc := x.handlerPc, stack := [.ref q] }) target → Steps p.tables e below ((T.setTop g).pushFrame (.throwing q)) target := by
  subst hg
  have hv : ((T.setTop g).pushFrame (.throwing q)).vm = T.vm := throwing_vm T g q
  have hh : ((T.setTop g).pushFrame (.throwing q)).heap = T.heap := throwing_heap T g q
  obtain ⟨vm', hW', hgo⟩ := zseek (e := e) (f := g) (a := q) (s₀ := s) hobj hk0 rest hx pre ((T.setTop g).pushFrame (.throwing q)) (by rw [hv]; exact X.warmed) (by rw [hh]; exact hcell) hp
  refine ⟨vm', X.noted hW', fun target hrest => ?_⟩
  have hfind : ∀ (Q : Handler → Pre) (E : CtlPost) (d : Bool) (acts : List Action), wp (findHandler g q) Q E e d acts ((T.setTop g).pushFrame (.throwing q)) ↔ Q (.found x.handlerPc) d acts (((T.setTop g).pushFrame (.throwing q)).setVm vm') := fun Q E d acts => by
    rw [W.findHandler_eq (meth := meth) (code := c) (by rw [hv]; exact X.method') X.code, hsplit]
    exact hgo Q E d acts
  have hstep : ∀ r : List Frame, (stepThrowing e ((T.setTop g).pushFrame (.throwing q)) q (.java g :: r)).Is ((((T.setTop g).pushFrame (.throwing q)).setVm vm').setFrames (.java { g with pc := x.handlerPc, stack := [.ref q] } :: r)) [] := by
    intro r
    simp only [stepThrowing, searchFrame, vmDo]
    generalize hr : Sem.go _ e false [] ((T.setTop g).pushFrame (.throwing q)) = res
    obtain ⟨as, rfl, ha⟩ := Sem.eq_ok_of hr (a := Handler.found x.handlerPc) (s' := ((T.setTop g).pushFrame (.throwing q)).setVm vm') (acts' := []) (by simp [hfind _ _ _ _])
    exact ⟨rfl, ha⟩
  obtain ⟨hgo1, hw1⟩ := X.here.throwing q
  refine Steps.head hgo1 hw1 ?_
  obtain ⟨g₀, hg0⟩ := Option.isSome_iff_exists.mp X.here.top
  obtain ⟨r, hr⟩ := State.topJava?_eq_some.mp hg0
  rw [stepThread_throwing (frames_entered X.here.top _), (hstep _).1]
  have hr' : (T.setVm vm').frames = .java g₀ :: r := hr
  rw [State.setTop_of_frames _ hr'] at hrest
  have e1 : ∀ (u : State) (F G : List Frame), ((u.setFrames F).setVm vm').setFrames G = (u.setVm vm').setFrames G := fun u F G => by
    have : (u.setFrames F).setVm vm' = (u.setVm vm').setFrames F := rfl
    rw [this, State.setFrames_setFrames]
  rw [hr, List.tail_cons, State.pushFrame, e1, State.setTop_of_frames _ hr, e1]
  exact hrest
end ZH3
section ZH4
variable {l : Launch} {d : Nat} {M M' : zM} {pc : Nat} {ls st as rest : List Value} {S S' : zS} {cs : Nat × Nat} {E : String} {mc' ms' mc ms : Nat}
/-- the callee throws E, the row for E catches it, and the handler gives back n: 'catch (E e) { return n; }' -/
theorem zr_callC {pre suf : List (Nat × Nat × Nat × Nat)} {x : Nat × Nat × Nat × Nat} {n : Int} (hJ : zJ l M pc S st M'.1 as rest) (hM : zMet l d M' as S (.inr E, S', mc', ms')) (hcw : zI (zcw M')) (hini : zI (.initialized M'.1.cls)) (hml : M'.2.2.1 ≤ 45) (hre : rest.length ≤ 4) (hsh : S'.1 = S.1)
    (hh : M.2.2.2.2.1 = pre ++ x :: suf) (hpre : ∀ y ∈ pre, (y.1 ≤ pc ∧ pc < y.2.1) ∧ y.2.2.2 ≠ 0 ∧ ∃ N, zI (.classLink M.1.cls y.2.2.2 N) ∧ (E, N) ∈ zNC) (hx : (x.1 ≤ pc ∧ pc < x.2.1) ∧ x.2.2.2 ≠ 0 ∧ zI (.classLink M.1.cls x.2.2.2 E)) (hcast : zI (.castable E E)) (h1 : cs.1 + mc' ≤ mc) (h2 : cs.2 + ms' ≤ ms)
    {k la : Nat} (hk : k < M.2.2.1) (hast : ∀ {p : Program} {e : Env} {R : Room} {s : State} {m : MethodId} {args : Array Value} {below : List Frame} {meth : Method} {c : Code} {H : Heap} {locs : List Loc} {cells slots : Nat} {Q : State → Prop} {lsM : Array Slot} {q : Nat} {lv : List (Nat × Value)}, p.tables.exec = Jvm.exec → c.code = M.2.1 → lv_has lsM M.2.2.1 lv →
      (∀ ls' : Array Slot, W p l e R s m args below meth c H locs cells slots Q (F0 m (x.2.2.1 + la) ls' [])) → W p l e R s m args below meth c H locs cells slots Q (F0 m x.2.2.1 lsM [.ref q]))
    (d1 : decode M.2.1 (x.2.2.1 + la) = .ok (.iconst n, 1)) (d2 : decode M.2.1 (x.2.2.1 + la + 1) = .ok (.ireturn, 1)) (hr : M.2.2.2.1 = some .int) : zW l (d + 1) M pc ls st S cs (.inl (some (.int (Int32.ofInt n))), S', mc, ms) := by
  intro p e s m args below meth c D tc A hX ad H locs lsM hL hls T hT X
  obtain ⟨o, t, U, T', L, mk, hst, ⟨ad', q1, q2, q3, ⟨q, ce, q4, b1, b2, b3⟩, q5, q6, q7⟩, hU, hW, hLA, e1, e2, X', -, ho⟩ := zcall1 (r := (.inl (some (.int (Int32.ofInt n))), S', mc, ms)) hJ hM hcw hini hml hre h1 h2 hX hL hls hT X
  have had : ad' = ad := q2 hsh
  subst had
  have ht := ho _ q4
  have hUc : (U.calling (F0 m pc lsM (rest.map (zc ad'))) mk (as.map (zc ad')).toArray).heap = H := hU
  have hS1 := zS_after hL hUc e1 q7 hLA
  have hpl : e.platform.magicAccessors = ({} : Platform).magicAccessors := by rw [X.admits.platform]
  have hcl : s.vm.findClass E = some ce.cls := by rw [hW.alike.findClass] at b3; exact b3
  obtain ⟨k0, hk0, -⟩ := Vm.findClass_spec hcl
  have htab : c.exceptionTable.toList = tableOf pre ++ (⟨x.1, x.2.1, x.2.2.1, x.2.2.2⟩ : ExceptionTableEntry) :: tableOf suf := by
    rw [hX.2.2.2.2.2.2.2.1, hh]
    simp [tableOf]
  have hrx : zrow s e.platform m.cls pc ce.cls true (⟨x.1, x.2.1, x.2.2.1, x.2.2.2⟩ : ExceptionTableEntry) := by
    obtain ⟨g1, g2, g3⟩ := hx
    obtain ⟨c5, hc5, hcl5⟩ := Cond.classLink_spec hX.own (hX.T.w g3 (a := args)) e.platform hpl
    obtain ⟨c3, c4, hc3, hc4, hasg⟩ := Cond.castable_spec (hX.T.w hcast (a := args))
    cases Option.some.inj (hc3.symm.trans hcl)
    cases Option.some.inj (hc4.symm.trans hc5)
    exact ⟨by simpa [covers] using g1, g2, _, hcl5, hasg⟩
  have hrp : ∀ y ∈ tableOf pre, zrow s e.platform m.cls pc ce.cls false y := by
    intro y hy
    obtain ⟨z, hz, rfl⟩ := List.mem_map.mp hy
    obtain ⟨g1, g2, N, g3, g4⟩ := hpre z hz
    obtain ⟨c5, hc5, hcl5⟩ := Cond.classLink_spec hX.own (hX.T.w g3 (a := args)) e.platform hpl
    obtain ⟨a8, b8, w1, w2, w3⟩ := hX.T.2.1 (E, N) g4
    cases Option.some.inj (w1.symm.trans hcl)
    cases Option.some.inj (w2.symm.trans hc5)
    exact ⟨by simpa [covers] using g1, g2, _, hcl5, w3⟩
  obtain ⟨vm2, X2, st2⟩ := zcaught X' (q := q) (g := F0 m pc lsM (rest.map (zc ad'))) rfl (by rw [e1]; exact b1) (fun k h => by rw [b2] at h; cases h) hk0 (tableOf pre) _ (tableOf suf) htab hrp hrx
  have hL1 : zL M D tc A ad' s S' T'.heap (locs ++ L) := hL.next (by rw [e1]; exact q5) q6 hS1
  have key : W p l e (zrm (d + 1) (.inl (some (.int (Int32.ofInt n))), S', mc, ms)) s m args below meth c T'.heap (locs ++ L) (cs.1 + mc') (cs.2 + ms') (zE below s D tc A ad' S' (.inl (some (.int (Int32.ofInt n))), S', mc, ms)) (F0 m x.2.2.1 lsM [.ref q]) := by
    refine hast hX.1 hX.2.1 (lv := []) ⟨hls.1, hls.2.1, fun q hq => by cases hq⟩ fun ls' => ?_
    refine lv_iconst hX.1 hX.2.1 d1 rfl ?_
    refine W.widen h1 h2 (zend_ret hX hL1 ?_)
    exact W.iret hX.1 hX.2.1 (hX.2.2.2.1.trans hr) (fun t ht _ => ⟨rfl, ht⟩) hL1.2.2.1.2.2 d2 hX.2.2.2.2.1
  obtain ⟨t2, a1, b9⟩ := key (T'.setVm vm2) rfl X2
  exact ⟨t2, hst t2 (by rw [ht]; exact st2 t2 a1), zE.keep hsh b9⟩
end ZH4
