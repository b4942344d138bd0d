/-! NoSuchElementException is thrown (written by wip/gen/t22.py) -/
section ZN1
variable {p : Program} {l : Launch} {e : Env} {R : Room} {s : State} {m₀ : MethodId} {args : Array Value} {below : List Frame} {meth : Method} {c : Code} {W : State} {locs : List Loc} {cells slots : Nat}
theorem znBefore (h : ∀ w ∈ znA, w.before args s = true) (w : Cond) (hw : decide (w ∈ znA) = true) : w.holds args s none s [] = true := h w (of_decide_eq_true hw)
/-- the constructor runs to its end, and what it made is thrown out of the method -/
theorem znCtor (X : Stand p l e R s m₀ args below meth c W [] cells slots) (hx : p.tables.exec = Jvm.exec) (htr : e.platform.stackTraces = false) (hown : s.vm.findClass "LeagueRounds" = some m₀.cls) (h : ∀ w ∈ znA, w.before args s = true)
    {q : Addr} {cX : ClassId} {kX : Class} (hfX : s.vm.findClass zNE = some cX) (hkX : s.vm.classes[cX]? = some kX) (hcell : W.heap[q]? = some (freshCell cX kX)) (hnew : s.heap.size ≤ q) {msg : Value} (hmsg : msg.isRef = true)
    {g : JFrame} (hg : g.method = m₀) (hsize : g.locals.size = c.maxLocals) (hlocked : g.locked = none) (hentered : g.entered = []) {rest : List Value} (hstack : g.stack = msg :: .ref q :: .ref q :: rest)
    (hd6 : decode c.code g.pc = .ok (.invokespecial 267, 3)) (hd9 : decode c.code (g.pc + 3) = .ok (.athrow, 1)) (hout : ∀ x ∈ c.exceptionTable.toList, covers x (g.pc + 3) = false)
    (hRf : 5 < R.frames) (hRl : 2 * g.monitorRoom + ((Value.ref q :: rest).map fun v => v.category).sum + 81 ≤ R.locals) (hlocks : meth.locks = false) :
    ∃ U : State, Steps p.tables e below (W.setTop g) U ∧ U.status = .running ∧ Ended U below (.threw q) ∧ s.WarmedH U.vm ∧ s.sameButNew ({ U with vm := s.vm } : State) [] cells slots ∧ ∃ ce, U.heap[q]? = some ce ∧ ce.vm = .none ∧ s.vm.findClass zNE = some ce.cls := by
  have hpl : e.platform.magicAccessors = ({} : Platform).magicAccessors := by rw [X.admits.platform]
  have b := znBefore (args := args) (s := s) h
  have hthr : ∀ w, w ∈ Bundle.throwableAtoms ∨ w ∈ Bundle.throwableSAtoms → w.before args s = true := fun w hw => h w (of_decide_eq_true (List.all_eq_true.mp zn_thr w (List.mem_append.mpr hw)))
  obtain ⟨T, Z0, L, -, Y⟩ := ThrowableC.of_atoms (args := args) (by rw [X.admits.platform]) (by rw [X.admits.platform]) hpl (fun w hw => hthr w (Or.inl hw))
  obtain ⟨Z, M, LZ, LM, hnZ⟩ := Init0T.ofS_atoms (args := args) hpl L Y (fun w hw => hthr w (Or.inr hw))
  obtain ⟨P2, Ps, hlen, L2, hLs, hP2, hsup2, hlink2⟩ := Bundle.chainS (args := args) hpl hnZ ["java/lang/Exception"] zRE (by decide +kernel) (by decide +kernel) (fun w hw => h w (List.mem_append_left _ (List.mem_append_right _ hw)))
  obtain ⟨P1, L1, hP1m, hP1s⟩ := PassC.ofS_atoms (args := args) (s := s) hpl (X := zNE) (Y := zRE) (by decide +kernel) (by decide) zn_d0 zn_d1 zn_d2 zn_d5 (fun w hw => h w (List.mem_append_left _ (List.mem_append_left _ hw)))
  have hfound : s.vm.findClass zNE = some P1.m.cls := findClass_of_methodNamed hP1m
  cases Option.some.inj (hfX.symm.trans hfound)
  obtain ⟨c1, k1, hc1, hk, hord, -, -, -⟩ := Cond.instantiable_spec (b (.instantiable zNE 6) (by decide +kernel))
  cases Option.some.inj (hc1.symm.trans hfound)
  cases Option.some.inj (hkX.symm.trans hk)
  have hsel : ∀ {t : MethodName} {mt : MethodId}, s.methodNamed? t = some mt → decide (Cond.selects zNE t t ∈ znA) = true → (t.cls ≠ "java/lang/invoke/MethodHandle" ∧ t.cls ≠ "java/lang/invoke/VarHandle") → selectMethod e.platform s.vm P1.m.cls mt = .method mt := by
    intro t mt hmt hw hni
    obtain ⟨c2, r2, m2, q1, q2, q3, q4, -⟩ := Cond.selects_spec (b (.selects zNE t t) hw)
    cases Option.some.inj (q1.symm.trans hfound)
    cases Option.some.inj (q2.symm.trans (State.methodFound?_of_named hmt hni))
    cases Option.some.inj (q3.symm.trans hmt)
    rw [Launch.admits_selectMethod X.admits]
    exact q4
  obtain ⟨cS0, hcS0, hiss⟩ := Y.statics
  obtain ⟨u0, hu0⟩ := Cond.staticRefV Y.unassigned L.unassignedStatic L.statics hcS0 hiss (b (.isRef (.static Bundle.tN "UNASSIGNED_STACK" Bundle.steD)) (by decide +kernel))
  obtain ⟨sen, hsen⟩ := Cond.staticRefV Y.sentinel L.sentinelStatic L.statics hcS0 hiss (b (.isRef (.static Bundle.tN "SUPPRESSED_SENTINEL" Bundle.listD)) (by decide +kernel))
  obtain ⟨ci, i1, fB, hB1, hB2, hB3, hsB, -, hnB, htB, hffB⟩ := Cond.ownField (t := .object "java/lang/Object") Y.found L.cls (by decide +kernel) (b (.fieldLink Bundle.tN 198 Bundle.tN "backtrace" "Ljava/lang/Object;") (by decide +kernel)) (b (.lays Bundle.tN Bundle.tN "backtrace" "Ljava/lang/Object;") (by decide +kernel)) e.platform hpl
  obtain ⟨cS, hcS', heS, -, hkeep⟩ := X.same.2.2.2.2.2 T.aS cS0 hcS0
  have hcS : W.heap[T.aS]? = some cS := hcS'
  have hknS : cS.vm ≠ .unknown := by
    rw [heS]
    intro hu
    rw [show cS0.vm = .unknown from hu] at hiss
    cases hiss
  have hneS : T.aS ≠ q := Nat.ne_of_lt (Nat.lt_of_lt_of_le (Array.getElem?_eq_some_iff.mp hcS0).1 hnew)
  obtain ⟨iM, hffM⟩ := Y.msg
  obtain ⟨tyC, dC, hdC, hnC⟩ := Cond.laysAt hfound hk Y.cause (b (.lays zNE Bundle.tN "cause" "Ljava/lang/Throwable;") (by decide +kernel))
  obtain ⟨tyS, dS, hdS, hnS⟩ := Cond.laysAt hfound hk Y.stack (b (.lays zNE Bundle.tN "stackTrace" Bundle.steD) (by decide +kernel))
  obtain ⟨tyP, dP, hdP, hnP⟩ := Cond.laysAt hfound hk Y.supp (b (.lays zNE Bundle.tN "suppressedExceptions" Bundle.listD) (by decide +kernel))
  obtain ⟨tyM, dM, hdM, hnM⟩ := Cond.laysAt hfound hk hffM (b (.lays zNE Bundle.tN "detailMessage" "Ljava/lang/String;") (by decide +kernel))
  obtain ⟨tyB, dB, hdB, hnB'⟩ := Cond.laysAt hfound hk hffB (b (.lays zNE Bundle.tN "backtrace" "Ljava/lang/Object;") (by decide +kernel))
  have bC := Cond.laysApart hdB hdC hnB' hnC (by rw [hnB, Y.causeName]; decide)
  have bS := Cond.laysApart hdB hdS hnB' hnS (by rw [hnB, Y.stackName]; decide)
  have bP := Cond.laysApart hdB hdP hnB' hnP (by rw [hnB, Y.suppName]; decide)
  have hskip : SkipFacts T e.platform s (fun u => u) u0 ((preparedCellV T.toThrowableT (freshCell P1.m.cls kX) q u0 sen).withEntry W.cur) :=
    ⟨{ ci198 := ci, i198 := i1, fBack := fB }, ⟨hB1, hB2, hB3, hsB⟩, by
      have hdf := fresh_default (c := P1.m.cls) tyB
      rw [htB] at hdf
      simpa [preparedCellV, Cell.setSlot, Cell.withEntry, Array.getElem?_setIfInBounds, bC, bS, bP, bC.symm, bS.symm, bP.symm, defaultValue] using hdf, fun _ _ => rfl⟩
  obtain ⟨tm, -, -, -, vm₁, hnT, -, -, -, -, -, -, -, hW₁, st1⟩ := Steps.initColdS (tb := p.tables) (e := e) (below := below) (s := s) (U := W) X.here hx X.warmed hpl hown (t := Bundle.initS zNE) rfl rfl (by decide)
    (b (.methodLink "LeagueRounds" 267 (Bundle.initS zNE)) (by decide +kernel)) (b (.instanceMethod (Bundle.initS zNE)) (by decide +kernel)) (bytes := prog_20_method_4_code) (maxL := 2) (b (.code (Bundle.initS zNE) prog_20_method_4_code 2 none) (by decide +kernel))
    (f := g) hg (a := q) (msg := msg) (rest := .ref q :: rest) hstack hd6
  cases Option.some.inj (hnT.symm.trans hP1m)
  have hlinks : PassesOn (Z.m T.toThrowableT) ((P1 :: P2 :: Ps).map (·.toPassT)) := ⟨Option.some.inj (hP1s.symm.trans hP2), hsup2, hlink2⟩
  obtain ⟨vm₂, X₂, st2⟩ := (X.noted hW₁).ctorMessageOffV hx (g := { g with stack := .ref q :: rest }) hg hsize T L Z LZ M LM (P1 :: P2 :: Ps)
    (fun P hP => by
      rcases List.mem_cons.mp hP with rfl | hP
      · exact L1
      · rcases List.mem_cons.mp hP with rfl | hP
        · exact L2
        · exact hLs P hP) hlinks (u0 := u0) (sen := sen) (self := q) hmsg (cell := freshCell P1.m.cls kX) (cellS := cS)
    hcell (fun _ => by simp) (by simp) rfl rfl (hsel Y.fill0 (by decide +kernel) (by decide)) (hsel Y.fill (by decide +kernel) (by decide)) hcS hneS hknS (by rw [hkeep _ (fun hm => by cases hm)]; exact hu0) (by rw [hkeep _ (fun hm => by cases hm)]; exact hsen)
    (Takes.of_laid hk hord tyC (by rw [Y.causeType]; rfl)) (Takes.of_laid hk hord tyS (by rw [Y.stackType]; exact fits_refV_array _ u0)) (Takes.of_laid hk hord tyP (by rw [Y.suppType]; exact fits_refV_object _ sen))
    (Takes.of_laid hk hord tyM (by rw [Y.msgType]; exact fits_refV_object _ ⟨msg, hmsg⟩)) Y.objLocals hskip htr [] hd6
    (by simp only [List.length_cons, hlen, List.length_nil]; omega) (by simp only [List.length_cons, hlen, List.length_nil]; exact hRl)
  obtain ⟨hwalk, hrun, hended, hWU, hsame⟩ := X₂.athrowLeaves hx (g := { g with stack := .ref q :: rest, pc := g.pc + 3 }) hg hlocked hentered hout (a := q) (rest := rest) rfl hd9 hlocks
  have hlt : q < ((W.setVm vm₁).setVm vm₂).heap.size := (Array.getElem?_eq_some_iff.mp hcell).1
  refine ⟨_, st1 _ (fun acts => ?_), hrun, hended, hWU, hsame.weaken (fun y hy hlt' => ?_) (Nat.le_refl _) (Nat.le_refl _), _, heapAt_setCell_self (s := (W.setVm vm₁).setVm vm₂) (plainBareV T.toThrowableT (freshCell P1.m.cls kX) q u0 sen msg) hlt, rfl, hfound⟩
  · rw [doInvoke_state]
    exact st2 _ hwalk
  · exfalso
    have hb : y.base = q := by
      simp only [List.nil_append, List.mem_cons, List.not_mem_nil, or_false] at hy
      rcases hy with rfl | rfl | rfl | rfl | rfl <;> rfl
    rw [hb] at hlt'
    exact Nat.not_lt.mpr hnew hlt'
end ZN1
theorem in_ne : zI (.initialized "java/util/NoSuchElementException") := zI_1 17 (by decide +kernel) rfl
section ZN2
variable {l : Launch} {d : Nat} {M : zM} {pc : Nat} {ls st : List Value} {S : zS} {cs : Nat × Nat}
/-- 'throw new NoSuchElementException(text)', the text by ldc_w -/
theorem zn_throwW {is : Nat} {text : String} (hown : M.1.cls = "LeagueRounds") (hsr : (is, text) ∈ zSR) (d0 : decode M.2.1 pc = .ok (.new 263, 3)) (d3 : decode M.2.1 (pc + 3) = .ok (.dup, 1)) (d4 : decode M.2.1 (pc + 4) = .ok (.ldc_w is, 3))
    (d7 : decode M.2.1 (pc + 7) = .ok (.invokespecial 267, 3)) (d10 : decode M.2.1 (pc + 10) = .ok (.athrow, 1)) (hh : M.2.2.2.2.1 = []) (hre : st.length ≤ 4) {mc ms : Nat} (h1 : cs.1 + 1 ≤ mc) (h2 : cs.2 + 6 ≤ ms) :
    zW l (d + 6) M pc ls st S cs (.inr zNE, S, mc, ms) := by
  intro p e s m args below meth c D tc A hX ad H locs lsM hL hls T hT X
  have htr : e.platform.stackTraces = false := (show e.platform.stackTraces = l.stackTraces by rw [X.admits.platform]).trans hX.2.2.2.2.2.2.2.2.2.2.2
  have Y := zfresh X (k := 1) (n := 6) h1 h2
  have hW0 : s.WarmedH ((T.setVm s.vm).setFrames (.invoking m args :: below)).vm := State.WarmedH.refl s
  have hT' : zT A ((T.setVm s.vm).setFrames (.invoking m args :: below)) := hX.T.warm hW0 (fun q g1 g2 => by
    show T.heap[q]? = _
    rw [hT]
    exact hL.2.2.1.2.1 q g1 g2)
  have hown' : ((T.setVm s.vm).setFrames (.invoking m args :: below)).vm.findClass "LeagueRounds" = some m.cls := by rw [← hown]; exact hX.own
  obtain ⟨vm₁, cX, kX, hfX, hkX, -, -, X₁, st1⟩ := Y.newCold hX.1 (own := "LeagueRounds") (C := zNE) (index := 263) (n := 6) hown' (hT'.w kl_lr_263) (zn_in hT' (.instantiable zNE 6) (of_decide_eq_true (by decide +kernel))) (hT'.w in_ne)
    (g := F0 m pc lsM (st.map (zc ad))) rfl (by rw [hX.2.1]; exact d0) (Nat.le_refl _) (Nat.le_refl _)
  have hcellA : ((T.setVm vm₁).pushCell { cls := cX, slots := kX.instanceTypes.map defaultValue, vm := .none }).heap[T.heap.size]? = some (freshCell cX kX) := State.heap_pushCell_size _ _
  obtain ⟨sa, hsa⟩ := hT'.2.2.1 _ hsr
  have hhe : ((T.setVm s.vm).setFrames (.invoking m args :: below)).heap = T.heap := rfl
  obtain ⟨U, hsteps, hrun, hend, hW, hsame, ce, hce, hv, hcl⟩ := znCtor X₁ hX.1 htr hown' (zn_in hT') hfX hkX hcellA (by rw [hhe]; exact Nat.le_refl _) (msg := .ref sa) rfl
    (g := F0 m (pc + 7) lsM (.ref sa :: .ref T.heap.size :: .ref T.heap.size :: st.map (zc ad))) rfl (by show lsM.size = _; rw [hls.1, hX.2.2.1]) rfl rfl (rest := st.map (zc ad)) rfl
    (by rw [hX.2.1]; exact d7) (by rw [hX.2.1]; exact d10) (fun x hx => by rw [hX.2.2.2.2.2.2.2.1, hh] at hx; cases hx) (by show 5 < d + 6; omega)
    (by
      show 2 * 0 + (1 + ((st.map (zc ad)).map fun v => v.category).sum) + 81 ≤ 64 * (d + 6)
      have := zsum ad st
      omega) hX.2.2.2.2.1
  refine ⟨U, ?_, zthrown hX hL hT X h1 h2 hrun hend (State.WarmedH.trans hW0 hW) hsame hce hv hcl⟩
  refine st1 _ ?_
  have d3' : decode c.code (pc + 3) = .ok (.dup, 1) := by rw [hX.2.1]; exact d3
  have hx := hX.1
  generalize ((T.setVm vm₁).pushCell { cls := cX, slots := kX.instanceTypes.map defaultValue, vm := .none }) = T1 at X₁ hsteps ⊢
  show Steps p.tables e below (T1.setTop (F0 m (pc + 3) lsM (.ref T.heap.size :: st.map (zc ad)))) _
  jvm_step X₁.here [X₁.here.top, hx, d3', Value.category]
  exact X₁.ldcStringW hx hown' hsa.1 hsa.2 (g := F0 m (pc + 4) lsM (.ref T.heap.size :: .ref T.heap.size :: st.map (zc ad))) rfl (by rw [hX.2.1]; exact d4) _ hsteps
end ZN2
theorem lr_requireHomeX {l : Launch} {d : Nat} {τ : tS} {n R p f e : Nat} (C : Cl τ n R p f e) {r t : Int} (zr : zin r) (zt : zin t) (h : (0 ≤ r ∧ r < R) ∧ (0 ≤ t ∧ t < n)) (hv : ¬ τ 3 (r * 20 + t).toNat = 1) : zG l (d + 6) M_lr_requireHomeGame [.ref 0, vi r, vi t] (τ) ("java/util/NoSuchElementException") (τ) := by
  refine zMet_of (ls := [.ref 0, vi r, vi t]) pn_lr rfl (by simp [vi, Value.category]) rfl rfl ?_
  have hA := C.A
  have hw := C.w
  have hn := C.n
  have hn4 := C.n4
  have hn20 := C.n20
  have hR := C.R
  have hR38 := C.R38
  have zn : zin (τ 1 3) := C.A _ _
  have zR : zin (τ 1 4) := C.A _ _
  refine zr_aload_n d_lr_requireHomeGame_0 rfl ?_
  refine zi_getr (j := 0) d_lr_requireHomeGame_1 zC7 fl_lr_14 (by decide) rfl rfl ?_
  refine zi_iload_n d_lr_requireHomeGame_4 rfl ?_
  refine zi_iload_n d_lr_requireHomeGame_5 rfl ?_
  refine c_lr_requireHomeGame_6 rfl rfl (tt1_venueAt hw ⟨by omega, by omega⟩ ⟨by omega, by omega⟩) ?_
  refine zi_iconst d_lr_requireHomeGame_9 ?_
  refine zi_icmp_eq 24 d_lr_requireHomeGame_10 (by decide) (hA _ _) (by first | assumption | exact ⟨by omega, by omega⟩) (fun h10 => ?_) (fun h10 => ?_)
  · exfalso
    grind
  · exact zn_throwW (text := "no home game in that round") rfl (by decide) d_lr_requireHomeGame_13 d_lr_requireHomeGame_16 d_lr_requireHomeGame_17 d_lr_requireHomeGame_20 d_lr_requireHomeGame_23 rfl (by decide) (by decide) (by decide)
