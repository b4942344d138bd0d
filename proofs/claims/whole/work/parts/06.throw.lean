/-! throwing -/
theorem zsame0 {s t : State} {k n : Nat} (h : s.sameButNew t [] k n) : s.heap.size ≤ t.heap.size ∧ ∀ q : Nat, q < s.heap.size → t.heap[q]? = s.heap[q]? := by
  obtain ⟨-, h2, -, -, -, h6⟩ := h
  refine ⟨h2, fun q hq => ?_⟩
  obtain ⟨c', e1, e2, -, e4⟩ := h6 q s.heap[q] (Array.getElem?_eq_getElem hq)
  have hsl : c'.slots = s.heap[q].slots := Array.ext_getElem? fun i => e4 i (fun hm => by cases hm)
  rw [e1, Array.getElem?_eq_getElem hq, e2, hsl]
section ZT1
variable {p : Program} {l : Launch} {e : Env} {R : Room} {s : State} {m : MethodId} {args : Array Value} {below : List Frame} {meth : Method} {c : Code} {T : State} {locs : List Loc} {cells slots : Nat}
/-- the same frame as if it had been called in the heap that stands now -/
theorem zfresh (X : Stand p l e R s m args below meth c T locs cells slots) {k n : Nat} (hk : cells + k ≤ R.cells) (hn : slots + n ≤ R.slots) :
    Stand p l e { frames := R.frames, locals := R.locals, cells := k, slots := n } ((T.setVm s.vm).setFrames (.invoking m args :: below)) m args below meth c T [] 0 0 := by
  have hcur : (T.setVm s.vm).cur < (T.setVm s.vm).threads.size := State.cur_lt_of_top (s := T.setVm s.vm) X.here.top
  have hF : ((T.setVm s.vm).setFrames (.invoking m args :: below)).frames = .invoking m args :: below := State.frames_setFrames _ hcur
  obtain ⟨g₀, hg0⟩ := Option.isSome_iff_exists.mp (show (T.setVm s.vm).topJava?.isSome from X.here.top)
  obtain ⟨rr, hr⟩ := State.topJava?_eq_some.mp hg0
  have hlim : e.platform.stackLimits (T.setVm s.vm).me = e.platform.stackLimits s.me := X.limits
  have hbyt : (T.setVm s.vm).me.stackBytes = s.me.stackBytes := X.bytes
  have hroom := X.room
  have hh := X.heapSize
  have hu := X.used
  have hbook := X.book
  have hinuse : ((T.setVm s.vm).setFrames (.invoking m args :: below)).localsInUse = s.localsInUse := by
    rw [State.localsInUse_invoking hF (meth := meth) (c := c) X.method X.code, State.localsInUse_invoking X.frames X.method X.code]
  refine { admits := X.admits, cas := X.cas, clock := X.clock, frames := hF, room := ?_, hears := X.hears, method := X.method, code := X.code, here := X.here, tail := X.tail, warmed := X.warmed, limits := ?_, bytes := ?_, same := ?_ }
  · simp only [State.hasRoom, Bool.and_eq_true, decide_eq_true_eq] at hroom ⊢
    obtain ⟨⟨⟨⟨r1, r2, r3, r4, r5, r6⟩, r7⟩, r8⟩, -⟩ := hroom
    rw [X.frames] at r2 r3
    rw [hF, hinuse, State.stackLimits_setFrames, State.stackBytes_setFrames, hlim, hbyt]
    exact ⟨⟨⟨⟨r1, r2, r3, r4, r5, r6⟩, show T.heap.size + k ≤ _ by omega⟩, show T.slotsUsed + n ≤ _ by omega⟩, hbook⟩
  · rw [State.stackLimits_setFrames]
    rfl
  · rw [State.stackBytes_setFrames]
    rfl
  · have hdrop : T.heap.toList.drop T.heap.size = [] := List.drop_eq_nil_of_le (Nat.le_of_eq Array.length_toList)
    refine ⟨?_, Nat.le_refl _, Nat.le_refl _, ?_, ?_, fun a c9 h9 => ⟨c9, h9, rfl, rfl, fun _ _ => rfl⟩⟩
    · obtain ⟨th, hth, -⟩ := State.frames_cons hr
      show T.setVm s.vm = { ((T.setVm s.vm).setFrames (.invoking m args :: below)).setFrames (T.setVm s.vm).frames with heap := T.heap, slotsUsed := T.slotsUsed }
      rw [State.setFrames_setFrames, State.setFrames_self hth]
      rfl
    · show T.slotsUsed = T.slotsUsed + ((T.heap.toList.drop T.heap.size).map (·.slots.size)).sum
      rw [hdrop]
      rfl
    · show ((T.heap.toList.drop T.heap.size).map (·.slots.size)).sum ≤ 0
      rw [hdrop]
      exact Nat.le_refl _
end ZT1
theorem zsl_isRef {n d : String} {A : Nat → Prop} {s : State} {args : Array Value} (h : zsl n d A s s.heap) : (Cond.isRef (.static tN9 n d)).before args s = true := by
  obtain ⟨c, k, i, f, a, cell, v, h1, h2, h3, h4, h5, h6, h7, h8, h9, h10, h11, h12⟩ := h
  have he : (Term.static tN9 n d).eval args s none [] s = some v := by simp [Term.eval, State.fieldNamed?, h2, h3, h4, h5, h6, h10]
  simp only [Cond.before, Cond.holds, Cond.value, he]
  cases v <;> simp_all [Value.isRef]
theorem zsl_lays {n d : String} {A : Nat → Prop} {s : State} {args : Array Value} (h : zsl n d A s s.heap) : (Cond.laysStatic tN9 n d).before args s = true := by
  obtain ⟨c, k, i, f, a, cell, v, h1, h2, h3, h4, h5, h6, h7, h8, h9, h10, h11, h12⟩ := h
  show (Cond.laysStatic tN9 n d).holds args s none s [] = true
  exact Cond.laysStatic_of h1 h2 h3 h4 h5 h6 h7 h8 h9
def zhw : List Cond := [.isRef (.static tN9 "UNASSIGNED_STACK" steD9), .isRef (.static tN9 "SUPPRESSED_SENTINEL" listD9), .laysStatic tN9 "UNASSIGNED_STACK" steD9, .laysStatic tN9 "SUPPRESSED_SENTINEL" listD9]
def zch : List String := ["java/lang/RuntimeException", "java/lang/Exception"]
/-- the words of 'throw new E(text)' out of LeagueRounds: E's link, its constructor's -/
def zAt (ik ic : Nat) (E : String) : Prop := (∀ w ∈ Bundle.ownAtoms "LeagueRounds" ic E zch, w ∈ zhw ∨ zI w) ∧ zI (.classLink "LeagueRounds" ik E) ∧ zI (.initialized E) ∧ Bundle.fit E = true
theorem zT.at {A : Nat → Prop} {s : State} (h : zT A s) {ik ic : Nat} {E : String} (ha : zAt ik ic E) {args : Array Value} : ∀ w ∈ Bundle.ownAtoms "LeagueRounds" ic E zch, w.before args s = true := by
  intro w hw
  rcases ha.1 w hw with h1 | h1
  · simp only [zhw, List.mem_cons, List.not_mem_nil, or_false] at h1
    rcases h1 with rfl | rfl | rfl | rfl
    · exact zsl_isRef h.2.2.2.1
    · exact zsl_isRef h.2.2.2.2
    · exact zsl_lays h.2.2.2.1
    · exact zsl_lays h.2.2.2.2
  · exact h.w h1
section ZT2
variable {l : Launch} {d : Nat} {M : zM} {pc : Nat} {ls st : List Value} {S : zS} {cs : Nat × Nat}
/-- what is thrown leaves the method: the end, from what the library's row says -/
theorem zthrown {p : Program} {e : Env} {s : State} {m : MethodId} {args : Array Value} {below : List Frame} {meth : Method} {c : Code} {D : va_G} {tc : Nat → ClassId} {A : Nat → Prop} (hX : zX l p s m meth c M D tc A) {ad : Nat → Nat} {H : Heap} {locs : List Loc} (hL : zL M D tc A ad s S H locs) {R : Room} {T U : State} {E : String} {q mc ms : Nat} {ce : Cell}
    (hT : T.heap = H) (X : Stand p l e R s m args below meth c T locs cs.1 cs.2) (h1 : cs.1 + 1 ≤ mc) (h2 : cs.2 + 6 ≤ ms) (hrun : U.status = .running) (hend : Ended U below (.threw q)) (hW : s.WarmedH U.vm) (hsame : ((T.setVm s.vm).setFrames (.invoking m args :: below)).sameButNew ({ U with vm := s.vm } : State) [] 1 6) (hce : U.heap[q]? = some ce) (hv : ce.vm = .none) (hcl : s.vm.findClass E = some ce.cls) :
    zE below s D tc A ad S (.inr E, S, mc, ms) U := by
  obtain ⟨f1, f2⟩ := zsame0 hsame
  have f1' : H.size ≤ U.heap.size := by rw [← hT]; exact f1
  have f2' : ∀ z : Nat, z < H.size → U.heap[z]? = H[z]? := fun z hz => by rw [← hT]; exact f2 z (by show z < T.heap.size; rw [hT]; exact hz)
  have hall : s.sameButNew ({ U with vm := s.vm } : State) locs mc ms := by
    obtain ⟨e1, e2⟩ := hsame
    rw [State.setFrames_setFrames] at e1
    have h3 := X.same.trans (show (T.setVm s.vm).sameButNew ({ U with vm := s.vm } : State) [] 1 6 from ⟨e1, e2⟩)
    rw [List.append_nil] at h3
    exact h3.mono h1 h2
  refine ⟨.threw q, hrun, hend, ⟨ad, fun _ _ => rfl, fun _ => rfl, Nat.le_refl _, ⟨q, ce, rfl, hce, hv, ?_⟩, hL.1.kept (fun k x hx => f2' x.1 (hL.1 k x hx).lt), hL.2.1, ?_⟩, hW, locs, hall, hL.2.2.1.2.2⟩
  · rw [hW.alike.findClass]
    exact hcl
  · exact ⟨Nat.le_trans hL.2.2.1.1 f1', fun z g1 g2 => (f2' z (Nat.lt_of_lt_of_le g1 hL.2.2.1.1)).trans (hL.2.2.1.2.1 z g1 g2)⟩
theorem zthrow0 {ik ic is len : Nat} {E text : String} {il : Instr} (hown : M.1.cls = "LeagueRounds") (hat : zAt ik ic E) (hsr : (is, text) ∈ zSR) (d0 : decode M.2.1 pc = .ok (.new ik, 3)) (d3 : decode M.2.1 (pc + 3) = .ok (.dup, 1))
    (d6 : decode M.2.1 (pc + 4 + len) = .ok (.invokespecial ic, 3)) (d9 : decode M.2.1 (pc + 4 + len + 3) = .ok (.athrow, 1)) (hh : M.2.2.2.2.1 = []) (hre : st.length ≤ 4) {mc ms : Nat} (h1 : cs.1 + 1 ≤ mc) (h2 : cs.2 + 6 ≤ ms)
    (hldc : ∀ {p : Program} {e : Env} {R : Room} {s : State} {m : MethodId} {args : Array Value} {below : List Frame} {meth : Method} {c : Code} {T : State} {locs : List Loc} {cells slots : Nat} {a : Nat} {lsM : Array Slot} {stM : List Value}, Stand p l e R s m args below meth c T locs cells slots → p.tables.exec = Jvm.exec → c.code = M.2.1 → s.vm.findClass "LeagueRounds" = some m.cls → vk_R "LeagueRounds" is text a s →
      ∀ target, Steps p.tables e below (T.setTop (F0 m (pc + 4 + len) lsM (.ref a :: stM))) target → Steps p.tables e below (T.setTop (F0 m (pc + 4) lsM stM)) target) :
    zW l (d + 6) M pc ls st S cs (.inr E, S, mc, ms) := by
  intro p e s m args below meth c D tc A hX ad H locs lsM hL hls T hT X
  have htr : e.platform.stackTraces = false := (show e.platform.stackTraces = l.stackTraces by rw [X.admits.platform]).trans hX.2.2.2.2.2.2.2.2.2.2.2
  have Y := zfresh X (k := 1) (n := 6) h1 h2
  have hW0 : s.WarmedH ((T.setVm s.vm).setFrames (.invoking m args :: below)).vm := State.WarmedH.refl s
  have hT' : zT A ((T.setVm s.vm).setFrames (.invoking m args :: below)) := hX.T.warm hW0 (fun q g1 g2 => by
    show T.heap[q]? = _
    rw [hT]
    exact hL.2.2.1.2.1 q g1 g2)
  have hown' : ((T.setVm s.vm).setFrames (.invoking m args :: below)).vm.findClass "LeagueRounds" = some m.cls := by rw [← hown]; exact hX.own
  have hins : (Cond.instantiable E 6).before args ((T.setVm s.vm).setFrames (.invoking m args :: below)) = true := hT'.at hat _ (by simp [Bundle.ownAtoms])
  obtain ⟨vm₁, cX, kX, hfX, hkX, -, -, X₁, st1⟩ := Y.newCold hX.1 (own := "LeagueRounds") (C := E) (index := ik) (n := 6) hown' (hT'.w hat.2.1) hins (hT'.w hat.2.2.1)
    (g := F0 m pc lsM (st.map (zc ad))) rfl (by rw [hX.2.1]; exact d0) (Nat.le_refl _) (Nat.le_refl _)
  have hcellA : ((T.setVm vm₁).pushCell { cls := cX, slots := kX.instanceTypes.map defaultValue, vm := .none }).heap[T.heap.size]? = some (freshCell cX kX) := State.heap_pushCell_size _ _
  obtain ⟨sa, hsa⟩ := hT'.2.2.1 _ hsr
  have hhe : ((T.setVm s.vm).setFrames (.invoking m args :: below)).heap = T.heap := rfl
  obtain ⟨U, hsteps, hrun, hend, hW, hsame, ce, hce, hO⟩ := X₁.ctorThrowS hX.1 htr (own := "LeagueRounds") (cls := E) (names := zch) (ic := ic) hown' hat.2.2.2 (by decide) (hT'.at hat) (fun x hx => nomatch hx) hfX hkX hcellA (by rw [hhe]; exact Nat.le_refl _) (msg := .ref sa) rfl
    (g := F0 m (pc + 4 + len) lsM (.ref sa :: .ref T.heap.size :: .ref T.heap.size :: st.map (zc ad))) rfl (by show lsM.size = _; rw [hls.1, hX.2.2.1]) rfl rfl (rest := st.map (zc ad)) rfl
    (by rw [hX.2.1]; exact d6) (by rw [hX.2.1]; exact d9) (fun x hx => by rw [hX.2.2.2.2.2.2.2.1, hh] at hx; cases hx) (by show 2 + 3 < d + 6; omega)
    (by
      show 2 * 0 + (1 + ((st.map (zc ad)).map fun v => v.category).sum) + (13 * (2 + 1) + 42) ≤ 64 * (d + 6)
      have := zsum ad st
      omega) hX.2.2.2.2.1
  refine ⟨U, ?_, zthrown hX hL hT X h1 h2 hrun hend (State.WarmedH.trans hW0 hW) hsame hce hO.vm hO.cls⟩
  refine st1 _ ?_
  have d3' : decode c.code (pc + 3) = .ok (.dup, 1) := by rw [hX.2.1]; exact d3
  have hx := hX.1
  generalize ((T.setVm vm₁).pushCell { cls := cX, slots := kX.instanceTypes.map defaultValue, vm := .none }) = T1 at X₁ hsteps ⊢
  show Steps p.tables e below (T1.setTop (F0 m (pc + 3) lsM (.ref T.heap.size :: st.map (zc ad)))) _
  jvm_step X₁.here [X₁.here.top, hx, d3', Value.category]
  exact hldc X₁ hX.1 hX.2.1 hown' hsa _ hsteps
/-- 'throw new E(text)' -/
theorem zr_throw {ik ic is : Nat} {E text : String} (hown : M.1.cls = "LeagueRounds") (hat : zAt ik ic E) (hsr : (is, text) ∈ zSR) (d0 : decode M.2.1 pc = .ok (.new ik, 3)) (d3 : decode M.2.1 (pc + 3) = .ok (.dup, 1)) (d4 : decode M.2.1 (pc + 4) = .ok (.ldc is, 2))
    (d6 : decode M.2.1 (pc + 6) = .ok (.invokespecial ic, 3)) (d9 : decode M.2.1 (pc + 9) = .ok (.athrow, 1)) (hh : M.2.2.2.2.1 = []) (hre : st.length ≤ 4) {mc ms : Nat} (h1 : cs.1 + 1 ≤ mc) (h2 : cs.2 + 6 ≤ ms) : zW l (d + 6) M pc ls st S cs (.inr E, S, mc, ms) :=
  zthrow0 (il := .ldc is) (len := 2) hown hat hsr d0 d3 d6 d9 hh hre h1 h2 (fun X hx hb ho hs target h => X.ldcString hx ho hs.1 hs.2 (g := F0 _ (pc + 4) _ _) rfl (by rw [hb]; exact d4) target h)
theorem zr_throwW {ik ic is : Nat} {E text : String} (hown : M.1.cls = "LeagueRounds") (hat : zAt ik ic E) (hsr : (is, text) ∈ zSR) (d0 : decode M.2.1 pc = .ok (.new ik, 3)) (d3 : decode M.2.1 (pc + 3) = .ok (.dup, 1)) (d4 : decode M.2.1 (pc + 4) = .ok (.ldc_w is, 3))
    (d7 : decode M.2.1 (pc + 7) = .ok (.invokespecial ic, 3)) (d10 : decode M.2.1 (pc + 10) = .ok (.athrow, 1)) (hh : M.2.2.2.2.1 = []) (hre : st.length ≤ 4) {mc ms : Nat} (h1 : cs.1 + 1 ≤ mc) (h2 : cs.2 + 6 ≤ ms) : zW l (d + 6) M pc ls st S cs (.inr E, S, mc, ms) :=
  zthrow0 (il := .ldc_w is) (len := 3) hown hat hsr d0 d3 d7 d10 hh hre h1 h2 (fun X hx hb ho hs target h => X.ldcStringW hx ho hs.1 hs.2 (g := F0 _ (pc + 4) _ _) rfl (by rw [hb]; exact d4) target h)
end ZT2
