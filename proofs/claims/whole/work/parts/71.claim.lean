/-! THE CLAIM OUT OF ONE WALK OF THE LAW'S BODY. Your part is whole_start (and what it stands on); all else here is the same for every law, but numbers. -/
def R_law : String := "LeagueRoundsLaw"
def lw_P (b : Addr) (xs : List Int32) (args : Array Value) (s : State) : Prop := args = #[.ref b] ∧ s.IntsAt b xs ∧ xs.length ≤ 2560 ∧ (Jvm.Cond.and given_1 narrow_1).before args s = true
def lw_Q (_ : Array Value) (s : State) (o : Outcome) (t : State) : Prop := o = .returned (some (.int 1)) ∧ Framed s o t [] 601024 7293034
def lw_Z (below : List Frame) (a : Array Value) (s : State) : State → Prop := fun t => ∃ o, t.status = .running ∧ Ended t below o ∧ lw_Q a s o t
/-- the law's own end, with 1 on the stack, nothing written that was there before, its room as the claim has it -/
theorem lw_ret {p : Program} {l : Launch} {e : Env} {s : State} {m : MethodId} {below : List Frame} {meth : Method} {c : Code} {b : Nat} (hx : p.tables.exec = Jvm.exec) (hb : c.code = code) (hr : meth.sig.returnType = ret) (hlocks : meth.locks = false) {pc : Nat} {H : Heap} {ls : Array Slot} (hdg : decode code pc = .ok (.ireturn, 1)) : W p l e room_1 s m #[Value.ref b] below meth c H [] 601024 7293034 (lw_Z below #[Value.ref b] s) (F0 m pc ls [.int 1]) := by
  intro T hT X
  obtain ⟨fs, hret, hrun, hended, hW, hframe⟩ := X.leave (v := some (.int 1)) (hlocks := hlocks) (fun h => by rw [hr] at h; cases h)
  have hmeth' : T.vm.method? m = some meth := X.method'
  refine ⟨T.setFrames fs, ?_, .returned (some (.int 1)), hrun, hended, rfl, ⟨_, rfl⟩, hW, hframe⟩
  jvm_step X.here [X.here.top, hx, hb, hdg, hmeth', hr, ret, narrow_b1]
  (try refine ⟨rfl, ?_⟩); (try refine ⟨rfl, ?_⟩)
  first | (intro acts; rw [hret _ acts rfl rfl rfl]) | rw [hret _ _ rfl rfl rfl]
  exact Steps.refl _
/-- what holds at the law's entry: the machine, the code, the tables' words (any of lw_tbl by 'hts w (by decide +kernel)'), the script of L ints xs at the cell b, what the Statement gives of the start (any of its parts by flat_of_before) -/
def lw_At (p : Program) (s : State) (m : MethodId) (meth : Method) (c : Code) (b L : Nat) (xs : Nat → Int32) : Prop :=
  p.tables.exec = Jvm.exec ∧ c.code = code ∧ meth.sig.returnType = ret ∧ c.maxLocals = 7 ∧ s.vm.findClass R_law = some m.cls ∧ (∀ w ∈ lw_tbl, w.before #[Value.ref b] s = true) ∧ va_X b L xs s s.heap ∧ b < s.heap.size ∧ meth.locks = false ∧ (Jvm.Cond.and given_1 narrow_1).before #[Value.ref b] s = true
-- ===== YOUR PART BEGINS =====
theorem zsl_of {n d : String} {s : State} {args : Array Value} (h1 : (Cond.laysStatic tN9 n d).before args s = true) (h2 : (Cond.isRef (.static tN9 n d)).before args s = true) : zsl n d (fun q => s.heap.size ≤ q) s s.heap := by
  obtain ⟨c, k, i, f, a, cell, g1, g2, g3, g4, g5, g6, g7, g8, g9⟩ := Cond.laysStatic_spec (show (Cond.laysStatic tN9 n d).holds args s none s [] = true from h1)
  obtain ⟨v, e1, e2⟩ := Cond.isRef_spec (show (Cond.isRef (.static tN9 n d)).holds args s none s [] = true from h2)
  have e3 : (Term.static tN9 n d).eval args s none [] s = cell.slots[f.slot]? := by simp [Term.eval, State.fieldNamed?, g2, g3, g4, g5, g6]
  exact ⟨c, k, i, f, a, cell, v, g1, g2, g3, g4, g5, g6, g7, g8, g9, by rw [← e3]; exact e1, e2, fun g => absurd (Array.getElem?_eq_some_iff.mp g5).1 (Nat.not_lt.mpr g)⟩
theorem zT_start {s : State} {b : Nat} (hts : ∀ w ∈ lw_tbl, w.before #[Value.ref b] s = true) (hg : (Jvm.Cond.and given_1 narrow_1).before #[Value.ref b] s = true) : zT (fun q => s.heap.size ≤ q) s := by
  have hs := flat_of_before _ hg
  refine ⟨fun w hw hz => zgood_warm (State.WarmedH.refl s) hz (hts w hw), fun q hq => ?_, fun q hq => ?_, ?_, ?_⟩
  · refine va_Nc.of (hs _ ?_)
    revert q
    decide +kernel
  · have hm : Cond.stringRef "LeagueRounds" q.1 q.2 ∈ lw_tbl := by
      refine List.mem_append_right _ ?_
      revert q
      decide +kernel
    have h1 := hts _ hm
    have h2 := h1
    simp only [Cond.before, Cond.holds, Cond.value] at h2
    cases hc : s.vm.findClass "LeagueRounds" with
    | none => simp [hc] at h2
    | some cur =>
      obtain ⟨_, _, _, a, _, _, _, _, _, ha⟩ := Cond.stringRef_spec hc (show (Cond.stringRef "LeagueRounds" q.1 q.2).holds #[Value.ref b] s none s [] = true from h1)
      exact ⟨a, vk_R.of h1 ha⟩
  · exact zsl_of (hts _ (List.mem_append_right _ (List.mem_of_getElem? (i := 423) (by decide +kernel)))) (hs _ (by decide +kernel))
  · exact zsl_of (hts _ (List.mem_append_right _ (List.mem_of_getElem? (i := 425) (by decide +kernel)))) (hs _ (by decide +kernel))
theorem zK_1 {s : State} {A : Nat → Prop} (hT : zT A s) {ci N : Nat} {C : String} {T0 : u_T} {ty : Nat → FieldType} (h : zC ci C T0 N ty) : ∃ (cC : ClassId) (iS : Nat → Nat), ∀ q, zcl[ci]? = some q → u_Kn s q.1 q.2.1 q.2.2 cC iS := by
  obtain ⟨cC, iS, hk⟩ := u_known (ws := u_ws C T0 N) (args := #[]) (n := N) (fun w hw => hT.w (h.2.1 w hw)) (fun w hw => hw) (hT.w h.2.2.2.2.1)
  exact ⟨cC, iS, fun q hq => by rw [h.1] at hq; cases hq; exact hk⟩
theorem zK_start {s : State} {A : Nat → Prop} (hT : zT A s) : ∃ (D : va_G) (tc : Nat → ClassId), va_K D zcl (zK tc) s := by
  have hc : ∀ c : Nat, ∃ (cC : ClassId) (iS : Nat → Nat), ∀ q, zcl[c]? = some q → u_Kn s q.1 q.2.1 q.2.2 cC iS := by
    intro c
    by_cases h9 : c < 9
    · have : c = 0 ∨ c = 1 ∨ c = 2 ∨ c = 3 ∨ c = 4 ∨ c = 5 ∨ c = 6 ∨ c = 7 ∨ c = 8 := by omega
      rcases this with h | h | h | h | h | h | h | h | h <;> subst h
      · exact zK_1 hT zC0
      · exact zK_1 hT zC1
      · exact zK_1 hT zC2
      · exact zK_1 hT zC3
      · exact zK_1 hT zC4
      · exact zK_1 hT zC5
      · exact zK_1 hT zC6
      · exact zK_1 hT zC7
      · exact zK_1 hT zC8
    · exact ⟨0, fun _ => 0, fun q hq => by
        have : zcl[c]? = none := List.getElem?_eq_none (show zcl.length ≤ c by show 9 ≤ c; omega)
        rw [this] at hq
        cases hq⟩
  have ha : ∀ {ty : FieldType}, zI (.arrayClass ty) → ∃ cA : ClassId, ArrOfT s cA ty ∧ s.vm.findClass ("[" ++ ty.toString) = some cA := fun {ty} hw => by
    obtain ⟨cA, kA, comp, h1, h2, h3⟩ := Cond.arrayClass_spec (show (Cond.arrayClass ty).holds #[] s none s [] = true from hT.w hw)
    exact ⟨cA, fun n z => ⟨fun k h => (by cases h), kA, h2, comp, h3⟩, h1⟩
  obtain ⟨c0, a0⟩ := ha ac_int
  obtain ⟨c1, a1⟩ := ha ac_boolean
  obtain ⟨c2, a2⟩ := ha ac_long
  refine ⟨(fun c => Classical.choose (hc c), fun c => Classical.choose (Classical.choose_spec (hc c))), fun k => if k = 0 then c0 else if k = 1 then c1 else c2, fun c q hq => Classical.choose_spec (Classical.choose_spec (hc c)) q hq, fun k q hk => ?_⟩
  have : k = 0 ∨ k = 1 ∨ k = 2 ∨ 3 ≤ k := by omega
  rcases this with h | h | h | h
  · subst h; cases hk; exact ⟨a0.1, a0.2⟩
  · subst h; cases hk; exact ⟨a1.1, a1.2⟩
  · subst h; cases hk; exact ⟨a2.1, a2.2⟩
  · have : (zK (fun k => if k = 0 then c0 else if k = 1 then c1 else c2))[k]? = none := List.getElem?_eq_none (show 3 ≤ k from h)
    rw [this] at hk
    cases hk
theorem same_new {s t : State} {L : List Loc} {k n : Nat} (h : s.sameButNew t L k n) (hL : ∀ q ∈ L, s.heap.size ≤ q.base) : s.sameButNew t [] k n := by
  obtain ⟨h1, h2, h3, h4, h5, h6⟩ := h
  refine ⟨h1, h2, h3, h4, h5, fun a c hc => ?_⟩
  obtain ⟨c', g1, g2, g3, g4⟩ := h6 a c hc
  refine ⟨c', g1, g2, g3, fun i _ => g4 i (fun hm => ?_)⟩
  have := hL _ hm
  exact absurd (Array.getElem?_eq_some_iff.mp hc).1 (Nat.not_lt.mpr this)
theorem room_less {s : State} {pl : Platform} {r : zR} (hr : r.2.2 = (601024, 7293034)) (h : s.hasRoom pl room_1 = true) : s.hasRoom pl (zrm (1246 + 66) r) = true := by
  have e1 : (zrm (1246 + 66) r).cells = 601024 := by show r.2.2.1 = _; rw [hr]
  have e2 : (zrm (1246 + 66) r).slots = 7293034 := by show r.2.2.2 = _; rw [hr]
  have e3 : (zrm (1246 + 66) r).frames = 1312 := rfl
  have e4 : (zrm (1246 + 66) r).locals = 83968 := rfl
  have f1 : room_1.cells = 601024 := rfl
  have f2 : room_1.slots = 7293034 := rfl
  have f3 : room_1.frames = 2048 := rfl
  have f4 : room_1.locals = 84000 := rfl
  simp only [State.hasRoom, Bool.and_eq_true, decide_eq_true_eq, e1, e2, e3, e4, f1, f2, f3, f4] at h ⊢
  obtain ⟨⟨⟨⟨h1, h2, h3, h4, h5, h6⟩, h7⟩, h8⟩, h9⟩ := h
  exact ⟨⟨⟨⟨by omega, by omega, by omega, by omega, by omega, h6⟩, h7⟩, h8⟩, h9⟩
/-- from the entry, for every script of at most 2560 ints, the law comes to its end with true -/
theorem whole_start {p : Program} {e : Env} {s : State} {m : MethodId} {below : List Frame} {meth : Method} {c : Code} (l : Launch) {b L : Nat} {xs : Nat → Int32} (hL : L ≤ 2560) (C0 : lw_At p s m meth c b L xs) (hl : l.stackTraces = false) (hnm : meth.name = "law") (htab : c.exceptionTable.toList = tableOf []) : W p l e room_1 s m #[Value.ref b] below meth c s.heap [] 0 0 (lw_Z below #[Value.ref b] s) (entryFrame m ([Value.ref b] : List Value).toArray 7) := by
  obtain ⟨x1, x2, x3, x4, x5, x6, x7, x8, x9, x10⟩ := C0
  have hT := zT_start x6 x10
  obtain ⟨D, tc, hK⟩ := zK_start hT
  obtain ⟨τ', hw⟩ := law_all l 1246 xs hL
  have hX : zX l p s m meth c (M_lw_law L xs) D tc (fun q => s.heap.size ≤ q) := ⟨x1, x2, x4, x3, x9, hnm, x5, htab, hT, hK, fun q hq => hq, hl⟩
  have hLL : zL (M_lw_law L xs) D tc (fun q => s.heap.size ≤ q) (fun _ => b) s (([] : List zs), zq tz) s.heap [] := by
    refine ⟨fun k q hq => ?_, ⟨fun i j p q hp => ?_, fun k q hq => ?_⟩, ⟨Nat.le_refl _, fun _ _ _ => rfl, fun q hq => by cases hq⟩, fun L' xs' h => ?_⟩
    · simp [zw] at hq
    · simp [zw] at hp
    · simp [zw] at hq
    · cases h
      exact ⟨x7, x8, fun g => absurd x8 (Nat.not_lt.mpr g)⟩
  have hen := lv_entry ([Value.ref b] : List Value) (n := 7) (by show 1 ≤ 7; decide)
  have hlo : zloc ((lg_sl ([Value.ref b] : List Value) ++ List.replicate (7 - (lg_sl ([Value.ref b] : List Value)).length) Slot.unset).toArray) 7 (fun _ => b) [.ref 999, .null, .null, .null, .null, .null, .null] := by
    refine ⟨hen.1, hen.2.1, fun i v hi hv => ?_⟩
    match i, hi with
    | 0, hi =>
      cases hi
      exact ⟨rfl, hen.2.2 (0, Value.ref b) List.mem_cons_self⟩
    | 1, hi => cases hi; exact absurd rfl hv
    | 2, hi => cases hi; exact absurd rfl hv
    | 3, hi => cases hi; exact absurd rfl hv
    | 4, hi => cases hi; exact absurd rfl hv
    | 5, hi => cases hi; exact absurd rfl hv
    | 6, hi => cases hi; exact absurd rfl hv
    | i + 7, hi => cases hi
  have key := hw p e s m #[Value.ref b] below meth c D tc (fun q => s.heap.size ≤ q) hX (fun _ => b) s.heap [] _ hLL hlo
  rw [lg_entry_eq]
  intro T hTh X
  have X' : Stand p l e (zrm (1246 + 66) (.inl (some (vi 1)), (SH, zq τ'), 601024, 7293034)) s m #[Value.ref b] below meth c T [] 0 0 := { X with room := room_less rfl X.room }
  obtain ⟨t, a1, o, b1, b2, ⟨ad', q1, q2, q3, q4, q5⟩, b4, L2, b5, b6⟩ := key T hTh X'
  exact ⟨t, a1, o, b1, b2, q4, ⟨_, q4⟩, b4, same_new b5 b6⟩
-- ===== YOUR PART ENDS =====
set_option maxHeartbeats 4000000 in
theorem lw_walk (l : Launch) (hl : l.stackTraces = false) (b : Addr) (xs : List Int32) : MetFree l x (headSpec (Jvm.Cond.code x code maxLocals ret :: tables_1) room_1) (lw_P b xs) (fun _ _ _ _ _ => True) lw_Q := by
  refine MetFree.of_bodyS (code := code) (maxLocals := maxLocals) (ret := ret) (by decide) ?_ ?_
  · intro args s m h hn
    obtain ⟨meth, c, h1, h2, h3, h4, h5, h6, -, -⟩ := Cond.code_spec hn (atoms_spec (ws := Jvm.Cond.code x code maxLocals ret :: tables_1) h _ List.mem_cons_self)
    exact ⟨meth, c, h1, h2, h3, h4, h5, h6⟩
  · intro p e s m args below meth c s₁ B hml0 hP _
    obtain ⟨rfl, hx, hbd, hgv⟩ := hP
    obtain ⟨scr, harrAt, hlist, hof, hsmall⟩ := hx
    obtain ⟨hcb, hkn, -, -⟩ := State.arrayAt?_spec harrAt
    have hown : s.vm.findClass R_law = some m.cls := findClass_of_methodNamed B.named
    have hts0 : ∀ c ∈ (Jvm.Cond.code x code maxLocals ret :: tables_1), c.before #[Value.ref b] s = true := atoms_spec (ws := Jvm.Cond.code x code maxLocals ret :: tables_1) B.pre
    have hts : ∀ w ∈ lw_tbl, w.before #[Value.ref b] s = true := k2_hts_sels lw_privs (fun w hw => hts0 w (List.mem_cons_of_mem _ hw)) lw_privs_ok
    have hml : c.maxLocals = 7 := B.maxLocals_eq (hts0 _ List.mem_cons_self)
    have X₀ : Stand p l e room_1 s m #[Value.ref b] below meth c s₁ [] 0 0 := Stand.of_body B
    have hh0 : s₁.heap = s.heap := by rw [B.state]; rfl
    have htab : c.exceptionTable.toList = tableOf [] := by
      obtain ⟨meth', c', g1, g2, -, -, -, -, g7, -⟩ := Cond.code_spec B.named (hts0 _ List.mem_cons_self)
      cases B.method.symm.trans g1
      cases X₀.code.symm.trans g2
      have : c.exceptionTable = #[] := by simpa using g7
      rw [this]
      rfl
    have hsz : scr.slots.size = xs.length := by rw [← Array.length_toList, hlist, List.length_map]
    have hval : ∀ j : Nat, j < xs.length → scr.slots[j]? = some (.int (xs.getD j 0)) := fun j hj => by
      rw [← Array.getElem?_toList, hlist]
      simp [hj]
    have hbl : b < s.heap.size := (Array.getElem?_eq_some_iff.mp hcb).1
    have hX : va_X b xs.length (fun j => xs.getD j 0) s s.heap := ⟨scr, hcb, hof, hkn, hsz, hval⟩
    have K : W p l e room_1 s m #[Value.ref b] below meth c s₁.heap [] 0 0 (lw_Z below #[Value.ref b] s) (entryFrame m ([Value.ref b] : List Value).toArray 7) := by
      rw [hh0]
      exact whole_start l hbd ⟨B.exec, B.bytes, B.returns, hml, hown, hts, hX, hbl, B.notSynchronized, hgv⟩ hl (name_of_methodNamed B.named B.method).1 htab
    obtain ⟨t, a1, o, b1, b2, b3⟩ := K s₁ rfl X₀
    exact ⟨t, o, a1, b1, b2, b3⟩
theorem lw_pre_spec {args : Array Value} {s : State} (h : (Jvm.Cond.and given_1 narrow_1).before args s = true) (hr : rest_1_c.before args s = true) : ∃ (b : Addr) (xs : List Int32), lw_P b xs args s := by
  have hs := flat_of_before _ h
  have hq := flat_of_before _ hr
  have hc : (Cond.count 1).before args s = true := hs _ (by decide +kernel)
  have harr : (Cond.arrayOf (.arg 0) .int).before args s = true := hs _ (by decide +kernel)
  have hle : (Cond.le (.length (.arg 0)) (.int 2560)).before args s = true := hs _ (by decide +kernel)
  have hlen : (Cond.isInt (.length (.arg 0))).before args s = true := hq _ (by decide +kernel)
  have hall : (Cond.all (.arg 0) (.isInt (.elem (.arg 0) (.index 0)))).before args s = true := hq _ (by decide +kernel)
  obtain ⟨b, xs, hb, hx⟩ := State.ints_of_pre rfl harr hlen hall
  have hsm : xs.length < 2 ^ 31 := hx.choose_spec.2.2.2
  have hev : (Term.length (.arg 0)).eval args s none [] s = some (.int xs.length.toInt32) := hx.length_eval hb
  have hv := Cond.le_ints hev (show (Term.int 2560).eval args s none [] s = some (.int 2560) from rfl)
  have hd : xs.length.toInt32 ≤ 2560 := by
    simpa [Cond.before, Cond.holds, hv] using hle
  have hN : xs.length ≤ 2560 := (Int32.ofNat_le_ofNat hsm (by decide)).mp (show Int32.ofNat xs.length ≤ Int32.ofNat 2560 from hd)
  exact ⟨b, xs, Cond.one_arg hc (show args[0]? = some (.ref b) from hb), hx, hN, h⟩
theorem lw_comes (l : Launch) (hl : l.stackTraces = false) : Comes l x (Jvm.Cond.code x code maxLocals ret :: tables_1) room_1 (fun tb e args s => Calls_1 tb e args s ∧ rest_1 tb e args s ∧ Pre_1 tb e args s)
    (fun _ _ args s o t => lw_Q args s o t) := by
  intro p e ha hc hk s m args below hf hfit hheap happ hpre
  obtain ⟨b, xs, hP⟩ := lw_pre_spec hpre.2.2 hpre.2.1
  obtain ⟨k, o, h1, h2, h3, hQ⟩ := lw_walk l hl b xs p e ha hc hk s m args below hf ((Spec.applies_iff_loose hf).mp happ).1 hP trivial
  exact ⟨k, o, h1, h2, h3, hQ⟩
theorem lw_frame {s t : State} {o : Outcome} {args : Array Value} (h : Framed s o t [] 601024 7293034) :
    Framed s o t (fieldLocs frame_1_writes args s ++ arrayLocs frame_1_arrays args s ++ staticLocs frame_1_statics s) 601024 7293034 := h
theorem lw_limb (L : Cond) (hL : ∀ (args : Array Value) (s t : State), L.after args s (.returned (some (.int 1))) t = true) :
    ArmFor flags0 classFile x code maxLocals ret World_1 tables_1 room_1 Calls_1 rest_1 Pre_1
      (fun tb e a s o t => postC L tb e a s o t ∧ Framed s o t (fieldLocs frame_1_writes a s ++ arrayLocs frame_1_arrays a s ++ staticLocs frame_1_statics s) 601024 7293034) := by
  intro l hfl _ _ p e ha hc hk s m args below hf hfit hheap happ hpre
  have hl : l.stackTraces = false := by unfold Launch.stackTraces; rw [hfl]; decide +kernel
  obtain ⟨k, o, h1, h2, h3, rfl, hF⟩ := lw_comes l hl p e ha hc hk s m args below hf hfit hheap happ hpre
  exact ⟨k, _, h1, h2, h3, hL args s _, lw_frame hF⟩
theorem i_vc : Claimed_1_1 ∧ Claimed_1_2 := ⟨lw_limb limb_1_1 (fun args s t => by simp [limb_1_1, Cond.after, Cond.holds, Cond.value]), lw_limb limb_1_2 (fun args s t => Cond.after_iff.mpr (by
  first | (rw [show limb_1_2 = Cond.eq .result (.int 1) from rfl, Cond.eq_ints (x := 1) (y := 1) rfl rfl]; simp; done) | (simp [limb_1_2, Cond.value, Term.eval]; done)))⟩
