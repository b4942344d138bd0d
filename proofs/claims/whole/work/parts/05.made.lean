/-! cells that are made: arrays, objects; a constructor's call -/
def zok (n : Nat) : Value → Bool
  | .ref k => decide (k < n ∨ k = 999)
  | _ => true
def zokf (n : Nat) : Option (Option Nat) → Bool
  | some (some q) => decide (q < n)
  | _ => true
def zoks (n : Nat) : zs → Bool
  | .inl _ => true
  | .inr q => q.2.all (zokf n)
def zwf (L : List zs) (ls st : List Value) : Bool := decide (L.length < 999) && L.all (zoks L.length) && ls.all (zok L.length) && st.all (zok L.length)
def zN (σ : Nat → Nat → Int32) (n : Nat) : Nat → Nat → Int32 := fun k => if k = n then (fun _ => 0) else σ k
def zag (n : Nat) (ad ad' : Nat → Nat) : Prop := ∀ k, k < n ∨ k = 999 → ad' k = ad k
theorem zc_ag {n : Nat} {ad ad' : Nat → Nat} (h : zag n ad ad') {v : Value} (hv : zok n v = true) : zc ad' v = zc ad v := by
  cases v
  case ref k =>
    have hk : k < n ∨ k = 999 := by simpa [zok] using hv
    show Value.ref (ad' k) = Value.ref (ad k)
    rw [h k hk]
  all_goals rfl
theorem zce_ag {n : Nat} {ad ad' : Nat → Nat} (h : zag n ad ad') {tc : Nat → ClassId} {g : Nat → Int32} {z : zs} (hz : zoks n z = true) : zce tc ad' g z = zce tc ad g z := by
  cases z with
  | inl q => rfl
  | inr q =>
    obtain ⟨c, fs⟩ := q
    have hf : ∀ f ∈ fs, zokf n f = true := by simpa [zoks] using hz
    show (Sum.inr (c, _) : va_E) = Sum.inr (c, _)
    congr 2
    apply List.ext_getElem?
    intro i
    rw [List.getElem?_mapIdx, List.getElem?_mapIdx]
    cases hi : fs[i]? with
    | none => rfl
    | some f =>
      have h1 := hf f (List.mem_of_getElem? hi)
      cases f with
      | none => rfl
      | some f =>
        cases f with
        | none => rfl
        | some q =>
          have hq : q < n := by simpa [zokf] using h1
          show some (Value.ref (ad' q)) = some (Value.ref (ad q))
          rw [h q (Or.inl hq)]
theorem zwf_parts {L : List zs} {ls st : List Value} (h : zwf L ls st = true) : L.length < 999 ∧ (∀ z ∈ L, zoks L.length z = true) ∧ (∀ v ∈ ls, zok L.length v = true) ∧ ∀ v ∈ st, zok L.length v = true := by
  simpa [zwf, and_assoc] using h
theorem zw_ag {tc : Nat → ClassId} {ad ad' : Nat → Nat} {S : zS} (h : zag S.1.length ad ad') (hz : ∀ z ∈ S.1, zoks S.1.length z = true) : zw tc ad' S = zw tc ad S := by
  apply List.ext_getElem?
  intro i
  unfold zw
  rw [List.getElem?_mapIdx, List.getElem?_mapIdx]
  cases hi : S.1[i]? with
  | none => rfl
  | some z =>
    have hl := (List.getElem?_eq_some_iff.mp hi).1
    show some (ad' i, zce tc ad' (S.2 i) z) = some (ad i, zce tc ad (S.2 i) z)
    rw [h i (Or.inl hl), zce_ag h (hz z (List.mem_of_getElem? hi))]
theorem zw_push {tc : Nat → ClassId} {ad ad' : Nat → Nat} {S : zS} {z : zs} (h : zag S.1.length ad ad') (hz : ∀ z ∈ S.1, zoks S.1.length z = true) : zw tc ad' (S.1 ++ [z], zN S.2 S.1.length) = zw tc ad S ++ [(ad' S.1.length, zce tc ad' (fun _ => 0) z)] := by
  rw [← zw_ag (tc := tc) h hz]
  unfold zw
  show (S.1 ++ [z]).mapIdx _ = _
  rw [List.mapIdx_append]
  congr 1
  · apply List.ext_getElem?
    intro i
    rw [List.getElem?_mapIdx, List.getElem?_mapIdx]
    cases hi : S.1[i]? with
    | none => rfl
    | some w =>
      have hl := (List.getElem?_eq_some_iff.mp hi).1
      have : zN S.2 S.1.length i = S.2 i := by
        unfold zN
        rw [if_neg (by omega)]
      show some (ad' i, zce tc ad' (zN S.2 S.1.length i) w) = _
      rw [this]
      rfl
  · simp [zN]
theorem zloc.ag {lsM : Array Slot} {n k : Nat} {ad ad' : Nat → Nat} {ls : List Value} (h : zag k ad ad') (hv : ∀ v ∈ ls, zok k v = true) (hl : zloc lsM n ad ls) : zloc lsM n ad' ls := by
  refine ⟨hl.1, hl.2.1, fun i v hi hn => ?_⟩
  rw [zc_ag h (hv v (List.mem_of_getElem? hi))]
  exact hl.2.2 i v hi hn
theorem zmap_ag {n : Nat} {ad ad' : Nat → Nat} (h : zag n ad ad') {st : List Value} (hv : ∀ v ∈ st, zok n v = true) : st.map (zc ad') = st.map (zc ad) := List.map_congr_left fun v hm => zc_ag h (hv v hm)
/-- the end of a walk from a larger world is an end from the smaller -/
theorem zE.more {below : List Frame} {s : State} {D : va_G} {tc : Nat → ClassId} {A : Nat → Prop} {ad ad1 : Nat → Nat} {S S1 : zS} {r : zR} (h : zag S.1.length ad ad1) (hl : S.1.length < S1.1.length) {t : State} (hz : zE below s D tc A ad1 S1 r t) : zE below s D tc A ad S r t := by
  obtain ⟨o, h1, h2, ⟨ad', q1, q2, q3, q4⟩, h4⟩ := hz
  refine ⟨o, h1, h2, ⟨ad', fun k hk => ?_, fun e => ?_, by omega, q4⟩, h4⟩
  · rw [q1 k (hk.elim (fun g => Or.inl (by omega)) Or.inr), h k hk]
  · rw [e] at q3
    omega
theorem zL.scr {M : zM} {D : va_G} {tc : Nat → ClassId} {A : Nat → Prop} {ad ad1 : Nat → Nat} {s : State} {S S1 : zS} {H H1 : Heap} {locs locs1 : List Loc} (h : zL M D tc A ad s S H locs) (h9 : ad1 999 = ad 999) (hP : va_P D zcl (zw tc ad1 S1) H1) (hD : va_D A (zw tc ad1 S1)) (hS : va_S A s.heap H1 locs1) : zL M D tc A ad1 s S1 H1 locs1 := ⟨hP, hD, hS, by rw [h9]; exact h.2.2.2⟩
theorem zag_up (n : Nat) (ad : Nat → Nat) (q : Nat) (hn : n < 999) : zag n ad (va_up ad n q) := fun k hk => by
  unfold va_up
  rw [if_neg (by omega)]
theorem zup_self (n : Nat) (ad : Nat → Nat) (q : Nat) : va_up ad n q n = q := by simp [va_up]
section ZA
variable {l : Launch} {d : Nat} {M M' : zM} {pc : Nat} {ls st as rest : List Value} {S S' : zS} {cs : Nat × Nat} {r : zR}
theorem zr_newa {at0 : ArrayType} {t N : Nat} {n : Int32} (hd : decode M.2.1 pc = .ok (.newarray at0, 2)) (hty : newarray.typeOf at0 = zty t) (ht : t < 3) (hw : zI (.arrayClass (newarray.typeOf at0))) (hn : ¬ n < 0) (hN : n.toNatClampNeg = N) (hb : N ≤ 100000) (h1 : cs.1 + 1 ≤ r.2.2.1) (h2 : cs.2 + N ≤ r.2.2.2) (hwf : zwf S.1 ls st = true)
    (k : zW l d M (pc + 2) ls (.ref S.1.length :: st) (S.1 ++ [.inl (t, N)], zN S.2 S.1.length) (cs.1 + 1, cs.2 + N) r) : zW l d M pc ls (.int n :: st) S cs r := by
  intro p e s m args below meth c D tc A hX ad H locs lsM hL hls
  obtain ⟨w1, w2, w3, w4⟩ := zwf_parts hwf
  refine va_newa hX.1 hX.2.1 (hX.T.w hw) hty hX.K hL.1 hL.2.1 hL.2.2.1 hX.2.2.2.2.2.2.2.2.2.2.1 (a0 := (N, if t = 2 then .inr (.inl (fun _ => (0 : Int32).toInt64)) else .inl (fun _ => 0))) ?_ hn hN ?_ h1 h2 hd ?_
  · intro cA
    match t, ht with
    | 0, _ => rfl
    | 1, _ => rfl
    | 2, _ => rfl
  · match t, ht with
    | 0, _ => show N * 4 ≤ _; omega
    | 1, _ => show N * 1 ≤ _; omega
    | 2, _ => show N * 8 ≤ _; omega
  · intro q cA H1 hK1 hP hD hS1
    have hcA : cA = tc t := by
      have a1 := (hK1.2 3 (cA, zty t) rfl).2
      have a2 := (hX.K.2 t _ (zK_at tc t ht)).2
      match t, ht with
      | 0, _ => exact Option.some.inj (a1.symm.trans a2)
      | 1, _ => exact Option.some.inj (a1.symm.trans a2)
      | 2, _ => exact Option.some.inj (a1.symm.trans a2)
    subst hcA
    have hag := zag_up S.1.length ad q w1
    have e1 : zw tc ad S ++ [(q, .inl (tc t, N, if t = 2 then .inr (.inl (fun _ => (0 : Int32).toInt64)) else .inl (fun _ => 0)))] = zw tc (va_up ad S.1.length q) (S.1 ++ [.inl (t, N)], zN S.2 S.1.length) := by
      rw [zw_push hag w2, zup_self]
      rfl
    rw [e1] at hP hD
    have key := k p e s m args below meth c D tc A hX (va_up ad S.1.length q) H1 locs lsM (hL.scr (hag 999 (Or.inr rfl)) hP hD hS1) (hls.ag hag w3)
    refine W.imp (fun t0 h => zE.more (S1 := (S.1 ++ [.inl (t, N)], zN S.2 S.1.length)) hag (by simp) h) ?_
    have e2 : (Value.ref S.1.length :: st).map (zc (va_up ad S.1.length q)) = .ref q :: st.map (zc ad) := by
      rw [List.map_cons, zmap_ag hag w4]
      show Value.ref (va_up ad S.1.length q S.1.length) :: _ = _
      rw [zup_self]
    rw [e2] at key
    exact key
def zbl (b : Bool) : Option (Option Nat) := if b then some none else none
def zbv (b : Bool) : Value := if b then .null else .int 0
theorem zr_new {ci N index : Nat} {C : String} {T0 : u_T} {ty : Nat → FieldType} (bs : List Bool) (hd : decode M.2.1 pc = .ok (.new index, 3)) (hC : zC ci C T0 N ty) (hfs : ∀ j, j < N → defaultValue (ty j) = vp_V (bs.map zbv) j) (hlink : zI (.classLink M.1.cls index C)) (h1 : cs.1 + 1 ≤ r.2.2.1) (h2 : cs.2 + N ≤ r.2.2.2) (hwf : zwf S.1 ls st = true)
    (k : zW l d M (pc + 3) ls (.ref S.1.length :: st) (S.1 ++ [.inr (ci, bs.map zbl)], zN S.2 S.1.length) (cs.1 + 1, cs.2 + N) r) : zW l d M pc ls st S cs r := by
  intro p e s m args below meth c D tc A hX ad H locs lsM hL hls
  obtain ⟨w1, w2, w3, w4⟩ := zwf_parts hwf
  refine va_new hX.1 hX.2.1 (fun w h => hX.T.w (hC.2.1 w h)) (fun _ h => h) ty hC.2.2.1 hX.own (hX.T.w hlink) (hX.T.w hC.2.2.2.2.1) (hX.T.w hC.2.2.2.2.2) hX.K hL.1 hL.2.1 hL.2.2.1 hX.2.2.2.2.2.2.2.2.2.2.1 hC.1 hfs h1 h2 hd ?_
  intro q H1 hP hD hS1
  have hag := zag_up S.1.length ad q w1
  have e0 : (bs.map zbl).mapIdx (fun j f => zfv (va_up ad S.1.length q) (fun _ => 0) j f) = bs.map zbv := by
    apply List.ext_getElem?
    intro i
    rw [List.getElem?_mapIdx, List.getElem?_map, List.getElem?_map]
    cases bs[i]? with
    | none => rfl
    | some b => cases b <;> rfl
  have e1 : zw tc ad S ++ [(q, .inr (ci, bs.map zbv))] = zw tc (va_up ad S.1.length q) (S.1 ++ [.inr (ci, bs.map zbl)], zN S.2 S.1.length) := by
    rw [zw_push hag w2, zup_self, ← e0]
    rfl
  rw [e1] at hP hD
  have key := k p e s m args below meth c D tc A hX (va_up ad S.1.length q) H1 locs lsM (hL.scr (hag 999 (Or.inr rfl)) hP hD hS1) (hls.ag hag w3)
  refine W.imp (fun t0 h => zE.more (S1 := (S.1 ++ [.inr (ci, bs.map zbl)], zN S.2 S.1.length)) hag (by simp) h) ?_
  have e2 : (Value.ref S.1.length :: st).map (zc (va_up ad S.1.length q)) = .ref q :: st.map (zc ad) := by
    rw [List.map_cons, zmap_ag hag w4]
    show Value.ref (va_up ad S.1.length q S.1.length) :: _ = _
    rw [zup_self]
  rw [e2] at key
  exact key
theorem zr_obj {index q : Nat} (hd : decode M.2.1 pc = .ok (.invokespecial index, 3)) (hl : zI (.methodLink M.1.cls index Lib.objectInit)) (hi : zI (.instanceMethod Lib.objectInit)) (hc : zI (.code Lib.objectInit ⟨#[0xb1]⟩ 1 none)) (hre : st.length ≤ 4) (k : zW l (d + 1) M (pc + 3) ls st S cs r) : zW l (d + 1) M pc ls (.ref q :: st) S cs r := by
  intro p e s m args below meth c D tc A hX ad H locs lsM hL hls
  refine W.objInit hX.1 hX.2.1 hX.own (hX.T.w hl) (hX.T.w hi) (hX.T.w hc) (g := F0 m pc lsM ((Value.ref q :: st).map (zc ad))) rfl (by show lsM.size = _; rw [hls.1, hX.2.2.1]) (a := ad q) (rest := st.map (zc ad)) rfl hd (by show 1 ≤ d + 1; omega) ?_ ?_
  · show 2 * 0 + ((st.map (zc ad)).map fun v => v.category).sum + 12 ≤ 64 * (d + 1)
    have := zsum ad st
    omega
  · exact k p e s m args below meth c D tc A hX ad H locs lsM hL hls
/-- a call that returns nothing and makes cells that last -/
theorem zr_callA {mc ms : Nat} (hJ : zJ l M pc S st M'.1 as rest) (hM : zMet l d M' as S (.inl none, S', mc, ms)) (hcw : zI (zcw M')) (hini : zI (.initialized M'.1.cls)) (hml : M'.2.2.1 ≤ 45) (hre : rest.length ≤ 4) (hsh : S.1.length < S'.1.length ∨ S'.1.length = S.1.length) (hr : r.2.1.1 = S.1 → False) (h1 : cs.1 + mc ≤ r.2.2.1) (h2 : cs.2 + ms ≤ r.2.2.2) (hwf : zwf S.1 ls rest = true)
    (k : zW l (d + 1) M (pc + 3) ls rest S' (cs.1 + mc, cs.2 + ms) r) : zW l (d + 1) M pc ls st S cs r := by
  intro p e s m args below meth c D tc A hX ad H locs lsM hL hls T hT X
  obtain ⟨w1, w2, w3, w4⟩ := zwf_parts hwf
  obtain ⟨o, t, U, T', L, mk, hst, ⟨ad', q1, q2, q3, q4, q5, q6, q7⟩, hU, hW, hLA, e1, e2, X', ho, -⟩ := zcall1 (r := r) hJ hM hcw hini hml hre h1 h2 hX hL hls hT X
  have hag : zag S.1.length ad ad' := q1
  have ht := ho _ q4
  have hUc : (U.calling (F0 m pc lsM (rest.map (zc ad))) mk (as.map (zc ad)).toArray).heap = H := hU
  have hL1 : zL M D tc A ad' s S' T'.heap (locs ++ L) := hL.scr (hag 999 (Or.inr rfl)) (by rw [e1]; exact q5) q6 (zS_after hL hUc e1 q7 hLA)
  obtain ⟨t2, a1, b1⟩ := k p e s m args below meth c D tc A hX ad' T'.heap (locs ++ L) lsM hL1 (hls.ag hag w3) T' rfl X'
  refine ⟨t2, hst t2 ?_, ?_⟩
  · rw [ht]
    have e3 : (Option.map (zc ad') none).toList ++ rest.map (zc ad) = rest.map (zc ad') := by
      rw [zmap_ag hag w4]
      rfl
    rw [e3]
    exact a1
  · obtain ⟨o, g1, g2, ⟨ad2, p1, p2, p3, p4⟩, g4⟩ := b1
    refine ⟨o, g1, g2, ⟨ad2, fun k hk => ?_, fun e => (hr e).elim, by omega, p4⟩, g4⟩
    rw [p1 k (hk.elim (fun g => Or.inl (by omega)) Or.inr), hag k hk]
end ZA
