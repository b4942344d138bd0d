/-! rows of single instructions (written by wip/gen/rows.py) -/
section ZR
variable {l : Launch} {d : Nat} {M : zM} {pc : Nat} {ls st : List Value} {S : zS} {cs : Nat × Nat} {r : zR}
theorem zr_iconst {n : Int} (hd : decode M.2.1 pc = .ok (.iconst n, 1))  (k : zW l d M (pc + 1) ls (.int (Int32.ofInt n) :: st) S cs r) : zW l d M pc ls (st) S cs r := by
  intro p e s m args below meth c D tc A hX ad H locs lsM hL hls
  exact lv_iconst hX.1 hX.2.1 hd rfl (k p e s m args below meth c D tc A hX ad H locs lsM hL hls)
theorem zr_bipush {n : Int} (hd : decode M.2.1 pc = .ok (.bipush n, 2)) (hv : (Int8.ofInt n).toInt32 = Int32.ofInt n) (k : zW l d M (pc + 2) ls (.int (Int32.ofInt n) :: st) S cs r) : zW l d M pc ls (st) S cs r := by
  intro p e s m args below meth c D tc A hX ad H locs lsM hL hls
  exact lv_bipush hX.1 hX.2.1 hd hv (k p e s m args below meth c D tc A hX ad H locs lsM hL hls)
theorem zr_sipush {n : Int} (hd : decode M.2.1 pc = .ok (.sipush n, 3)) (hv : (Int16.ofInt n).toInt32 = Int32.ofInt n) (k : zW l d M (pc + 3) ls (.int (Int32.ofInt n) :: st) S cs r) : zW l d M pc ls (st) S cs r := by
  intro p e s m args below meth c D tc A hX ad H locs lsM hL hls
  exact lv_sipush hX.1 hX.2.1 hd hv (k p e s m args below meth c D tc A hX ad H locs lsM hL hls)
theorem zr_iadd {x y : Int32} (hd : decode M.2.1 pc = .ok (.iadd, 1))  (k : zW l d M (pc + 1) ls (.int (x + y) :: st) S cs r) : zW l d M pc ls (.int y :: .int x :: st) S cs r := by
  intro p e s m args below meth c D tc A hX ad H locs lsM hL hls
  exact lv_iadd hX.1 hX.2.1 hd (k p e s m args below meth c D tc A hX ad H locs lsM hL hls)
theorem zr_isub {x y : Int32} (hd : decode M.2.1 pc = .ok (.isub, 1))  (k : zW l d M (pc + 1) ls (.int (x - y) :: st) S cs r) : zW l d M pc ls (.int y :: .int x :: st) S cs r := by
  intro p e s m args below meth c D tc A hX ad H locs lsM hL hls
  exact lv_isub hX.1 hX.2.1 hd (k p e s m args below meth c D tc A hX ad H locs lsM hL hls)
theorem zr_imul {x y : Int32} (hd : decode M.2.1 pc = .ok (.imul, 1))  (k : zW l d M (pc + 1) ls (.int (x * y) :: st) S cs r) : zW l d M pc ls (.int y :: .int x :: st) S cs r := by
  intro p e s m args below meth c D tc A hX ad H locs lsM hL hls
  exact lv_imul hX.1 hX.2.1 hd (k p e s m args below meth c D tc A hX ad H locs lsM hL hls)
theorem zr_iand {x y : Int32} (hd : decode M.2.1 pc = .ok (.iand, 1))  (k : zW l d M (pc + 1) ls (.int (x &&& y) :: st) S cs r) : zW l d M pc ls (.int y :: .int x :: st) S cs r := by
  intro p e s m args below meth c D tc A hX ad H locs lsM hL hls
  exact lv_iand hX.1 hX.2.1 hd (k p e s m args below meth c D tc A hX ad H locs lsM hL hls)
theorem zr_ior {x y : Int32} (hd : decode M.2.1 pc = .ok (.ior, 1))  (k : zW l d M (pc + 1) ls (.int (x ||| y) :: st) S cs r) : zW l d M pc ls (.int y :: .int x :: st) S cs r := by
  intro p e s m args below meth c D tc A hX ad H locs lsM hL hls
  exact lv_ior hX.1 hX.2.1 hd (k p e s m args below meth c D tc A hX ad H locs lsM hL hls)
theorem zr_ixor {x y : Int32} (hd : decode M.2.1 pc = .ok (.ixor, 1))  (k : zW l d M (pc + 1) ls (.int (x ^^^ y) :: st) S cs r) : zW l d M pc ls (.int y :: .int x :: st) S cs r := by
  intro p e s m args below meth c D tc A hX ad H locs lsM hL hls
  exact lv_ixor hX.1 hX.2.1 hd (k p e s m args below meth c D tc A hX ad H locs lsM hL hls)
theorem zr_ishl {x y : Int32} (hd : decode M.2.1 pc = .ok (.ishl, 1))  (k : zW l d M (pc + 1) ls (.int (x <<< (y &&& 31)) :: st) S cs r) : zW l d M pc ls (.int y :: .int x :: st) S cs r := by
  intro p e s m args below meth c D tc A hX ad H locs lsM hL hls
  exact lv_ishl hX.1 hX.2.1 hd (k p e s m args below meth c D tc A hX ad H locs lsM hL hls)
theorem zr_ishr {x y : Int32} (hd : decode M.2.1 pc = .ok (.ishr, 1))  (k : zW l d M (pc + 1) ls (.int (x >>> (y &&& 31)) :: st) S cs r) : zW l d M pc ls (.int y :: .int x :: st) S cs r := by
  intro p e s m args below meth c D tc A hX ad H locs lsM hL hls
  exact lv_ishr hX.1 hX.2.1 hd (k p e s m args below meth c D tc A hX ad H locs lsM hL hls)
theorem zr_idiv {x y : Int32} (hd : decode M.2.1 pc = .ok (.idiv, 1)) (hne : ¬ y = 0) (k : zW l d M (pc + 1) ls (.int (x / y) :: st) S cs r) : zW l d M pc ls (.int y :: .int x :: st) S cs r := by
  intro p e s m args below meth c D tc A hX ad H locs lsM hL hls
  exact lv_idiv hX.1 hX.2.1 hd hne (k p e s m args below meth c D tc A hX ad H locs lsM hL hls)
theorem zr_irem {x y : Int32} (hd : decode M.2.1 pc = .ok (.irem, 1)) (hne : ¬ y = 0) (k : zW l d M (pc + 1) ls (.int (x - x / y * y) :: st) S cs r) : zW l d M pc ls (.int y :: .int x :: st) S cs r := by
  intro p e s m args below meth c D tc A hX ad H locs lsM hL hls
  exact lv_irem hX.1 hX.2.1 hd hne (k p e s m args below meth c D tc A hX ad H locs lsM hL hls)
theorem zr_i2l {x : Int32} (hd : decode M.2.1 pc = .ok (.i2l, 1))  (k : zW l d M (pc + 1) ls (.long x.toInt64 :: st) S cs r) : zW l d M pc ls (.int x :: st) S cs r := by
  intro p e s m args below meth c D tc A hX ad H locs lsM hL hls
  exact lv_i2l hX.1 hX.2.1 hd rfl (k p e s m args below meth c D tc A hX ad H locs lsM hL hls)
theorem zr_lconst {n : Fin 2} (hd : decode M.2.1 pc = .ok (.lconst n, 1))  (k : zW l d M (pc + 1) ls (.long (Int64.ofNat (n : Nat)) :: st) S cs r) : zW l d M pc ls (st) S cs r := by
  intro p e s m args below meth c D tc A hX ad H locs lsM hL hls
  exact lv_lconst hX.1 hX.2.1 hd rfl (k p e s m args below meth c D tc A hX ad H locs lsM hL hls)
theorem zr_lcmp {x y : Int64} (hd : decode M.2.1 pc = .ok (.lcmp, 1))  (k : zW l d M (pc + 1) ls (.int (lg_cmp x y) :: st) S cs r) : zW l d M pc ls (.long y :: .long x :: st) S cs r := by
  intro p e s m args below meth c D tc A hX ad H locs lsM hL hls
  exact W.lcmp hX.1 hX.2.1 hd (k p e s m args below meth c D tc A hX ad H locs lsM hL hls)
theorem zc_cat (ad : Nat → Nat) (v : Value) : (zc ad v).category = v.category := by cases v <;> rfl
theorem zr_dup {v : Value} (hd : decode M.2.1 pc = .ok (.dup, 1)) (hv : v.category = 1) (k : zW l d M (pc + 1) ls (v :: v :: st) S cs r) : zW l d M pc ls (v :: st) S cs r := by
  intro p e s m args below meth c D tc A hX ad H locs lsM hL hls
  exact lv_dup hX.1 hX.2.1 hd (by rw [zc_cat]; exact hv) (k p e s m args below meth c D tc A hX ad H locs lsM hL hls)
theorem zr_dup2 {v w : Value} (hd : decode M.2.1 pc = .ok (.dup2, 1)) (hv : v.category = 1) (hw : w.category = 1) (k : zW l d M (pc + 1) ls (v :: w :: v :: w :: st) S cs r) : zW l d M pc ls (v :: w :: st) S cs r := by
  intro p e s m args below meth c D tc A hX ad H locs lsM hL hls
  exact lv_dup2_11 hX.1 hX.2.1 hd (by rw [zc_cat]; exact hv) (by rw [zc_cat]; exact hw) (k p e s m args below meth c D tc A hX ad H locs lsM hL hls)
theorem zr_iload_n {i : Fin 4} {x : Int32} (hd : decode M.2.1 pc = .ok (.iload_n i, 1)) (hv : ls[i.val]? = some (.int x)) (k : zW l d M (pc + 1) ls (.int x :: st) S cs r) : zW l d M pc ls (st) S cs r := by
  intro p e s m args below meth c D tc A hX ad H locs lsM hL hls
  exact lv_iload_n hX.1 hX.2.1 hd rfl (hls.2.2 _ _ hv (by simp)).2 (k p e s m args below meth c D tc A hX ad H locs lsM hL hls)
theorem zr_iload {i : Nat} {x : Int32} (hd : decode M.2.1 pc = .ok (.iload i, 2)) (hv : ls[i]? = some (.int x)) (k : zW l d M (pc + 2) ls (.int x :: st) S cs r) : zW l d M pc ls (st) S cs r := by
  intro p e s m args below meth c D tc A hX ad H locs lsM hL hls
  exact lv_iload hX.1 hX.2.1 hd (hls.2.2 _ _ hv (by simp)).2 (k p e s m args below meth c D tc A hX ad H locs lsM hL hls)
theorem zr_aload_n {i : Fin 4} {x : Nat} (hd : decode M.2.1 pc = .ok (.aload_n i, 1)) (hv : ls[i.val]? = some (.ref x)) (k : zW l d M (pc + 1) ls (.ref x :: st) S cs r) : zW l d M pc ls (st) S cs r := by
  intro p e s m args below meth c D tc A hX ad H locs lsM hL hls
  exact lv_aload_n hX.1 hX.2.1 hd rfl (hls.2.2 _ _ hv (by simp)).2 (k p e s m args below meth c D tc A hX ad H locs lsM hL hls)
theorem zr_aload {i : Nat} {x : Nat} (hd : decode M.2.1 pc = .ok (.aload i, 2)) (hv : ls[i]? = some (.ref x)) (k : zW l d M (pc + 2) ls (.ref x :: st) S cs r) : zW l d M pc ls (st) S cs r := by
  intro p e s m args below meth c D tc A hX ad H locs lsM hL hls
  exact lv_aload hX.1 hX.2.1 hd (hls.2.2 _ _ hv (by simp)).2 (k p e s m args below meth c D tc A hX ad H locs lsM hL hls)
def zpl (ad : Nat → Nat) (i : Nat) : List Value → List (Nat × Value)
  | [] => []
  | .null :: vs => zpl ad (i + 1) vs
  | v :: vs => (i, zc ad v) :: zpl ad (i + 1) vs
theorem zpl_in {ad : Nat → Nat} : ∀ (vs : List Value) (i : Nat) (q : Nat × Value), q ∈ zpl ad i vs → ∃ (j : Nat) (v : Value), vs[j]? = some v ∧ v ≠ .null ∧ q = (i + j, zc ad v)
  | [], i, q, h => by simp [zpl] at h
  | v :: vs, i, q, h => by
    have rc : q ∈ zpl ad (i + 1) vs → ∃ (j : Nat) (w : Value), (v :: vs)[j]? = some w ∧ w ≠ .null ∧ q = (i + j, zc ad w) := fun h => by
      obtain ⟨j, w, h1, h2, h3⟩ := zpl_in vs (i + 1) q h
      exact ⟨j + 1, w, by simpa using h1, h2, by rw [h3]; congr 1; omega⟩
    cases v
    case null => exact rc (by simpa [zpl] using h)
    all_goals
      rcases List.mem_cons.mp (by simpa only [zpl] using h) with h | h
      · exact ⟨0, _, rfl, by simp, h⟩
      · exact rc h
theorem zpl_of {ad : Nat → Nat} : ∀ (vs : List Value) (i j : Nat) (v : Value), vs[j]? = some v → v ≠ .null → (i + j, zc ad v) ∈ zpl ad i vs
  | [], i, j, v, h, _ => by simp at h
  | w :: vs, i, 0, v, h, hn => by
    simp at h
    subst h
    cases w
    case null => exact absurd rfl hn
    all_goals exact List.mem_cons_self
  | w :: vs, i, j + 1, v, h, hn => by
    have h1 := zpl_of (ad := ad) vs (i + 1) j v (by simpa using h) hn
    rw [show i + (j + 1) = i + 1 + j by omega]
    cases w
    case null => simpa only [zpl] using h1
    all_goals exact List.mem_cons_of_mem _ h1
theorem zloc.has {lsM : Array Slot} {n : Nat} {ad : Nat → Nat} {ls : List Value} (h : zloc lsM n ad ls) : lv_has lsM n (zpl ad 0 ls) := by
  refine ⟨h.1, h.2.1, fun q hq => ?_⟩
  obtain ⟨j, v, h1, h2, h3⟩ := zpl_in ls 0 q hq
  rw [h3, Nat.zero_add]
  exact (h.2.2 j v h1 h2).2
theorem zloc.set {lsM ls' : Array Slot} {n : Nat} {ad : Nat → Nat} {ls : List Value} {i : Nat} {v : Value} (h : zloc lsM n ad ls) (hc : v.category = 1)
    (h' : lv_has ls' n ((i, zc ad v) :: (zpl ad 0 ls).filter (fun q => !(q.1 == i) && !(q.1 + 1 == i && q.2.category == 2)))) : zloc ls' n ad (ls.set i v) := by
  refine ⟨h'.1, h'.2.1, fun j w hj hw => ?_⟩
  by_cases e : i = j
  · subst e
    have hl : i < ls.length := by
      have := (List.getElem?_eq_some_iff.mp hj).1
      simpa using this
    rw [List.getElem?_set_self hl] at hj
    cases hj
    exact ⟨hc, h'.2.2 (i, zc ad v) List.mem_cons_self⟩
  · rw [List.getElem?_set_ne e] at hj
    obtain ⟨c1, -⟩ := h.2.2 j w hj hw
    refine ⟨c1, h'.2.2 (j, zc ad w) (List.mem_cons_of_mem _ (List.mem_filter.mpr ⟨by simpa using zpl_of ls 0 j w hj hw, ?_⟩))⟩
    have hcat : ¬ (zc ad w).category = 2 := by rw [zc_cat]; omega
    simp only [Bool.and_eq_true, Bool.not_eq_true', beq_eq_false_iff_ne, ne_eq, Bool.and_eq_false_iff]
    exact ⟨fun q => e q.symm, Or.inr hcat⟩
theorem zr_istore_n {i : Fin 4} {x : Int32} (hd : decode M.2.1 pc = .ok (.istore_n i, 1)) (hn : i.val < M.2.2.1) (k : zW l d M (pc + 1) (ls.set i.val (.int x)) st S cs r) : zW l d M pc ls (.int x :: st) S cs r := by
  intro p e s m args below meth c D tc A hX ad H locs lsM hL hls
  exact lv_istore_n hX.1 hX.2.1 hd rfl hls.has hn rfl fun ls' h => k p e s m args below meth c D tc A hX ad H locs ls' hL (hls.set rfl h)
theorem zr_istore {i : Nat} {x : Int32} (hd : decode M.2.1 pc = .ok (.istore i, 2)) (hn : i < M.2.2.1) (k : zW l d M (pc + 2) (ls.set i (.int x)) st S cs r) : zW l d M pc ls (.int x :: st) S cs r := by
  intro p e s m args below meth c D tc A hX ad H locs lsM hL hls
  exact lv_istore hX.1 hX.2.1 hd hls.has hn rfl fun ls' h => k p e s m args below meth c D tc A hX ad H locs ls' hL (hls.set rfl h)
theorem zr_astore_n {i : Fin 4} {x : Nat} (hd : decode M.2.1 pc = .ok (.astore_n i, 1)) (hn : i.val < M.2.2.1) (k : zW l d M (pc + 1) (ls.set i.val (.ref x)) st S cs r) : zW l d M pc ls (.ref x :: st) S cs r := by
  intro p e s m args below meth c D tc A hX ad H locs lsM hL hls
  exact lv_astore_n hX.1 hX.2.1 hd rfl hls.has hn rfl fun ls' h => k p e s m args below meth c D tc A hX ad H locs ls' hL (hls.set rfl h)
theorem zr_astore {i : Nat} {x : Nat} (hd : decode M.2.1 pc = .ok (.astore i, 2)) (hn : i < M.2.2.1) (k : zW l d M (pc + 2) (ls.set i (.ref x)) st S cs r) : zW l d M pc ls (.ref x :: st) S cs r := by
  intro p e s m args below meth c D tc A hX ad H locs lsM hL hls
  exact lv_astore hX.1 hX.2.1 hd hls.has hn rfl fun ls' h => k p e s m args below meth c D tc A hX ad H locs ls' hL (hls.set rfl h)
theorem zr_iinc {i : Nat} {n : Int} {x : Int32} (hd : decode M.2.1 pc = .ok (.iinc i n, 3)) (hn : i < M.2.2.1) (hv : ls[i]? = some (.int x)) (k : zW l d M (pc + 3) (ls.set i (.int (x + Int32.ofInt n))) st S cs r) : zW l d M pc ls st S cs r := by
  intro p e s m args below meth c D tc A hX ad H locs lsM hL hls
  have hm : (0 + i, Value.int x) ∈ zpl ad 0 ls := zpl_of (ad := ad) ls 0 i _ hv (by simp)
  rw [Nat.zero_add] at hm
  obtain ⟨q, hq⟩ := List.getElem?_of_mem hm
  exact lv_iinc hX.1 hX.2.1 hd hls.has hq rfl hn rfl fun ls' h => k p e s m args below meth c D tc A hX ad H locs ls' hL (hls.set rfl h)
theorem zr_if_eq {x : Int32} {off : Int} (tgt : Nat) (hd : decode M.2.1 pc = .ok (.ifCond .eq off, 3)) (ht : (pc : Int) + off = (tgt : Int)) (kt : x = 0 → zW l d M tgt ls st S cs r) (kf : ¬ (x = 0) → zW l d M (pc + 3) ls st S cs r) : zW l d M pc ls (.int x :: st) S cs r := by
  intro p e s m args below meth c D tc A hX ad H locs lsM hL hls
  exact lv_if_eq hX.1 hX.2.1 hd ht (fun h => kt h p e s m args below meth c D tc A hX ad H locs lsM hL hls) (fun h => kf h p e s m args below meth c D tc A hX ad H locs lsM hL hls)
theorem zr_icmp_eq {x y : Int32} {off : Int} (tgt : Nat) (hd : decode M.2.1 pc = .ok (.if_icmp .eq off, 3)) (ht : (pc : Int) + off = (tgt : Int)) (kt : x = y → zW l d M tgt ls st S cs r) (kf : ¬ (x = y) → zW l d M (pc + 3) ls st S cs r) : zW l d M pc ls (.int y :: .int x :: st) S cs r := by
  intro p e s m args below meth c D tc A hX ad H locs lsM hL hls
  exact lv_icmp_eq hX.1 hX.2.1 hd ht (fun h => kt h p e s m args below meth c D tc A hX ad H locs lsM hL hls) (fun h => kf h p e s m args below meth c D tc A hX ad H locs lsM hL hls)
theorem zr_if_ne {x : Int32} {off : Int} (tgt : Nat) (hd : decode M.2.1 pc = .ok (.ifCond .ne off, 3)) (ht : (pc : Int) + off = (tgt : Int)) (kt : ¬ x = 0 → zW l d M tgt ls st S cs r) (kf : x = 0 → zW l d M (pc + 3) ls st S cs r) : zW l d M pc ls (.int x :: st) S cs r := by
  intro p e s m args below meth c D tc A hX ad H locs lsM hL hls
  exact lv_if_ne hX.1 hX.2.1 hd ht (fun h => kt h p e s m args below meth c D tc A hX ad H locs lsM hL hls) (fun h => kf h p e s m args below meth c D tc A hX ad H locs lsM hL hls)
theorem zr_icmp_ne {x y : Int32} {off : Int} (tgt : Nat) (hd : decode M.2.1 pc = .ok (.if_icmp .ne off, 3)) (ht : (pc : Int) + off = (tgt : Int)) (kt : ¬ x = y → zW l d M tgt ls st S cs r) (kf : x = y → zW l d M (pc + 3) ls st S cs r) : zW l d M pc ls (.int y :: .int x :: st) S cs r := by
  intro p e s m args below meth c D tc A hX ad H locs lsM hL hls
  exact lv_icmp_ne hX.1 hX.2.1 hd ht (fun h => kt h p e s m args below meth c D tc A hX ad H locs lsM hL hls) (fun h => kf h p e s m args below meth c D tc A hX ad H locs lsM hL hls)
theorem zr_if_lt {x : Int32} {off : Int} (tgt : Nat) (hd : decode M.2.1 pc = .ok (.ifCond .lt off, 3)) (ht : (pc : Int) + off = (tgt : Int)) (kt : x < 0 → zW l d M tgt ls st S cs r) (kf : ¬ (x < 0) → zW l d M (pc + 3) ls st S cs r) : zW l d M pc ls (.int x :: st) S cs r := by
  intro p e s m args below meth c D tc A hX ad H locs lsM hL hls
  exact lv_if_lt hX.1 hX.2.1 hd ht (fun h => kt h p e s m args below meth c D tc A hX ad H locs lsM hL hls) (fun h => kf h p e s m args below meth c D tc A hX ad H locs lsM hL hls)
theorem zr_icmp_lt {x y : Int32} {off : Int} (tgt : Nat) (hd : decode M.2.1 pc = .ok (.if_icmp .lt off, 3)) (ht : (pc : Int) + off = (tgt : Int)) (kt : x < y → zW l d M tgt ls st S cs r) (kf : ¬ (x < y) → zW l d M (pc + 3) ls st S cs r) : zW l d M pc ls (.int y :: .int x :: st) S cs r := by
  intro p e s m args below meth c D tc A hX ad H locs lsM hL hls
  exact lv_icmp_lt hX.1 hX.2.1 hd ht (fun h => kt h p e s m args below meth c D tc A hX ad H locs lsM hL hls) (fun h => kf h p e s m args below meth c D tc A hX ad H locs lsM hL hls)
theorem zr_if_ge {x : Int32} {off : Int} (tgt : Nat) (hd : decode M.2.1 pc = .ok (.ifCond .ge off, 3)) (ht : (pc : Int) + off = (tgt : Int)) (kt : 0 ≤ x → zW l d M tgt ls st S cs r) (kf : ¬ (0 ≤ x) → zW l d M (pc + 3) ls st S cs r) : zW l d M pc ls (.int x :: st) S cs r := by
  intro p e s m args below meth c D tc A hX ad H locs lsM hL hls
  exact lv_if_ge hX.1 hX.2.1 hd ht (fun h => kt h p e s m args below meth c D tc A hX ad H locs lsM hL hls) (fun h => kf h p e s m args below meth c D tc A hX ad H locs lsM hL hls)
theorem zr_icmp_ge {x y : Int32} {off : Int} (tgt : Nat) (hd : decode M.2.1 pc = .ok (.if_icmp .ge off, 3)) (ht : (pc : Int) + off = (tgt : Int)) (kt : y ≤ x → zW l d M tgt ls st S cs r) (kf : ¬ (y ≤ x) → zW l d M (pc + 3) ls st S cs r) : zW l d M pc ls (.int y :: .int x :: st) S cs r := by
  intro p e s m args below meth c D tc A hX ad H locs lsM hL hls
  exact lv_icmp_ge hX.1 hX.2.1 hd ht (fun h => kt h p e s m args below meth c D tc A hX ad H locs lsM hL hls) (fun h => kf h p e s m args below meth c D tc A hX ad H locs lsM hL hls)
theorem zr_if_gt {x : Int32} {off : Int} (tgt : Nat) (hd : decode M.2.1 pc = .ok (.ifCond .gt off, 3)) (ht : (pc : Int) + off = (tgt : Int)) (kt : 0 < x → zW l d M tgt ls st S cs r) (kf : ¬ (0 < x) → zW l d M (pc + 3) ls st S cs r) : zW l d M pc ls (.int x :: st) S cs r := by
  intro p e s m args below meth c D tc A hX ad H locs lsM hL hls
  exact lv_if_gt hX.1 hX.2.1 hd ht (fun h => kt h p e s m args below meth c D tc A hX ad H locs lsM hL hls) (fun h => kf h p e s m args below meth c D tc A hX ad H locs lsM hL hls)
theorem zr_icmp_gt {x y : Int32} {off : Int} (tgt : Nat) (hd : decode M.2.1 pc = .ok (.if_icmp .gt off, 3)) (ht : (pc : Int) + off = (tgt : Int)) (kt : y < x → zW l d M tgt ls st S cs r) (kf : ¬ (y < x) → zW l d M (pc + 3) ls st S cs r) : zW l d M pc ls (.int y :: .int x :: st) S cs r := by
  intro p e s m args below meth c D tc A hX ad H locs lsM hL hls
  exact lv_icmp_gt hX.1 hX.2.1 hd ht (fun h => kt h p e s m args below meth c D tc A hX ad H locs lsM hL hls) (fun h => kf h p e s m args below meth c D tc A hX ad H locs lsM hL hls)
theorem zr_if_le {x : Int32} {off : Int} (tgt : Nat) (hd : decode M.2.1 pc = .ok (.ifCond .le off, 3)) (ht : (pc : Int) + off = (tgt : Int)) (kt : x ≤ 0 → zW l d M tgt ls st S cs r) (kf : ¬ (x ≤ 0) → zW l d M (pc + 3) ls st S cs r) : zW l d M pc ls (.int x :: st) S cs r := by
  intro p e s m args below meth c D tc A hX ad H locs lsM hL hls
  exact lv_if_le hX.1 hX.2.1 hd ht (fun h => kt h p e s m args below meth c D tc A hX ad H locs lsM hL hls) (fun h => kf h p e s m args below meth c D tc A hX ad H locs lsM hL hls)
theorem zr_icmp_le {x y : Int32} {off : Int} (tgt : Nat) (hd : decode M.2.1 pc = .ok (.if_icmp .le off, 3)) (ht : (pc : Int) + off = (tgt : Int)) (kt : x ≤ y → zW l d M tgt ls st S cs r) (kf : ¬ (x ≤ y) → zW l d M (pc + 3) ls st S cs r) : zW l d M pc ls (.int y :: .int x :: st) S cs r := by
  intro p e s m args below meth c D tc A hX ad H locs lsM hL hls
  exact lv_icmp_le hX.1 hX.2.1 hd ht (fun h => kt h p e s m args below meth c D tc A hX ad H locs lsM hL hls) (fun h => kf h p e s m args below meth c D tc A hX ad H locs lsM hL hls)
theorem zr_goto {off : Int} (tgt : Nat) (hd : decode M.2.1 pc = .ok (.goto off, 3)) (ht : (pc : Int) + off = (tgt : Int)) (k : zW l d M tgt ls st S cs r) : zW l d M pc ls st S cs r := by
  intro p e s m args below meth c D tc A hX ad H locs lsM hL hls
  exact lv_goto hX.1 hX.2.1 hd ht (k p e s m args below meth c D tc A hX ad H locs lsM hL hls)
theorem zr_tabIn {dflt lo hi : Int} {offs : Array Int} {len : Nat} {x : Int32} {off : Int} (tgt : Nat) (hd : decode M.2.1 pc = .ok (.tableswitch dflt lo hi offs, len)) (h1 : ¬ x.toInt < lo) (h2 : ¬ hi < x.toInt) (ho : offs[(x.toInt - lo).toNat]? = some off) (ht : (pc : Int) + off = (tgt : Int)) (k : zW l d M tgt ls st S cs r) : zW l d M pc ls (.int x :: st) S cs r := by
  intro p e s m args below meth c D tc A hX ad H locs lsM hL hls
  exact lv_tableIn hX.1 hX.2.1 hd h1 h2 ho ht (k p e s m args below meth c D tc A hX ad H locs lsM hL hls)
theorem zr_tabOut {dflt lo hi : Int} {offs : Array Int} {len : Nat} {x : Int32} (tgt : Nat) (hd : decode M.2.1 pc = .ok (.tableswitch dflt lo hi offs, len)) (h : x.toInt < lo ∨ hi < x.toInt) (ht : (pc : Int) + dflt = (tgt : Int)) (k : zW l d M tgt ls st S cs r) : zW l d M pc ls (.int x :: st) S cs r := by
  intro p e s m args below meth c D tc A hX ad H locs lsM hL hls
  exact lv_tableOut hX.1 hX.2.1 hd h ht (k p e s m args below meth c D tc A hX ad H locs lsM hL hls)
/-- a class of the list, its field rows, and that it can be made -/
def zC (ci : Nat) (C : String) (T : u_T) (N : Nat) (ty : Nat → FieldType) : Prop := zcl[ci]? = some (C, T, N) ∧ (∀ w ∈ u_ws C T N, zI w) ∧ (∀ k, k < N → parseFieldDescriptor (T k).2.2.1 = some (ty k)) ∧ (∀ a, a < N → ∀ b, b < N → a ≠ b → (T a).2.1 ≠ (T b).2.1) ∧ zI (.instantiable C N) ∧ zI (.initialized C)
def zU (σ : Nat → Nat → Int32) (k j : Nat) (x : Int32) : Nat → Nat → Int32 := fun a b => if a = k ∧ b = j then x else σ a b
theorem zU_row (σ : Nat → Nat → Int32) (k j : Nat) (x : Int32) : zU σ k j x k = upd (σ k) j x := by
  funext b
  simp [zU, upd]
theorem zU_other (σ : Nat → Nat → Int32) {k j a : Nat} (x : Int32) (h : a ≠ k) : zU σ k j x a = σ a := by
  funext b
  simp [zU, h]
theorem zw_set {tc : Nat → ClassId} {ad : Nat → Nat} {S : zS} {k : Nat} {z z' : zs} {g : Nat → Nat → Int32} (h : S.1[k]? = some z) (hg : ∀ a, a ≠ k → g a = S.2 a) : (zw tc ad S).set k (ad k, zce tc ad (g k) z') = zw tc ad (S.1.set k z', g) := by
  have hl := (List.getElem?_eq_some_iff.mp h).1
  apply List.ext_getElem?
  intro j
  unfold zw
  by_cases e : j = k
  · subst e
    rw [List.getElem?_set_self (by simpa using hl), List.getElem?_mapIdx]
    simp [List.getElem?_set_self hl]
  · rw [List.getElem?_set_ne (fun q => e q.symm), List.getElem?_mapIdx, List.getElem?_mapIdx]
    simp only [List.getElem?_set_ne (fun q => e q.symm)]
    rw [hg j e]
theorem zw_num {tc : Nat → ClassId} {ad : Nat → Nat} {S : zS} {k : Nat} {z : zs} {g : Nat → Nat → Int32} (h : S.1[k]? = some z) (hg : ∀ a, a ≠ k → g a = S.2 a) : (zw tc ad S).set k (ad k, zce tc ad (g k) z) = zw tc ad (S.1, g) := by
  have e : S.1.set k z = S.1 := by
    apply List.ext_getElem?
    intro j
    by_cases e : j = k
    · subst e
      rw [List.getElem?_set_self (List.getElem?_eq_some_iff.mp h).1, h]
    · rw [List.getElem?_set_ne (fun q => e q.symm)]
  rw [zw_set h hg, e]
theorem zE.keep {below : List Frame} {s : State} {D : va_G} {tc : Nat → ClassId} {A : Nat → Prop} {ad : Nat → Nat} {S S1 : zS} {r : zR} (h : S1.1 = S.1) {t : State} (hz : zE below s D tc A ad S1 r t) : zE below s D tc A ad S r t := by
  obtain ⟨o, h1, h2, ⟨ad', q1, q2, q3, q4⟩, h4⟩ := hz
  rw [h] at q1 q2 q3
  exact ⟨o, h1, h2, ⟨ad', q1, q2, q3, q4⟩, h4⟩
theorem W.imp {p : Program} {l : Launch} {e : Env} {R : Room} {s : State} {m : MethodId} {args : Array Value} {below : List Frame} {meth : Method} {c : Code} {H : Heap} {locs : List Loc} {cells slots : Nat} {Q Q1 : State → Prop} {g : JFrame} (h : ∀ t, Q1 t → Q t) (k : W p l e R s m args below meth c H locs cells slots Q1 g) : W p l e R s m args below meth c H locs cells slots Q g := by
  intro T hT X
  obtain ⟨t, a, b⟩ := k T hT X
  exact ⟨t, a, h t b⟩
theorem zL.next {M : zM} {D : va_G} {tc : Nat → ClassId} {A : Nat → Prop} {ad : Nat → Nat} {s : State} {S S1 : zS} {H H1 : Heap} {locs locs1 : List Loc} (h : zL M D tc A ad s S H locs) (hP : va_P D zcl (zw tc ad S1) H1) (hD : va_D A (zw tc ad S1)) (hS : va_S A s.heap H1 locs1) : zL M D tc A ad s S1 H1 locs1 := ⟨hP, hD, hS, h.2.2.2⟩
abbrev zX.T {l : Launch} {p : Program} {s : State} {m : MethodId} {meth : Method} {c : Code} {M : zM} {D : va_G} {tc : Nat → ClassId} {A : Nat → Prop} (hX : zX l p s m meth c M D tc A) : zT A s := hX.2.2.2.2.2.2.2.2.1
abbrev zX.K {l : Launch} {p : Program} {s : State} {m : MethodId} {meth : Method} {c : Code} {M : zM} {D : va_G} {tc : Nat → ClassId} {A : Nat → Prop} (hX : zX l p s m meth c M D tc A) : va_K D zcl (zK tc) s := hX.2.2.2.2.2.2.2.2.2.1
abbrev zX.own {l : Launch} {p : Program} {s : State} {m : MethodId} {meth : Method} {c : Code} {M : zM} {D : va_G} {tc : Nat → ClassId} {A : Nat → Prop} (hX : zX l p s m meth c M D tc A) : s.vm.findClass M.1.cls = some m.cls := hX.2.2.2.2.2.2.1
theorem zr_get {ci q j N index : Nat} {C : String} {T : u_T} {ty : Nat → FieldType} {fs : List (Option (Option Nat))} {f : Option (Option Nat)} (hd : decode M.2.1 pc = .ok (.getfield index, 3)) (hC : zC ci C T N ty) (hS : S.1[q]? = some (.inr (ci, fs))) (hl : zI (.fieldLink M.1.cls index (T j).1 (T j).2.1 (T j).2.2.1)) (hj : j < N) (hf : fs[j]? = some f) {v : Value} (hv : ∀ ad, zc ad v = zfv ad (S.2 q) j f) (k : zW l d M (pc + 3) ls (v :: st) S cs r) : zW l d M pc ls (.ref q :: st) S cs r := by
  intro p e s m args below meth c D tc A hX ad H locs lsM hL hls
  have h1 : (zw tc ad S)[q]? = some (ad q, .inr (ci, fs.mapIdx (fun j f => zfv ad (S.2 q) j f))) := zw_at hS
  refine va_get hX.1 hX.2.1 (fun w h => hX.T.w (hC.2.1 w h)) (fun _ h => h) hX.own hX.K hL.1 q h1 hC.1 j hj (hX.T.w hl) (fun _ h => h) (v := zfv ad (S.2 q) j f) (by rw [List.getElem?_mapIdx, hf]; rfl) hd ?_
  rw [← hv ad]
  exact k p e s m args below meth c D tc A hX ad H locs lsM hL hls
theorem zr_geti {ci q j N index : Nat} {C : String} {T : u_T} {ty : Nat → FieldType} {fs : List (Option (Option Nat))} (hd : decode M.2.1 pc = .ok (.getfield index, 3)) (hC : zC ci C T N ty) (hl : zI (.fieldLink M.1.cls index (T j).1 (T j).2.1 (T j).2.2.1)) (hj : j < N) (hS : S.1[q]? = some (.inr (ci, fs))) (hf : fs[j]? = some none) (k : zW l d M (pc + 3) ls (.int (S.2 q j) :: st) S cs r) : zW l d M pc ls (.ref q :: st) S cs r := zr_get hd hC hS hl hj hf (fun _ => rfl) k
theorem zr_getr {ci q j N index x : Nat} {C : String} {T : u_T} {ty : Nat → FieldType} {fs : List (Option (Option Nat))} (hd : decode M.2.1 pc = .ok (.getfield index, 3)) (hC : zC ci C T N ty) (hl : zI (.fieldLink M.1.cls index (T j).1 (T j).2.1 (T j).2.2.1)) (hj : j < N) (hS : S.1[q]? = some (.inr (ci, fs))) (hf : fs[j]? = some (some (some x))) (k : zW l d M (pc + 3) ls (.ref x :: st) S cs r) : zW l d M pc ls (.ref q :: st) S cs r := zr_get hd hC hS hl hj hf (fun _ => rfl) k
theorem zmap_num {ad : Nat → Nat} {g : Nat → Int32} {fs : List (Option (Option Nat))} {j : Nat} {x : Int32} (hf : fs[j]? = some none) : (fs.mapIdx (fun j f => zfv ad g j f)).set j (.int x) = fs.mapIdx (fun i f => zfv ad (upd g j x) i f) := by
  have hl := (List.getElem?_eq_some_iff.mp hf).1
  apply List.ext_getElem?
  intro i
  by_cases e : i = j
  · subst e
    rw [List.getElem?_set_self (by simpa using hl), List.getElem?_mapIdx, hf]
    simp [zfv, upd]
  · rw [List.getElem?_set_ne (fun q => e q.symm), List.getElem?_mapIdx, List.getElem?_mapIdx]
    cases h : fs[i]? with
    | none => rfl
    | some f =>
      cases f with
      | none => simp [zfv, upd, e]
      | some f => cases f <;> rfl
theorem zmap_ref {ad : Nat → Nat} {g : Nat → Int32} {fs : List (Option (Option Nat))} {j x : Nat} (hl : j < fs.length) : (fs.mapIdx (fun j f => zfv ad g j f)).set j (.ref (ad x)) = (fs.set j (some (some x))).mapIdx (fun j f => zfv ad g j f) := by
  apply List.ext_getElem?
  intro i
  by_cases e : i = j
  · subst e
    rw [List.getElem?_set_self (by simpa using hl), List.getElem?_mapIdx, List.getElem?_set_self hl]
    rfl
  · rw [List.getElem?_set_ne (fun q => e q.symm), List.getElem?_mapIdx, List.getElem?_mapIdx, List.getElem?_set_ne (fun q => e q.symm)]
theorem zr_puti {ci q j N index : Nat} {C : String} {T : u_T} {ty : Nat → FieldType} {fs : List (Option (Option Nat))} {x : Int32} (hd : decode M.2.1 pc = .ok (.putfield index, 3)) (hC : zC ci C T N ty) (hl : zI (.fieldLink M.1.cls index (T j).1 (T j).2.1 (T j).2.2.1)) (hj : j < N) (hfin : (T j).2.2.2 = false) (hty : ty j = .int) (hS : S.1[q]? = some (.inr (ci, fs))) (hf : fs[j]? = some none) (k : zW l d M (pc + 3) ls st (S.1, zU S.2 q j x) cs r) : zW l d M pc ls (.int x :: .ref q :: st) S cs r := by
  intro p e s m args below meth c D tc A hX ad H locs lsM hL hls
  have h1 : (zw tc ad S)[q]? = some (ad q, .inr (ci, fs.mapIdx (fun j f => zfv ad (S.2 q) j f))) := zw_at hS
  have hpd : parseFieldDescriptor (T j).2.2.1 = some .int := by rw [hC.2.2.1 j hj, hty]
  refine va_put hX.1 hX.2.1 (fun w h => hX.T.w (hC.2.1 w h)) (fun _ h => h) ty hC.2.2.1 hC.2.2.2.1 hX.own hX.K hL.1 hL.2.1 hL.2.2.1 q h1 hC.1 j hj (hX.T.w hl) (fun _ h => h) hfin hpd rfl rfl (by simpa using (List.getElem?_eq_some_iff.mp hf).1) hd ?_
  intro H1 locs1 hP hD hS1
  have e1 : (zw tc ad S).set q (ad q, .inr (ci, (fs.mapIdx (fun j f => zfv ad (S.2 q) j f)).set j (.int x))) = zw tc ad (S.1, zU S.2 q j x) := by
    rw [zmap_num hf, ← zU_row S.2 q j x]
    exact zw_num (z := .inr (ci, fs)) hS (fun a ha => zU_other S.2 x ha)
  have hP2 : va_P D zcl ((zw tc ad S).set q (ad q, .inr (ci, (fs.mapIdx (fun j f => zfv ad (S.2 q) j f)).set j (.int x)))) H1 := hP
  have hD2 : va_D A ((zw tc ad S).set q (ad q, .inr (ci, (fs.mapIdx (fun j f => zfv ad (S.2 q) j f)).set j (.int x)))) := hD
  rw [e1] at hP2 hD2
  exact W.imp (fun t h => zE.keep (S := S) (S1 := (S.1, zU S.2 q j x)) rfl h) (k p e s m args below meth c D tc A hX ad H1 locs1 lsM (hL.next hP2 hD2 hS1) hls)
theorem zr_putiF {ci q j N index : Nat} {C : String} {T : u_T} {ty : Nat → FieldType} {fs : List (Option (Option Nat))} {x : Int32} (hd : decode M.2.1 pc = .ok (.putfield index, 3)) (hC : zC ci C T N ty) (hl : zI (.fieldLink M.1.cls index (T j).1 (T j).2.1 (T j).2.2.1)) (hj : j < N) (hfin : (T j).2.2.2 = true) (hi : M.1.name = "<init>") (ho : (T j).1 = M.1.cls) (hty : ty j = .int) (hS : S.1[q]? = some (.inr (ci, fs))) (hf : fs[j]? = some none) (k : zW l d M (pc + 3) ls st (S.1, zU S.2 q j x) cs r) : zW l d M pc ls (.int x :: .ref q :: st) S cs r := by
  intro p e s m args below meth c D tc A hX ad H locs lsM hL hls
  have h1 : (zw tc ad S)[q]? = some (ad q, .inr (ci, fs.mapIdx (fun j f => zfv ad (S.2 q) j f))) := zw_at hS
  have hpd : parseFieldDescriptor (T j).2.2.1 = some .int := by rw [hC.2.2.1 j hj, hty]
  refine va_putF hX.1 hX.2.1 (fun w h => hX.T.w (hC.2.1 w h)) (fun _ h => h) ty hC.2.2.1 hC.2.2.2.1 hX.own hX.K hL.1 hL.2.1 hL.2.2.1 q h1 hC.1 j hj (hX.T.w hl) (fun _ h => h) hfin (hX.2.2.2.2.2.1.trans hi) ho hpd rfl rfl (by simpa using (List.getElem?_eq_some_iff.mp hf).1) hd ?_
  intro H1 locs1 hP hD hS1
  have e1 : (zw tc ad S).set q (ad q, .inr (ci, (fs.mapIdx (fun j f => zfv ad (S.2 q) j f)).set j (.int x))) = zw tc ad (S.1, zU S.2 q j x) := by
    rw [zmap_num hf, ← zU_row S.2 q j x]
    exact zw_num (z := .inr (ci, fs)) hS (fun a ha => zU_other S.2 x ha)
  have hP2 : va_P D zcl ((zw tc ad S).set q (ad q, .inr (ci, (fs.mapIdx (fun j f => zfv ad (S.2 q) j f)).set j (.int x)))) H1 := hP
  have hD2 : va_D A ((zw tc ad S).set q (ad q, .inr (ci, (fs.mapIdx (fun j f => zfv ad (S.2 q) j f)).set j (.int x)))) := hD
  rw [e1] at hP2 hD2
  exact W.imp (fun t h => zE.keep (S := S) (S1 := (S.1, zU S.2 q j x)) rfl h) (k p e s m args below meth c D tc A hX ad H1 locs1 lsM (hL.next hP2 hD2 hS1) hls)
theorem zr_putrF {ci q j N index x : Nat} {C : String} {T : u_T} {ty : Nat → FieldType} {fs : List (Option (Option Nat))} (hd : decode M.2.1 pc = .ok (.putfield index, 3)) (hC : zC ci C T N ty) (hl : zI (.fieldLink M.1.cls index (T j).1 (T j).2.1 (T j).2.2.1)) (hj : j < N) (hfin : (T j).2.2.2 = true) (hi : M.1.name = "<init>") (ho : (T j).1 = M.1.cls) (hty : (∃ n, ty j = .object n) ∨ ∃ t, ty j = .array t) (hS : S.1[q]? = some (.inr (ci, fs))) (hf : j < fs.length) (hr : r.2.1.1 = S.1 → False) (k : zW l d M (pc + 3) ls st (S.1.set q (.inr (ci, fs.set j (some (some x)))), S.2) cs r) : zW l d M pc ls (.ref x :: .ref q :: st) S cs r := by
  intro p e s m args below meth c D tc A hX ad H locs lsM hL hls
  have h1 : (zw tc ad S)[q]? = some (ad q, .inr (ci, fs.mapIdx (fun j f => zfv ad (S.2 q) j f))) := zw_at hS
  have hpd : parseFieldDescriptor (T j).2.2.1 = some (ty j) := hC.2.2.1 j hj
  have hn : narrow (ty j) (.ref (ad x)) = .ref (ad x) := by rcases hty with ⟨n, h⟩ | ⟨n, h⟩ <;> rw [h] <;> rfl
  have hfit : fits (ty j) (.ref (ad x)) = true := by rcases hty with ⟨n, h⟩ | ⟨n, h⟩ <;> rw [h] <;> rfl
  refine va_putF hX.1 hX.2.1 (fun w h => hX.T.w (hC.2.1 w h)) (fun _ h => h) ty hC.2.2.1 hC.2.2.2.1 hX.own hX.K hL.1 hL.2.1 hL.2.2.1 q h1 hC.1 j hj (hX.T.w hl) (fun _ h => h) hfin (hX.2.2.2.2.2.1.trans hi) ho hpd hn hfit (by simpa using hf) hd ?_
  intro H1 locs1 hP hD hS1
  have e1 : (zw tc ad S).set q (ad q, .inr (ci, (fs.mapIdx (fun j f => zfv ad (S.2 q) j f)).set j (.ref (ad x)))) = zw tc ad (S.1.set q (.inr (ci, fs.set j (some (some x)))), S.2) := by
    rw [zmap_ref hf]
    exact zw_set (z := .inr (ci, fs)) (z' := .inr (ci, fs.set j (some (some x)))) hS (fun a ha => rfl)
  have hP2 : va_P D zcl ((zw tc ad S).set q (ad q, .inr (ci, (fs.mapIdx (fun j f => zfv ad (S.2 q) j f)).set j (.ref (ad x))))) H1 := hP
  have hD2 : va_D A ((zw tc ad S).set q (ad q, .inr (ci, (fs.mapIdx (fun j f => zfv ad (S.2 q) j f)).set j (.ref (ad x))))) := hD
  rw [e1] at hP2 hD2
  refine W.imp (fun t h => ?_) (k p e s m args below meth c D tc A hX ad H1 locs1 lsM (hL.next hP2 hD2 hS1) hls)
  obtain ⟨o, a1, a2, ⟨ad', q1, q2, q3, q4⟩, a4⟩ := h
  exact ⟨o, a1, a2, ⟨ad', by simpa using q1, fun h => (hr h).elim, by simpa using q3, q4⟩, a4⟩
theorem zr_iald {q n : Nat} {i : Int32} (hd : decode M.2.1 pc = .ok (.iaload, 1)) (hS : S.1[q]? = some (.inl (0, n))) (hin : vp_in i n) (k : zW l d M (pc + 1) ls (.int (S.2 q i.toNatClampNeg) :: st) S cs r) : zW l d M pc ls (.int i :: .ref q :: st) S cs r := by
  intro p e s m args below meth c D tc A hX ad H locs lsM hL hls
  exact va_iald hX.1 hX.2.1 hX.K hL.1 q 0 (zw_at hS) (zK_at tc 0 (by decide)) hin hd (k p e s m args below meth c D tc A hX ad H locs lsM hL hls)
theorem zr_zald {q n : Nat} {i : Int32} (hd : decode M.2.1 pc = .ok (.baload, 1)) (hS : S.1[q]? = some (.inl (1, n))) (hin : vp_in i n) (k : zW l d M (pc + 1) ls (.int (S.2 q i.toNatClampNeg) :: st) S cs r) : zW l d M pc ls (.int i :: .ref q :: st) S cs r := by
  intro p e s m args below meth c D tc A hX ad H locs lsM hL hls
  exact va_zald hX.1 hX.2.1 hX.K hL.1 q 1 (zw_at hS) (zK_at tc 1 (by decide)) hin hd (k p e s m args below meth c D tc A hX ad H locs lsM hL hls)
theorem zr_lald {q n : Nat} {i : Int32} (hd : decode M.2.1 pc = .ok (.laload, 1)) (hS : S.1[q]? = some (.inl (2, n))) (hin : vp_in i n) (k : zW l d M (pc + 1) ls (.long (S.2 q i.toNatClampNeg).toInt64 :: st) S cs r) : zW l d M pc ls (.int i :: .ref q :: st) S cs r := by
  intro p e s m args below meth c D tc A hX ad H locs lsM hL hls
  exact va_lald hX.1 hX.2.1 hX.K hL.1 q 2 (zw_at hS) (zK_at tc 2 (by decide)) hin hd (k p e s m args below meth c D tc A hX ad H locs lsM hL hls)
theorem zr_iast {q n : Nat} {i x : Int32} (hd : decode M.2.1 pc = .ok (.iastore, 1)) (hS : S.1[q]? = some (.inl (0, n))) (hin : vp_in i n) (k : zW l d M (pc + 1) ls st (S.1, zU S.2 q i.toNatClampNeg x) cs r) : zW l d M pc ls (.int x :: .int i :: .ref q :: st) S cs r := by
  intro p e s m args below meth c D tc A hX ad H locs lsM hL hls
  refine va_iast hX.1 hX.2.1 hX.K hL.1 hL.2.1 hL.2.2.1 q 0 (zw_at hS) (zK_at tc 0 (by decide)) hin hd ?_
  intro H1 locs1 hP hD hS1
  have e1 : (zw tc ad S).set q (ad q, .inl (tc 0, n, .inl (upd (S.2 q) i.toNatClampNeg x))) = zw tc ad (S.1, zU S.2 q i.toNatClampNeg x) := by
    rw [← zU_row S.2 q i.toNatClampNeg x]
    exact zw_num (z := .inl (0, n)) hS (fun a ha => zU_other S.2 x ha)
  rw [e1] at hP hD
  exact W.imp (fun t h => zE.keep (S := S) (S1 := (S.1, zU S.2 q i.toNatClampNeg x)) rfl h) (k p e s m args below meth c D tc A hX ad H1 locs1 lsM (hL.next hP hD hS1) hls)
theorem zr_zast {q n : Nat} {i x : Int32} (hd : decode M.2.1 pc = .ok (.bastore, 1)) (hS : S.1[q]? = some (.inl (1, n))) (hin : vp_in i n) (hx : x = 0 ∨ x = 1) (k : zW l d M (pc + 1) ls st (S.1, zU S.2 q i.toNatClampNeg x) cs r) : zW l d M pc ls (.int x :: .int i :: .ref q :: st) S cs r := by
  intro p e s m args below meth c D tc A hX ad H locs lsM hL hls
  refine va_zast hX.1 hX.2.1 hX.K hL.1 hL.2.1 hL.2.2.1 q 1 (zw_at hS) (zK_at tc 1 (by decide)) hin hd ?_
  intro H1 locs1 hP hD hS1
  have hv : vp_nar .boolean x = x := by rcases hx with rfl | rfl <;> rfl
  rw [hv] at hP hD
  have e1 : (zw tc ad S).set q (ad q, .inl (tc 1, n, .inl (upd (S.2 q) i.toNatClampNeg x))) = zw tc ad (S.1, zU S.2 q i.toNatClampNeg x) := by
    rw [← zU_row S.2 q i.toNatClampNeg x]
    exact zw_num (z := .inl (1, n)) hS (fun a ha => zU_other S.2 x ha)
  rw [e1] at hP hD
  exact W.imp (fun t h => zE.keep (S := S) (S1 := (S.1, zU S.2 q i.toNatClampNeg x)) rfl h) (k p e s m args below meth c D tc A hX ad H1 locs1 lsM (hL.next hP hD hS1) hls)
theorem zr_last {q n : Nat} {i x : Int32} (hd : decode M.2.1 pc = .ok (.lastore, 1)) (hS : S.1[q]? = some (.inl (2, n))) (hin : vp_in i n) (k : zW l d M (pc + 1) ls st (S.1, zU S.2 q i.toNatClampNeg x) cs r) : zW l d M pc ls (.long x.toInt64 :: .int i :: .ref q :: st) S cs r := by
  intro p e s m args below meth c D tc A hX ad H locs lsM hL hls
  refine va_last hX.1 hX.2.1 hX.K hL.1 hL.2.1 hL.2.2.1 q 2 (zw_at hS) (zK_at tc 2 (by decide)) hin hd ?_
  intro H1 locs1 hP hD hS1
  have e1 : (zw tc ad S).set q (ad q, .inl (tc 2, n, .inr (.inl (vp_updL (fun j => (S.2 q j).toInt64) i.toNatClampNeg x.toInt64)))) = zw tc ad (S.1, zU S.2 q i.toNatClampNeg x) := by
    have e2 : (vp_updL (fun j => (S.2 q j).toInt64) i.toNatClampNeg x.toInt64) = fun j => (zU S.2 q i.toNatClampNeg x q j).toInt64 := by
      funext j
      rw [zU_row]
      unfold vp_updL upd
      split <;> rfl
    rw [e2]
    exact zw_num (z := .inl (2, n)) hS (fun a ha => zU_other S.2 x ha)
  rw [e1] at hP hD
  exact W.imp (fun t h => zE.keep (S := S) (S1 := (S.1, zU S.2 q i.toNatClampNeg x)) rfl h) (k p e s m args below meth c D tc A hX ad H1 locs1 lsM (hL.next hP hD hS1) hls)
theorem zr_alen {q t n : Nat} (hd : decode M.2.1 pc = .ok (.arraylength, 1)) (hS : S.1[q]? = some (.inl (t, n))) (ht : t < 3) (k : zW l d M (pc + 1) ls (.int (Int32.ofNat n) :: st) S cs r) : zW l d M pc ls (.ref q :: st) S cs r := by
  intro p e s m args below meth c D tc A hX ad H locs lsM hL hls
  exact va_alen hX.1 hX.2.1 hX.K hL.1 q t (zw_at hS) (zK_at tc t ht) rfl hd (k p e s m args below meth c D tc A hX ad H locs lsM hL hls)
theorem zr_sld {L : Nat} {xs : Nat → Int32} {i : Int32} (hd : decode M.2.1 pc = .ok (.iaload, 1)) (hM : M.2.2.2.2.2 = some (L, xs)) (hin : vp_in i L) (k : zW l d M (pc + 1) ls (.int (xs i.toNatClampNeg) :: st) S cs r) : zW l d M pc ls (.int i :: .ref 999 :: st) S cs r := by
  intro p e s m args below meth c D tc A hX ad H locs lsM hL hls
  obtain ⟨hx, hb, hA⟩ := hL.2.2.2 L xs hM
  exact va_sld hX.1 hX.2.1 hx hb hA hL.2.2.1 hin hd (k p e s m args below meth c D tc A hX ad H locs lsM hL hls)
theorem zr_slen {L : Nat} {xs : Nat → Int32} (hd : decode M.2.1 pc = .ok (.arraylength, 1)) (hM : M.2.2.2.2.2 = some (L, xs)) (k : zW l d M (pc + 1) ls (.int (Int32.ofNat L) :: st) S cs r) : zW l d M pc ls (.ref 999 :: st) S cs r := by
  intro p e s m args below meth c D tc A hX ad H locs lsM hL hls
  obtain ⟨hx, hb, hA⟩ := hL.2.2.2 L xs hM
  exact va_slen hX.1 hX.2.1 hx hb hA hL.2.2.1 hd (k p e s m args below meth c D tc A hX ad H locs lsM hL hls)
theorem zend_ret {p : Program} {e : Env} {s : State} {m : MethodId} {args : Array Value} {below : List Frame} {meth : Method} {c : Code} {D : va_G} {tc : Nat → ClassId} {A : Nat → Prop} (hX : zX l p s m meth c M D tc A) {ad : Nat → Nat} {H : Heap} {locs : List Loc} (hL : zL M D tc A ad s S H locs) {v : Option Value} {mc ms : Nat} {g : JFrame}
    (h : W p l e (zrm d (.inl v, S, mc, ms)) s m args below meth c H locs mc ms (MQ below (fun _ st o t => o = .returned (v.map (zc ad)) ∧ t.heap = H) args s mc ms (fun q => A q)) g) : W p l e (zrm d (.inl v, S, mc, ms)) s m args below meth c H locs mc ms (zE below s D tc A ad S (.inl v, S, mc, ms)) g := by
  refine W.imp (fun t ht => ?_) h
  obtain ⟨o, h1, h2, ⟨h3, h4⟩, L, ⟨-, h5, h6⟩, h7⟩ := ht
  refine ⟨o, h1, h2, ⟨ad, fun _ _ => rfl, fun _ => rfl, Nat.le_refl _, h3, ?_, hL.2.1, ?_⟩, h5, L, h6, h7⟩
  · rw [h4]; exact hL.1
  · exact ⟨by rw [h4]; exact hL.2.2.1.1, fun q g1 g2 => by rw [h4]; exact hL.2.2.1.2.1 q g1 g2⟩
theorem zr_iret {x : Int32} (hr : M.2.2.2.1 = some .int) (hd : decode M.2.1 pc = .ok (.ireturn, 1)) {mc ms : Nat} (h1 : cs.1 ≤ mc) (h2 : cs.2 ≤ ms) : zW l d M pc ls ([.int x]) S cs (.inl (some (.int x)), S, mc, ms) := by
  intro p e s m args below meth c D tc A hX ad H locs lsM hL hls
  refine W.widen h1 h2 (zend_ret hX hL ?_)
  exact W.iret hX.1 hX.2.1 (hX.2.2.2.1.trans hr) (fun t ht _ => ⟨rfl, ht⟩) hL.2.2.1.2.2 hd hX.2.2.2.2.1
theorem zr_zret {x : Int32} (hr : M.2.2.2.1 = some .boolean) (hx : x = 0 ∨ x = 1) (hd : decode M.2.1 pc = .ok (.ireturn, 1)) {mc ms : Nat} (h1 : cs.1 ≤ mc) (h2 : cs.2 ≤ ms) : zW l d M pc ls ([.int x]) S cs (.inl (some (.int x)), S, mc, ms) := by
  intro p e s m args below meth c D tc A hX ad H locs lsM hL hls
  refine W.widen h1 h2 (zend_ret hX hL ?_)
  exact W.zret hX.1 hX.2.1 (hX.2.2.2.1.trans hr) (by rcases hx with rfl | rfl <;> rfl) (fun t ht _ => ⟨rfl, ht⟩) hL.2.2.1.2.2 hd hX.2.2.2.2.1
theorem zr_vret (hr : M.2.2.2.1 = none) (hd : decode M.2.1 pc = .ok (.return_, 1)) {mc ms : Nat} (h1 : cs.1 ≤ mc) (h2 : cs.2 ≤ ms) : zW l d M pc ls ([]) S cs (.inl none, S, mc, ms) := by
  intro p e s m args below meth c D tc A hX ad H locs lsM hL hls
  refine W.widen h1 h2 (zend_ret hX hL ?_)
  exact W.vret hX.1 hX.2.1 (hX.2.2.2.1.trans hr) (fun t ht _ => ⟨rfl, ht⟩) hL.2.2.1.2.2 hd hX.2.2.2.2.1
theorem zr_aret {x : Nat} {E : String} (hr : M.2.2.2.1 = some (.object E)) (hd : decode M.2.1 pc = .ok (.areturn, 1)) {mc ms : Nat} (h1 : cs.1 ≤ mc) (h2 : cs.2 ≤ ms) : zW l d M pc ls ([.ref x]) S cs (.inl (some (.ref x)), S, mc, ms) := by
  intro p e s m args below meth c D tc A hX ad H locs lsM hL hls
  refine W.widen h1 h2 (zend_ret hX hL ?_)
  exact W.aret hX.1 hX.2.1 (hX.2.2.2.1.trans hr) (Or.inl ⟨_, rfl⟩) (Or.inr ⟨_, rfl⟩) (fun t ht _ => ⟨rfl, ht⟩) hL.2.2.1.2.2 hd hX.2.2.2.2.1
end ZR
