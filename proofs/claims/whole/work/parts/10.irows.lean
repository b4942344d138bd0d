/-! the world of the law once all is made, and the rows over whole numbers (written by wip/gen/irows.py) -/
def SH : List zs := [.inr (7, [some (some 1), some (some 4), some (some 12), some (some 18), some (some 27), some (some 29)]),
  .inr (4, [none, some (some 2), some (some 3), none, none]),
  .inl (0, 760),
  .inl (0, 760),
  .inr (6, [some (some 5), some (some 6), none, some (some 7), some (some 8), none, some (some 9), some (some 10), some (some 11), none, none]),
  .inl (0, 39),
  .inl (0, 39),
  .inl (0, 6),
  .inl (0, 6),
  .inl (0, 6),
  .inl (0, 6),
  .inl (0, 6),
  .inr (2, [some (some 4), some (some 13), some (some 16), some (some 17), none, none, none]),
  .inr (4, [none, some (some 14), some (some 15), none, none]),
  .inl (0, 56),
  .inl (0, 56),
  .inl (0, 7),
  .inl (0, 8),
  .inr (1, [some (some 19), some (some 20), some (some 21), none]),
  .inl (0, 760),
  .inl (0, 760),
  .inr (3, [some (some 22), some (some 23), some (some 24), some (some 25), some (some 26)]),
  .inl (0, 20),
  .inl (0, 20),
  .inl (0, 20),
  .inl (0, 20),
  .inl (0, 20),
  .inr (5, [some (some 1), some (some 18), some (some 28), none]),
  .inl (1, 38),
  .inr (0, [some (some 1), some (some 27), some (some 30), none, some (some 31), some (some 32), some (some 33), some (some 34), some (some 35), some (some 36), none]),
  .inl (0, 6),
  .inl (0, 760),
  .inl (0, 14),
  .inl (0, 14),
  .inl (0, 14),
  .inl (0, 14),
  .inl (0, 20),
  .inr (8, [none, none, none, some (some 38), none, some (some 39), some (some 40), none, some (some 41), some (some 42), some (some 43), none, none, some (some 44), some (some 45), some (some 46), some (some 47), some (some 48), some (some 49), some (some 50), some (some 51), none, some (some 52), some (some 53), some (some 54), some (some 55), some (some 56), some (some 57), none, some (some 58), some (some 59), some (some 60), some (some 61)]),
  .inl (1, 1560),
  .inl (0, 6),
  .inl (0, 6),
  .inl (0, 6),
  .inl (0, 6),
  .inl (0, 6),
  .inl (0, 800),
  .inl (1, 800),
  .inl (1, 800),
  .inl (0, 800),
  .inl (0, 800),
  .inl (1, 800),
  .inl (0, 800),
  .inl (1, 40),
  .inl (0, 6),
  .inl (0, 160),
  .inl (1, 160),
  .inl (0, 64),
  .inl (0, 64),
  .inl (0, 64),
  .inl (0, 400),
  .inl (0, 400),
  .inl (0, 160),
  .inl (0, 20),
  .inl (2, 1)]
abbrev tS : Type := Nat → Nat → Int
def zq (τ : tS) : Nat → Nat → Int32 := fun k j => Int32.ofInt (τ k j)
def vi (a : Int) : Value := .int (Int32.ofInt a)
def tU (τ : tS) (k j : Nat) (x : Int) : tS := fun a b => if a = k ∧ b = j then x else τ a b
def zin (a : Int) : Prop := -2147483648 ≤ a ∧ a < 2147483648
theorem zq_U (τ : tS) (k j : Nat) (x : Int) : zU (zq τ) k j (Int32.ofInt x) = zq (tU τ k j x) := by
  funext a b
  simp only [zU, zq, tU]
  split <;> rfl
theorem zin_to {a : Int} (h : zin a) : (Int32.ofInt a).toInt = a := Int32.toInt_ofInt_of_le h.1 h.2
theorem zin_lt {a b : Int} (ha : zin a) (hb : zin b) : Int32.ofInt a < Int32.ofInt b ↔ a < b := by rw [Int32.lt_iff_toInt_lt, zin_to ha, zin_to hb]
theorem zin_le {a b : Int} (ha : zin a) (hb : zin b) : Int32.ofInt a ≤ Int32.ofInt b ↔ a ≤ b := by rw [Int32.le_iff_toInt_le, zin_to ha, zin_to hb]
theorem zin_eq {a b : Int} (ha : zin a) (hb : zin b) : Int32.ofInt a = Int32.ofInt b ↔ a = b := by rw [← Int32.toInt_inj, zin_to ha, zin_to hb]
theorem zin_nat {a : Int} (h0 : 0 ≤ a) (h1 : a < 2147483648) : Int32.ofInt a = nI a.toNat := by
  have h : zin a := ⟨by omega, h1⟩
  rw [← Int32.toInt_inj, zin_to h, nI_toInt (by omega)]
  omega
theorem zin_in {a : Int} {n : Nat} (h0 : 0 ≤ a) (h1 : a < n) (hn : n < 2147483648) : vp_in (Int32.ofInt a) n := by
  rw [vp_in_iff, zin_to ⟨by omega, by omega⟩]
  omega
theorem zin_cl {a : Int} (h0 : 0 ≤ a) (h1 : a < 2147483648) : (Int32.ofInt a).toNatClampNeg = a.toNat := by
  rw [zin_nat h0 h1, nI_clamp (by omega)]
theorem zin_0 : zin 0 := ⟨by decide, by decide⟩
abbrev zV (l : Launch) (d : Nat) (M : zM) (pc : Nat) (ls st : List Value) (τ : tS) (cs : Nat × Nat) (r : zR) : Prop := zW l d M pc ls st (SH, zq τ) cs r
/-- the contract of a method that makes nothing: arguments, world, answer, world -/
abbrev zF (l : Launch) (d : Nat) (M : zM) (as : List Value) (τ : tS) (v : Option Value) (τ' : tS) : Prop := zMet l d M as (SH, zq τ) (.inl v, (SH, zq τ'), 0, 0)
/-- .. of a method that throws -/
abbrev zG (l : Launch) (d : Nat) (M : zM) (as : List Value) (τ : tS) (E : String) (τ' : tS) : Prop := zMet l d M as (SH, zq τ) (.inr E, (SH, zq τ'), 1, 6)
section ZI
variable {l : Launch} {d : Nat} {M M' : zM} {pc : Nat} {ls st as rest : List Value} {τ τ' : tS} {cs : Nat × Nat} {r : zR}
theorem zi_iconst {n : Int} (hd : decode M.2.1 pc = .ok (.iconst n, 1)) (k : zV l d M (pc + 1) ls (vi n :: st) τ cs r) : zV l d M pc ls st τ cs r := zr_iconst hd k
theorem zi_bipush {n : Int} (hd : decode M.2.1 pc = .ok (.bipush n, 2)) (hv : (Int8.ofInt n).toInt32 = Int32.ofInt n) (k : zV l d M (pc + 2) ls (vi n :: st) τ cs r) : zV l d M pc ls st τ cs r := zr_bipush hd hv k
theorem zi_sipush {n : Int} (hd : decode M.2.1 pc = .ok (.sipush n, 3)) (hv : (Int16.ofInt n).toInt32 = Int32.ofInt n) (k : zV l d M (pc + 3) ls (vi n :: st) τ cs r) : zV l d M pc ls st τ cs r := zr_sipush hd hv k
theorem zi_iadd {a b : Int} (hd : decode M.2.1 pc = .ok (.iadd, 1)) (k : zV l d M (pc + 1) ls (vi (a + b) :: st) τ cs r) : zV l d M pc ls (vi b :: vi a :: st) τ cs r := by
  refine zr_iadd hd ?_
  have h : Value.int (Int32.ofInt a + Int32.ofInt b) = vi (a + b) := by rw [vi, Int32.ofInt_add]
  rw [h]
  exact k
theorem zi_isub {a b : Int} (hd : decode M.2.1 pc = .ok (.isub, 1)) (k : zV l d M (pc + 1) ls (vi (a - b) :: st) τ cs r) : zV l d M pc ls (vi b :: vi a :: st) τ cs r := by
  refine zr_isub hd ?_
  have h : Value.int (Int32.ofInt a - Int32.ofInt b) = vi (a - b) := by rw [vi, Int32.ofInt_sub]
  rw [h]
  exact k
theorem zi_imul {a b : Int} (hd : decode M.2.1 pc = .ok (.imul, 1)) (k : zV l d M (pc + 1) ls (vi (a * b) :: st) τ cs r) : zV l d M pc ls (vi b :: vi a :: st) τ cs r := by
  refine zr_imul hd ?_
  have h : Value.int (Int32.ofInt a * Int32.ofInt b) = vi (a * b) := by rw [vi, Int32.ofInt_mul]
  rw [h]
  exact k
theorem zi_irem {a b : Int} (hd : decode M.2.1 pc = .ok (.irem, 1)) (ha : 0 ≤ a ∧ a < 2147483648) (hb : 0 < b ∧ b < 2147483648) (k : zV l d M (pc + 1) ls (vi (a % b) :: st) τ cs r) : zV l d M pc ls (vi b :: vi a :: st) τ cs r := by
  have hb0 : ¬ Int32.ofInt b = 0 := by
    have := (zin_eq (a := b) (b := 0) ⟨by omega, hb.2⟩ zin_0)
    intro h
    have := this.mp h
    omega
  refine zr_irem hd hb0 ?_
  have h : Value.int (Int32.ofInt a - Int32.ofInt a / Int32.ofInt b * Int32.ofInt b) = vi (a % b) := by
    have e1 : (Int32.ofInt a - Int32.ofInt a / Int32.ofInt b * Int32.ofInt b) = Int32.ofInt (a % b) := by
      rw [← Int32.toInt_inj, rem_toInt, zin_to ⟨by omega, ha.2⟩, zin_to ⟨by omega, hb.2⟩, zin_to ⟨by have := Int.emod_nonneg a (show b ≠ 0 by omega); omega, by have := Int.emod_lt_of_pos a hb.1; omega⟩, Int.tmod_eq_emod_of_nonneg ha.1]
    rw [e1]
    rfl
  rw [h]
  exact k
theorem zi_idiv {a b : Int} (hd : decode M.2.1 pc = .ok (.idiv, 1)) (ha : 0 ≤ a ∧ a < 2147483648) (hb : 0 < b ∧ b < 2147483648) (k : zV l d M (pc + 1) ls (vi (a / b) :: st) τ cs r) : zV l d M pc ls (vi b :: vi a :: st) τ cs r := by
  have hb0 : ¬ Int32.ofInt b = 0 := by
    have := (zin_eq (a := b) (b := 0) ⟨by omega, hb.2⟩ zin_0)
    intro h
    have := this.mp h
    omega
  refine zr_idiv hd hb0 ?_
  have h : Value.int (Int32.ofInt a / Int32.ofInt b) = vi (a / b) := by
    obtain ⟨m, rfl⟩ := Int.eq_ofNat_of_zero_le ha.1
    obtain ⟨u, rfl⟩ := Int.eq_ofNat_of_zero_le (show 0 ≤ b by omega)
    have hq : (m : Int) / (u : Int) = ((m / u : Nat) : Int) := (Int.natCast_ediv m u).symm
    have hle : m / u ≤ m := Nat.div_le_self m u
    have e1 : Int32.ofInt (m : Int) = nI m := by rw [zin_nat ha.1 ha.2, Int.toNat_natCast]
    have e2 : Int32.ofInt (u : Int) = nI u := by rw [zin_nat (by omega) hb.2, Int.toNat_natCast]
    have e3 : Int32.ofInt ((m / u : Nat) : Int) = nI (m / u) := by rw [zin_nat (Int.natCast_nonneg _) (by omega), Int.toNat_natCast]
    rw [hq, vi, e1, e2, e3, pk_div (by omega) (by omega) (by omega)]
  rw [h]
  exact k
theorem zi_if_eq {a off : Int} (tgt : Nat) (hd : decode M.2.1 pc = .ok (.ifCond .eq off, 3)) (ht : (pc : Int) + off = (tgt : Int)) (ha : zin a) (kt : a = 0 → zV l d M tgt ls st τ cs r) (kf : ¬ (a = 0) → zV l d M (pc + 3) ls st τ cs r) : zV l d M pc ls (vi a :: st) τ cs r := zr_if_eq tgt hd ht (fun h => kt ((zin_eq ha zin_0).mp h)) (fun h => kf (fun g => h ((zin_eq ha zin_0).mpr g)))
theorem zi_icmp_eq {a b off : Int} (tgt : Nat) (hd : decode M.2.1 pc = .ok (.if_icmp .eq off, 3)) (ht : (pc : Int) + off = (tgt : Int)) (ha : zin a) (hb : zin b) (kt : a = b → zV l d M tgt ls st τ cs r) (kf : ¬ (a = b) → zV l d M (pc + 3) ls st τ cs r) : zV l d M pc ls (vi b :: vi a :: st) τ cs r := zr_icmp_eq tgt hd ht (fun h => kt ((zin_eq ha hb).mp h)) (fun h => kf (fun g => h ((zin_eq ha hb).mpr g)))
theorem zi_if_ne {a off : Int} (tgt : Nat) (hd : decode M.2.1 pc = .ok (.ifCond .ne off, 3)) (ht : (pc : Int) + off = (tgt : Int)) (ha : zin a) (kt : ¬ a = 0 → zV l d M tgt ls st τ cs r) (kf : a = 0 → zV l d M (pc + 3) ls st τ cs r) : zV l d M pc ls (vi a :: st) τ cs r := zr_if_ne tgt hd ht (fun h => kt (fun g => h ((zin_eq ha zin_0).mpr g))) (fun h => kf ((zin_eq ha zin_0).mp h))
theorem zi_icmp_ne {a b off : Int} (tgt : Nat) (hd : decode M.2.1 pc = .ok (.if_icmp .ne off, 3)) (ht : (pc : Int) + off = (tgt : Int)) (ha : zin a) (hb : zin b) (kt : ¬ a = b → zV l d M tgt ls st τ cs r) (kf : a = b → zV l d M (pc + 3) ls st τ cs r) : zV l d M pc ls (vi b :: vi a :: st) τ cs r := zr_icmp_ne tgt hd ht (fun h => kt (fun g => h ((zin_eq ha hb).mpr g))) (fun h => kf ((zin_eq ha hb).mp h))
theorem zi_if_lt {a off : Int} (tgt : Nat) (hd : decode M.2.1 pc = .ok (.ifCond .lt off, 3)) (ht : (pc : Int) + off = (tgt : Int)) (ha : zin a) (kt : a < 0 → zV l d M tgt ls st τ cs r) (kf : ¬ (a < 0) → zV l d M (pc + 3) ls st τ cs r) : zV l d M pc ls (vi a :: st) τ cs r := zr_if_lt tgt hd ht (fun h => kt ((zin_lt ha zin_0).mp h)) (fun h => kf (fun g => h ((zin_lt ha zin_0).mpr g)))
theorem zi_icmp_lt {a b off : Int} (tgt : Nat) (hd : decode M.2.1 pc = .ok (.if_icmp .lt off, 3)) (ht : (pc : Int) + off = (tgt : Int)) (ha : zin a) (hb : zin b) (kt : a < b → zV l d M tgt ls st τ cs r) (kf : ¬ (a < b) → zV l d M (pc + 3) ls st τ cs r) : zV l d M pc ls (vi b :: vi a :: st) τ cs r := zr_icmp_lt tgt hd ht (fun h => kt ((zin_lt ha hb).mp h)) (fun h => kf (fun g => h ((zin_lt ha hb).mpr g)))
theorem zi_if_ge {a off : Int} (tgt : Nat) (hd : decode M.2.1 pc = .ok (.ifCond .ge off, 3)) (ht : (pc : Int) + off = (tgt : Int)) (ha : zin a) (kt : 0 ≤ a → zV l d M tgt ls st τ cs r) (kf : ¬ (0 ≤ a) → zV l d M (pc + 3) ls st τ cs r) : zV l d M pc ls (vi a :: st) τ cs r := zr_if_ge tgt hd ht (fun h => kt ((zin_le zin_0 ha).mp h)) (fun h => kf (fun g => h ((zin_le zin_0 ha).mpr g)))
theorem zi_icmp_ge {a b off : Int} (tgt : Nat) (hd : decode M.2.1 pc = .ok (.if_icmp .ge off, 3)) (ht : (pc : Int) + off = (tgt : Int)) (ha : zin a) (hb : zin b) (kt : b ≤ a → zV l d M tgt ls st τ cs r) (kf : ¬ (b ≤ a) → zV l d M (pc + 3) ls st τ cs r) : zV l d M pc ls (vi b :: vi a :: st) τ cs r := zr_icmp_ge tgt hd ht (fun h => kt ((zin_le hb ha).mp h)) (fun h => kf (fun g => h ((zin_le hb ha).mpr g)))
theorem zi_if_gt {a off : Int} (tgt : Nat) (hd : decode M.2.1 pc = .ok (.ifCond .gt off, 3)) (ht : (pc : Int) + off = (tgt : Int)) (ha : zin a) (kt : 0 < a → zV l d M tgt ls st τ cs r) (kf : ¬ (0 < a) → zV l d M (pc + 3) ls st τ cs r) : zV l d M pc ls (vi a :: st) τ cs r := zr_if_gt tgt hd ht (fun h => kt ((zin_lt zin_0 ha).mp h)) (fun h => kf (fun g => h ((zin_lt zin_0 ha).mpr g)))
theorem zi_icmp_gt {a b off : Int} (tgt : Nat) (hd : decode M.2.1 pc = .ok (.if_icmp .gt off, 3)) (ht : (pc : Int) + off = (tgt : Int)) (ha : zin a) (hb : zin b) (kt : b < a → zV l d M tgt ls st τ cs r) (kf : ¬ (b < a) → zV l d M (pc + 3) ls st τ cs r) : zV l d M pc ls (vi b :: vi a :: st) τ cs r := zr_icmp_gt tgt hd ht (fun h => kt ((zin_lt hb ha).mp h)) (fun h => kf (fun g => h ((zin_lt hb ha).mpr g)))
theorem zi_if_le {a off : Int} (tgt : Nat) (hd : decode M.2.1 pc = .ok (.ifCond .le off, 3)) (ht : (pc : Int) + off = (tgt : Int)) (ha : zin a) (kt : a ≤ 0 → zV l d M tgt ls st τ cs r) (kf : ¬ (a ≤ 0) → zV l d M (pc + 3) ls st τ cs r) : zV l d M pc ls (vi a :: st) τ cs r := zr_if_le tgt hd ht (fun h => kt ((zin_le ha zin_0).mp h)) (fun h => kf (fun g => h ((zin_le ha zin_0).mpr g)))
theorem zi_icmp_le {a b off : Int} (tgt : Nat) (hd : decode M.2.1 pc = .ok (.if_icmp .le off, 3)) (ht : (pc : Int) + off = (tgt : Int)) (ha : zin a) (hb : zin b) (kt : a ≤ b → zV l d M tgt ls st τ cs r) (kf : ¬ (a ≤ b) → zV l d M (pc + 3) ls st τ cs r) : zV l d M pc ls (vi b :: vi a :: st) τ cs r := zr_icmp_le tgt hd ht (fun h => kt ((zin_le ha hb).mp h)) (fun h => kf (fun g => h ((zin_le ha hb).mpr g)))
theorem zi_iload_n {i : Fin 4} {a : Int} (hd : decode M.2.1 pc = .ok (.iload_n i, 1)) (hv : ls[i.val]? = some (vi a)) (k : zV l d M (pc + 1) ls (vi a :: st) τ cs r) : zV l d M pc ls st τ cs r := zr_iload_n hd hv k
theorem zi_iload {i : Nat} {a : Int} (hd : decode M.2.1 pc = .ok (.iload i, 2)) (hv : ls[i]? = some (vi a)) (k : zV l d M (pc + 2) ls (vi a :: st) τ cs r) : zV l d M pc ls st τ cs r := zr_iload hd hv k
theorem zi_istore_n {i : Fin 4} {a : Int} (hd : decode M.2.1 pc = .ok (.istore_n i, 1)) (hn : i.val < M.2.2.1) {ls2 : List Value} (hl : ls.set i.val (vi a) = ls2) (k : zV l d M (pc + 1) ls2 st τ cs r) : zV l d M pc ls (vi a :: st) τ cs r := zr_istore_n hd hn (by subst hl; exact k)
theorem zi_istore {i : Nat} {a : Int} (hd : decode M.2.1 pc = .ok (.istore i, 2)) (hn : i < M.2.2.1) {ls2 : List Value} (hl : ls.set i (vi a) = ls2) (k : zV l d M (pc + 2) ls2 st τ cs r) : zV l d M pc ls (vi a :: st) τ cs r := zr_istore hd hn (by subst hl; exact k)
theorem zi_astore_n {i : Fin 4} {a : Nat} (hd : decode M.2.1 pc = .ok (.astore_n i, 1)) (hn : i.val < M.2.2.1) {ls2 : List Value} (hl : ls.set i.val (.ref a) = ls2) (k : zV l d M (pc + 1) ls2 st τ cs r) : zV l d M pc ls (.ref a :: st) τ cs r := zr_astore_n hd hn (by subst hl; exact k)
theorem zi_astore {i : Nat} {a : Nat} (hd : decode M.2.1 pc = .ok (.astore i, 2)) (hn : i < M.2.2.1) {ls2 : List Value} (hl : ls.set i (.ref a) = ls2) (k : zV l d M (pc + 2) ls2 st τ cs r) : zV l d M pc ls (.ref a :: st) τ cs r := zr_astore hd hn (by subst hl; exact k)
theorem zi_iinc {i : Nat} {a n : Int} (hd : decode M.2.1 pc = .ok (.iinc i n, 3)) (hn : i < M.2.2.1) (hv : ls[i]? = some (vi a)) {ls2 : List Value} (hl : ls.set i (vi (a + n)) = ls2) (k : zV l d M (pc + 3) ls2 st τ cs r) : zV l d M pc ls st τ cs r := by
  refine zr_iinc hd hn hv ?_
  have h : Value.int (Int32.ofInt a + Int32.ofInt n) = vi (a + n) := by rw [vi, Int32.ofInt_add]
  rw [h, hl]
  exact k
theorem zi_geti {ci q j N index : Nat} {C : String} {T : u_T} {ty : Nat → FieldType} {fs : List (Option (Option Nat))} (hd : decode M.2.1 pc = .ok (.getfield index, 3)) (hC : zC ci C T N ty) (hl : zI (.fieldLink M.1.cls index (T j).1 (T j).2.1 (T j).2.2.1)) (hj : j < N) (hS : SH[q]? = some (.inr (ci, fs))) (hf : fs[j]? = some none) (k : zV l d M (pc + 3) ls (vi (τ q j) :: st) τ cs r) : zV l d M pc ls (.ref q :: st) τ cs r := zr_geti hd hC hl hj hS hf k
theorem zi_getr {ci q j N index x : Nat} {C : String} {T : u_T} {ty : Nat → FieldType} {fs : List (Option (Option Nat))} (hd : decode M.2.1 pc = .ok (.getfield index, 3)) (hC : zC ci C T N ty) (hl : zI (.fieldLink M.1.cls index (T j).1 (T j).2.1 (T j).2.2.1)) (hj : j < N) (hS : SH[q]? = some (.inr (ci, fs))) (hf : fs[j]? = some (some (some x))) (k : zV l d M (pc + 3) ls (.ref x :: st) τ cs r) : zV l d M pc ls (.ref q :: st) τ cs r := zr_getr hd hC hl hj hS hf k
theorem zi_puti {ci q j N index : Nat} {C : String} {T : u_T} {ty : Nat → FieldType} {fs : List (Option (Option Nat))} {a : Int} (hd : decode M.2.1 pc = .ok (.putfield index, 3)) (hC : zC ci C T N ty) (hl : zI (.fieldLink M.1.cls index (T j).1 (T j).2.1 (T j).2.2.1)) (hj : j < N) (hfin : (T j).2.2.2 = false) (hty : ty j = .int) (hS : SH[q]? = some (.inr (ci, fs))) (hf : fs[j]? = some none) (k : zV l d M (pc + 3) ls st (tU τ q j a) cs r) : zV l d M pc ls (vi a :: .ref q :: st) τ cs r := zr_puti hd hC hl hj hfin hty hS hf (by show zW l d M (pc + 3) ls st (SH, zU (zq τ) q j (Int32.ofInt a)) cs r; rw [zq_U]; exact k)
theorem zi_iald {q n : Nat} {a : Int} (hd : decode M.2.1 pc = .ok (.iaload, 1)) (hS : SH[q]? = some (.inl (0, n))) (hn : n < 2147483648) (h0 : 0 ≤ a) (h1 : a < n) (k : zV l d M (pc + 1) ls (vi (τ q a.toNat) :: st) τ cs r) : zV l d M pc ls (vi a :: .ref q :: st) τ cs r := zr_iald hd hS (zin_in h0 h1 hn) (by show zW l d M (pc + 1) ls (.int (zq τ q (Int32.ofInt a).toNatClampNeg) :: st) (SH, zq τ) cs r; rw [zin_cl h0 (by omega)]; exact k)
theorem zi_zald {q n : Nat} {a : Int} (hd : decode M.2.1 pc = .ok (.baload, 1)) (hS : SH[q]? = some (.inl (1, n))) (hn : n < 2147483648) (h0 : 0 ≤ a) (h1 : a < n) (k : zV l d M (pc + 1) ls (vi (τ q a.toNat) :: st) τ cs r) : zV l d M pc ls (vi a :: .ref q :: st) τ cs r := zr_zald hd hS (zin_in h0 h1 hn) (by show zW l d M (pc + 1) ls (.int (zq τ q (Int32.ofInt a).toNatClampNeg) :: st) (SH, zq τ) cs r; rw [zin_cl h0 (by omega)]; exact k)
theorem zi_iast {q n : Nat} {a x : Int} (hd : decode M.2.1 pc = .ok (.iastore, 1)) (hS : SH[q]? = some (.inl (0, n))) (hn : n < 2147483648) (h0 : 0 ≤ a) (h1 : a < n) (k : zV l d M (pc + 1) ls st (tU τ q a.toNat x) cs r) : zV l d M pc ls (vi x :: vi a :: .ref q :: st) τ cs r := zr_iast hd hS (zin_in h0 h1 hn) (by show zW l d M (pc + 1) ls st (SH, zU (zq τ) q (Int32.ofInt a).toNatClampNeg (Int32.ofInt x)) cs r; rw [zin_cl h0 (by omega), zq_U]; exact k)
theorem zi_zast {q n : Nat} {a x : Int} (hd : decode M.2.1 pc = .ok (.bastore, 1)) (hS : SH[q]? = some (.inl (1, n))) (hn : n < 2147483648) (h0 : 0 ≤ a) (h1 : a < n) (hx : x = 0 ∨ x = 1) (k : zV l d M (pc + 1) ls st (tU τ q a.toNat x) cs r) : zV l d M pc ls (vi x :: vi a :: .ref q :: st) τ cs r := zr_zast hd hS (zin_in h0 h1 hn) (by rcases hx with rfl | rfl <;> decide) (by show zW l d M (pc + 1) ls st (SH, zU (zq τ) q (Int32.ofInt a).toNatClampNeg (Int32.ofInt x)) cs r; rw [zin_cl h0 (by omega), zq_U]; exact k)
theorem zi_alen {q t n : Nat} (hd : decode M.2.1 pc = .ok (.arraylength, 1)) (hS : SH[q]? = some (.inl (t, n))) (ht : t < 3) (k : zV l d M (pc + 1) ls (vi n :: st) τ cs r) : zV l d M pc ls (.ref q :: st) τ cs r := zr_alen hd hS ht (by have h : Int32.ofNat n = Int32.ofInt (n : Int) := (Int32.ofInt_eq_ofNat).symm; rw [h]; exact k)
theorem zi_iret {a b : Int} (hr : M.2.2.2.1 = some .int) (hd : decode M.2.1 pc = .ok (.ireturn, 1)) {mc ms : Nat} (h1 : cs.1 ≤ mc) (h2 : cs.2 ≤ ms) (ha : a = b) (ht : τ = τ') : zV l d M pc ls [vi a] τ cs (.inl (some (vi b)), (SH, zq τ'), mc, ms) := by subst ha; subst ht; exact zr_iret hr hd h1 h2
theorem zi_zret {a b : Int} (hr : M.2.2.2.1 = some .boolean) (hd : decode M.2.1 pc = .ok (.ireturn, 1)) {mc ms : Nat} (h1 : cs.1 ≤ mc) (h2 : cs.2 ≤ ms) (hx : a = 0 ∨ a = 1) (ha : a = b) (ht : τ = τ') : zV l d M pc ls [vi a] τ cs (.inl (some (vi b)), (SH, zq τ'), mc, ms) := by subst ha; subst ht; exact zr_zret hr (by rcases hx with rfl | rfl <;> decide) hd h1 h2
theorem zi_vret (hr : M.2.2.2.1 = none) (hd : decode M.2.1 pc = .ok (.return_, 1)) {mc ms : Nat} (h1 : cs.1 ≤ mc) (h2 : cs.2 ≤ ms) (ht : τ = τ') : zV l d M pc ls [] τ cs (.inl none, (SH, zq τ'), mc, ms) := by subst ht; exact zr_vret hr hd h1 h2
theorem zi_aret {x : Nat} {E : String} (hr : M.2.2.2.1 = some (.object E)) (hd : decode M.2.1 pc = .ok (.areturn, 1)) {mc ms : Nat} (h1 : cs.1 ≤ mc) (h2 : cs.2 ≤ ms) : zV l d M pc ls [.ref x] τ cs (.inl (some (.ref x)), (SH, zq τ), mc, ms) := zr_aret hr hd h1 h2
theorem zi_call {v : Option Value} (hJ : zJ l M pc (SH, zq τ) st M'.1 as rest) (hM : zF l d M' as τ v τ') (hcw : zI (zcw M')) (hini : zI (.initialized M'.1.cls)) (hml : M'.2.2.1 ≤ 45) (hre : rest.length ≤ 4) (h1 : cs.1 ≤ r.2.2.1) (h2 : cs.2 ≤ r.2.2.2) (k : zV l (d + 1) M (pc + 3) ls (v.toList ++ rest) τ' cs r) : zV l (d + 1) M pc ls st τ cs r := zr_call hJ hM hcw hini hml hre rfl h1 h2 k
theorem zi_ret0 (k : zV l d M pc ls st τ cs r) {r2 : zR} (h : r = r2) : zV l d M pc ls st τ cs r2 := h ▸ k
end ZI
