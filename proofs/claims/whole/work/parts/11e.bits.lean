/-! rows of bits, over whole numbers that are not negative -/
theorem zb_s (k : Nat) (hk : k < 31) : ((Int32.ofInt (k : Int) &&& 31).toBitVec.smod 32).toNat = k := by
  have h : ∀ k : Fin 31, ((Int32.ofInt ((k : Nat) : Int) &&& 31).toBitVec.smod 32).toNat = (k : Nat) := by decide +kernel
  exact h ⟨k, hk⟩
theorem zb_n (m : Nat) (h : m < 2147483648) : Int32.ofInt (m : Int) = nI m := by rw [zin_nat (by omega) (by omega), Int.toNat_natCast]
theorem zb_or (m n : Nat) : nI m ||| nI n = nI (m ||| n) := by
  apply Int32.toBitVec_inj.mp
  show BitVec.ofNat 32 m ||| BitVec.ofNat 32 n = BitVec.ofNat 32 (m ||| n)
  apply BitVec.eq_of_toNat_eq
  simp [Nat.or_mod_two_pow]
theorem zb_xor (m n : Nat) : nI m ^^^ nI n = nI (m ^^^ n) := by
  apply Int32.toBitVec_inj.mp
  show BitVec.ofNat 32 m ^^^ BitVec.ofNat 32 n = BitVec.ofNat 32 (m ^^^ n)
  apply BitVec.eq_of_toNat_eq
  simp [Nat.xor_mod_two_pow]
section ZB
variable {l : Launch} {d : Nat} {M : zM} {pc : Nat} {ls st : List Value} {τ : tS} {cs : Nat × Nat} {r : zR}
theorem zi_ior {m n : Nat} (hd : decode M.2.1 pc = .ok (.ior, 1)) (hm : m < 2147483648) (hn : n < 2147483648) (k : zV l d M (pc + 1) ls (vi ((m ||| n : Nat) : Int) :: st) τ cs r) : zV l d M pc ls (vi (n : Int) :: vi (m : Int) :: st) τ cs r := by
  refine zr_ior hd ?_
  have h : Value.int (Int32.ofInt (m : Int) ||| Int32.ofInt (n : Int)) = vi ((m ||| n : Nat) : Int) := by
    have hlt : m ||| n < 2 ^ 31 := Nat.or_lt_two_pow (by omega) (by omega)
    rw [vi, zb_n m hm, zb_n n hn, zb_n _ (by omega), zb_or]
  rw [h]
  exact k
theorem zi_ixor {m n : Nat} (hd : decode M.2.1 pc = .ok (.ixor, 1)) (hm : m < 2147483648) (hn : n < 2147483648) (k : zV l d M (pc + 1) ls (vi ((m ^^^ n : Nat) : Int) :: st) τ cs r) : zV l d M pc ls (vi (n : Int) :: vi (m : Int) :: st) τ cs r := by
  refine zr_ixor hd ?_
  have h : Value.int (Int32.ofInt (m : Int) ^^^ Int32.ofInt (n : Int)) = vi ((m ^^^ n : Nat) : Int) := by
    have hlt : m ^^^ n < 2 ^ 31 := Nat.xor_lt_two_pow (by omega) (by omega)
    rw [vi, zb_n m hm, zb_n n hn, zb_n _ (by omega), zb_xor]
  rw [h]
  exact k
/-- 1 << k -/
theorem zi_ishl {k : Nat} (hd : decode M.2.1 pc = .ok (.ishl, 1)) (hk : k < 31) (kk : zV l d M (pc + 1) ls (vi ((2 ^ k : Nat) : Int) :: st) τ cs r) : zV l d M pc ls (vi (k : Int) :: vi 1 :: st) τ cs r := by
  refine zr_ishl hd ?_
  have hlt : 2 ^ k < 2 ^ 31 := Nat.pow_lt_pow_right (by decide) hk
  have h : Value.int (Int32.ofInt 1 <<< (Int32.ofInt (k : Int) &&& 31)) = vi ((2 ^ k : Nat) : Int) := by
    rw [vi, zb_n (2 ^ k) (by omega), show Int32.ofInt 1 = nI 1 from rfl, pk_shlN (n := 1) _ k (zb_s k hk) (by omega), Nat.one_mul]
  rw [h]
  exact kk
theorem zi_ishr {m k : Nat} (hd : decode M.2.1 pc = .ok (.ishr, 1)) (hm : m < 2147483648) (hk : k < 31) (kk : zV l d M (pc + 1) ls (vi ((m / 2 ^ k : Nat) : Int) :: st) τ cs r) : zV l d M pc ls (vi (k : Int) :: vi (m : Int) :: st) τ cs r := by
  refine zr_ishr hd ?_
  have h : Value.int (Int32.ofInt (m : Int) >>> (Int32.ofInt (k : Int) &&& 31)) = vi ((m / 2 ^ k : Nat) : Int) := by
    have hle : m / 2 ^ k ≤ m := Nat.div_le_self _ _
    rw [vi, zb_n m hm, zb_n (m / 2 ^ k) (by omega), pk_shrN (by omega) _ k (zb_s k hk)]
  rw [h]
  exact kk
/-- x & 1 -/
theorem zi_iand1 {m : Nat} (hd : decode M.2.1 pc = .ok (.iand, 1)) (hm : m < 2147483648) (kk : zV l d M (pc + 1) ls (vi ((m % 2 : Nat) : Int) :: st) τ cs r) : zV l d M pc ls (vi 1 :: vi (m : Int) :: st) τ cs r := by
  refine zr_iand hd ?_
  have h : Value.int (Int32.ofInt (m : Int) &&& Int32.ofInt 1) = vi ((m % 2 : Nat) : Int) := by
    rw [vi, zb_n m hm, zb_n (m % 2) (by omega), pk_andN (by omega) 1 (by decide)]
  rw [h]
  exact kk
end ZB
