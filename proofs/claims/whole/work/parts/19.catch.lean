/-! CatchUp: dates, games, counts (written by wip/gen/t8.py) -/
def tR (τ : tS) (q : Nat) (f : Nat → Int) : tS := fun a b => if a = q then f b else τ a b
def ru (f : Nat → Int) (j : Nat) (x : Int) : Nat → Int := fun b => if b = j then x else f b
theorem tR_U (τ : tS) (q j : Nat) (f : Nat → Int) (x : Int) : tU (tR τ q f) q j x = tR τ q (ru f j x) := by
  funext a b
  simp only [tU, tR, ru]
  grind
theorem tR_self (τ : tS) (q : Nat) : tR τ q (τ q) = τ := by
  funext a b
  simp only [tR]
  grind
theorem tR_at (τ : tS) (q : Nat) (f : Nat → Int) (j : Nat) : tR τ q f q j = f j := by simp [tR]
theorem tR_ne (τ : tS) {q a : Nat} (f : Nat → Int) (j : Nat) (h : a ≠ q) : tR τ q f a j = τ a j := by simp [tR, h]
/-- x put into its place among the first j, which are in order -/
def insR (x : Int) : Nat → (Nat → Int) → (Nat → Int)
  | 0, g => ru g 0 x
  | j + 1, g => if x < g j then insR x j (ru g (j + 1) (g j)) else ru g (j + 1) x
def dtP (τ : tS) (x : Int) (i : Nat) : Bool := decide (τ 30 i = x)
theorem cu_hasDate {l : Launch} {d : Nat} {τ : tS} {k : Nat} (hA : AllIn τ) (h3k : τ 29 3 = (k : Int)) (hk6 : k ≤ 6) {x : Int} (hx : zin x) : zF l (d + 1) M_cu_hasDate [.ref 29, vi x] τ (some (vi (if anyN (dtP τ x) (k) then 1 else 0))) τ := by
  refine zMet_of (ls := [.ref 29, vi x, .null]) pn_cu rfl (by simp [vi, Value.category]) rfl rfl ?_
  refine zi_iconst d_cu_hasDate_0 ?_
  refine zi_istore_n d_cu_hasDate_1 (by decide) rfl ?_
  have key := zfirst (P := fun (i : Nat) => zV l (d + 1) M_cu_hasDate 2 [.ref 29, vi x, vi (i : Int)] [] τ (0, 0) (.inl (some (vi (if anyN (dtP τ x) (k) then 1 else 0))), (SH, zq τ), 0, 0)) (fun i => dtP τ x i = true) (k) ?_ ?_ ?_
  · exact zE4 key (by refine ⟨?_, ?_, ?_, trivial⟩ <;> first | exact Or.inl rfl | exact Or.inr rfl) rfl
  · intro i hi hp hct hk
    simp only [dtP, decide_eq_true_eq] at hct
    refine zi_iload_n d_cu_hasDate_2 rfl ?_
    refine zr_aload_n d_cu_hasDate_3 rfl ?_
    refine zi_getiE (j := 3) (x := (k : Int)) d_cu_hasDate_4 zC0 fl_cu_47 (by decide) rfl rfl (h3k) ?_
    refine zi_icmp_ge 28 d_cu_hasDate_7 (by decide) (by first | assumption | exact ⟨by omega, by omega⟩) (by first | assumption | exact ⟨by omega, by omega⟩) (fun h7 => ?_) (fun h7 => ?_)
    · exact absurd h7 (by omega)
    · refine zr_aload_n d_cu_hasDate_10 rfl ?_
      refine zi_getr (j := 2) d_cu_hasDate_11 zC0 fl_cu_9 (by decide) rfl rfl ?_
      refine zi_iload_n d_cu_hasDate_14 rfl ?_
      refine zi_ialdE (x := τ 30 i) d_cu_hasDate_15 rfl (by decide) (by omega) (by omega) (by rw [Int.toNat_natCast]) ?_
      refine zi_iload_n d_cu_hasDate_16 rfl ?_
      refine zi_icmp_ne 22 d_cu_hasDate_17 (by decide) (hA _ _) (by first | assumption | exact ⟨by omega, by omega⟩) (fun h17 => ?_) (fun h17 => ?_)
      · refine zi_iinc d_cu_hasDate_22 (by decide) rfl rfl ?_
        refine zr_goto 2 d_cu_hasDate_25 (by decide) ?_
        exact zE4 hk (by refine ⟨?_, ?_, ?_, trivial⟩ <;> first | exact Or.inl rfl | exact Or.inr rfl) rfl
      · exfalso
        grind
  · intro i hi hp hct
    have hany : anyN (dtP τ x) (k) = true := (anyN_iff _ _).mpr ⟨i, hi, hct⟩
    simp only [dtP, decide_eq_true_eq] at hct
    refine zi_iload_n d_cu_hasDate_2 rfl ?_
    refine zr_aload_n d_cu_hasDate_3 rfl ?_
    refine zi_getiE (j := 3) (x := (k : Int)) d_cu_hasDate_4 zC0 fl_cu_47 (by decide) rfl rfl (h3k) ?_
    refine zi_icmp_ge 28 d_cu_hasDate_7 (by decide) (by first | assumption | exact ⟨by omega, by omega⟩) (by first | assumption | exact ⟨by omega, by omega⟩) (fun h7 => ?_) (fun h7 => ?_)
    · exact absurd h7 (by omega)
    · refine zr_aload_n d_cu_hasDate_10 rfl ?_
      refine zi_getr (j := 2) d_cu_hasDate_11 zC0 fl_cu_9 (by decide) rfl rfl ?_
      refine zi_iload_n d_cu_hasDate_14 rfl ?_
      refine zi_ialdE (x := τ 30 i) d_cu_hasDate_15 rfl (by decide) (by omega) (by omega) (by rw [Int.toNat_natCast]) ?_
      refine zi_iload_n d_cu_hasDate_16 rfl ?_
      refine zi_icmp_ne 22 d_cu_hasDate_17 (by decide) (hA _ _) (by first | assumption | exact ⟨by omega, by omega⟩) (fun h17 => ?_) (fun h17 => ?_)
      · refine zi_iinc d_cu_hasDate_22 (by decide) rfl rfl ?_
        refine zr_goto 2 d_cu_hasDate_25 (by decide) ?_
        exfalso
        grind
      · refine zi_iconst d_cu_hasDate_20 ?_
        exact zk_zret rfl d_cu_hasDate_21 (Nat.zero_le _) (Nat.zero_le _) (by omega) (by rw [if_pos hany]) rfl
  · intro hno
    refine zi_iload_n d_cu_hasDate_2 rfl ?_
    refine zr_aload_n d_cu_hasDate_3 rfl ?_
    refine zi_getiE (j := 3) (x := (k : Int)) d_cu_hasDate_4 zC0 fl_cu_47 (by decide) rfl rfl (h3k) ?_
    refine zi_icmp_ge 28 d_cu_hasDate_7 (by decide) (by first | assumption | exact ⟨by omega, by omega⟩) (by first | assumption | exact ⟨by omega, by omega⟩) (fun h7 => ?_) (fun h7 => ?_)
    · refine zi_iconst d_cu_hasDate_28 ?_
      exact zk_zret rfl d_cu_hasDate_29 (Nat.zero_le _) (Nat.zero_le _) (by omega) (by rw [if_neg (fun g => by obtain ⟨i, g1, g2⟩ := (anyN_iff _ _).mp g; exact hno i g1 g2)]) rfl
    · exact absurd h7 (by omega)
theorem cu_addDate {l : Launch} {d : Nat} {τ : tS} {k : Nat} {x : Int} (hA : AllIn τ) (hk : τ 29 3 = (k : Int)) (hk6 : k < 6) (hx : zin x) : zF l (d + 1) M_cu_addDate [.ref 29, vi x] τ (some (vi ((k : Int) + 1))) (tU (tR τ 30 (insR x k (τ 30))) 29 3 ((k : Int) + 1)) := by
  refine zMet_of (ls := [.ref 29, vi x, .null]) pn_cu rfl (by simp [vi, Value.category]) rfl rfl ?_
  refine zr_aload_n d_cu_addDate_0 rfl ?_
  refine zi_getiE (j := 3) (x := (k : Int)) d_cu_addDate_1 zC0 fl_cu_47 (by decide) rfl rfl (hk) ?_
  refine zi_istore_n d_cu_addDate_4 (by decide) rfl ?_
  have key : ∀ (j : Nat) (g : Nat → Int), j ≤ k → (∀ i, zin (g i)) → insR x k (τ 30) = insR x j g → zV l (d + 1) M_cu_addDate 5 [.ref 29, vi x, vi (j : Int)] [] (tR τ 30 g) (0, 0) (.inl (some (vi ((k : Int) + 1))), (SH, zq (tU (tR τ 30 (insR x k (τ 30))) 29 3 ((k : Int) + 1))), 0, 0) := by
    intro j
    induction j with
    | zero =>
      intro g hj hg he
      simp only [insR] at he
      refine zi_iload_n d_cu_addDate_5 rfl ?_
      refine zi_if_le 41 d_cu_addDate_6 (by decide) (by first | assumption | exact ⟨by omega, by omega⟩) (fun h6 => ?_) (fun h6 => ?_)
      · refine zr_aload_n d_cu_addDate_41 rfl ?_
        refine zi_getr (j := 2) d_cu_addDate_42 zC0 fl_cu_9 (by decide) rfl rfl ?_
        refine zi_iload_n d_cu_addDate_45 rfl ?_
        refine zi_iload_n d_cu_addDate_46 rfl ?_
        refine zi_iast d_cu_addDate_47 rfl (by decide) (by omega) (by omega) ?_
        rw [tR_U]
        refine zr_aload_n d_cu_addDate_48 rfl ?_
        refine zr_dup d_cu_addDate_49 rfl ?_
        refine zi_getiE (j := 3) (x := (k : Int)) d_cu_addDate_50 zC0 fl_cu_47 (by decide) rfl rfl (by rw [tR_ne _ _ _ (by decide)]; exact hk) ?_
        refine zi_iconst d_cu_addDate_53 ?_
        refine zi_iadd d_cu_addDate_54 ?_
        refine zi_puti (j := 3) d_cu_addDate_55 zC0 fl_cu_47 (by decide) rfl rfl rfl rfl ?_
        refine zr_aload_n d_cu_addDate_58 rfl ?_
        refine zi_getiE (j := 3) (x := (k : Int) + 1) d_cu_addDate_59 zC0 fl_cu_47 (by decide) rfl rfl (by simp [tU]) ?_
        exact zk_iret rfl d_cu_addDate_62 (Nat.zero_le _) (Nat.zero_le _) (by first | rfl | omega | (split <;> omega) | simp_all) (by rw [he]; first | rfl | simp [Int.toNat_natCast])
      · exact absurd h6 (by omega)
    | succ j ih =>
      intro g hj hg he
      refine zi_iload_n d_cu_addDate_5 rfl ?_
      refine zi_if_le 41 d_cu_addDate_6 (by decide) (by first | assumption | exact ⟨by omega, by omega⟩) (fun h6 => ?_) (fun h6 => ?_)
      · exact absurd h6 (by omega)
      · refine zr_aload_n d_cu_addDate_9 rfl ?_
        refine zi_getr (j := 2) d_cu_addDate_10 zC0 fl_cu_9 (by decide) rfl rfl ?_
        refine zi_iload_n d_cu_addDate_13 rfl ?_
        refine zi_iconst d_cu_addDate_14 ?_
        refine zi_isub d_cu_addDate_15 ?_
        rw [show ((j + 1 : Nat) : Int) - 1 = (j : Int) by omega]
        refine zi_ialdE (x := g j) d_cu_addDate_16 rfl (by decide) (by omega) (by omega) (by rw [Int.toNat_natCast, tR_at]) ?_
        refine zi_iload_n d_cu_addDate_17 rfl ?_
        refine zi_icmp_le 41 d_cu_addDate_18 (by decide) (hg j) hx (fun h18 => ?_) (fun h18 => ?_)
        · simp only [insR] at he
          rw [if_neg (by omega)] at he
          refine zr_aload_n d_cu_addDate_41 rfl ?_
          refine zi_getr (j := 2) d_cu_addDate_42 zC0 fl_cu_9 (by decide) rfl rfl ?_
          refine zi_iload_n d_cu_addDate_45 rfl ?_
          refine zi_iload_n d_cu_addDate_46 rfl ?_
          refine zi_iast d_cu_addDate_47 rfl (by decide) (by omega) (by omega) ?_
          rw [tR_U]
          refine zr_aload_n d_cu_addDate_48 rfl ?_
          refine zr_dup d_cu_addDate_49 rfl ?_
          refine zi_getiE (j := 3) (x := (k : Int)) d_cu_addDate_50 zC0 fl_cu_47 (by decide) rfl rfl (by rw [tR_ne _ _ _ (by decide)]; exact hk) ?_
          refine zi_iconst d_cu_addDate_53 ?_
          refine zi_iadd d_cu_addDate_54 ?_
          refine zi_puti (j := 3) d_cu_addDate_55 zC0 fl_cu_47 (by decide) rfl rfl rfl rfl ?_
          refine zr_aload_n d_cu_addDate_58 rfl ?_
          refine zi_getiE (j := 3) (x := (k : Int) + 1) d_cu_addDate_59 zC0 fl_cu_47 (by decide) rfl rfl (by simp [tU]) ?_
          exact zk_iret rfl d_cu_addDate_62 (Nat.zero_le _) (Nat.zero_le _) (by first | rfl | omega | (split <;> omega) | simp_all) (by rw [he, Int.toNat_natCast])
        · simp only [insR] at he
          rw [if_pos (by omega)] at he
          refine zr_aload_n d_cu_addDate_21 rfl ?_
          refine zi_getr (j := 2) d_cu_addDate_22 zC0 fl_cu_9 (by decide) rfl rfl ?_
          refine zi_iload_n d_cu_addDate_25 rfl ?_
          refine zr_aload_n d_cu_addDate_26 rfl ?_
          refine zi_getr (j := 2) d_cu_addDate_27 zC0 fl_cu_9 (by decide) rfl rfl ?_
          refine zi_iload_n d_cu_addDate_30 rfl ?_
          refine zi_iconst d_cu_addDate_31 ?_
          refine zi_isub d_cu_addDate_32 ?_
          rw [show ((j + 1 : Nat) : Int) - 1 = (j : Int) by omega]
          refine zi_ialdE (x := g j) d_cu_addDate_33 rfl (by decide) (by omega) (by omega) (by rw [Int.toNat_natCast, tR_at]) ?_
          refine zi_iast d_cu_addDate_34 rfl (by decide) (by omega) (by omega) ?_
          rw [tR_U, Int.toNat_natCast]
          refine zi_iinc d_cu_addDate_35 (by decide) rfl rfl ?_
          refine zr_goto 5 d_cu_addDate_38 (by decide) ?_
          exact zE4 (ih (ru g (j + 1) (g j)) (by omega) (fun i => by unfold ru; split <;> exact hg _) he) (by refine ⟨?_, ?_, ?_, trivial⟩ <;> first | exact Or.inl rfl | exact Or.inr rfl | exact Or.inr (congrArg vi (by omega))) rfl
  exact zE4 (key k (τ 30) (Nat.le_refl _) (fun i => hA _ _) rfl) (by refine ⟨?_, ?_, ?_, trivial⟩ <;> first | exact Or.inl rfl | exact Or.inr rfl) (tR_self τ 30).symm
theorem cu_isOpen {l : Launch} {d : Nat} {τ : tS} {g dt h a : Nat} (hA : AllIn τ) (hM : ∀ j, 0 ≤ τ 36 j) (hg : g < 14) (hd : dt < 20) (h33 : τ 33 g = (h : Int)) (h34 : τ 34 g = (a : Int)) (hh : h < 20) (ha : a < 20) : zF l (d + 2) M_cu_isOpen [.ref 29, vi (g : Int), vi (dt : Int)] (τ) (some (vi (if ((τ 36 h).toNat ||| (τ 36 a).toNat).testBit dt then 0 else 1))) (τ) := by
  refine zMet_of (ls := [.ref 29, vi (g : Int), vi (dt : Int)]) pn_cu rfl (by simp [vi, Value.category]) rfl rfl ?_
  refine zr_aload_n d_cu_isOpen_0 rfl ?_
  refine zi_getr (j := 9) d_cu_isOpen_1 zC0 fl_cu_30 (by decide) rfl rfl ?_
  refine zr_aload_n d_cu_isOpen_4 rfl ?_
  refine zi_getr (j := 6) d_cu_isOpen_5 zC0 fl_cu_21 (by decide) rfl rfl ?_
  refine zi_iload_n d_cu_isOpen_8 rfl ?_
  refine zi_ialdE (x := (h : Int)) d_cu_isOpen_9 rfl (by decide) (by omega) (by omega) (by rw [Int.toNat_natCast]; exact h33) ?_
  refine zi_ialdE (x := (((τ 36 h).toNat : Nat) : Int)) d_cu_isOpen_10 rfl (by decide) (by omega) (by omega) (by rw [Int.toNat_natCast]; exact (Int.toNat_of_nonneg (hM h)).symm) ?_
  refine zr_aload_n d_cu_isOpen_11 rfl ?_
  refine zi_getr (j := 9) d_cu_isOpen_12 zC0 fl_cu_30 (by decide) rfl rfl ?_
  refine zr_aload_n d_cu_isOpen_15 rfl ?_
  refine zi_getr (j := 7) d_cu_isOpen_16 zC0 fl_cu_24 (by decide) rfl rfl ?_
  refine zi_iload_n d_cu_isOpen_19 rfl ?_
  refine zi_ialdE (x := (a : Int)) d_cu_isOpen_20 rfl (by decide) (by omega) (by omega) (by rw [Int.toNat_natCast]; exact h34) ?_
  refine zi_ialdE (x := (((τ 36 a).toNat : Nat) : Int)) d_cu_isOpen_21 rfl (by decide) (by omega) (by omega) (by rw [Int.toNat_natCast]; exact (Int.toNat_of_nonneg (hM a)).symm) ?_
  refine zi_ior d_cu_isOpen_22 (by have h8 := hA 36 h; have h9 := hM h; unfold zin at h8; omega) (by have h8 := hA 36 a; have h9 := hM a; unfold zin at h8; omega) ?_
  refine zi_iload_n d_cu_isOpen_23 rfl ?_
  refine c_cu_isOpen_24 rfl (lr_hasBit (by have h8 := hA 36 h; have h9 := hM h; have h6 := hA 36 a; have h7 := hM a; unfold zin at h8 h6; exact Nat.or_lt_two_pow (n := 31) (by omega) (by omega)) (by omega)) ?_
  refine zi_if_ne 34 d_cu_isOpen_27 (by decide) (by split <;> exact ⟨by decide, by decide⟩) (fun h27 => ?_) (fun h27 => ?_)
  · refine zi_iconst d_cu_isOpen_34 ?_
    exact zk_zret rfl d_cu_isOpen_35 (Nat.zero_le _) (Nat.zero_le _) (by omega) (by grind) rfl
  · refine zi_iconst d_cu_isOpen_30 ?_
    refine zr_goto 35 d_cu_isOpen_31 (by decide) ?_
    exact zk_zret rfl d_cu_isOpen_35 (Nat.zero_le _) (Nat.zero_le _) (by omega) (by grind) rfl
def flpT (τ : tS) (h a dt : Nat) : tS :=
  let τ1 := tU τ 36 h ((((τ 36 h).toNat ^^^ 2 ^ dt : Nat)) : Int)
  tU τ1 36 a ((((τ1 36 a).toNat ^^^ 2 ^ dt : Nat)) : Int)
theorem flp_lt {m dt : Nat} (hm : m < 2147483648) (hd : dt < 20) : m ^^^ 2 ^ dt < 2147483648 := by
  have h1 : 2 ^ dt < 2 ^ 31 := Nat.pow_lt_pow_right (by decide) (by omega)
  exact Nat.xor_lt_two_pow (n := 31) hm h1
theorem cu_flipDate {l : Launch} {d : Nat} {τ : tS} {g dt h a : Nat} (hA : AllIn τ) (hM : ∀ j, 0 ≤ τ 36 j) (hg : g < 14) (hd : dt < 20) (h33 : τ 33 g = (h : Int)) (h34 : τ 34 g = (a : Int)) (hh : h < 20) (ha : a < 20) : zF l (d + 1) M_cu_flipDate [.ref 29, vi (g : Int), vi (dt : Int)] (τ) (none) (flpT τ h a dt) := by
  refine zMet_of (ls := [.ref 29, vi (g : Int), vi (dt : Int)]) pn_cu rfl (by simp [vi, Value.category]) rfl rfl ?_
  refine zr_aload_n d_cu_flipDate_0 rfl ?_
  refine zi_getr (j := 9) d_cu_flipDate_1 zC0 fl_cu_30 (by decide) rfl rfl ?_
  refine zr_aload_n d_cu_flipDate_4 rfl ?_
  refine zi_getr (j := 6) d_cu_flipDate_5 zC0 fl_cu_21 (by decide) rfl rfl ?_
  refine zi_iload_n d_cu_flipDate_8 rfl ?_
  refine zi_ialdE (x := (h : Int)) d_cu_flipDate_9 rfl (by decide) (by omega) (by omega) (by rw [Int.toNat_natCast]; exact h33) ?_
  refine zr_dup2 d_cu_flipDate_10 rfl rfl ?_
  refine zi_ialdE (x := (((τ 36 h).toNat : Nat) : Int)) d_cu_flipDate_11 rfl (by decide) (by omega) (by omega) (by rw [Int.toNat_natCast]; exact (Int.toNat_of_nonneg (hM h)).symm) ?_
  refine zi_iconst d_cu_flipDate_12 ?_
  refine zi_iload_n d_cu_flipDate_13 rfl ?_
  refine zi_ishl d_cu_flipDate_14 (by omega)  ?_
  have hpw : 2 ^ dt < 2 ^ 31 := Nat.pow_lt_pow_right (by decide) (by omega)
  refine zi_ixor d_cu_flipDate_15 (by have h8 := hA 36 h; have h9 := hM h; unfold zin at h8; omega) (by omega) ?_
  refine zi_iast d_cu_flipDate_16 rfl (by decide) (by omega) (by omega) ?_
  rw [Int.toNat_natCast]
  have hm1 : (τ 36 h).toNat < 2147483648 := by have h8 := hA 36 h; have h9 := hM h; unfold zin at h8; omega
  have hx1 := flp_lt (dt := dt) hm1 hd
  have hq0 : 0 ≤ tU τ 36 h ((((τ 36 h).toNat ^^^ 2 ^ dt : Nat)) : Int) 36 a := by unfold tU; split; exact Int.natCast_nonneg _; exact hM a
  have hq1 : tU τ 36 h ((((τ 36 h).toNat ^^^ 2 ^ dt : Nat)) : Int) 36 a < 2147483648 := by unfold tU; split; omega; exact (hA 36 a).2
  refine zr_aload_n d_cu_flipDate_17 rfl ?_
  refine zi_getr (j := 9) d_cu_flipDate_18 zC0 fl_cu_30 (by decide) rfl rfl ?_
  refine zr_aload_n d_cu_flipDate_21 rfl ?_
  refine zi_getr (j := 7) d_cu_flipDate_22 zC0 fl_cu_24 (by decide) rfl rfl ?_
  refine zi_iload_n d_cu_flipDate_25 rfl ?_
  refine zi_ialdE (x := (a : Int)) d_cu_flipDate_26 rfl (by decide) (by omega) (by omega) (by rw [Int.toNat_natCast]; simp only [tU]; simpa using h34) ?_
  refine zr_dup2 d_cu_flipDate_27 rfl rfl ?_
  refine zi_ialdE (x := (((tU τ 36 h ((((τ 36 h).toNat ^^^ 2 ^ dt : Nat)) : Int) 36 a).toNat : Nat) : Int)) d_cu_flipDate_28 rfl (by decide) (by omega) (by omega) (by rw [Int.toNat_natCast]; exact (Int.toNat_of_nonneg hq0).symm) ?_
  refine zi_iconst d_cu_flipDate_29 ?_
  refine zi_iload_n d_cu_flipDate_30 rfl ?_
  refine zi_ishl d_cu_flipDate_31 (by omega)  ?_
  refine zi_ixor d_cu_flipDate_32 (by omega) (by omega) ?_
  refine zi_iast d_cu_flipDate_33 rfl (by decide) (by omega) (by omega) ?_
  exact zk_vret rfl d_cu_flipDate_34 (Nat.zero_le _) (Nat.zero_le _) (by rw [Int.toNat_natCast]; rfl)
def kdT (τ : tS) : Nat → tS
  | 0 => τ
  | i + 1 => tU (kdT τ i) 31 (τ 32 i * 20 + τ 33 i).toNat (τ 30 (τ 35 i).toNat)
theorem kdT_ne (τ : tS) (q j : Nat) (h : q ≠ 31) : ∀ i, kdT τ i q j = τ q j
  | 0 => rfl
  | i + 1 => by
    rw [kdT, tU, if_neg (fun g => h g.1), kdT_ne τ q j h i]
theorem cu_keepDates {l : Launch} {d : Nat} {τ : tS} {g : Nat} (hg : τ 29 10 = (g : Int)) (hg2 : g ≤ 14) (h32 : ∀ i, i < g → 0 ≤ τ 32 i ∧ τ 32 i < 38) (h33 : ∀ i, i < g → 0 ≤ τ 33 i ∧ τ 33 i < 20) (h35 : ∀ i, i < g → 0 ≤ τ 35 i ∧ τ 35 i < 6) : zF l (d + 2) M_cu_keepDates [.ref 29] (τ) (none) (kdT τ g) := by
  refine zMet_of (ls := [.ref 29, .null]) pn_cu rfl (by simp [vi, Value.category]) rfl rfl ?_
  refine zi_iconst d_cu_keepDates_0 ?_
  refine zi_istore_n d_cu_keepDates_1 (by decide) rfl ?_
  have key := zup (P := fun (i : Nat) => zV l (d + 2) M_cu_keepDates 2 [.ref 29, vi (i : Int)] [] (kdT τ i) (0, 0) (.inl none, (SH, zq (kdT τ g)), 0, 0)) (g) ?_ ?_ 0 (by omega)
  · exact zE4 key (by refine ⟨?_, ?_, trivial⟩ <;> first | exact Or.inl rfl | exact Or.inr rfl) rfl
  · intro i hi hk
    refine zi_iload_n d_cu_keepDates_2 rfl ?_
    refine zr_aload_n d_cu_keepDates_3 rfl ?_
    refine zi_getiE (j := 10) (x := (g : Int)) d_cu_keepDates_4 zC0 fl_cu_69 (by decide) rfl rfl (by rw [kdT_ne _ _ _ (by decide)]; exact hg) ?_
    refine zi_icmp_ge 47 d_cu_keepDates_7 (by decide) (by first | assumption | exact ⟨by omega, by omega⟩) (by first | assumption | exact ⟨by omega, by omega⟩) (fun h7 => ?_) (fun h7 => ?_)
    · exact absurd h7 (by omega)
    · have b1 := h32 i hi
      have b2 := h33 i hi
      have b3 := h35 i hi
      refine zr_aload_n d_cu_keepDates_10 rfl ?_
      refine zi_getr (j := 4) d_cu_keepDates_11 zC0 fl_cu_15 (by decide) rfl rfl ?_
      refine zr_aload_n d_cu_keepDates_14 rfl ?_
      refine zi_getr (j := 5) d_cu_keepDates_15 zC0 fl_cu_18 (by decide) rfl rfl ?_
      refine zi_iload_n d_cu_keepDates_18 rfl ?_
      refine zi_ialdE (x := τ 32 i) d_cu_keepDates_19 rfl (by decide) (by omega) (by omega) (by rw [Int.toNat_natCast, kdT_ne _ _ _ (by decide)]) ?_
      refine zr_aload_n d_cu_keepDates_20 rfl ?_
      refine zi_getr (j := 6) d_cu_keepDates_21 zC0 fl_cu_21 (by decide) rfl rfl ?_
      refine zi_iload_n d_cu_keepDates_24 rfl ?_
      refine zi_ialdE (x := τ 33 i) d_cu_keepDates_25 rfl (by decide) (by omega) (by omega) (by rw [Int.toNat_natCast, kdT_ne _ _ _ (by decide)]) ?_
      refine c_cu_keepDates_26 rfl (lr_spot) ?_
      refine zr_aload_n d_cu_keepDates_29 rfl ?_
      refine zi_getr (j := 2) d_cu_keepDates_30 zC0 fl_cu_9 (by decide) rfl rfl ?_
      refine zr_aload_n d_cu_keepDates_33 rfl ?_
      refine zi_getr (j := 8) d_cu_keepDates_34 zC0 fl_cu_27 (by decide) rfl rfl ?_
      refine zi_iload_n d_cu_keepDates_37 rfl ?_
      refine zi_ialdE (x := τ 35 i) d_cu_keepDates_38 rfl (by decide) (by omega) (by omega) (by rw [Int.toNat_natCast, kdT_ne _ _ _ (by decide)]) ?_
      refine zi_ialdE (x := τ 30 (τ 35 i).toNat) d_cu_keepDates_39 rfl (by decide) (by omega) (by omega) (by rw [kdT_ne _ _ _ (by decide)]) ?_
      refine zi_iast d_cu_keepDates_40 rfl (by decide) (by omega) (by omega) ?_
      refine zi_iinc d_cu_keepDates_41 (by decide) rfl rfl ?_
      refine zr_goto 2 d_cu_keepDates_44 (by decide) ?_
      exact zE4 hk (by refine ⟨?_, ?_, trivial⟩ <;> first | exact Or.inl rfl | exact Or.inr rfl) rfl
  · refine zi_iload_n d_cu_keepDates_2 rfl ?_
    refine zr_aload_n d_cu_keepDates_3 rfl ?_
    refine zi_getiE (j := 10) (x := (g : Int)) d_cu_keepDates_4 zC0 fl_cu_69 (by decide) rfl rfl (by rw [kdT_ne _ _ _ (by decide)]; exact hg) ?_
    refine zi_icmp_ge 47 d_cu_keepDates_7 (by decide) (by first | assumption | exact ⟨by omega, by omega⟩) (by first | assumption | exact ⟨by omega, by omega⟩) (fun h7 => ?_) (fun h7 => ?_)
    · exact zk_vret rfl d_cu_keepDates_47 (Nat.zero_le _) (Nat.zero_le _) rfl
    · exact absurd h7 (by omega)
def lgS (τ w : tS) (r t : Nat) : tS := if misP τ (r : Int) t = true ∧ w 29 10 < 14 then tU (tU (tU (tU w 32 (w 29 10).toNat (r : Int)) 33 (w 29 10).toNat (t : Int)) 34 (w 29 10).toNat (τ 2 ((r : Int) * 20 + (t : Int)).toNat)) 29 10 (w 29 10 + 1) else w
def lgR (τ w : tS) (r : Nat) : Nat → tS
  | 0 => w
  | t + 1 => lgS τ (lgR τ w r t) r t
def lgA (τ w : tS) (n : Nat) : Nat → tS
  | 0 => w
  | r + 1 => lgR τ (lgA τ w n r) r n
def lgI (τ w : tS) : Prop := (∀ q j, q ≠ 32 → q ≠ 33 → q ≠ 34 → ¬ (q = 29 ∧ j = 10) → w q j = τ q j) ∧ 0 ≤ w 29 10 ∧ w 29 10 ≤ 14
theorem lgI_S {τ w : tS} (h : lgI τ w) (r t : Nat) : lgI τ (lgS τ w r t) := by
  unfold lgS
  split
  · rename_i hc
    refine ⟨fun q j h1 h2 h3 h4 => ?_, ?_, ?_⟩
    · rw [← h.1 q j h1 h2 h3 h4]
      simp only [tU]
      grind
    · have := h.2.1
      simp [tU]
      omega
    · simp [tU]
      omega
  · exact h
theorem lgI_R {τ w : tS} (h : lgI τ w) (r : Nat) : ∀ t, lgI τ (lgR τ w r t)
  | 0 => h
  | t + 1 => lgI_S (lgI_R h r t) r t
theorem lgI_A {τ w : tS} (h : lgI τ w) (n : Nat) : ∀ r, lgI τ (lgA τ w n r)
  | 0 => h
  | r + 1 => lgI_R (lgI_A h n r) r n
theorem lgI_0 (τ : tS) : lgI τ (tU τ 29 10 0) := by
  refine ⟨fun q j h1 h2 h3 h4 => ?_, ?_, ?_⟩
  · simp [tU, h4]
  · simp [tU]
  · simp [tU]
theorem cu_lgIn {l : Launch} {d : Nat} {τ : tS} {n R : Nat} (hA : AllIn τ) (hw : τ 1 0 = 20) (hn : τ 1 3 = (n : Int)) (hn2 : n ≤ 20) (hb : ∀ j, τ 28 j = 0 ∨ τ 28 j = 1) {w : tS} (hw0 : lgI τ w) {r : Nat} (hr : r < 38) {res : zR} (hk : zV l (d + 4) M_cu_listGames 7 [.ref 29, vi (((r + 1 : Nat)) : Int), .null] [] (lgR τ w r n) (0, 0) res) : zV l (d + 4) M_cu_listGames 20 [.ref 29, vi (r : Int), vi 0] [] w (0, 0) res := by
  have key := zup (P := fun (t : Nat) => zV l (d + 4) M_cu_listGames 20 [.ref 29, vi (r : Int), vi (t : Int)] [] (lgR τ w r t) (0, 0) res) n ?_ ?_ 0 (by omega)
  · exact zE4 key (by refine ⟨?_, ?_, ?_, trivial⟩ <;> first | exact Or.inl rfl | exact Or.inr rfl) rfl
  · intro t ht hkt
    have hI := lgI_R hw0 r t
    refine zi_iload_n d_cu_listGames_20 rfl ?_
    refine zr_aload_n d_cu_listGames_21 rfl ?_
    refine zi_getr (j := 0) d_cu_listGames_22 zC0 fl_cu_33 (by decide) rfl rfl ?_
    refine c_cu_listGames_25 rfl rfl (tt1_teamCount) ?_
    show zV _ _ _ _ _ (vi _ :: _) _ _ _
    rw [hI.1 1 3 (by decide) (by decide) (by decide) (by omega), hn]
    refine zi_icmp_ge 106 d_cu_listGames_28 (by decide) (by first | assumption | exact ⟨by omega, by omega⟩) (by first | assumption | exact ⟨by omega, by omega⟩) (fun h28 => ?_) (fun h28 => ?_)
    · exact absurd h28 (by omega)
    · refine zr_aload_n d_cu_listGames_31 rfl ?_
      refine zi_getr (j := 1) d_cu_listGames_32 zC0 fl_cu_37 (by decide) rfl rfl ?_
      refine zi_iload_n d_cu_listGames_35 rfl ?_
      refine zi_iload_n d_cu_listGames_36 rfl ?_
      refine c_cu_listGames_37 rfl rfl (wo_isMissing (by rw [hI.1 1 0 (by decide) (by decide) (by decide) (by omega)]; exact hw) ⟨by omega, by omega⟩ ⟨by omega, by omega⟩ (by rw [hI.1 28 _ (by decide) (by decide) (by decide) (by omega)]; exact hb _) (by rw [hI.1 3 _ (by decide) (by decide) (by decide) (by omega)]; exact hA _ _) (by rw [hI.1 19 _ (by decide) (by decide) (by decide) (by omega)]; exact hA _ _)) ?_
      show zV _ _ _ _ _ (vi _ :: _) _ _ _
      rw [hI.1 28 _ (by decide) (by decide) (by decide) (by omega), hI.1 3 _ (by decide) (by decide) (by decide) (by omega), hI.1 19 _ (by decide) (by decide) (by decide) (by omega)]
      refine zi_if_eq 100 d_cu_listGames_40 (by decide) (by split <;> exact ⟨by decide, by decide⟩) (fun h40 => ?_) (fun h40 => ?_)
      · have hm : ¬ misP τ (r : Int) t = true := by unfold misP; grind
        refine zi_iinc d_cu_listGames_100 (by decide) rfl rfl ?_
        refine zr_goto 20 d_cu_listGames_103 (by decide) ?_
        exact zE4 hkt (by refine ⟨?_, ?_, ?_, trivial⟩ <;> first | exact Or.inl rfl | exact Or.inr rfl) (by first | exact hs.symm | (rw [lgR, lgS, if_pos hs0]) | (rw [lgR, lgS, if_neg (fun g => hm g.1)]))
      · have hm : misP τ (r : Int) t = true := by unfold misP; grind
        have hI2 := hI.2
        refine zr_aload_n d_cu_listGames_43 rfl ?_
        refine zi_geti (j := 10) d_cu_listGames_44 zC0 fl_cu_69 (by decide) rfl rfl ?_
        refine zi_bipush d_cu_listGames_47 (by decide) ?_
        refine zi_icmp_ge 100 d_cu_listGames_49 (by decide) ⟨by omega, by omega⟩ (by first | assumption | exact ⟨by omega, by omega⟩) (fun h49 => ?_) (fun h49 => ?_)
        · have hs : lgR τ w r (t + 1) = lgR τ w r t := by rw [lgR, lgS, if_neg (fun g => by omega)]
          refine zi_iinc d_cu_listGames_100 (by decide) rfl rfl ?_
          refine zr_goto 20 d_cu_listGames_103 (by decide) ?_
          exact zE4 hkt (by refine ⟨?_, ?_, ?_, trivial⟩ <;> first | exact Or.inl rfl | exact Or.inr rfl) (by first | exact hs.symm | (rw [lgR, lgS, if_pos hs0]) | (rw [lgR, lgS, if_neg (fun g => hm g.1)]))
        · have hs0 : misP τ (r : Int) t = true ∧ lgR τ w r t 29 10 < 14 := ⟨hm, by omega⟩
          refine zr_aload_n d_cu_listGames_52 rfl ?_
          refine zi_getr (j := 5) d_cu_listGames_53 zC0 fl_cu_18 (by decide) rfl rfl ?_
          refine zr_aload_n d_cu_listGames_56 rfl ?_
          refine zi_geti (j := 10) d_cu_listGames_57 zC0 fl_cu_69 (by decide) rfl rfl ?_
          refine zi_iload_n d_cu_listGames_60 rfl ?_
          refine zi_iast d_cu_listGames_61 rfl (by decide) (by omega) (by omega) ?_
          refine zr_aload_n d_cu_listGames_62 rfl ?_
          refine zi_getr (j := 6) d_cu_listGames_63 zC0 fl_cu_21 (by decide) rfl rfl ?_
          refine zr_aload_n d_cu_listGames_66 rfl ?_
          refine zi_getiE (j := 10) (x := lgR τ w r t 29 10) d_cu_listGames_67 zC0 fl_cu_69 (by decide) rfl rfl (by simp [tU]) ?_
          refine zi_iload_n d_cu_listGames_70 rfl ?_
          refine zi_iast d_cu_listGames_71 rfl (by decide) (by omega) (by omega) ?_
          refine zr_aload_n d_cu_listGames_72 rfl ?_
          refine zi_getr (j := 7) d_cu_listGames_73 zC0 fl_cu_24 (by decide) rfl rfl ?_
          refine zr_aload_n d_cu_listGames_76 rfl ?_
          refine zi_getiE (j := 10) (x := lgR τ w r t 29 10) d_cu_listGames_77 zC0 fl_cu_69 (by decide) rfl rfl (by simp [tU]) ?_
          refine zr_aload_n d_cu_listGames_80 rfl ?_
          refine zi_getr (j := 0) d_cu_listGames_81 zC0 fl_cu_33 (by decide) rfl rfl ?_
          refine zi_iload_n d_cu_listGames_84 rfl ?_
          refine zi_iload_n d_cu_listGames_85 rfl ?_
          refine c_cu_listGames_86 rfl rfl (tt1_opponentAt (by simp only [tU]; simpa using (by rw [hI.1 1 0 (by decide) (by decide) (by decide) (by omega)]; exact hw)) ⟨by omega, by omega⟩ ⟨by omega, by omega⟩) ?_
          show zV _ _ _ _ _ (vi _ :: _) _ _ _
          rw [show ∀ (a b : Int) (i j : Nat), tU (tU (lgR τ w r t) 32 i a) 33 j b 2 ((r : Int) * 20 + (t : Int)).toNat = τ 2 ((r : Int) * 20 + (t : Int)).toNat from fun a b i j => by simp only [tU]; simpa using hI.1 2 _ (by decide) (by decide) (by decide) (by omega)]
          refine zi_iast d_cu_listGames_89 rfl (by decide) (by omega) (by omega) ?_
          refine zr_aload_n d_cu_listGames_90 rfl ?_
          refine zr_dup d_cu_listGames_91 rfl ?_
          refine zi_getiE (j := 10) (x := lgR τ w r t 29 10) d_cu_listGames_92 zC0 fl_cu_69 (by decide) rfl rfl (by simp [tU]) ?_
          refine zi_iconst d_cu_listGames_95 ?_
          refine zi_iadd d_cu_listGames_96 ?_
          refine zi_puti (j := 10) d_cu_listGames_97 zC0 fl_cu_69 (by decide) rfl rfl rfl rfl ?_
          refine zi_iinc d_cu_listGames_100 (by decide) rfl rfl ?_
          refine zr_goto 20 d_cu_listGames_103 (by decide) ?_
          exact zE4 hkt (by refine ⟨?_, ?_, ?_, trivial⟩ <;> first | exact Or.inl rfl | exact Or.inr rfl) (by first | exact hs.symm | (rw [lgR, lgS, if_pos hs0]) | (rw [lgR, lgS, if_neg (fun g => hm g.1)]))
  · have hI := lgI_R hw0 r n
    refine zi_iload_n d_cu_listGames_20 rfl ?_
    refine zr_aload_n d_cu_listGames_21 rfl ?_
    refine zi_getr (j := 0) d_cu_listGames_22 zC0 fl_cu_33 (by decide) rfl rfl ?_
    refine c_cu_listGames_25 rfl rfl (tt1_teamCount) ?_
    show zV _ _ _ _ _ (vi _ :: _) _ _ _
    rw [hI.1 1 3 (by decide) (by decide) (by decide) (by omega), hn]
    refine zi_icmp_ge 106 d_cu_listGames_28 (by decide) (by first | assumption | exact ⟨by omega, by omega⟩) (by first | assumption | exact ⟨by omega, by omega⟩) (fun h28 => ?_) (fun h28 => ?_)
    · refine zi_iinc d_cu_listGames_106 (by decide) rfl rfl ?_
      refine zr_goto 7 d_cu_listGames_109 (by decide) ?_
      exact zE4 hk (by refine ⟨?_, ?_, ?_, trivial⟩ <;> first | exact Or.inl rfl | exact Or.inr rfl) rfl
    · exact absurd h28 (by omega)
theorem cu_listGames {l : Launch} {d : Nat} {τ : tS} {n R : Nat} (hA : AllIn τ) (hw : τ 1 0 = 20) (hn : τ 1 3 = (n : Int)) (hn2 : n ≤ 20) (hR : τ 1 4 = (R : Int)) (hR2 : R ≤ 38) (hb : ∀ j, τ 28 j = 0 ∨ τ 28 j = 1) : zF l (d + 4) M_cu_listGames [.ref 29] (τ) (none) (lgA τ (tU τ 29 10 0) n R) := by
  refine zMet_of (ls := [.ref 29, .null, .null]) pn_cu rfl (by simp [vi, Value.category]) rfl rfl ?_
  refine zr_aload_n d_cu_listGames_0 rfl ?_
  refine zi_iconst d_cu_listGames_1 ?_
  refine zi_puti (j := 10) d_cu_listGames_2 zC0 fl_cu_69 (by decide) rfl rfl rfl rfl ?_
  refine zi_iconst d_cu_listGames_5 ?_
  refine zi_istore_n d_cu_listGames_6 (by decide) rfl ?_
  have key := zup (P := fun (r : Nat) => zV l (d + 4) M_cu_listGames 7 [.ref 29, vi (r : Int), .null] [] (lgA τ (tU τ 29 10 0) n r) (0, 0) (.inl none, (SH, zq (lgA τ (tU τ 29 10 0) n R)), 0, 0)) R ?_ ?_ 0 (by omega)
  · exact zE4 key (by refine ⟨?_, ?_, ?_, trivial⟩ <;> first | exact Or.inl rfl | exact Or.inr rfl) rfl
  · intro r hr hk
    have hI := lgI_A (lgI_0 τ) n r
    refine zi_iload_n d_cu_listGames_7 rfl ?_
    refine zr_aload_n d_cu_listGames_8 rfl ?_
    refine zi_getr (j := 0) d_cu_listGames_9 zC0 fl_cu_33 (by decide) rfl rfl ?_
    refine c_cu_listGames_12 rfl rfl (tt1_roundCount) ?_
    show zV _ _ _ _ _ (vi _ :: _) _ _ _
    rw [hI.1 1 4 (by decide) (by decide) (by decide) (by omega), hR]
    refine zi_icmp_ge 112 d_cu_listGames_15 (by decide) (by first | assumption | exact ⟨by omega, by omega⟩) (by first | assumption | exact ⟨by omega, by omega⟩) (fun h15 => ?_) (fun h15 => ?_)
    · exact absurd h15 (by omega)
    · refine zi_iconst d_cu_listGames_18 ?_
      refine zi_istore_n d_cu_listGames_19 (by decide) rfl ?_
      exact zE4 (cu_lgIn (n := n) (R := R) hA hw hn hn2 hb hI (by omega) hk) (by refine ⟨?_, ?_, ?_, trivial⟩ <;> first | exact Or.inl rfl | exact Or.inr rfl) rfl
  · have hI := lgI_A (lgI_0 τ) n R
    refine zi_iload_n d_cu_listGames_7 rfl ?_
    refine zr_aload_n d_cu_listGames_8 rfl ?_
    refine zi_getr (j := 0) d_cu_listGames_9 zC0 fl_cu_33 (by decide) rfl rfl ?_
    refine c_cu_listGames_12 rfl rfl (tt1_roundCount) ?_
    show zV _ _ _ _ _ (vi _ :: _) _ _ _
    rw [hI.1 1 4 (by decide) (by decide) (by decide) (by omega), hR]
    refine zi_icmp_ge 112 d_cu_listGames_15 (by decide) (by first | assumption | exact ⟨by omega, by omega⟩) (by first | assumption | exact ⟨by omega, by omega⟩) (fun h15 => ?_) (fun h15 => ?_)
    · exact zk_vret rfl d_cu_listGames_112 (Nat.zero_le _) (Nat.zero_le _) rfl
    · exact absurd h15 (by omega)
def mxN (f : Nat → Nat) : Nat → Nat
  | 0 => 0
  | n + 1 => if mxN f n < f n then f n else mxN f n
theorem mxN_le (f : Nat → Nat) (b : Nat) (h : ∀ i, f i ≤ b) : ∀ n, mxN f n ≤ b
  | 0 => Nat.zero_le _
  | n + 1 => by
    have := mxN_le f b h n
    unfold mxN
    split
    · exact h n
    · exact this
def mgP (τ : tS) (t i : Nat) : Bool := decide (τ 33 i = (t : Int) ∨ τ 34 i = (t : Int))
theorem cu_mostGames {l : Launch} {d : Nat} {τ : tS} {n g : Nat} (hA : AllIn τ) (hn : τ 1 3 = (n : Int)) (hn2 : n ≤ 20) (hg : τ 29 10 = (g : Int)) (hg2 : g ≤ 14) : zF l (d + 2) M_cu_mostGamesOfOneTeam [.ref 29] (τ) (some (vi ((mxN (fun t => cnt (mgP τ t) g) n : Nat) : Int))) (τ) := by
  refine zMet_of (ls := [.ref 29, .null, .null, .null, .null]) pn_cu rfl (by simp [vi, Value.category]) rfl rfl ?_
  refine zi_iconst d_cu_mostGamesOfOneTeam_0 ?_
  refine zi_istore_n d_cu_mostGamesOfOneTeam_1 (by decide) rfl ?_
  refine zi_iconst d_cu_mostGamesOfOneTeam_2 ?_
  refine zi_istore_n d_cu_mostGamesOfOneTeam_3 (by decide) rfl ?_
  have key := zup (P := fun (t : Nat) => zV l (d + 2) M_cu_mostGamesOfOneTeam 4 [.ref 29, vi ((mxN (fun t => cnt (mgP τ t) g) t : Nat) : Int), vi (t : Int), .null, .null] [] τ (0, 0) (.inl (some (vi ((mxN (fun t => cnt (mgP τ t) g) n : Nat) : Int))), (SH, zq τ), 0, 0)) n ?_ ?_ 0 (by omega)
  · exact zE4 key (by refine ⟨?_, ?_, ?_, ?_, ?_, trivial⟩ <;> first | exact Or.inl rfl | exact Or.inr rfl) rfl
  · intro t ht hk
    refine zi_iload_n d_cu_mostGamesOfOneTeam_4 rfl ?_
    refine zr_aload_n d_cu_mostGamesOfOneTeam_5 rfl ?_
    refine zi_getr (j := 0) d_cu_mostGamesOfOneTeam_6 zC0 fl_cu_33 (by decide) rfl rfl ?_
    refine c_cu_mostGamesOfOneTeam_9 rfl rfl (tt1_teamCount) ?_
    show zV _ _ _ _ _ (vi _ :: _) _ _ _
    rw [hn]
    refine zi_icmp_ge 72 d_cu_mostGamesOfOneTeam_12 (by decide) (by first | assumption | exact ⟨by omega, by omega⟩) (by first | assumption | exact ⟨by omega, by omega⟩) (fun h12 => ?_) (fun h12 => ?_)
    · exact absurd h12 (by omega)
    · refine zi_iconst d_cu_mostGamesOfOneTeam_15 ?_
      refine zi_istore_n d_cu_mostGamesOfOneTeam_16 (by decide) rfl ?_
      refine zi_iconst d_cu_mostGamesOfOneTeam_17 ?_
      refine zi_istore d_cu_mostGamesOfOneTeam_18 (by decide) rfl ?_
      have inn := zup (P := fun (i : Nat) => zV l (d + 2) M_cu_mostGamesOfOneTeam 20 [.ref 29, vi ((mxN (fun t => cnt (mgP τ t) g) t : Nat) : Int), vi (t : Int), vi ((cnt (mgP τ t) i : Nat) : Int), vi (i : Int)] [] τ (0, 0) (.inl (some (vi ((mxN (fun t => cnt (mgP τ t) g) n : Nat) : Int))), (SH, zq τ), 0, 0)) g ?_ ?_ 0 (by omega)
      · exact zE4 inn (by refine ⟨?_, ?_, ?_, ?_, ?_, trivial⟩ <;> first | exact Or.inl rfl | exact Or.inr rfl) rfl
      · intro i hi hki
        refine zi_iload d_cu_mostGamesOfOneTeam_20 rfl ?_
        refine zr_aload_n d_cu_mostGamesOfOneTeam_22 rfl ?_
        refine zi_getiE (j := 10) (x := (g : Int)) d_cu_mostGamesOfOneTeam_23 zC0 fl_cu_69 (by decide) rfl rfl (hg) ?_
        refine zi_icmp_ge 60 d_cu_mostGamesOfOneTeam_26 (by decide) (by first | assumption | exact ⟨by omega, by omega⟩) (by first | assumption | exact ⟨by omega, by omega⟩) (fun h26 => ?_) (fun h26 => ?_)
        · exact absurd h26 (by omega)
        · refine zr_aload_n d_cu_mostGamesOfOneTeam_29 rfl ?_
          refine zi_getr (j := 6) d_cu_mostGamesOfOneTeam_30 zC0 fl_cu_21 (by decide) rfl rfl ?_
          refine zi_iload d_cu_mostGamesOfOneTeam_33 rfl ?_
          refine zi_ialdE (x := τ 33 i) d_cu_mostGamesOfOneTeam_35 rfl (by decide) (by omega) (by omega) (by rw [Int.toNat_natCast]) ?_
          refine zi_iload_n d_cu_mostGamesOfOneTeam_36 rfl ?_
          refine zi_icmp_eq 51 d_cu_mostGamesOfOneTeam_37 (by decide) (hA _ _) (by first | assumption | exact ⟨by omega, by omega⟩) (fun h37 => ?_) (fun h37 => ?_)
          · refine zi_iinc d_cu_mostGamesOfOneTeam_51 (by decide) rfl rfl ?_
            refine zi_iinc d_cu_mostGamesOfOneTeam_54 (by decide) rfl rfl ?_
            refine zr_goto 20 d_cu_mostGamesOfOneTeam_57 (by decide) ?_
            exact zE4 hki (by refine ⟨?_, ?_, ?_, ?_, ?_, trivial⟩ <;> first | exact Or.inl rfl | exact Or.inr rfl | (refine Or.inr (congrArg vi ?_); simp only [cnt, mgP]; grind)) rfl
          · refine zr_aload_n d_cu_mostGamesOfOneTeam_40 rfl ?_
            refine zi_getr (j := 7) d_cu_mostGamesOfOneTeam_41 zC0 fl_cu_24 (by decide) rfl rfl ?_
            refine zi_iload d_cu_mostGamesOfOneTeam_44 rfl ?_
            refine zi_ialdE (x := τ 34 i) d_cu_mostGamesOfOneTeam_46 rfl (by decide) (by omega) (by omega) (by rw [Int.toNat_natCast]) ?_
            refine zi_iload_n d_cu_mostGamesOfOneTeam_47 rfl ?_
            refine zi_icmp_ne 54 d_cu_mostGamesOfOneTeam_48 (by decide) (hA _ _) (by first | assumption | exact ⟨by omega, by omega⟩) (fun h48 => ?_) (fun h48 => ?_)
            · refine zi_iinc d_cu_mostGamesOfOneTeam_54 (by decide) rfl rfl ?_
              refine zr_goto 20 d_cu_mostGamesOfOneTeam_57 (by decide) ?_
              exact zE4 hki (by refine ⟨?_, ?_, ?_, ?_, ?_, trivial⟩ <;> first | exact Or.inl rfl | exact Or.inr rfl | (refine Or.inr (congrArg vi ?_); simp only [cnt, mgP]; grind)) rfl
            · refine zi_iinc d_cu_mostGamesOfOneTeam_51 (by decide) rfl rfl ?_
              refine zi_iinc d_cu_mostGamesOfOneTeam_54 (by decide) rfl rfl ?_
              refine zr_goto 20 d_cu_mostGamesOfOneTeam_57 (by decide) ?_
              exact zE4 hki (by refine ⟨?_, ?_, ?_, ?_, ?_, trivial⟩ <;> first | exact Or.inl rfl | exact Or.inr rfl | (refine Or.inr (congrArg vi ?_); simp only [cnt, mgP]; grind)) rfl
      · refine zi_iload d_cu_mostGamesOfOneTeam_20 rfl ?_
        refine zr_aload_n d_cu_mostGamesOfOneTeam_22 rfl ?_
        refine zi_getiE (j := 10) (x := (g : Int)) d_cu_mostGamesOfOneTeam_23 zC0 fl_cu_69 (by decide) rfl rfl (hg) ?_
        refine zi_icmp_ge 60 d_cu_mostGamesOfOneTeam_26 (by decide) (by first | assumption | exact ⟨by omega, by omega⟩) (by first | assumption | exact ⟨by omega, by omega⟩) (fun h26 => ?_) (fun h26 => ?_)
        · refine zi_iload_n d_cu_mostGamesOfOneTeam_60 rfl ?_
          refine zi_iload_n d_cu_mostGamesOfOneTeam_61 rfl ?_
          have hc1 := cnt_le (mgP τ t) g
          have hc2 := mxN_le (fun t => cnt (mgP τ t) g) g (fun t => cnt_le _ _) t
          refine zi_mmax d_cu_mostGamesOfOneTeam_62 ml_cu_89 (by first | assumption | exact ⟨by omega, by omega⟩) (by first | assumption | exact ⟨by omega, by omega⟩) rfl ?_
          refine zi_istore_n d_cu_mostGamesOfOneTeam_65 (by decide) rfl ?_
          refine zi_iinc d_cu_mostGamesOfOneTeam_66 (by decide) rfl rfl ?_
          refine zr_goto 4 d_cu_mostGamesOfOneTeam_69 (by decide) ?_
          exact zE4 hk (by refine ⟨?_, ?_, ?_, ?_, ?_, trivial⟩ <;> first | exact Or.inl rfl | exact Or.inr rfl | (refine Or.inr (congrArg vi ?_); simp only [mxN]; grind)) rfl
        · exact absurd h26 (by omega)
  · refine zi_iload_n d_cu_mostGamesOfOneTeam_4 rfl ?_
    refine zr_aload_n d_cu_mostGamesOfOneTeam_5 rfl ?_
    refine zi_getr (j := 0) d_cu_mostGamesOfOneTeam_6 zC0 fl_cu_33 (by decide) rfl rfl ?_
    refine c_cu_mostGamesOfOneTeam_9 rfl rfl (tt1_teamCount) ?_
    show zV _ _ _ _ _ (vi _ :: _) _ _ _
    rw [hn]
    refine zi_icmp_ge 72 d_cu_mostGamesOfOneTeam_12 (by decide) (by first | assumption | exact ⟨by omega, by omega⟩) (by first | assumption | exact ⟨by omega, by omega⟩) (fun h12 => ?_) (fun h12 => ?_)
    · refine zi_iload_n d_cu_mostGamesOfOneTeam_72 rfl ?_
      exact zk_iret rfl d_cu_mostGamesOfOneTeam_73 (Nat.zero_le _) (Nat.zero_le _) (by first | rfl | omega | (split <;> omega) | simp_all) rfl
    · exact absurd h12 (by omega)
