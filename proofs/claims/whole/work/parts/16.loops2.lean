/-! exchange; what a timetable breaks; missing games (written by wip/gen/t5.py) -/
def tX (τ : tS) (a b i : Nat) : tS := fun q j => if (q = 2 ∨ q = 3) ∧ 20 * a ≤ j ∧ j < 20 * a + i then τ q (j - 20 * a + 20 * b) else if (q = 2 ∨ q = 3) ∧ 20 * b ≤ j ∧ j < 20 * b + i then τ q (j - 20 * b + 20 * a) else τ q j
theorem tX_0 (τ : tS) (a b : Nat) : tX τ a b 0 = τ := by
  funext q j
  unfold tX
  rw [if_neg (by omega), if_neg (by omega)]
theorem ix (a i : Nat) : ((a : Int) * 20 + (i : Int)).toNat = 20 * a + i := by omega
theorem tX_step (τ : tS) (a b i : Nat) (hi : i < 20) : tP1 (tP1 (tX τ a b i) a i (tX τ a b i 2 ((b : Int) * 20 + (i : Int)).toNat) (tX τ a b i 3 ((b : Int) * 20 + (i : Int)).toNat)) b i (tX τ a b i 2 ((a : Int) * 20 + (i : Int)).toNat) (tX τ a b i 3 ((a : Int) * 20 + (i : Int)).toNat) = tX τ a b (i + 1) := by
  have ra : ∀ q, tX τ a b i q (20 * a + i) = τ q (20 * a + i) := fun q => by unfold tX; rw [if_neg (by omega), if_neg (by omega)]
  have rb : ∀ q, tX τ a b i q (20 * b + i) = τ q (20 * b + i) := fun q => by unfold tX; rw [if_neg (by omega), if_neg (by omega)]
  funext q j
  simp only [tP1, tU, ix, ra, rb]
  by_cases hq : q = 2 ∨ q = 3
  · by_cases hb : j = 20 * b + i
    · subst hb
      have e1 : tX τ a b (i + 1) q (20 * b + i) = τ q (20 * a + i) := by
        unfold tX
        by_cases hab : a = b
        · subst hab
          rw [if_pos ⟨hq, by omega, by omega⟩]
          congr 1
          omega
        · rw [if_neg (by omega), if_pos ⟨hq, by omega, by omega⟩]
          congr 1
          omega
      rw [e1]
      rcases hq with rfl | rfl <;> simp
    · by_cases ha : j = 20 * a + i
      · subst ha
        have e1 : tX τ a b (i + 1) q (20 * a + i) = τ q (20 * b + i) := by
          unfold tX
          rw [if_pos ⟨hq, by omega, by omega⟩]
          congr 1
          omega
        rw [e1]
        rcases hq with rfl | rfl <;> simp [hb] <;> (intro h; omega)
      · have e1 : tX τ a b (i + 1) q j = tX τ a b i q j := by
          have c1 : (20 * a ≤ j ∧ j < 20 * a + (i + 1)) ↔ (20 * a ≤ j ∧ j < 20 * a + i) := by omega
          have c2 : (20 * b ≤ j ∧ j < 20 * b + (i + 1)) ↔ (20 * b ≤ j ∧ j < 20 * b + i) := by omega
          simp only [tX, c1, c2]
        rw [e1]
        simp [ha, hb]
  · have e1 : ∀ k, tX τ a b k q j = τ q j := fun k => by unfold tX; rw [if_neg (by omega), if_neg (by omega)]
    rw [e1, e1]
    simp only [not_or] at hq
    simp [hq.1, hq.2]
theorem tt1_exchange {l : Launch} {d : Nat} {τ : tS} {a b n : Nat} (hw : τ 1 0 = 20) (ha : a < 38) (hb : b < 38) (hn : τ 1 3 = (n : Int)) (hn2 : n ≤ 20) : zF l (d + 2) M_tt_exchange [.ref 1, vi (a : Int), vi (b : Int)] (τ) (none) (tX τ a b n) := by
  refine zMet_of (ls := [.ref 1, vi (a : Int), vi (b : Int), .null, .null, .null]) pn_tt rfl (by simp [vi, Value.category]) rfl rfl ?_
  refine zi_iconst d_tt_exchange_0 ?_
  refine zi_istore_n d_tt_exchange_1 (by decide) rfl ?_
  have key := zup (P := fun (i : Nat) => zV l (d + 2) M_tt_exchange 2 [.ref 1, vi (a : Int), vi (b : Int), vi (i : Int), .null, .null] [] (tX τ a b i) (0, 0) (.inl none, (SH, zq (tX τ a b n)), 0, 0)) (n) ?_ ?_ 0 (by omega)
  · exact zE4 key (by refine ⟨?_, ?_, ?_, ?_, ?_, ?_, trivial⟩ <;> first | exact Or.inl rfl | exact Or.inr rfl) (tX_0 τ a b).symm
  · intro i hi hk
    refine zi_iload_n d_tt_exchange_2 rfl ?_
    refine zr_aload_n d_tt_exchange_3 rfl ?_
    refine zi_getiE (j := 3) (x := (n : Int)) d_tt_exchange_4 zC4 fl_tt_22 (by decide) rfl rfl (by simp only [tX]; simpa using hn) ?_
    refine zi_icmp_ge 60 d_tt_exchange_7 (by decide) (by first | assumption | exact ⟨by omega, by omega⟩) (by first | assumption | exact ⟨by omega, by omega⟩) (fun h7 => ?_) (fun h7 => ?_)
    · exact absurd h7 (by omega)
    · refine zr_aload_n d_tt_exchange_10 rfl ?_
      refine zi_iload_n d_tt_exchange_11 rfl ?_
      refine zi_iload_n d_tt_exchange_12 rfl ?_
      refine c_tt_exchange_13 rfl rfl (tt1_opponentAt (by simp only [tX]; simpa using hw) ⟨by omega, by omega⟩ ⟨by omega, by omega⟩) ?_
      refine zi_istore d_tt_exchange_16 (by decide) rfl ?_
      refine zr_aload_n d_tt_exchange_18 rfl ?_
      refine zi_iload_n d_tt_exchange_19 rfl ?_
      refine zi_iload_n d_tt_exchange_20 rfl ?_
      refine c_tt_exchange_21 rfl rfl (tt1_venueAt (by simp only [tX]; simpa using hw) ⟨by omega, by omega⟩ ⟨by omega, by omega⟩) ?_
      refine zi_istore d_tt_exchange_24 (by decide) rfl ?_
      refine zr_aload_n d_tt_exchange_26 rfl ?_
      refine zi_iload_n d_tt_exchange_27 rfl ?_
      refine zi_iload_n d_tt_exchange_28 rfl ?_
      refine zr_aload_n d_tt_exchange_29 rfl ?_
      refine zi_iload_n d_tt_exchange_30 rfl ?_
      refine zi_iload_n d_tt_exchange_31 rfl ?_
      refine c_tt_exchange_32 rfl rfl (tt1_opponentAt (by simp only [tX]; simpa using hw) ⟨by omega, by omega⟩ ⟨by omega, by omega⟩) ?_
      refine zr_aload_n d_tt_exchange_35 rfl ?_
      refine zi_iload_n d_tt_exchange_36 rfl ?_
      refine zi_iload_n d_tt_exchange_37 rfl ?_
      refine c_tt_exchange_38 rfl rfl (tt1_venueAt (by simp only [tX]; simpa using hw) ⟨by omega, by omega⟩ ⟨by omega, by omega⟩) ?_
      refine c_tt_exchange_41 rfl rfl (tt1_putSide (by simp only [tX]; simpa using hw) ⟨by omega, by omega⟩ ⟨by omega, by omega⟩) ?_
      refine zr_aload_n d_tt_exchange_44 rfl ?_
      refine zi_iload_n d_tt_exchange_45 rfl ?_
      refine zi_iload_n d_tt_exchange_46 rfl ?_
      refine zi_iload d_tt_exchange_47 rfl ?_
      refine zi_iload d_tt_exchange_49 rfl ?_
      refine c_tt_exchange_51 rfl rfl (tt1_putSide (by rw [tP1_w]; simp only [tX]; simpa using hw) ⟨by omega, by omega⟩ ⟨by omega, by omega⟩) ?_
      refine zi_iinc d_tt_exchange_54 (by decide) rfl rfl ?_
      refine zr_goto 2 d_tt_exchange_57 (by decide) ?_
      exact zE4 hk (by refine ⟨?_, ?_, ?_, ?_, ?_, ?_, trivial⟩ <;> first | exact Or.inl rfl | exact Or.inr rfl) (tX_step τ a b i (by omega))
  · refine zi_iload_n d_tt_exchange_2 rfl ?_
    refine zr_aload_n d_tt_exchange_3 rfl ?_
    refine zi_getiE (j := 3) (x := (n : Int)) d_tt_exchange_4 zC4 fl_tt_22 (by decide) rfl rfl (by simp only [tX]; simpa using hn) ?_
    refine zi_icmp_ge 60 d_tt_exchange_7 (by decide) (by first | assumption | exact ⟨by omega, by omega⟩) (by first | assumption | exact ⟨by omega, by omega⟩) (fun h7 => ?_) (fun h7 => ?_)
    · exact zk_vret rfl d_tt_exchange_60 (Nat.zero_le _) (Nat.zero_le _) rfl
    · exact absurd h7 (by omega)
theorem wi_isOfFixed {l : Launch} {d : Nat} {τ : tS} {i t : Int} (hA : AllIn τ) (hi : 0 ≤ i ∧ i < 6) (ht : zin t) : zF l (d + 1) M_wi_isOfFixed [.ref 4, vi i, vi t] (τ) (some (vi (if τ 9 i.toNat = t ∨ τ 10 i.toNat = t then 1 else 0))) (τ) := by
  refine zMet_of (ls := [.ref 4, vi i, vi t]) pn_wi rfl (by simp [vi, Value.category]) rfl rfl ?_
  refine zr_aload_n d_wi_isOfFixed_0 rfl ?_
  refine zi_getr (j := 6) d_wi_isOfFixed_1 zC6 fl_wi_24 (by decide) rfl rfl ?_
  refine zi_iload_n d_wi_isOfFixed_4 rfl ?_
  refine zi_iald d_wi_isOfFixed_5 rfl (by decide) (by omega) (by omega) ?_
  refine zi_iload_n d_wi_isOfFixed_6 rfl ?_
  refine zi_icmp_eq 20 d_wi_isOfFixed_7 (by decide) (hA _ _) ht (fun h7 => ?_) (fun h7 => ?_)
  · refine zi_iconst d_wi_isOfFixed_20 ?_
    refine zr_goto 25 d_wi_isOfFixed_21 (by decide) ?_
    exact zk_zret rfl d_wi_isOfFixed_25 (Nat.zero_le _) (Nat.zero_le _) (by omega) (by first | rfl | omega | (split <;> omega) | simp_all) rfl
  · refine zr_aload_n d_wi_isOfFixed_10 rfl ?_
    refine zi_getr (j := 7) d_wi_isOfFixed_11 zC6 fl_wi_27 (by decide) rfl rfl ?_
    refine zi_iload_n d_wi_isOfFixed_14 rfl ?_
    refine zi_iald d_wi_isOfFixed_15 rfl (by decide) (by omega) (by omega) ?_
    refine zi_iload_n d_wi_isOfFixed_16 rfl ?_
    refine zi_icmp_ne 24 d_wi_isOfFixed_17 (by decide) (hA _ _) ht (fun h17 => ?_) (fun h17 => ?_)
    · refine zi_iconst d_wi_isOfFixed_24 ?_
      exact zk_zret rfl d_wi_isOfFixed_25 (Nat.zero_le _) (Nat.zero_le _) (by omega) (by first | rfl | omega | (split <;> omega) | simp_all) rfl
    · refine zi_iconst d_wi_isOfFixed_20 ?_
      refine zr_goto 25 d_wi_isOfFixed_21 (by decide) ?_
      exact zk_zret rfl d_wi_isOfFixed_25 (Nat.zero_le _) (Nat.zero_le _) (by omega) (by first | rfl | omega | (split <;> omega) | simp_all) rfl
def misP (τ : tS) (r : Int) (t : Nat) : Bool := decide (τ 28 r.toNat = 1 ∧ τ 3 (r * 20 + (t : Int)).toNat = 1 ∧ τ 19 (r * 20 + (t : Int)).toNat = -1)
theorem wo_missingIn {l : Launch} {d : Nat} {τ : tS} {n : Nat} {r : Int} (hA : AllIn τ) (hw : τ 1 0 = 20) (hn : τ 1 3 = (n : Int)) (hn2 : n ≤ 20) (hb : ∀ j, τ 28 j = 0 ∨ τ 28 j = 1) (hr : 0 ≤ r ∧ r < 38) : zF l (d + 4) M_wo_missingIn [.ref 27, vi r] (τ) (some (vi ((cnt (misP τ r) n : Nat) : Int))) (τ) := by
  refine zMet_of (ls := [.ref 27, vi r, .null, .null]) pn_wo rfl (by simp [vi, Value.category]) rfl rfl ?_
  refine zi_iconst d_wo_missingIn_0 ?_
  refine zi_istore_n d_wo_missingIn_1 (by decide) rfl ?_
  refine zi_iconst d_wo_missingIn_2 ?_
  refine zi_istore_n d_wo_missingIn_3 (by decide) rfl ?_
  have key := zup (P := fun (i : Nat) => zV l (d + 4) M_wo_missingIn 4 [.ref 27, vi r, vi ((cnt (misP τ r) i : Nat) : Int), vi (i : Int)] [] (τ) (0, 0) (.inl (some (vi ((cnt (misP τ r) n : Nat) : Int))), (SH, zq τ), 0, 0)) (n) ?_ ?_ 0 (by omega)
  · exact zE4 key (by refine ⟨?_, ?_, ?_, ?_, trivial⟩ <;> first | exact Or.inl rfl | exact Or.inr rfl) rfl
  · intro i hi hk
    refine zi_iload_n d_wo_missingIn_4 rfl ?_
    refine zr_aload_n d_wo_missingIn_5 rfl ?_
    refine zi_getr (j := 0) d_wo_missingIn_6 zC5 fl_wo_15 (by decide) rfl rfl ?_
    refine c_wo_missingIn_9 rfl rfl (tt1_teamCount) ?_
    show zV _ _ _ _ _ (vi _ :: _) _ _ _
    rw [hn]
    refine zi_icmp_ge 33 d_wo_missingIn_12 (by decide) (by first | assumption | exact ⟨by omega, by omega⟩) (by first | assumption | exact ⟨by omega, by omega⟩) (fun h12 => ?_) (fun h12 => ?_)
    · exact absurd h12 (by omega)
    · refine zr_aload_n d_wo_missingIn_15 rfl ?_
      refine zi_iload_n d_wo_missingIn_16 rfl ?_
      refine zi_iload_n d_wo_missingIn_17 rfl ?_
      refine c_wo_missingIn_18 rfl rfl (wo_isMissing hw hr ⟨by omega, by omega⟩ (hb _) (hA _ _) (hA _ _)) ?_
      refine zi_if_eq 27 d_wo_missingIn_21 (by decide) (by split <;> exact ⟨by decide, by decide⟩) (fun h21 => ?_) (fun h21 => ?_)
      · refine zi_iinc d_wo_missingIn_27 (by decide) rfl rfl ?_
        refine zr_goto 4 d_wo_missingIn_30 (by decide) ?_
        exact zE4 hk (by refine ⟨?_, ?_, ?_, ?_, trivial⟩ <;> first | exact Or.inl rfl | exact Or.inr rfl | (refine Or.inr (congrArg vi ?_); simp only [cnt, misP, decide_eq_true_eq]; split at h21 <;> split <;> omega)) rfl
      · refine zi_iinc d_wo_missingIn_24 (by decide) rfl rfl ?_
        refine zi_iinc d_wo_missingIn_27 (by decide) rfl rfl ?_
        refine zr_goto 4 d_wo_missingIn_30 (by decide) ?_
        exact zE4 hk (by refine ⟨?_, ?_, ?_, ?_, trivial⟩ <;> first | exact Or.inl rfl | exact Or.inr rfl | (refine Or.inr (congrArg vi ?_); simp only [cnt, misP, decide_eq_true_eq]; split at h21 <;> split <;> omega)) rfl
  · refine zi_iload_n d_wo_missingIn_4 rfl ?_
    refine zr_aload_n d_wo_missingIn_5 rfl ?_
    refine zi_getr (j := 0) d_wo_missingIn_6 zC5 fl_wo_15 (by decide) rfl rfl ?_
    refine c_wo_missingIn_9 rfl rfl (tt1_teamCount) ?_
    show zV _ _ _ _ _ (vi _ :: _) _ _ _
    rw [hn]
    refine zi_icmp_ge 33 d_wo_missingIn_12 (by decide) (by first | assumption | exact ⟨by omega, by omega⟩) (by first | assumption | exact ⟨by omega, by omega⟩) (fun h12 => ?_) (fun h12 => ?_)
    · refine zi_iload_n d_wo_missingIn_33 rfl ?_
      exact zk_iret rfl d_wo_missingIn_34 (Nat.zero_le _) (Nat.zero_le _) (by first | rfl | omega | (split <;> omega) | simp_all) rfl
    · exact absurd h12 (by omega)
theorem wo_missingInAll {l : Launch} {d : Nat} {τ : tS} {n R : Nat} (hA : AllIn τ) (hw : τ 1 0 = 20) (hn : τ 1 3 = (n : Int)) (hn2 : n ≤ 20) (hb : ∀ j, τ 28 j = 0 ∨ τ 28 j = 1) (hR : τ 1 4 = (R : Int)) (hR2 : R ≤ 38) : zF l (d + 5) M_wo_missingInAll [.ref 27] (τ) (some (vi (sumI (fun r => ((cnt (misP τ (r : Int)) n : Nat) : Int)) R))) (τ) := by
  refine zMet_of (ls := [.ref 27, .null, .null]) pn_wo rfl (by simp [vi, Value.category]) rfl rfl ?_
  refine zi_iconst d_wo_missingInAll_0 ?_
  refine zi_istore_n d_wo_missingInAll_1 (by decide) rfl ?_
  refine zi_iconst d_wo_missingInAll_2 ?_
  refine zi_istore_n d_wo_missingInAll_3 (by decide) rfl ?_
  have key := zup (P := fun (i : Nat) => zV l (d + 5) M_wo_missingInAll 4 [.ref 27, vi (sumI (fun r => ((cnt (misP τ (r : Int)) n : Nat) : Int)) i), vi (i : Int)] [] (τ) (0, 0) (.inl (some (vi (sumI (fun r => ((cnt (misP τ (r : Int)) n : Nat) : Int)) R))), (SH, zq τ), 0, 0)) (R) ?_ ?_ 0 (by omega)
  · exact zE4 key (by refine ⟨?_, ?_, ?_, trivial⟩ <;> first | exact Or.inl rfl | exact Or.inr rfl) rfl
  · intro i hi hk
    refine zi_iload_n d_wo_missingInAll_4 rfl ?_
    refine zr_aload_n d_wo_missingInAll_5 rfl ?_
    refine zi_getr (j := 0) d_wo_missingInAll_6 zC5 fl_wo_15 (by decide) rfl rfl ?_
    refine c_wo_missingInAll_9 rfl rfl (tt1_roundCount) ?_
    show zV _ _ _ _ _ (vi _ :: _) _ _ _
    rw [hR]
    refine zi_icmp_ge 29 d_wo_missingInAll_12 (by decide) (by first | assumption | exact ⟨by omega, by omega⟩) (by first | assumption | exact ⟨by omega, by omega⟩) (fun h12 => ?_) (fun h12 => ?_)
    · exact absurd h12 (by omega)
    · refine zi_iload_n d_wo_missingInAll_15 rfl ?_
      refine zr_aload_n d_wo_missingInAll_16 rfl ?_
      refine zi_iload_n d_wo_missingInAll_17 rfl ?_
      refine c_wo_missingInAll_18 rfl rfl (wo_missingIn hA hw hn hn2 hb ⟨by omega, by omega⟩) ?_
      refine zi_iadd d_wo_missingInAll_21 ?_
      refine zi_istore_n d_wo_missingInAll_22 (by decide) rfl ?_
      refine zi_iinc d_wo_missingInAll_23 (by decide) rfl rfl ?_
      refine zr_goto 4 d_wo_missingInAll_26 (by decide) ?_
      exact zE4 hk (by refine ⟨?_, ?_, ?_, trivial⟩ <;> first | exact Or.inl rfl | exact Or.inr rfl) rfl
  · refine zi_iload_n d_wo_missingInAll_4 rfl ?_
    refine zr_aload_n d_wo_missingInAll_5 rfl ?_
    refine zi_getr (j := 0) d_wo_missingInAll_6 zC5 fl_wo_15 (by decide) rfl rfl ?_
    refine c_wo_missingInAll_9 rfl rfl (tt1_roundCount) ?_
    show zV _ _ _ _ _ (vi _ :: _) _ _ _
    rw [hR]
    refine zi_icmp_ge 29 d_wo_missingInAll_12 (by decide) (by first | assumption | exact ⟨by omega, by omega⟩) (by first | assumption | exact ⟨by omega, by omega⟩) (fun h12 => ?_) (fun h12 => ?_)
    · refine zi_iload_n d_wo_missingInAll_29 rfl ?_
      exact zk_iret rfl d_wo_missingInAll_30 (Nat.zero_le _) (Nat.zero_le _) (by first | rfl | omega | (split <;> omega) | simp_all) rfl
    · exact absurd h12 (by omega)
