/-! leastFree, canMeet, flipMeeting, flipBye (written by wip/gen/t15.py) -/
theorem se_flipMeeting {l : Launch} {d : Nat} {τ : tS} {r a b : Nat} (hr : r < 7) (ha : a < 8) (hb : b < 8) (hab : a ≠ b) (h16 : 0 ≤ τ 16 r ∧ τ 16 r < 256) (h17 : 0 ≤ τ 17 a ∧ τ 17 a < 256) (h18 : 0 ≤ τ 17 b ∧ τ 17 b < 256) : zF l (d + 1) M_se_flipMeeting [.ref 12, vi (r : Int), vi (a : Int), vi (b : Int)] (τ) (none) (flmT τ r a b) := by
  refine zMet_of (ls := [.ref 12, vi (r : Int), vi (a : Int), vi (b : Int)]) pn_se rfl (by simp [vi, Value.category]) rfl rfl ?_
  have pa := p8 ha
  have pb := p8 hb
  have po := p8o ha hb
  have q1 : (tU τ 16 r ((((τ 16 r).toNat ^^^ (2 ^ a ||| 2 ^ b) : Nat)) : Int)) 17 a = τ 17 a := by simp [tU]
  have hba : ¬ b = a := fun g => hab g.symm
  have q2 : (tU (tU τ 16 r ((((τ 16 r).toNat ^^^ (2 ^ a ||| 2 ^ b) : Nat)) : Int)) 17 a (((((tU τ 16 r ((((τ 16 r).toNat ^^^ (2 ^ a ||| 2 ^ b) : Nat)) : Int)) 17 a).toNat ^^^ 2 ^ b : Nat)) : Int)) 17 b = τ 17 b := by simp [tU, hba]
  refine zr_aload_n d_se_flipMeeting_0 rfl ?_
  refine zi_getr (j := 2) d_se_flipMeeting_1 zC2 fl_se_20 (by decide) rfl rfl ?_
  refine zi_iload_n d_se_flipMeeting_4 rfl ?_
  refine zr_dup2 d_se_flipMeeting_5 rfl rfl ?_
  refine zi_ialdE (x := (((τ 16 r).toNat : Nat) : Int)) d_se_flipMeeting_6 rfl (by decide) (by omega) (by omega) (by rw [Int.toNat_natCast]; exact (Int.toNat_of_nonneg h16.1).symm) ?_
  refine zi_iconst d_se_flipMeeting_7 ?_
  refine zi_iload_n d_se_flipMeeting_8 rfl ?_
  refine zi_ishl d_se_flipMeeting_9 (by omega)  ?_
  refine zi_iconst d_se_flipMeeting_10 ?_
  refine zi_iload_n d_se_flipMeeting_11 rfl ?_
  refine zi_ishl d_se_flipMeeting_12 (by omega)  ?_
  refine zi_ior d_se_flipMeeting_13 (by omega) (by omega) ?_
  refine zi_ixor d_se_flipMeeting_14 (by omega) (by omega) ?_
  refine zi_iast d_se_flipMeeting_15 rfl (by decide) (by omega) (by omega) ?_
  rw [Int.toNat_natCast]
  refine zr_aload_n d_se_flipMeeting_16 rfl ?_
  refine zi_getr (j := 3) d_se_flipMeeting_17 zC2 fl_se_24 (by decide) rfl rfl ?_
  refine zi_iload_n d_se_flipMeeting_20 rfl ?_
  refine zr_dup2 d_se_flipMeeting_21 rfl rfl ?_
  refine zi_ialdE (x := ((((tU τ 16 r ((((τ 16 r).toNat ^^^ (2 ^ a ||| 2 ^ b) : Nat)) : Int)) 17 a).toNat : Nat) : Int)) d_se_flipMeeting_22 rfl (by decide) (by omega) (by omega) (by rw [Int.toNat_natCast]; exact (Int.toNat_of_nonneg (by rw [q1]; exact h17.1)).symm) ?_
  refine zi_iconst d_se_flipMeeting_23 ?_
  refine zi_iload_n d_se_flipMeeting_24 rfl ?_
  refine zi_ishl d_se_flipMeeting_25 (by omega)  ?_
  refine zi_ixor d_se_flipMeeting_26 (by omega) (by omega) ?_
  refine zi_iast d_se_flipMeeting_27 rfl (by decide) (by omega) (by omega) ?_
  rw [Int.toNat_natCast]
  refine zr_aload_n d_se_flipMeeting_28 rfl ?_
  refine zi_getr (j := 3) d_se_flipMeeting_29 zC2 fl_se_24 (by decide) rfl rfl ?_
  refine zi_iload_n d_se_flipMeeting_32 rfl ?_
  refine zr_dup2 d_se_flipMeeting_33 rfl rfl ?_
  refine zi_ialdE (x := ((((tU (tU τ 16 r ((((τ 16 r).toNat ^^^ (2 ^ a ||| 2 ^ b) : Nat)) : Int)) 17 a (((((tU τ 16 r ((((τ 16 r).toNat ^^^ (2 ^ a ||| 2 ^ b) : Nat)) : Int)) 17 a).toNat ^^^ 2 ^ b : Nat)) : Int)) 17 b).toNat : Nat) : Int)) d_se_flipMeeting_34 rfl (by decide) (by omega) (by omega) (by rw [Int.toNat_natCast]; exact (Int.toNat_of_nonneg (by rw [q2]; exact h18.1)).symm) ?_
  refine zi_iconst d_se_flipMeeting_35 ?_
  refine zi_iload_n d_se_flipMeeting_36 rfl ?_
  refine zi_ishl d_se_flipMeeting_37 (by omega)  ?_
  refine zi_ixor d_se_flipMeeting_38 (by omega) (by omega) ?_
  refine zi_iast d_se_flipMeeting_39 rfl (by decide) (by omega) (by omega) ?_
  exact zk_vret rfl d_se_flipMeeting_40 (Nat.zero_le _) (Nat.zero_le _) (by rw [Int.toNat_natCast]; rfl)
theorem se_flipBye {l : Launch} {d : Nat} {τ : tS} {r t : Nat} (hr : r < 7) (ht : t < 8) (h16 : 0 ≤ τ 16 r ∧ τ 16 r < 256) (h12 : 0 ≤ τ 12 4 ∧ τ 12 4 < 256) : zF l (d + 1) M_se_flipBye [.ref 12, vi (r : Int), vi (t : Int)] (τ) (none) (flbT τ r t) := by
  refine zMet_of (ls := [.ref 12, vi (r : Int), vi (t : Int)]) pn_se rfl (by simp [vi, Value.category]) rfl rfl ?_
  have pa := p8 ht
  have q1 : (tU τ 16 r ((((τ 16 r).toNat ^^^ 2 ^ t : Nat)) : Int)) 12 4 = τ 12 4 := by simp [tU]
  refine zr_aload_n d_se_flipBye_0 rfl ?_
  refine zi_getr (j := 2) d_se_flipBye_1 zC2 fl_se_20 (by decide) rfl rfl ?_
  refine zi_iload_n d_se_flipBye_4 rfl ?_
  refine zr_dup2 d_se_flipBye_5 rfl rfl ?_
  refine zi_ialdE (x := (((τ 16 r).toNat : Nat) : Int)) d_se_flipBye_6 rfl (by decide) (by omega) (by omega) (by rw [Int.toNat_natCast]; exact (Int.toNat_of_nonneg h16.1).symm) ?_
  refine zi_iconst d_se_flipBye_7 ?_
  refine zi_iload_n d_se_flipBye_8 rfl ?_
  refine zi_ishl d_se_flipBye_9 (by omega)  ?_
  refine zi_ixor d_se_flipBye_10 (by omega) (by omega) ?_
  refine zi_iast d_se_flipBye_11 rfl (by decide) (by omega) (by omega) ?_
  rw [Int.toNat_natCast]
  refine zr_aload_n d_se_flipBye_12 rfl ?_
  refine zr_dup d_se_flipBye_13 rfl ?_
  refine zi_getiE (j := 4) (x := ((((tU τ 16 r ((((τ 16 r).toNat ^^^ 2 ^ t : Nat)) : Int)) 12 4).toNat : Nat) : Int)) d_se_flipBye_14 zC2 fl_se_44 (by decide) rfl rfl ((Int.toNat_of_nonneg (by rw [q1]; exact h12.1)).symm) ?_
  refine zi_iconst d_se_flipBye_17 ?_
  refine zi_iload_n d_se_flipBye_18 rfl ?_
  refine zi_ishl d_se_flipBye_19 (by omega)  ?_
  refine zi_ixor d_se_flipBye_20 (by omega) (by omega) ?_
  refine zi_puti (j := 4) d_se_flipBye_21 zC2 fl_se_44 (by decide) rfl rfl rfl rfl ?_
  exact zk_vret rfl d_se_flipBye_24 (Nat.zero_le _) (Nat.zero_le _) rfl
theorem se_canMeet {l : Launch} {d : Nat} {τ : tS} {r t o m1 m2 : Nat} (hr : r < 7) (ht : t < 8) (ho : o < 8) (h16 : τ 16 r = (m1 : Int)) (h17 : τ 17 t = (m2 : Int)) (hm1 : m1 < 256) (hm2 : m2 < 256) : zF l (d + 2) M_se_canMeet [.ref 12, vi (r : Int), vi (t : Int), vi (o : Int)] (τ) (some (vi (if ¬ m1.testBit o = true ∧ ¬ m2.testBit o = true then 1 else 0))) (τ) := by
  refine zMet_of (ls := [.ref 12, vi (r : Int), vi (t : Int), vi (o : Int)]) pn_se rfl (by simp [vi, Value.category]) rfl rfl ?_
  refine zr_aload_n d_se_canMeet_0 rfl ?_
  refine zi_getr (j := 2) d_se_canMeet_1 zC2 fl_se_20 (by decide) rfl rfl ?_
  refine zi_iload_n d_se_canMeet_4 rfl ?_
  refine zi_ialdE (x := (m1 : Int)) d_se_canMeet_5 rfl (by decide) (by omega) (by omega) (by rw [Int.toNat_natCast]; exact h16) ?_
  refine zi_iload_n d_se_canMeet_6 rfl ?_
  refine c_se_canMeet_7 rfl (lr_hasBit (by omega) (by omega)) ?_
  refine zi_if_ne 30 d_se_canMeet_10 (by decide) (by split <;> exact ⟨by decide, by decide⟩) (fun h10 => ?_) (fun h10 => ?_)
  · refine zi_iconst d_se_canMeet_30 ?_
    exact zk_zret rfl d_se_canMeet_31 (Nat.zero_le _) (Nat.zero_le _) (by omega) (by grind) rfl
  · refine zr_aload_n d_se_canMeet_13 rfl ?_
    refine zi_getr (j := 3) d_se_canMeet_14 zC2 fl_se_24 (by decide) rfl rfl ?_
    refine zi_iload_n d_se_canMeet_17 rfl ?_
    refine zi_ialdE (x := (m2 : Int)) d_se_canMeet_18 rfl (by decide) (by omega) (by omega) (by rw [Int.toNat_natCast]; exact h17) ?_
    refine zi_iload_n d_se_canMeet_19 rfl ?_
    refine c_se_canMeet_20 rfl (lr_hasBit (by omega) (by omega)) ?_
    refine zi_if_ne 30 d_se_canMeet_23 (by decide) (by split <;> exact ⟨by decide, by decide⟩) (fun h23 => ?_) (fun h23 => ?_)
    · refine zi_iconst d_se_canMeet_30 ?_
      exact zk_zret rfl d_se_canMeet_31 (Nat.zero_le _) (Nat.zero_le _) (by omega) (by grind) rfl
    · refine zi_iconst d_se_canMeet_26 ?_
      refine zr_goto 31 d_se_canMeet_27 (by decide) ?_
      exact zk_zret rfl d_se_canMeet_31 (Nat.zero_le _) (Nat.zero_le _) (by omega) (by grind) rfl
def lfm (m n : Nat) : Nat := (fst0 (fun t => ! m.testBit t) n).getD n
theorem zleast (p : Nat → Prop) (h : ∃ j, p j) : ∃ i, p i ∧ ∀ j, j < i → ¬ p j := by
  obtain ⟨k, hk⟩ := h
  induction k using Nat.strongRecOn with
  | _ k ih =>
    by_cases e : ∃ j, j < k ∧ p j
    · obtain ⟨j, h1, h2⟩ := e
      exact ih j h1 h2
    · exact ⟨k, hk, fun j hj hp => e ⟨j, hj, hp⟩⟩
theorem lfm_le (m n : Nat) : lfm m n ≤ n := by
  unfold lfm
  by_cases h : ∃ j, j < n ∧ (! m.testBit j) = true
  · obtain ⟨i, h1, h2⟩ := zleast (fun j => j < n ∧ (! m.testBit j) = true) h
    rw [fst0_some _ n i h1.1 (fun j hj hp => h2 j hj ⟨by omega, hp⟩) h1.2]
    exact Nat.le_of_lt h1.1
  · rw [fst0_none _ n (fun j hj hp => h ⟨j, hj, hp⟩)]
    exact Nat.le_refl _
theorem se_leastFree {l : Launch} {d : Nat} {τ : tS} {r m n : Nat} (hr : r < 7) (hn : τ 13 3 = (n : Int)) (hn8 : n ≤ 8) (h16 : τ 16 r = (m : Int)) (hm : m < 256) : zF l (d + 2) M_se_leastFree [.ref 12, vi (r : Int)] (τ) (some (vi ((lfm m n : Nat) : Int))) (τ) := by
  refine zMet_of (ls := [.ref 12, vi (r : Int), .null]) pn_se rfl (by simp [vi, Value.category]) rfl rfl ?_
  refine zi_iconst d_se_leastFree_0 ?_
  refine zi_istore_n d_se_leastFree_1 (by decide) rfl ?_
  have key := zfirst (P := fun (i : Nat) => zV l (d + 2) M_se_leastFree 2 [.ref 12, vi (r : Int), vi (i : Int)] [] τ (0, 0) (.inl (some (vi ((lfm m n : Nat) : Int))), (SH, zq τ), 0, 0)) (fun i => (! m.testBit i) = true) n ?_ ?_ ?_
  · exact zE4 key (by refine ⟨?_, ?_, ?_, trivial⟩ <;> first | exact Or.inl rfl | exact Or.inr rfl) rfl
  · intro i hi hp hct hk
    refine zi_iload_n d_se_leastFree_2 rfl ?_
    refine zr_aload_n d_se_leastFree_3 rfl ?_
    refine zi_getr (j := 1) d_se_leastFree_4 zC2 fl_se_14 (by decide) rfl rfl ?_
    refine c_se_leastFree_7 rfl rfl (tt13_teamCount) ?_
    show zV _ _ _ _ _ (vi _ :: _) _ _ _
    rw [hn]
    refine zi_icmp_ge 32 d_se_leastFree_10 (by decide) (by first | assumption | exact ⟨by omega, by omega⟩) (by first | assumption | exact ⟨by omega, by omega⟩) (fun h10 => ?_) (fun h10 => ?_)
    · exact absurd h10 (by omega)
    · refine zr_aload_n d_se_leastFree_13 rfl ?_
      refine zi_getr (j := 2) d_se_leastFree_14 zC2 fl_se_20 (by decide) rfl rfl ?_
      refine zi_iload_n d_se_leastFree_17 rfl ?_
      refine zi_ialdE (x := (m : Int)) d_se_leastFree_18 rfl (by decide) (by omega) (by omega) (by rw [Int.toNat_natCast]; exact h16) ?_
      refine zi_iload_n d_se_leastFree_19 rfl ?_
      refine c_se_leastFree_20 rfl (lr_hasBit (by omega) (by omega)) ?_
      refine zi_if_eq 32 d_se_leastFree_23 (by decide) (by split <;> exact ⟨by decide, by decide⟩) (fun h23 => ?_) (fun h23 => ?_)
      · exfalso
        cases hq : m.testBit i <;> simp [hq] at hct h23
      · refine zi_iinc d_se_leastFree_26 (by decide) rfl rfl ?_
        refine zr_goto 2 d_se_leastFree_29 (by decide) ?_
        exact zE4 hk (by refine ⟨?_, ?_, ?_, trivial⟩ <;> first | exact Or.inl rfl | exact Or.inr rfl) rfl
  · intro i hi hp hct
    refine zi_iload_n d_se_leastFree_2 rfl ?_
    refine zr_aload_n d_se_leastFree_3 rfl ?_
    refine zi_getr (j := 1) d_se_leastFree_4 zC2 fl_se_14 (by decide) rfl rfl ?_
    refine c_se_leastFree_7 rfl rfl (tt13_teamCount) ?_
    show zV _ _ _ _ _ (vi _ :: _) _ _ _
    rw [hn]
    refine zi_icmp_ge 32 d_se_leastFree_10 (by decide) (by first | assumption | exact ⟨by omega, by omega⟩) (by first | assumption | exact ⟨by omega, by omega⟩) (fun h10 => ?_) (fun h10 => ?_)
    · exact absurd h10 (by omega)
    · refine zr_aload_n d_se_leastFree_13 rfl ?_
      refine zi_getr (j := 2) d_se_leastFree_14 zC2 fl_se_20 (by decide) rfl rfl ?_
      refine zi_iload_n d_se_leastFree_17 rfl ?_
      refine zi_ialdE (x := (m : Int)) d_se_leastFree_18 rfl (by decide) (by omega) (by omega) (by rw [Int.toNat_natCast]; exact h16) ?_
      refine zi_iload_n d_se_leastFree_19 rfl ?_
      refine c_se_leastFree_20 rfl (lr_hasBit (by omega) (by omega)) ?_
      refine zi_if_eq 32 d_se_leastFree_23 (by decide) (by split <;> exact ⟨by decide, by decide⟩) (fun h23 => ?_) (fun h23 => ?_)
      · refine zi_iload_n d_se_leastFree_32 rfl ?_
        exact zk_iret rfl d_se_leastFree_33 (Nat.zero_le _) (Nat.zero_le _) (by rw [lfm, fst0_some _ n i hi hp hct]; rfl) rfl
      · exfalso
        cases hq : m.testBit i <;> simp [hq] at hct h23
  · intro hno
    refine zi_iload_n d_se_leastFree_2 rfl ?_
    refine zr_aload_n d_se_leastFree_3 rfl ?_
    refine zi_getr (j := 1) d_se_leastFree_4 zC2 fl_se_14 (by decide) rfl rfl ?_
    refine c_se_leastFree_7 rfl rfl (tt13_teamCount) ?_
    show zV _ _ _ _ _ (vi _ :: _) _ _ _
    rw [hn]
    refine zi_icmp_ge 32 d_se_leastFree_10 (by decide) (by first | assumption | exact ⟨by omega, by omega⟩) (by first | assumption | exact ⟨by omega, by omega⟩) (fun h10 => ?_) (fun h10 => ?_)
    · refine zi_iload_n d_se_leastFree_32 rfl ?_
      exact zk_iret rfl d_se_leastFree_33 (Nat.zero_le _) (Nat.zero_le _) (by rw [lfm, fst0_none _ n hno]; rfl) rfl
    · exact absurd h10 (by omega)
theorem se_found {l : Launch} {d : Nat} {τ : tS} : zF l (d + 1) M_se_found [.ref 12] (τ) (some (.ref 13)) (τ) := by
  refine zMet_of (ls := [.ref 12]) pn_se rfl (by simp [vi, Value.category]) rfl rfl ?_
  refine zr_aload_n d_se_found_0 rfl ?_
  refine zi_getr (j := 1) d_se_found_1 zC2 fl_se_14 (by decide) rfl rfl ?_
  exact zk_aret rfl d_se_found_4 (Nat.zero_le _) (Nat.zero_le _)
