/-! statics of LeagueRounds, Wishes, Results, Standings, WashOuts: small methods (written by wip/gen/t2.py) -/
theorem lr_isWishRound {l : Launch} {d : Nat} {τ : tS} {r : Int} (hr : zin r) : zF l (d + 1) M_lr_isWishRound [vi r] (τ) (some (vi (if 0 ≤ r ∧ r ≤ 38 then 1 else 0))) (τ) := by
  refine zMet_of (ls := [vi r]) pn_lr rfl (by simp [vi, Value.category]) rfl rfl ?_
  refine zi_iload_n d_lr_isWishRound_0 rfl ?_
  refine zi_if_lt 14 d_lr_isWishRound_1 (by decide) (by first | assumption | exact ⟨by omega, by omega⟩) (fun h1 => ?_) (fun h1 => ?_)
  · refine zi_iconst d_lr_isWishRound_14 ?_
    exact zk_zret rfl d_lr_isWishRound_15 (Nat.zero_le _) (Nat.zero_le _) (by omega) (by first | rfl | omega | (split <;> omega) | simp_all) rfl
  · refine zi_iload_n d_lr_isWishRound_4 rfl ?_
    refine zi_bipush d_lr_isWishRound_5 (by decide) ?_
    refine zi_icmp_gt 14 d_lr_isWishRound_7 (by decide) (by first | assumption | exact ⟨by omega, by omega⟩) (by first | assumption | exact ⟨by omega, by omega⟩) (fun h7 => ?_) (fun h7 => ?_)
    · refine zi_iconst d_lr_isWishRound_14 ?_
      exact zk_zret rfl d_lr_isWishRound_15 (Nat.zero_le _) (Nat.zero_le _) (by omega) (by first | rfl | omega | (split <;> omega) | simp_all) rfl
    · refine zi_iconst d_lr_isWishRound_10 ?_
      refine zr_goto 15 d_lr_isWishRound_11 (by decide) ?_
      exact zk_zret rfl d_lr_isWishRound_15 (Nat.zero_le _) (Nat.zero_le _) (by omega) (by first | rfl | omega | (split <;> omega) | simp_all) rfl
theorem lr_areGoals {l : Launch} {d : Nat} {τ : tS} {g : Int} (hg : zin g) : zF l (d + 1) M_lr_areGoals [vi g] (τ) (some (vi (if 0 ≤ g ∧ g ≤ 99 then 1 else 0))) (τ) := by
  refine zMet_of (ls := [vi g]) pn_lr rfl (by simp [vi, Value.category]) rfl rfl ?_
  refine zi_iload_n d_lr_areGoals_0 rfl ?_
  refine zi_if_lt 14 d_lr_areGoals_1 (by decide) (by first | assumption | exact ⟨by omega, by omega⟩) (fun h1 => ?_) (fun h1 => ?_)
  · refine zi_iconst d_lr_areGoals_14 ?_
    exact zk_zret rfl d_lr_areGoals_15 (Nat.zero_le _) (Nat.zero_le _) (by omega) (by first | rfl | omega | (split <;> omega) | simp_all) rfl
  · refine zi_iload_n d_lr_areGoals_4 rfl ?_
    refine zi_bipush d_lr_areGoals_5 (by decide) ?_
    refine zi_icmp_gt 14 d_lr_areGoals_7 (by decide) (by first | assumption | exact ⟨by omega, by omega⟩) (by first | assumption | exact ⟨by omega, by omega⟩) (fun h7 => ?_) (fun h7 => ?_)
    · refine zi_iconst d_lr_areGoals_14 ?_
      exact zk_zret rfl d_lr_areGoals_15 (Nat.zero_le _) (Nat.zero_le _) (by omega) (by first | rfl | omega | (split <;> omega) | simp_all) rfl
    · refine zi_iconst d_lr_areGoals_10 ?_
      refine zr_goto 15 d_lr_areGoals_11 (by decide) ?_
      exact zk_zret rfl d_lr_areGoals_15 (Nat.zero_le _) (Nat.zero_le _) (by omega) (by first | rfl | omega | (split <;> omega) | simp_all) rfl
theorem lr_spot {l : Launch} {d : Nat} {τ : tS} {r t : Int} : zF l (d + 1) M_lr_spot [vi r, vi t] (τ) (some (vi (r * 20 + t))) (τ) := by
  refine zMet_of (ls := [vi r, vi t]) pn_lr rfl (by simp [vi, Value.category]) rfl rfl ?_
  refine zi_iload_n d_lr_spot_0 rfl ?_
  refine zi_bipush d_lr_spot_1 (by decide) ?_
  refine zi_imul d_lr_spot_3 ?_
  refine zi_iload_n d_lr_spot_4 rfl ?_
  refine zi_iadd d_lr_spot_5 ?_
  exact zk_iret rfl d_lr_spot_6 (Nat.zero_le _) (Nat.zero_le _) (by first | rfl | omega | (split <;> omega) | simp_all) rfl
theorem lr_singleRounds {l : Launch} {d : Nat} {τ : tS} {n : Int} (hn : 0 ≤ n ∧ n < 1000) : zF l (d + 1) M_lr_singleRounds [vi n] (τ) (some (vi (if n % 2 = 0 then n - 1 else n))) (τ) := by
  refine zMet_of (ls := [vi n]) pn_lr rfl (by simp [vi, Value.category]) rfl rfl ?_
  refine zi_iload_n d_lr_singleRounds_0 rfl ?_
  refine zi_iconst d_lr_singleRounds_1 ?_
  refine zi_irem d_lr_singleRounds_2 (by first | assumption | exact ⟨by omega, by omega⟩) (by first | assumption | exact ⟨by omega, by omega⟩) ?_
  refine zi_if_ne 12 d_lr_singleRounds_3 (by decide) (by first | assumption | exact ⟨by omega, by omega⟩) (fun h3 => ?_) (fun h3 => ?_)
  · refine zi_iload_n d_lr_singleRounds_12 rfl ?_
    exact zk_iret rfl d_lr_singleRounds_13 (Nat.zero_le _) (Nat.zero_le _) (by first | rfl | omega | (split <;> omega) | simp_all) rfl
  · refine zi_iload_n d_lr_singleRounds_6 rfl ?_
    refine zi_iconst d_lr_singleRounds_7 ?_
    refine zi_isub d_lr_singleRounds_8 ?_
    refine zr_goto 13 d_lr_singleRounds_9 (by decide) ?_
    exact zk_iret rfl d_lr_singleRounds_13 (Nat.zero_le _) (Nat.zero_le _) (by first | rfl | omega | (split <;> omega) | simp_all) rfl
theorem zbit (m k : Nat) : (m / 2 ^ k) % 2 = (if m.testBit k then 1 else 0) := by
  rw [Nat.testBit, Nat.shiftRight_eq_div_pow]
  have := Nat.mod_two_eq_zero_or_one (m / 2 ^ k)
  rcases this with h | h <;> simp [h, Nat.one_and_eq_mod_two]
theorem lr_hasBit {l : Launch} {d : Nat} {τ : tS} {m k : Nat} (hm : m < 2147483648) (hk : k < 31) : zF l (d + 1) M_lr_hasBit [vi (m : Int), vi (k : Int)] (τ) (some (vi (if m.testBit k then 1 else 0))) (τ) := by
  refine zMet_of (ls := [vi (m : Int), vi (k : Int)]) pn_lr rfl (by simp [vi, Value.category]) rfl rfl ?_
  refine zi_iload_n d_lr_hasBit_0 rfl ?_
  refine zi_iload_n d_lr_hasBit_1 rfl ?_
  refine zi_ishr d_lr_hasBit_2 hm hk ?_
  refine zi_iconst d_lr_hasBit_3 ?_
  have hle : m / 2 ^ k ≤ m := Nat.div_le_self _ _
  have hb := zbit m k
  refine zi_iand1 d_lr_hasBit_4 (by omega)  ?_
  refine zi_if_eq 12 d_lr_hasBit_5 (by decide) ⟨by omega, by omega⟩ (fun h5 => ?_) (fun h5 => ?_)
  · refine zi_iconst d_lr_hasBit_12 ?_
    exact zk_zret rfl d_lr_hasBit_13 (Nat.zero_le _) (Nat.zero_le _) (by omega) (by split at hb <;> simp_all) rfl
  · refine zi_iconst d_lr_hasBit_8 ?_
    refine zr_goto 13 d_lr_hasBit_9 (by decide) ?_
    exact zk_zret rfl d_lr_hasBit_13 (Nat.zero_le _) (Nat.zero_le _) (by omega) (by split at hb <;> simp_all) rfl
