/-! run of the search (written by wip/gen/t18.py) -/
def D0 : tS := fun _ _ => -2
def srT (τ : tS) (n all : Nat) : tS := tU (tU (tU τ 13 3 (n : Int)) 13 4 (all : Int)) 12 5 ((2 ^ n - 1 : Nat) : Int)
theorem msk_0 : ∀ n, msk (fun _ => false) n = 0
  | 0 => rfl
  | n + 1 => by rw [msk, msk_0 n]; simp
theorem D0_busy (r : Nat) : msk (dBusy D0 r) 8 = 0 := (msk_ext (fun i _ => by simp [dBusy, D0])).trans (msk_0 8)
theorem D0_met (r : Nat) : msk (dMet D0 r) 8 = 0 := (msk_ext (fun i _ => by simp [dMet, D0, anyN])).trans (msk_0 8)
theorem D0_bye : msk (dBye D0) 8 = 0 := (msk_ext (fun i _ => by simp [dBye, D0, anyN])).trans (msk_0 8)
theorem D0_ok (n : Nat) : DOk D0 n := ⟨fun _ _ => by unfold D0; exact ⟨by decide, by decide⟩, fun _ _ _ => rfl, fun _ _ h => by unfold D0 at h; exact absurd h (by decide)⟩
theorem sr_enc (τ : tS) (n all b : Nat) : tU (tU (tU (tF (tF (tF (tF (tU (tU τ 13 3 (n : Int)) 13 4 (all : Int)) 14 56 (-1)) 15 56 (-1)) 16 7 0) 17 8 0) 12 4 0) 12 5 ((2 ^ n - 1 : Nat) : Int)) 12 6 (b : Int) = enc (srT τ n all) D0 b := by
  funext q j
  by_cases q12 : q = 12
  · subst q12
    simp only [enc, srT, tU, tF, D0_bye]
    by_cases e4 : j = 4
    · simp [e4]
    · by_cases e5 : j = 5
      · simp [e5]
      · by_cases e6 : j = 6 <;> simp [e4, e5, e6]
  · by_cases q14 : q = 14
    · subst q14
      by_cases ej : j < 56 <;> simp [enc, srT, tU, tF, ej, D0, foC]
    · by_cases q15 : q = 15
      · subst q15
        by_cases ej : j < 56 <;> simp [enc, srT, tU, tF, ej, D0, veC]
      · by_cases q16 : q = 16
        · subst q16
          by_cases ej : j < 7 <;> simp [enc, srT, tU, tF, ej, D0_busy]
        · by_cases q17 : q = 17
          · subst q17
            by_cases ej : j < 8 <;> simp [enc, srT, tU, tF, ej, D0_met]
          · simp [enc, srT, tU, tF, q12, q14, q15, q16, q17]
def srF (τ : tS) (n all p f b : Nat) : sR := goF (srT τ n all) n all p f 28 D0 0 b
theorem srT_ok {τ : tS} {n all p f : Nat} (hA : AllIn τ) (hw : τ 13 0 = 8) (h5 : ∀ j, 0 ≤ τ 5 j) (h6 : ∀ j, 0 ≤ τ 6 j) (hp5 : τ 4 5 = (p : Int)) (hp6 : p ≤ 6) (hP : ∀ i, i < p → (0 ≤ τ 7 i ∧ τ 7 i < 8) ∧ (0 ≤ τ 8 i ∧ τ 8 i < 8)) (hf9 : τ 4 9 = (f : Int)) (hf6 : f ≤ 6) (hn4 : 4 ≤ n) (hn8 : n ≤ 8) (ha : all ≤ 7) : SOk (srT τ n all) n all p f := by
  have hpw : 2 ^ n ≤ 2 ^ 8 := Nat.pow_le_pow_right (by decide) hn8
  have e : ∀ q j, q ≠ 12 → q ≠ 13 → srT τ n all q j = τ q j := fun q j h1 h2 => by simp [srT, tU, h1, h2]
  refine ⟨fun q j => ?_, by simp [srT, tU, hw], fun j => by rw [e _ _ (by decide) (by decide)]; exact h5 j, fun j => by rw [e _ _ (by decide) (by decide)]; exact h6 j, by rw [e _ _ (by decide) (by decide)]; exact hp5, hp6, fun i hi => by rw [e _ _ (by decide) (by decide), e _ _ (by decide) (by decide)]; exact hP i hi, by rw [e _ _ (by decide) (by decide)]; exact hf9, hf6, by simp [srT, tU], by simp [srT, tU], by simp [srT, tU], hn4, hn8, ha⟩
  unfold srT tU
  split
  · exact ⟨by omega, by omega⟩
  · split
    · exact ⟨by omega, by omega⟩
    · split
      · exact ⟨by omega, by omega⟩
      · exact hA q j
theorem se_run {l : Launch} {d : Nat} {τ : tS} {n all p f b : Nat} (hb : b ≤ 4000) (hall : all = n - 1 + n % 2) (S : SOk (srT τ n all) n all p f) : zF l (d + 62) M_se_run [.ref 12, vi (n : Int), vi (b : Int)] (τ) (some (vi (srF τ n all p f b).1)) (enc (srT τ n all) (srF τ n all p f b).2.1 (srF τ n all p f b).2.2) := by
  refine zMet_of (ls := [.ref 12, vi (n : Int), vi (b : Int)]) pn_se rfl (by simp [vi, Value.category]) rfl rfl ?_
  have hn4 : 4 ≤ n := S.2.2.2.2.2.2.2.2.2.2.2.2.1
  have hn8 : n ≤ 8 := S.2.2.2.2.2.2.2.2.2.2.2.2.2.1
  have hpw : 2 ^ n ≤ 2 ^ 8 := Nat.pow_le_pow_right (by decide) hn8
  have hp1 : 0 < 2 ^ n := Nat.two_pow_pos n
  refine zr_aload_n d_se_run_0 rfl ?_
  refine zi_getr (j := 1) d_se_run_1 zC2 fl_se_14 (by decide) rfl rfl ?_
  refine zi_iload_n d_se_run_4 rfl ?_
  refine zi_iload_n d_se_run_5 rfl ?_
  refine c_se_run_6 rfl (lr_singleRounds ⟨by omega, by omega⟩) ?_
  show zV _ _ _ _ _ (vi _ :: _) _ _ _
  rw [show (if (n : Int) % 2 = 0 then (n : Int) - 1 else (n : Int)) = (all : Int) by split <;> omega]
  refine c_se_run_9 rfl rfl (tt13_begin) ?_
  refine zr_aload_n d_se_run_12 rfl ?_
  refine zi_getr (j := 2) d_se_run_13 zC2 fl_se_20 (by decide) rfl rfl ?_
  refine zi_iconst d_se_run_16 ?_
  refine c_se_run_17 rfl (ar_fill rfl (by decide)) ?_
  refine zr_aload_n d_se_run_20 rfl ?_
  refine zi_getr (j := 3) d_se_run_21 zC2 fl_se_24 (by decide) rfl rfl ?_
  refine zi_iconst d_se_run_24 ?_
  refine c_se_run_25 rfl (ar_fill rfl (by decide)) ?_
  refine zr_aload_n d_se_run_28 rfl ?_
  refine zi_iconst d_se_run_29 ?_
  refine zi_puti (j := 4) d_se_run_30 zC2 fl_se_44 (by decide) rfl rfl rfl rfl ?_
  refine zr_aload_n d_se_run_33 rfl ?_
  refine zi_iconst d_se_run_34 ?_
  refine zi_iload_n d_se_run_35 rfl ?_
  refine zi_ishl d_se_run_36 (by omega)  ?_
  refine zi_iconst d_se_run_37 ?_
  refine zi_isub d_se_run_38 ?_
  rw [show ((2 ^ n : Nat) : Int) - 1 = ((2 ^ n - 1 : Nat) : Int) by omega]
  refine zi_puti (j := 5) d_se_run_39 zC2 fl_se_48 (by decide) rfl rfl rfl rfl ?_
  refine zr_aload_n d_se_run_42 rfl ?_
  refine zi_iload_n d_se_run_43 rfl ?_
  refine zi_puti (j := 6) d_se_run_44 zC2 fl_se_51 (by decide) rfl rfl rfl rfl ?_
  refine zr_aload_n d_se_run_47 rfl ?_
  refine zi_iconst d_se_run_48 ?_
  refine zi_iconst d_se_run_49 ?_
  rw [sr_enc]
  refine c_se_run_50 rfl rfl (se_goOn (d := d) (k := 28) (dp := 0) (fr := 0) S rfl (by decide) hb (D0_ok n) (fun _ _ _ => rfl)) ?_
  exact zk_iret rfl d_se_run_53 (Nat.zero_le _) (Nat.zero_le _) rfl rfl
