/-! loops, worlds; small methods of the class (written by wip/gen/t1.py) -/
theorem zE3 {l : Launch} {d : Nat} {M : zM} {pc : Nat} {ls ls' st st' : List Value} {τ τ' : tS} {cs : Nat × Nat} {r : zR} (k : zV l d M pc ls' st' τ' cs r) (h1 : ls = ls') (h2 : st = st') (h3 : τ = τ') : zV l d M pc ls st τ cs r := by
  subst h1; subst h2; subst h3; exact k
/-- a loop that counts up to n: the state at its head is known for each i -/
theorem zup {P : Nat → Prop} (n : Nat) (hs : ∀ i, i < n → P (i + 1) → P i) (he : P n) : ∀ i, i ≤ n → P i := by
  intro i hi
  obtain ⟨k, rfl⟩ : ∃ k, i = n - k := ⟨n - i, by omega⟩
  induction k with
  | zero => exact he
  | succ k ih =>
    by_cases h : k < n
    · have h1 := ih (by omega)
      have e : n - k = (n - (k + 1)) + 1 := by omega
      rw [e] at h1
      exact hs _ (by omega) h1
    · have e : n - (k + 1) = n - k := by omega
      rw [e]
      exact ih (by omega)
/-- a loop that counts up and may leave at the first i with c i -/
theorem zfirst {P : Nat → Prop} (c : Nat → Prop) (n : Nat) (hs : ∀ i, i < n → (∀ j, j < i → ¬ c j) → ¬ c i → P (i + 1) → P i) (hx : ∀ i, i < n → (∀ j, j < i → ¬ c j) → c i → P i) (he : (∀ j, j < n → ¬ c j) → P n) : P 0 := by
  have key : ∀ k i, n - i = k → i ≤ n → (∀ j, j < i → ¬ c j) → P i := by
    intro k
    induction k with
    | zero =>
      intro i h1 h2 h3
      have : i = n := by omega
      subst this
      exact he h3
    | succ k ih =>
      intro i h1 h2 h3
      by_cases h : c i
      · exact hx i (by omega) h3 h
      · refine hs i (by omega) h3 h (ih (i + 1) (by omega) (by omega) fun j hj => ?_)
        by_cases e : j = i
        · subst e; exact h
        · exact h3 j (by omega)
  exact key n 0 (by omega) (by omega) (fun j hj => by omega)
/-- a row of the world with its first n numbers set to x -/
def tF (τ : tS) (q n : Nat) (x : Int) : tS := fun a b => if a = q ∧ b < n then x else τ a b
theorem tF_step (τ : tS) (q i : Nat) (x : Int) : tU (tF τ q i x) q i x = tF τ q (i + 1) x := by
  funext a b
  simp only [tU, tF]
  by_cases h1 : a = q <;> by_cases h2 : b = i <;> by_cases h3 : b < i <;> simp [h1, h2, h3] <;> omega
theorem tF_0 (τ : tS) (q : Nat) (x : Int) : tF τ q 0 x = τ := by
  funext a b
  simp [tF]
theorem ar_fill {l : Launch} {d : Nat} {τ : tS} {q n : Nat} {x : Int} (hS : SH[q]? = some (.inl (0, n))) (hn : n < 100000) : zF l (d + 1) M_ar_fill [.ref q, vi x] (τ) (none) (tF τ q n x) := by
  refine zMet_of (ls := [.ref q, vi x, .null, .null]) pn_ar rfl (by simp [vi, Value.category]) rfl rfl ?_
  refine zi_iconst d_ar_fill_0 ?_
  refine zi_istore_n d_ar_fill_1 (by decide) rfl ?_
  refine zr_aload_n d_ar_fill_2 rfl ?_
  refine zi_alen d_ar_fill_3 hS (by decide) ?_
  refine zi_istore_n d_ar_fill_4 (by decide) rfl ?_
  have key := zup (P := fun i => zV l (d + 1) M_ar_fill 5 [.ref q, vi x, vi (i : Int), vi (n : Int)] [] (tF τ q i x) (0, 0) (.inl none, (SH, zq (tF τ q n x)), 0, 0)) n ?_ ?_ 0 (by omega)
  · exact zE3 key rfl rfl (tF_0 τ q x).symm
  · intro i hi hk
    refine zi_iload_n d_ar_fill_5 rfl ?_
    refine zi_iload_n d_ar_fill_6 rfl ?_
    refine zi_icmp_ge 20 d_ar_fill_7 (by decide) (by first | assumption | exact ⟨by omega, by omega⟩) (by first | assumption | exact ⟨by omega, by omega⟩) (fun h7 => ?_) (fun h7 => ?_)
    · exact absurd h7 (by omega)
    · refine zr_aload_n d_ar_fill_10 rfl ?_
      refine zi_iload_n d_ar_fill_11 rfl ?_
      refine zi_iload_n d_ar_fill_12 rfl ?_
      refine zi_iast d_ar_fill_13 hS (by omega) (by omega) (by omega) ?_
      refine zi_iinc d_ar_fill_14 (by decide) rfl rfl ?_
      refine zr_goto 5 d_ar_fill_17 (by decide) ?_
      exact zE3 hk rfl rfl (by rw [Int.toNat_natCast]; exact tF_step τ q i x)
  · refine zi_iload_n d_ar_fill_5 rfl ?_
    refine zi_iload_n d_ar_fill_6 rfl ?_
    refine zi_icmp_ge 20 d_ar_fill_7 (by decide) ⟨by omega, by omega⟩ ⟨by omega, by omega⟩ (fun h => ?_) (fun h => absurd (Int.le_refl _) h)
    exact zk_vret rfl d_ar_fill_20 (Nat.zero_le _) (Nat.zero_le _) rfl
theorem tt1_teamCount {l : Launch} {d : Nat} {τ : tS} : zF l (d + 1) M_tt_teamCount [.ref 1] (τ) (some (vi (τ 1 3))) (τ) := by
  refine zMet_of (ls := [.ref 1]) pn_tt rfl (by simp [vi, Value.category]) rfl rfl ?_
  refine zr_aload_n d_tt_teamCount_0 rfl ?_
  refine zi_geti (j := 3) d_tt_teamCount_1 zC4 fl_tt_22 (by decide) rfl rfl ?_
  exact zk_iret rfl d_tt_teamCount_4 (Nat.zero_le _) (Nat.zero_le _) (by first | rfl | omega | (split <;> omega) | simp_all) rfl
theorem tt1_roundCount {l : Launch} {d : Nat} {τ : tS} : zF l (d + 1) M_tt_roundCount [.ref 1] (τ) (some (vi (τ 1 4))) (τ) := by
  refine zMet_of (ls := [.ref 1]) pn_tt rfl (by simp [vi, Value.category]) rfl rfl ?_
  refine zr_aload_n d_tt_roundCount_0 rfl ?_
  refine zi_geti (j := 4) d_tt_roundCount_1 zC4 fl_tt_25 (by decide) rfl rfl ?_
  exact zk_iret rfl d_tt_roundCount_4 (Nat.zero_le _) (Nat.zero_le _) (by first | rfl | omega | (split <;> omega) | simp_all) rfl
theorem tt1_hasTeam {l : Launch} {d : Nat} {τ : tS} {t : Int} (ht : zin t) (hn : zin (τ 1 3)) : zF l (d + 1) M_tt_hasTeam [.ref 1, vi t] (τ) (some (vi (if 0 ≤ t ∧ t < τ 1 3 then 1 else 0))) (τ) := by
  refine zMet_of (ls := [.ref 1, vi t]) pn_tt rfl (by simp [vi, Value.category]) rfl rfl ?_
  refine zi_iload_n d_tt_hasTeam_0 rfl ?_
  refine zi_if_lt 16 d_tt_hasTeam_1 (by decide) (by first | assumption | exact ⟨by omega, by omega⟩) (fun h1 => ?_) (fun h1 => ?_)
  · refine zi_iconst d_tt_hasTeam_16 ?_
    exact zk_zret rfl d_tt_hasTeam_17 (Nat.zero_le _) (Nat.zero_le _) (by omega) (by first | rfl | omega | (split <;> omega) | simp_all) rfl
  · refine zi_iload_n d_tt_hasTeam_4 rfl ?_
    refine zr_aload_n d_tt_hasTeam_5 rfl ?_
    refine zi_geti (j := 3) d_tt_hasTeam_6 zC4 fl_tt_22 (by decide) rfl rfl ?_
    refine zi_icmp_ge 16 d_tt_hasTeam_9 (by decide) (by first | assumption | exact ⟨by omega, by omega⟩) (by first | assumption | exact ⟨by omega, by omega⟩) (fun h9 => ?_) (fun h9 => ?_)
    · refine zi_iconst d_tt_hasTeam_16 ?_
      exact zk_zret rfl d_tt_hasTeam_17 (Nat.zero_le _) (Nat.zero_le _) (by omega) (by first | rfl | omega | (split <;> omega) | simp_all) rfl
    · refine zi_iconst d_tt_hasTeam_12 ?_
      refine zr_goto 17 d_tt_hasTeam_13 (by decide) ?_
      exact zk_zret rfl d_tt_hasTeam_17 (Nat.zero_le _) (Nat.zero_le _) (by omega) (by first | rfl | omega | (split <;> omega) | simp_all) rfl
theorem tt1_hasRound {l : Launch} {d : Nat} {τ : tS} {t : Int} (ht : zin t) (hn : zin (τ 1 4)) : zF l (d + 1) M_tt_hasRound [.ref 1, vi t] (τ) (some (vi (if 0 ≤ t ∧ t < τ 1 4 then 1 else 0))) (τ) := by
  refine zMet_of (ls := [.ref 1, vi t]) pn_tt rfl (by simp [vi, Value.category]) rfl rfl ?_
  refine zi_iload_n d_tt_hasRound_0 rfl ?_
  refine zi_if_lt 16 d_tt_hasRound_1 (by decide) (by first | assumption | exact ⟨by omega, by omega⟩) (fun h1 => ?_) (fun h1 => ?_)
  · refine zi_iconst d_tt_hasRound_16 ?_
    exact zk_zret rfl d_tt_hasRound_17 (Nat.zero_le _) (Nat.zero_le _) (by omega) (by first | rfl | omega | (split <;> omega) | simp_all) rfl
  · refine zi_iload_n d_tt_hasRound_4 rfl ?_
    refine zr_aload_n d_tt_hasRound_5 rfl ?_
    refine zi_geti (j := 4) d_tt_hasRound_6 zC4 fl_tt_25 (by decide) rfl rfl ?_
    refine zi_icmp_ge 16 d_tt_hasRound_9 (by decide) (by first | assumption | exact ⟨by omega, by omega⟩) (by first | assumption | exact ⟨by omega, by omega⟩) (fun h9 => ?_) (fun h9 => ?_)
    · refine zi_iconst d_tt_hasRound_16 ?_
      exact zk_zret rfl d_tt_hasRound_17 (Nat.zero_le _) (Nat.zero_le _) (by omega) (by first | rfl | omega | (split <;> omega) | simp_all) rfl
    · refine zi_iconst d_tt_hasRound_12 ?_
      refine zr_goto 17 d_tt_hasRound_13 (by decide) ?_
      exact zk_zret rfl d_tt_hasRound_17 (Nat.zero_le _) (Nat.zero_le _) (by omega) (by first | rfl | omega | (split <;> omega) | simp_all) rfl
theorem tt1_venueAt {l : Launch} {d : Nat} {τ : tS} {r t : Int} (hw : τ 1 0 = 20) (hr : 0 ≤ r ∧ r < 38) (ht : 0 ≤ t ∧ t < 20) : zF l (d + 1) M_tt_venueAt [.ref 1, vi r, vi t] (τ) (some (vi (τ 3 (r * 20 + t).toNat))) (τ) := by
  refine zMet_of (ls := [.ref 1, vi r, vi t]) pn_tt rfl (by simp [vi, Value.category]) rfl rfl ?_
  refine zr_aload_n d_tt_venueAt_0 rfl ?_
  refine zi_getr (j := 2) d_tt_venueAt_1 zC4 fl_tt_19 (by decide) rfl rfl ?_
  refine zi_iload_n d_tt_venueAt_4 rfl ?_
  refine zr_aload_n d_tt_venueAt_5 rfl ?_
  refine zi_geti (j := 0) d_tt_venueAt_6 zC4 fl_tt_9 (by decide) rfl rfl ?_
  rw [hw]
  refine zi_imul d_tt_venueAt_9 ?_
  refine zi_iload_n d_tt_venueAt_10 rfl ?_
  refine zi_iadd d_tt_venueAt_11 ?_
  refine zi_iald d_tt_venueAt_12 rfl (by decide) (by omega) (by omega) ?_
  exact zk_iret rfl d_tt_venueAt_13 (Nat.zero_le _) (Nat.zero_le _) (by first | rfl | omega | (split <;> omega) | simp_all) rfl
theorem tt1_opponentAt {l : Launch} {d : Nat} {τ : tS} {r t : Int} (hw : τ 1 0 = 20) (hr : 0 ≤ r ∧ r < 38) (ht : 0 ≤ t ∧ t < 20) : zF l (d + 1) M_tt_opponentAt [.ref 1, vi r, vi t] (τ) (some (vi (τ 2 (r * 20 + t).toNat))) (τ) := by
  refine zMet_of (ls := [.ref 1, vi r, vi t]) pn_tt rfl (by simp [vi, Value.category]) rfl rfl ?_
  refine zr_aload_n d_tt_opponentAt_0 rfl ?_
  refine zi_getr (j := 1) d_tt_opponentAt_1 zC4 fl_tt_15 (by decide) rfl rfl ?_
  refine zi_iload_n d_tt_opponentAt_4 rfl ?_
  refine zr_aload_n d_tt_opponentAt_5 rfl ?_
  refine zi_geti (j := 0) d_tt_opponentAt_6 zC4 fl_tt_9 (by decide) rfl rfl ?_
  rw [hw]
  refine zi_imul d_tt_opponentAt_9 ?_
  refine zi_iload_n d_tt_opponentAt_10 rfl ?_
  refine zi_iadd d_tt_opponentAt_11 ?_
  refine zi_iald d_tt_opponentAt_12 rfl (by decide) (by omega) (by omega) ?_
  exact zk_iret rfl d_tt_opponentAt_13 (Nat.zero_le _) (Nat.zero_le _) (by first | rfl | omega | (split <;> omega) | simp_all) rfl
def tP1 (τ : tS) (r t x y : Int) : tS := tU (tU τ 2 (r * 20 + t).toNat x) 3 (r * 20 + t).toNat y
theorem tP1_w (τ : tS) (r t x y : Int) (j : Nat) : tP1 τ r t x y 1 j = τ 1 j := by simp [tP1, tU]
theorem tt1_putSide {l : Launch} {d : Nat} {τ : tS} {r t x y : Int} (hw : τ 1 0 = 20) (hr : 0 ≤ r ∧ r < 38) (ht : 0 ≤ t ∧ t < 20) : zF l (d + 1) M_tt_putSide [.ref 1, vi r, vi t, vi x, vi y] (τ) (none) (tP1 τ r t x y) := by
  refine zMet_of (ls := [.ref 1, vi r, vi t, vi x, vi y]) pn_tt rfl (by simp [vi, Value.category]) rfl rfl ?_
  refine zr_aload_n d_tt_putSide_0 rfl ?_
  refine zi_getr (j := 1) d_tt_putSide_1 zC4 fl_tt_15 (by decide) rfl rfl ?_
  refine zi_iload_n d_tt_putSide_4 rfl ?_
  refine zr_aload_n d_tt_putSide_5 rfl ?_
  refine zi_geti (j := 0) d_tt_putSide_6 zC4 fl_tt_9 (by decide) rfl rfl ?_
  rw [hw]
  refine zi_imul d_tt_putSide_9 ?_
  refine zi_iload_n d_tt_putSide_10 rfl ?_
  refine zi_iadd d_tt_putSide_11 ?_
  refine zi_iload_n d_tt_putSide_12 rfl ?_
  refine zi_iast d_tt_putSide_13 rfl (by decide) (by omega) (by omega) ?_
  refine zr_aload_n d_tt_putSide_14 rfl ?_
  refine zi_getr (j := 2) d_tt_putSide_15 zC4 fl_tt_19 (by decide) rfl rfl ?_
  refine zi_iload_n d_tt_putSide_18 rfl ?_
  refine zr_aload_n d_tt_putSide_19 rfl ?_
  refine zi_geti (j := 0) d_tt_putSide_20 zC4 fl_tt_9 (by decide) rfl rfl ?_
  rw [show tU τ 2 (r * 20 + t).toNat x 1 0 = τ 1 0 by simp [tU], hw]
  refine zi_imul d_tt_putSide_23 ?_
  refine zi_iload_n d_tt_putSide_24 rfl ?_
  refine zi_iadd d_tt_putSide_25 ?_
  refine zi_iload d_tt_putSide_26 rfl ?_
  refine zi_iast d_tt_putSide_28 rfl (by decide) (by omega) (by omega) ?_
  exact zk_vret rfl d_tt_putSide_29 (Nat.zero_le _) (Nat.zero_le _) rfl
theorem tt1_putGame {l : Launch} {d : Nat} {τ : tS} {r h a : Int} (hw : τ 1 0 = 20) (hr : 0 ≤ r ∧ r < 38) (hh : 0 ≤ h ∧ h < 20) (ha : 0 ≤ a ∧ a < 20) : zF l (d + 2) M_tt_putGame [.ref 1, vi r, vi h, vi a] (τ) (none) (tP1 (tP1 τ r h a 1) r a h 0) := by
  refine zMet_of (ls := [.ref 1, vi r, vi h, vi a]) pn_tt rfl (by simp [vi, Value.category]) rfl rfl ?_
  refine zr_aload_n d_tt_putGame_0 rfl ?_
  refine zi_iload_n d_tt_putGame_1 rfl ?_
  refine zi_iload_n d_tt_putGame_2 rfl ?_
  refine zi_iload_n d_tt_putGame_3 rfl ?_
  refine zi_iconst d_tt_putGame_4 ?_
  refine c_tt_putGame_5 rfl rfl (tt1_putSide hw hr hh) ?_
  refine zr_aload_n d_tt_putGame_8 rfl ?_
  refine zi_iload_n d_tt_putGame_9 rfl ?_
  refine zi_iload_n d_tt_putGame_10 rfl ?_
  refine zi_iload_n d_tt_putGame_11 rfl ?_
  refine zi_iconst d_tt_putGame_12 ?_
  refine c_tt_putGame_13 rfl rfl (tt1_putSide (by rw [tP1_w]; exact hw) hr ha) ?_
  exact zk_vret rfl d_tt_putGame_16 (Nat.zero_le _) (Nat.zero_le _) rfl
theorem tt1_takeGame {l : Launch} {d : Nat} {τ : tS} {r h a : Int} (hw : τ 1 0 = 20) (hr : 0 ≤ r ∧ r < 38) (hh : 0 ≤ h ∧ h < 20) (ha : 0 ≤ a ∧ a < 20) : zF l (d + 2) M_tt_takeGame [.ref 1, vi r, vi h, vi a] (τ) (none) (tP1 (tP1 τ r h (-1) (-1)) r a (-1) (-1)) := by
  refine zMet_of (ls := [.ref 1, vi r, vi h, vi a]) pn_tt rfl (by simp [vi, Value.category]) rfl rfl ?_
  refine zr_aload_n d_tt_takeGame_0 rfl ?_
  refine zi_iload_n d_tt_takeGame_1 rfl ?_
  refine zi_iload_n d_tt_takeGame_2 rfl ?_
  refine zi_iconst d_tt_takeGame_3 ?_
  refine zi_iconst d_tt_takeGame_4 ?_
  refine c_tt_takeGame_5 rfl rfl (tt1_putSide hw hr hh) ?_
  refine zr_aload_n d_tt_takeGame_8 rfl ?_
  refine zi_iload_n d_tt_takeGame_9 rfl ?_
  refine zi_iload_n d_tt_takeGame_10 rfl ?_
  refine zi_iconst d_tt_takeGame_11 ?_
  refine zi_iconst d_tt_takeGame_12 ?_
  refine c_tt_takeGame_13 rfl rfl (tt1_putSide (by rw [tP1_w]; exact hw) hr ha) ?_
  exact zk_vret rfl d_tt_takeGame_16 (Nat.zero_le _) (Nat.zero_le _) rfl
theorem tt1_begin {l : Launch} {d : Nat} {τ : tS} {a b : Int} : zF l (d + 2) M_tt_begin [.ref 1, vi a, vi b] (τ) (none) (tF (tF (tU (tU τ 1 3 a) 1 4 b) 2 760 (-1)) 3 760 (-1)) := by
  refine zMet_of (ls := [.ref 1, vi a, vi b]) pn_tt rfl (by simp [vi, Value.category]) rfl rfl ?_
  refine zr_aload_n d_tt_begin_0 rfl ?_
  refine zi_iload_n d_tt_begin_1 rfl ?_
  refine zi_puti (j := 3) d_tt_begin_2 zC4 fl_tt_22 (by decide) rfl rfl rfl rfl ?_
  refine zr_aload_n d_tt_begin_5 rfl ?_
  refine zi_iload_n d_tt_begin_6 rfl ?_
  refine zi_puti (j := 4) d_tt_begin_7 zC4 fl_tt_25 (by decide) rfl rfl rfl rfl ?_
  refine zr_aload_n d_tt_begin_10 rfl ?_
  refine zi_getr (j := 1) d_tt_begin_11 zC4 fl_tt_15 (by decide) rfl rfl ?_
  refine zi_iconst d_tt_begin_14 ?_
  refine c_tt_begin_15 rfl (ar_fill rfl (by decide)) ?_
  refine zr_aload_n d_tt_begin_18 rfl ?_
  refine zi_getr (j := 2) d_tt_begin_19 zC4 fl_tt_19 (by decide) rfl rfl ?_
  refine zi_iconst d_tt_begin_22 ?_
  refine c_tt_begin_23 rfl (ar_fill rfl (by decide)) ?_
  exact zk_vret rfl d_tt_begin_26 (Nat.zero_le _) (Nat.zero_le _) rfl
theorem tt13_teamCount {l : Launch} {d : Nat} {τ : tS} : zF l (d + 1) M_tt_teamCount [.ref 13] (τ) (some (vi (τ 13 3))) (τ) := by
  refine zMet_of (ls := [.ref 13]) pn_tt rfl (by simp [vi, Value.category]) rfl rfl ?_
  refine zr_aload_n d_tt_teamCount_0 rfl ?_
  refine zi_geti (j := 3) d_tt_teamCount_1 zC4 fl_tt_22 (by decide) rfl rfl ?_
  exact zk_iret rfl d_tt_teamCount_4 (Nat.zero_le _) (Nat.zero_le _) (by first | rfl | omega | (split <;> omega) | simp_all) rfl
theorem tt13_roundCount {l : Launch} {d : Nat} {τ : tS} : zF l (d + 1) M_tt_roundCount [.ref 13] (τ) (some (vi (τ 13 4))) (τ) := by
  refine zMet_of (ls := [.ref 13]) pn_tt rfl (by simp [vi, Value.category]) rfl rfl ?_
  refine zr_aload_n d_tt_roundCount_0 rfl ?_
  refine zi_geti (j := 4) d_tt_roundCount_1 zC4 fl_tt_25 (by decide) rfl rfl ?_
  exact zk_iret rfl d_tt_roundCount_4 (Nat.zero_le _) (Nat.zero_le _) (by first | rfl | omega | (split <;> omega) | simp_all) rfl
theorem tt13_hasTeam {l : Launch} {d : Nat} {τ : tS} {t : Int} (ht : zin t) (hn : zin (τ 13 3)) : zF l (d + 1) M_tt_hasTeam [.ref 13, vi t] (τ) (some (vi (if 0 ≤ t ∧ t < τ 13 3 then 1 else 0))) (τ) := by
  refine zMet_of (ls := [.ref 13, vi t]) pn_tt rfl (by simp [vi, Value.category]) rfl rfl ?_
  refine zi_iload_n d_tt_hasTeam_0 rfl ?_
  refine zi_if_lt 16 d_tt_hasTeam_1 (by decide) (by first | assumption | exact ⟨by omega, by omega⟩) (fun h1 => ?_) (fun h1 => ?_)
  · refine zi_iconst d_tt_hasTeam_16 ?_
    exact zk_zret rfl d_tt_hasTeam_17 (Nat.zero_le _) (Nat.zero_le _) (by omega) (by first | rfl | omega | (split <;> omega) | simp_all) rfl
  · refine zi_iload_n d_tt_hasTeam_4 rfl ?_
    refine zr_aload_n d_tt_hasTeam_5 rfl ?_
    refine zi_geti (j := 3) d_tt_hasTeam_6 zC4 fl_tt_22 (by decide) rfl rfl ?_
    refine zi_icmp_ge 16 d_tt_hasTeam_9 (by decide) (by first | assumption | exact ⟨by omega, by omega⟩) (by first | assumption | exact ⟨by omega, by omega⟩) (fun h9 => ?_) (fun h9 => ?_)
    · refine zi_iconst d_tt_hasTeam_16 ?_
      exact zk_zret rfl d_tt_hasTeam_17 (Nat.zero_le _) (Nat.zero_le _) (by omega) (by first | rfl | omega | (split <;> omega) | simp_all) rfl
    · refine zi_iconst d_tt_hasTeam_12 ?_
      refine zr_goto 17 d_tt_hasTeam_13 (by decide) ?_
      exact zk_zret rfl d_tt_hasTeam_17 (Nat.zero_le _) (Nat.zero_le _) (by omega) (by first | rfl | omega | (split <;> omega) | simp_all) rfl
theorem tt13_hasRound {l : Launch} {d : Nat} {τ : tS} {t : Int} (ht : zin t) (hn : zin (τ 13 4)) : zF l (d + 1) M_tt_hasRound [.ref 13, vi t] (τ) (some (vi (if 0 ≤ t ∧ t < τ 13 4 then 1 else 0))) (τ) := by
  refine zMet_of (ls := [.ref 13, vi t]) pn_tt rfl (by simp [vi, Value.category]) rfl rfl ?_
  refine zi_iload_n d_tt_hasRound_0 rfl ?_
  refine zi_if_lt 16 d_tt_hasRound_1 (by decide) (by first | assumption | exact ⟨by omega, by omega⟩) (fun h1 => ?_) (fun h1 => ?_)
  · refine zi_iconst d_tt_hasRound_16 ?_
    exact zk_zret rfl d_tt_hasRound_17 (Nat.zero_le _) (Nat.zero_le _) (by omega) (by first | rfl | omega | (split <;> omega) | simp_all) rfl
  · refine zi_iload_n d_tt_hasRound_4 rfl ?_
    refine zr_aload_n d_tt_hasRound_5 rfl ?_
    refine zi_geti (j := 4) d_tt_hasRound_6 zC4 fl_tt_25 (by decide) rfl rfl ?_
    refine zi_icmp_ge 16 d_tt_hasRound_9 (by decide) (by first | assumption | exact ⟨by omega, by omega⟩) (by first | assumption | exact ⟨by omega, by omega⟩) (fun h9 => ?_) (fun h9 => ?_)
    · refine zi_iconst d_tt_hasRound_16 ?_
      exact zk_zret rfl d_tt_hasRound_17 (Nat.zero_le _) (Nat.zero_le _) (by omega) (by first | rfl | omega | (split <;> omega) | simp_all) rfl
    · refine zi_iconst d_tt_hasRound_12 ?_
      refine zr_goto 17 d_tt_hasRound_13 (by decide) ?_
      exact zk_zret rfl d_tt_hasRound_17 (Nat.zero_le _) (Nat.zero_le _) (by omega) (by first | rfl | omega | (split <;> omega) | simp_all) rfl
theorem tt13_venueAt {l : Launch} {d : Nat} {τ : tS} {r t : Int} (hw : τ 13 0 = 8) (hr : 0 ≤ r ∧ r < 7) (ht : 0 ≤ t ∧ t < 8) : zF l (d + 1) M_tt_venueAt [.ref 13, vi r, vi t] (τ) (some (vi (τ 15 (r * 8 + t).toNat))) (τ) := by
  refine zMet_of (ls := [.ref 13, vi r, vi t]) pn_tt rfl (by simp [vi, Value.category]) rfl rfl ?_
  refine zr_aload_n d_tt_venueAt_0 rfl ?_
  refine zi_getr (j := 2) d_tt_venueAt_1 zC4 fl_tt_19 (by decide) rfl rfl ?_
  refine zi_iload_n d_tt_venueAt_4 rfl ?_
  refine zr_aload_n d_tt_venueAt_5 rfl ?_
  refine zi_geti (j := 0) d_tt_venueAt_6 zC4 fl_tt_9 (by decide) rfl rfl ?_
  rw [hw]
  refine zi_imul d_tt_venueAt_9 ?_
  refine zi_iload_n d_tt_venueAt_10 rfl ?_
  refine zi_iadd d_tt_venueAt_11 ?_
  refine zi_iald d_tt_venueAt_12 rfl (by decide) (by omega) (by omega) ?_
  exact zk_iret rfl d_tt_venueAt_13 (Nat.zero_le _) (Nat.zero_le _) (by first | rfl | omega | (split <;> omega) | simp_all) rfl
theorem tt13_opponentAt {l : Launch} {d : Nat} {τ : tS} {r t : Int} (hw : τ 13 0 = 8) (hr : 0 ≤ r ∧ r < 7) (ht : 0 ≤ t ∧ t < 8) : zF l (d + 1) M_tt_opponentAt [.ref 13, vi r, vi t] (τ) (some (vi (τ 14 (r * 8 + t).toNat))) (τ) := by
  refine zMet_of (ls := [.ref 13, vi r, vi t]) pn_tt rfl (by simp [vi, Value.category]) rfl rfl ?_
  refine zr_aload_n d_tt_opponentAt_0 rfl ?_
  refine zi_getr (j := 1) d_tt_opponentAt_1 zC4 fl_tt_15 (by decide) rfl rfl ?_
  refine zi_iload_n d_tt_opponentAt_4 rfl ?_
  refine zr_aload_n d_tt_opponentAt_5 rfl ?_
  refine zi_geti (j := 0) d_tt_opponentAt_6 zC4 fl_tt_9 (by decide) rfl rfl ?_
  rw [hw]
  refine zi_imul d_tt_opponentAt_9 ?_
  refine zi_iload_n d_tt_opponentAt_10 rfl ?_
  refine zi_iadd d_tt_opponentAt_11 ?_
  refine zi_iald d_tt_opponentAt_12 rfl (by decide) (by omega) (by omega) ?_
  exact zk_iret rfl d_tt_opponentAt_13 (Nat.zero_le _) (Nat.zero_le _) (by first | rfl | omega | (split <;> omega) | simp_all) rfl
def tP13 (τ : tS) (r t x y : Int) : tS := tU (tU τ 14 (r * 8 + t).toNat x) 15 (r * 8 + t).toNat y
theorem tP13_w (τ : tS) (r t x y : Int) (j : Nat) : tP13 τ r t x y 13 j = τ 13 j := by simp [tP13, tU]
theorem tt13_putSide {l : Launch} {d : Nat} {τ : tS} {r t x y : Int} (hw : τ 13 0 = 8) (hr : 0 ≤ r ∧ r < 7) (ht : 0 ≤ t ∧ t < 8) : zF l (d + 1) M_tt_putSide [.ref 13, vi r, vi t, vi x, vi y] (τ) (none) (tP13 τ r t x y) := by
  refine zMet_of (ls := [.ref 13, vi r, vi t, vi x, vi y]) pn_tt rfl (by simp [vi, Value.category]) rfl rfl ?_
  refine zr_aload_n d_tt_putSide_0 rfl ?_
  refine zi_getr (j := 1) d_tt_putSide_1 zC4 fl_tt_15 (by decide) rfl rfl ?_
  refine zi_iload_n d_tt_putSide_4 rfl ?_
  refine zr_aload_n d_tt_putSide_5 rfl ?_
  refine zi_geti (j := 0) d_tt_putSide_6 zC4 fl_tt_9 (by decide) rfl rfl ?_
  rw [hw]
  refine zi_imul d_tt_putSide_9 ?_
  refine zi_iload_n d_tt_putSide_10 rfl ?_
  refine zi_iadd d_tt_putSide_11 ?_
  refine zi_iload_n d_tt_putSide_12 rfl ?_
  refine zi_iast d_tt_putSide_13 rfl (by decide) (by omega) (by omega) ?_
  refine zr_aload_n d_tt_putSide_14 rfl ?_
  refine zi_getr (j := 2) d_tt_putSide_15 zC4 fl_tt_19 (by decide) rfl rfl ?_
  refine zi_iload_n d_tt_putSide_18 rfl ?_
  refine zr_aload_n d_tt_putSide_19 rfl ?_
  refine zi_geti (j := 0) d_tt_putSide_20 zC4 fl_tt_9 (by decide) rfl rfl ?_
  rw [show tU τ 14 (r * 8 + t).toNat x 13 0 = τ 13 0 by simp [tU], hw]
  refine zi_imul d_tt_putSide_23 ?_
  refine zi_iload_n d_tt_putSide_24 rfl ?_
  refine zi_iadd d_tt_putSide_25 ?_
  refine zi_iload d_tt_putSide_26 rfl ?_
  refine zi_iast d_tt_putSide_28 rfl (by decide) (by omega) (by omega) ?_
  exact zk_vret rfl d_tt_putSide_29 (Nat.zero_le _) (Nat.zero_le _) rfl
theorem tt13_putGame {l : Launch} {d : Nat} {τ : tS} {r h a : Int} (hw : τ 13 0 = 8) (hr : 0 ≤ r ∧ r < 7) (hh : 0 ≤ h ∧ h < 8) (ha : 0 ≤ a ∧ a < 8) : zF l (d + 2) M_tt_putGame [.ref 13, vi r, vi h, vi a] (τ) (none) (tP13 (tP13 τ r h a 1) r a h 0) := by
  refine zMet_of (ls := [.ref 13, vi r, vi h, vi a]) pn_tt rfl (by simp [vi, Value.category]) rfl rfl ?_
  refine zr_aload_n d_tt_putGame_0 rfl ?_
  refine zi_iload_n d_tt_putGame_1 rfl ?_
  refine zi_iload_n d_tt_putGame_2 rfl ?_
  refine zi_iload_n d_tt_putGame_3 rfl ?_
  refine zi_iconst d_tt_putGame_4 ?_
  refine c_tt_putGame_5 rfl rfl (tt13_putSide hw hr hh) ?_
  refine zr_aload_n d_tt_putGame_8 rfl ?_
  refine zi_iload_n d_tt_putGame_9 rfl ?_
  refine zi_iload_n d_tt_putGame_10 rfl ?_
  refine zi_iload_n d_tt_putGame_11 rfl ?_
  refine zi_iconst d_tt_putGame_12 ?_
  refine c_tt_putGame_13 rfl rfl (tt13_putSide (by rw [tP13_w]; exact hw) hr ha) ?_
  exact zk_vret rfl d_tt_putGame_16 (Nat.zero_le _) (Nat.zero_le _) rfl
theorem tt13_takeGame {l : Launch} {d : Nat} {τ : tS} {r h a : Int} (hw : τ 13 0 = 8) (hr : 0 ≤ r ∧ r < 7) (hh : 0 ≤ h ∧ h < 8) (ha : 0 ≤ a ∧ a < 8) : zF l (d + 2) M_tt_takeGame [.ref 13, vi r, vi h, vi a] (τ) (none) (tP13 (tP13 τ r h (-1) (-1)) r a (-1) (-1)) := by
  refine zMet_of (ls := [.ref 13, vi r, vi h, vi a]) pn_tt rfl (by simp [vi, Value.category]) rfl rfl ?_
  refine zr_aload_n d_tt_takeGame_0 rfl ?_
  refine zi_iload_n d_tt_takeGame_1 rfl ?_
  refine zi_iload_n d_tt_takeGame_2 rfl ?_
  refine zi_iconst d_tt_takeGame_3 ?_
  refine zi_iconst d_tt_takeGame_4 ?_
  refine c_tt_takeGame_5 rfl rfl (tt13_putSide hw hr hh) ?_
  refine zr_aload_n d_tt_takeGame_8 rfl ?_
  refine zi_iload_n d_tt_takeGame_9 rfl ?_
  refine zi_iload_n d_tt_takeGame_10 rfl ?_
  refine zi_iconst d_tt_takeGame_11 ?_
  refine zi_iconst d_tt_takeGame_12 ?_
  refine c_tt_takeGame_13 rfl rfl (tt13_putSide (by rw [tP13_w]; exact hw) hr ha) ?_
  exact zk_vret rfl d_tt_takeGame_16 (Nat.zero_le _) (Nat.zero_le _) rfl
theorem tt13_begin {l : Launch} {d : Nat} {τ : tS} {a b : Int} : zF l (d + 2) M_tt_begin [.ref 13, vi a, vi b] (τ) (none) (tF (tF (tU (tU τ 13 3 a) 13 4 b) 14 56 (-1)) 15 56 (-1)) := by
  refine zMet_of (ls := [.ref 13, vi a, vi b]) pn_tt rfl (by simp [vi, Value.category]) rfl rfl ?_
  refine zr_aload_n d_tt_begin_0 rfl ?_
  refine zi_iload_n d_tt_begin_1 rfl ?_
  refine zi_puti (j := 3) d_tt_begin_2 zC4 fl_tt_22 (by decide) rfl rfl rfl rfl ?_
  refine zr_aload_n d_tt_begin_5 rfl ?_
  refine zi_iload_n d_tt_begin_6 rfl ?_
  refine zi_puti (j := 4) d_tt_begin_7 zC4 fl_tt_25 (by decide) rfl rfl rfl rfl ?_
  refine zr_aload_n d_tt_begin_10 rfl ?_
  refine zi_getr (j := 1) d_tt_begin_11 zC4 fl_tt_15 (by decide) rfl rfl ?_
  refine zi_iconst d_tt_begin_14 ?_
  refine c_tt_begin_15 rfl (ar_fill rfl (by decide)) ?_
  refine zr_aload_n d_tt_begin_18 rfl ?_
  refine zi_getr (j := 2) d_tt_begin_19 zC4 fl_tt_19 (by decide) rfl rfl ?_
  refine zi_iconst d_tt_begin_22 ?_
  refine c_tt_begin_23 rfl (ar_fill rfl (by decide)) ?_
  exact zk_vret rfl d_tt_begin_26 (Nat.zero_le _) (Nat.zero_le _) rfl
