/-! Wishes, Results, Standings, WashOuts, CatchUp: methods without inner loops (written by wip/gen/t3.py) -/
def wiF (τ : tS) : tS := tU (tU (tU (tU (tF (tF τ 5 39 0) 6 39 0) 4 2 0) 4 5 0) 4 9 0) 4 10 0
theorem wi_forget {l : Launch} {d : Nat} {τ : tS} : zF l (d + 2) M_wi_forget [.ref 4] (τ) (none) (wiF τ) := by
  refine zMet_of (ls := [.ref 4]) pn_wi rfl (by simp [vi, Value.category]) rfl rfl ?_
  refine zr_aload_n d_wi_forget_0 rfl ?_
  refine zi_getr (j := 0) d_wi_forget_1 zC6 fl_wi_9 (by decide) rfl rfl ?_
  refine zi_iconst d_wi_forget_4 ?_
  refine c_wi_forget_5 rfl (ar_fill rfl (by decide)) ?_
  refine zr_aload_n d_wi_forget_8 rfl ?_
  refine zi_getr (j := 1) d_wi_forget_9 zC6 fl_wi_15 (by decide) rfl rfl ?_
  refine zi_iconst d_wi_forget_12 ?_
  refine c_wi_forget_13 rfl (ar_fill rfl (by decide)) ?_
  refine zr_aload_n d_wi_forget_16 rfl ?_
  refine zi_iconst d_wi_forget_17 ?_
  refine zi_puti (j := 2) d_wi_forget_18 zC6 fl_wi_39 (by decide) rfl rfl rfl rfl ?_
  refine zr_aload_n d_wi_forget_21 rfl ?_
  refine zi_iconst d_wi_forget_22 ?_
  refine zi_puti (j := 5) d_wi_forget_23 zC6 fl_wi_43 (by decide) rfl rfl rfl rfl ?_
  refine zr_aload_n d_wi_forget_26 rfl ?_
  refine zi_iconst d_wi_forget_27 ?_
  refine zi_puti (j := 9) d_wi_forget_28 zC6 fl_wi_46 (by decide) rfl rfl rfl rfl ?_
  refine zr_aload_n d_wi_forget_31 rfl ?_
  refine zi_iconst d_wi_forget_32 ?_
  refine zi_puti (j := 10) d_wi_forget_33 zC6 fl_wi_49 (by decide) rfl rfl rfl rfl ?_
  exact zk_vret rfl d_wi_forget_36 (Nat.zero_le _) (Nat.zero_le _) rfl
theorem wi_pairsAreFull {l : Launch} {d : Nat} {τ : tS} (h : zin (τ 4 5)) : zF l (d + 1) M_wi_pairsAreFull [.ref 4] (τ) (some (vi (if 6 ≤ τ 4 5 then 1 else 0))) (τ) := by
  refine zMet_of (ls := [.ref 4]) pn_wi rfl (by simp [vi, Value.category]) rfl rfl ?_
  refine zr_aload_n d_wi_pairsAreFull_0 rfl ?_
  refine zi_geti (j := 5) d_wi_pairsAreFull_1 zC6 fl_wi_43 (by decide) rfl rfl ?_
  refine zi_bipush d_wi_pairsAreFull_4 (by decide) ?_
  refine zi_icmp_lt 13 d_wi_pairsAreFull_6 (by decide) (by first | assumption | exact ⟨by omega, by omega⟩) (by first | assumption | exact ⟨by omega, by omega⟩) (fun h6 => ?_) (fun h6 => ?_)
  · refine zi_iconst d_wi_pairsAreFull_13 ?_
    exact zk_zret rfl d_wi_pairsAreFull_14 (Nat.zero_le _) (Nat.zero_le _) (by omega) (by first | rfl | omega | (split <;> omega) | simp_all) rfl
  · refine zi_iconst d_wi_pairsAreFull_9 ?_
    refine zr_goto 14 d_wi_pairsAreFull_10 (by decide) ?_
    exact zk_zret rfl d_wi_pairsAreFull_14 (Nat.zero_le _) (Nat.zero_le _) (by omega) (by first | rfl | omega | (split <;> omega) | simp_all) rfl
theorem wi_fixedAreFull {l : Launch} {d : Nat} {τ : tS} (h : zin (τ 4 9)) : zF l (d + 1) M_wi_fixedAreFull [.ref 4] (τ) (some (vi (if 6 ≤ τ 4 9 then 1 else 0))) (τ) := by
  refine zMet_of (ls := [.ref 4]) pn_wi rfl (by simp [vi, Value.category]) rfl rfl ?_
  refine zr_aload_n d_wi_fixedAreFull_0 rfl ?_
  refine zi_geti (j := 9) d_wi_fixedAreFull_1 zC6 fl_wi_46 (by decide) rfl rfl ?_
  refine zi_bipush d_wi_fixedAreFull_4 (by decide) ?_
  refine zi_icmp_lt 13 d_wi_fixedAreFull_6 (by decide) (by first | assumption | exact ⟨by omega, by omega⟩) (by first | assumption | exact ⟨by omega, by omega⟩) (fun h6 => ?_) (fun h6 => ?_)
  · refine zi_iconst d_wi_fixedAreFull_13 ?_
    exact zk_zret rfl d_wi_fixedAreFull_14 (Nat.zero_le _) (Nat.zero_le _) (by omega) (by first | rfl | omega | (split <;> omega) | simp_all) rfl
  · refine zi_iconst d_wi_fixedAreFull_9 ?_
    refine zr_goto 14 d_wi_fixedAreFull_10 (by decide) ?_
    exact zk_zret rfl d_wi_fixedAreFull_14 (Nat.zero_le _) (Nat.zero_le _) (by omega) (by first | rfl | omega | (split <;> omega) | simp_all) rfl
theorem wi_setCap {l : Launch} {d : Nat} {τ : tS} {k : Int} : zF l (d + 1) M_wi_setCap [.ref 4, vi k] (τ) (none) (tU τ 4 10 k) := by
  refine zMet_of (ls := [.ref 4, vi k]) pn_wi rfl (by simp [vi, Value.category]) rfl rfl ?_
  refine zr_aload_n d_wi_setCap_0 rfl ?_
  refine zi_iload_n d_wi_setCap_1 rfl ?_
  refine zi_puti (j := 10) d_wi_setCap_2 zC6 fl_wi_49 (by decide) rfl rfl rfl rfl ?_
  exact zk_vret rfl d_wi_setCap_5 (Nat.zero_le _) (Nat.zero_le _) rfl
def wiP (τ : tS) (a b : Int) : tS := tU (tU (tU τ 7 (τ 4 5).toNat a) 8 (τ 4 5).toNat b) 4 5 (τ 4 5 + 1)
theorem wi_addPair {l : Launch} {d : Nat} {τ : tS} {a b : Int} (h : 0 ≤ τ 4 5 ∧ τ 4 5 < 6) : zF l (d + 1) M_wi_addPair [.ref 4, vi a, vi b] (τ) (some (vi (τ 4 5 + 1))) (wiP τ a b) := by
  refine zMet_of (ls := [.ref 4, vi a, vi b]) pn_wi rfl (by simp [vi, Value.category]) rfl rfl ?_
  refine zr_aload_n d_wi_addPair_0 rfl ?_
  refine zi_getr (j := 3) d_wi_addPair_1 zC6 fl_wi_18 (by decide) rfl rfl ?_
  refine zr_aload_n d_wi_addPair_4 rfl ?_
  refine zi_getiE (j := 5) (x := τ 4 5) d_wi_addPair_5 zC6 fl_wi_43 (by decide) rfl rfl (by simp [tU]) ?_
  refine zi_iload_n d_wi_addPair_8 rfl ?_
  refine zi_iast d_wi_addPair_9 rfl (by decide) (by omega) (by omega) ?_
  refine zr_aload_n d_wi_addPair_10 rfl ?_
  refine zi_getr (j := 4) d_wi_addPair_11 zC6 fl_wi_21 (by decide) rfl rfl ?_
  refine zr_aload_n d_wi_addPair_14 rfl ?_
  refine zi_getiE (j := 5) (x := τ 4 5) d_wi_addPair_15 zC6 fl_wi_43 (by decide) rfl rfl (by simp [tU]) ?_
  refine zi_iload_n d_wi_addPair_18 rfl ?_
  refine zi_iast d_wi_addPair_19 rfl (by decide) (by omega) (by omega) ?_
  refine zr_aload_n d_wi_addPair_20 rfl ?_
  refine zr_dup d_wi_addPair_21 rfl ?_
  refine zi_getiE (j := 5) (x := τ 4 5) d_wi_addPair_22 zC6 fl_wi_43 (by decide) rfl rfl (by simp [tU]) ?_
  refine zi_iconst d_wi_addPair_25 ?_
  refine zi_iadd d_wi_addPair_26 ?_
  refine zi_puti (j := 5) d_wi_addPair_27 zC6 fl_wi_43 (by decide) rfl rfl rfl rfl ?_
  refine zr_aload_n d_wi_addPair_30 rfl ?_
  refine zi_geti (j := 5) d_wi_addPair_31 zC6 fl_wi_43 (by decide) rfl rfl ?_
  exact zk_iret rfl d_wi_addPair_34 (Nat.zero_le _) (Nat.zero_le _) (by first | rfl | omega | (split <;> omega) | simp_all) rfl
def wiX (τ : tS) (a b r : Int) : tS := tU (tU (tU (tU τ 9 (τ 4 9).toNat a) 10 (τ 4 9).toNat b) 11 (τ 4 9).toNat r) 4 9 (τ 4 9 + 1)
theorem wi_addFixed {l : Launch} {d : Nat} {τ : tS} {a b r : Int} (h : 0 ≤ τ 4 9 ∧ τ 4 9 < 6) : zF l (d + 1) M_wi_addFixed [.ref 4, vi a, vi b, vi r] (τ) (some (vi (τ 4 9 + 1))) (wiX τ a b r) := by
  refine zMet_of (ls := [.ref 4, vi a, vi b, vi r]) pn_wi rfl (by simp [vi, Value.category]) rfl rfl ?_
  refine zr_aload_n d_wi_addFixed_0 rfl ?_
  refine zi_getr (j := 6) d_wi_addFixed_1 zC6 fl_wi_24 (by decide) rfl rfl ?_
  refine zr_aload_n d_wi_addFixed_4 rfl ?_
  refine zi_getiE (j := 9) (x := τ 4 9) d_wi_addFixed_5 zC6 fl_wi_46 (by decide) rfl rfl (by simp [tU]) ?_
  refine zi_iload_n d_wi_addFixed_8 rfl ?_
  refine zi_iast d_wi_addFixed_9 rfl (by decide) (by omega) (by omega) ?_
  refine zr_aload_n d_wi_addFixed_10 rfl ?_
  refine zi_getr (j := 7) d_wi_addFixed_11 zC6 fl_wi_27 (by decide) rfl rfl ?_
  refine zr_aload_n d_wi_addFixed_14 rfl ?_
  refine zi_getiE (j := 9) (x := τ 4 9) d_wi_addFixed_15 zC6 fl_wi_46 (by decide) rfl rfl (by simp [tU]) ?_
  refine zi_iload_n d_wi_addFixed_18 rfl ?_
  refine zi_iast d_wi_addFixed_19 rfl (by decide) (by omega) (by omega) ?_
  refine zr_aload_n d_wi_addFixed_20 rfl ?_
  refine zi_getr (j := 8) d_wi_addFixed_21 zC6 fl_wi_30 (by decide) rfl rfl ?_
  refine zr_aload_n d_wi_addFixed_24 rfl ?_
  refine zi_getiE (j := 9) (x := τ 4 9) d_wi_addFixed_25 zC6 fl_wi_46 (by decide) rfl rfl (by simp [tU]) ?_
  refine zi_iload_n d_wi_addFixed_28 rfl ?_
  refine zi_iast d_wi_addFixed_29 rfl (by decide) (by omega) (by omega) ?_
  refine zr_aload_n d_wi_addFixed_30 rfl ?_
  refine zr_dup d_wi_addFixed_31 rfl ?_
  refine zi_getiE (j := 9) (x := τ 4 9) d_wi_addFixed_32 zC6 fl_wi_46 (by decide) rfl rfl (by simp [tU]) ?_
  refine zi_iconst d_wi_addFixed_35 ?_
  refine zi_iadd d_wi_addFixed_36 ?_
  refine zi_puti (j := 9) d_wi_addFixed_37 zC6 fl_wi_46 (by decide) rfl rfl rfl rfl ?_
  refine zr_aload_n d_wi_addFixed_40 rfl ?_
  refine zi_geti (j := 9) d_wi_addFixed_41 zC6 fl_wi_46 (by decide) rfl rfl ?_
  exact zk_iret rfl d_wi_addFixed_44 (Nat.zero_le _) (Nat.zero_le _) (by first | rfl | omega | (split <;> omega) | simp_all) rfl
theorem wi_addBan0_old {l : Launch} {d : Nat} {τ : tS} {k m : Nat} {r : Int} (hk : k < 31) (hr : 0 ≤ r ∧ r < 39) (hm : τ 5 r.toNat = (m : Int)) (hm2 : m < 2147483648) (hb : m.testBit k = true) : zF l (d + 2) M_wi_addBan [.ref 4, vi (k : Int), vi r, vi 0] (τ) (some (vi (τ 4 2))) (τ) := by
  refine zMet_of (ls := [.ref 4, vi (k : Int), vi r, vi 0, .null]) pn_wi rfl (by simp [vi, Value.category]) rfl rfl ?_
  refine zi_iload_n d_wi_addBan_0 rfl ?_
  refine zi_if_ne 11 d_wi_addBan_1 (by decide) (by first | assumption | exact ⟨by omega, by omega⟩) (fun h1 => ?_) (fun h1 => ?_)
  · exact absurd h1 (by decide)
  · refine zr_aload_n d_wi_addBan_4 rfl ?_
    refine zi_getr (j := 0) d_wi_addBan_5 zC6 fl_wi_9 (by decide) rfl rfl ?_
    refine zr_goto 15 d_wi_addBan_8 (by decide) ?_
    refine zi_astore d_wi_addBan_15 (by decide) rfl ?_
    refine zr_aload d_wi_addBan_17 rfl ?_
    refine zi_iload_n d_wi_addBan_19 rfl ?_
    refine zi_iald d_wi_addBan_20 rfl (by decide) (by omega) (by omega) ?_
    refine zi_iload_n d_wi_addBan_21 rfl ?_
    rw [hm]
    refine c_wi_addBan_22 rfl (lr_hasBit hm2 hk) ?_
    show zV _ _ _ _ _ (vi _ :: _) _ _ _
    rw [if_pos hb]
    refine zi_if_ne 48 d_wi_addBan_25 (by decide) (by first | assumption | exact ⟨by omega, by omega⟩) (fun h25 => ?_) (fun h25 => ?_)
    · refine zr_aload_n d_wi_addBan_48 rfl ?_
      refine zi_geti (j := 2) d_wi_addBan_49 zC6 fl_wi_39 (by decide) rfl rfl ?_
      exact zk_iret rfl d_wi_addBan_52 (Nat.zero_le _) (Nat.zero_le _) (by first | rfl | omega | (split <;> omega) | simp_all) rfl
    · exact absurd h25 (by decide)
theorem wi_addBan0_new {l : Launch} {d : Nat} {τ : tS} {k m : Nat} {r : Int} (hk : k < 31) (hr : 0 ≤ r ∧ r < 39) (hm : τ 5 r.toNat = (m : Int)) (hm2 : m < 2147483648) (hb : m.testBit k = false) : zF l (d + 2) M_wi_addBan [.ref 4, vi (k : Int), vi r, vi 0] (τ) (some (vi (τ 4 2 + 1))) (tU (tU τ 5 r.toNat ((m ||| 2 ^ k : Nat) : Int)) 4 2 (τ 4 2 + 1)) := by
  refine zMet_of (ls := [.ref 4, vi (k : Int), vi r, vi 0, .null]) pn_wi rfl (by simp [vi, Value.category]) rfl rfl ?_
  refine zi_iload_n d_wi_addBan_0 rfl ?_
  refine zi_if_ne 11 d_wi_addBan_1 (by decide) (by first | assumption | exact ⟨by omega, by omega⟩) (fun h1 => ?_) (fun h1 => ?_)
  · exact absurd h1 (by decide)
  · refine zr_aload_n d_wi_addBan_4 rfl ?_
    refine zi_getr (j := 0) d_wi_addBan_5 zC6 fl_wi_9 (by decide) rfl rfl ?_
    refine zr_goto 15 d_wi_addBan_8 (by decide) ?_
    refine zi_astore d_wi_addBan_15 (by decide) rfl ?_
    refine zr_aload d_wi_addBan_17 rfl ?_
    refine zi_iload_n d_wi_addBan_19 rfl ?_
    refine zi_iald d_wi_addBan_20 rfl (by decide) (by omega) (by omega) ?_
    refine zi_iload_n d_wi_addBan_21 rfl ?_
    rw [hm]
    refine c_wi_addBan_22 rfl (lr_hasBit hm2 hk) ?_
    show zV _ _ _ _ _ (vi _ :: _) _ _ _
    rw [if_neg (by rw [hb]; decide)]
    refine zi_if_ne 48 d_wi_addBan_25 (by decide) (by first | assumption | exact ⟨by omega, by omega⟩) (fun h25 => ?_) (fun h25 => ?_)
    · exact absurd rfl h25
    · refine zr_aload d_wi_addBan_28 rfl ?_
      refine zi_iload_n d_wi_addBan_30 rfl ?_
      refine zr_dup2 d_wi_addBan_31 rfl rfl ?_
      refine zi_iald d_wi_addBan_32 rfl (by decide) (by omega) (by omega) ?_
      refine zi_iconst d_wi_addBan_33 ?_
      refine zi_iload_n d_wi_addBan_34 rfl ?_
      refine zi_ishl d_wi_addBan_35 hk  ?_
      rw [hm]
      have h36 : 2 ^ k < 2 ^ 31 := Nat.pow_lt_pow_right (by decide) hk
      refine zi_ior d_wi_addBan_36 hm2 (by omega) ?_
      refine zi_iast d_wi_addBan_37 rfl (by decide) (by omega) (by omega) ?_
      refine zr_aload_n d_wi_addBan_38 rfl ?_
      refine zr_dup d_wi_addBan_39 rfl ?_
      refine zi_geti (j := 2) d_wi_addBan_40 zC6 fl_wi_39 (by decide) rfl rfl ?_
      refine zi_iconst d_wi_addBan_43 ?_
      refine zi_iadd d_wi_addBan_44 ?_
      refine zi_puti (j := 2) d_wi_addBan_45 zC6 fl_wi_39 (by decide) rfl rfl rfl rfl ?_
      refine zr_aload_n d_wi_addBan_48 rfl ?_
      refine zi_geti (j := 2) d_wi_addBan_49 zC6 fl_wi_39 (by decide) rfl rfl ?_
      exact zk_iret rfl d_wi_addBan_52 (Nat.zero_le _) (Nat.zero_le _) (by first | rfl | omega | (split <;> omega) | simp_all) rfl
theorem wi_addBan1_old {l : Launch} {d : Nat} {τ : tS} {k m : Nat} {r : Int} (hk : k < 31) (hr : 0 ≤ r ∧ r < 39) (hm : τ 6 r.toNat = (m : Int)) (hm2 : m < 2147483648) (hb : m.testBit k = true) : zF l (d + 2) M_wi_addBan [.ref 4, vi (k : Int), vi r, vi 1] (τ) (some (vi (τ 4 2))) (τ) := by
  refine zMet_of (ls := [.ref 4, vi (k : Int), vi r, vi 1, .null]) pn_wi rfl (by simp [vi, Value.category]) rfl rfl ?_
  refine zi_iload_n d_wi_addBan_0 rfl ?_
  refine zi_if_ne 11 d_wi_addBan_1 (by decide) (by first | assumption | exact ⟨by omega, by omega⟩) (fun h1 => ?_) (fun h1 => ?_)
  · refine zr_aload_n d_wi_addBan_11 rfl ?_
    refine zi_getr (j := 1) d_wi_addBan_12 zC6 fl_wi_15 (by decide) rfl rfl ?_
    refine zi_astore d_wi_addBan_15 (by decide) rfl ?_
    refine zr_aload d_wi_addBan_17 rfl ?_
    refine zi_iload_n d_wi_addBan_19 rfl ?_
    refine zi_iald d_wi_addBan_20 rfl (by decide) (by omega) (by omega) ?_
    refine zi_iload_n d_wi_addBan_21 rfl ?_
    rw [hm]
    refine c_wi_addBan_22 rfl (lr_hasBit hm2 hk) ?_
    show zV _ _ _ _ _ (vi _ :: _) _ _ _
    rw [if_pos hb]
    refine zi_if_ne 48 d_wi_addBan_25 (by decide) (by first | assumption | exact ⟨by omega, by omega⟩) (fun h25 => ?_) (fun h25 => ?_)
    · refine zr_aload_n d_wi_addBan_48 rfl ?_
      refine zi_geti (j := 2) d_wi_addBan_49 zC6 fl_wi_39 (by decide) rfl rfl ?_
      exact zk_iret rfl d_wi_addBan_52 (Nat.zero_le _) (Nat.zero_le _) (by first | rfl | omega | (split <;> omega) | simp_all) rfl
    · exact absurd h25 (by decide)
  · exact absurd h1 (by decide)
theorem wi_addBan1_new {l : Launch} {d : Nat} {τ : tS} {k m : Nat} {r : Int} (hk : k < 31) (hr : 0 ≤ r ∧ r < 39) (hm : τ 6 r.toNat = (m : Int)) (hm2 : m < 2147483648) (hb : m.testBit k = false) : zF l (d + 2) M_wi_addBan [.ref 4, vi (k : Int), vi r, vi 1] (τ) (some (vi (τ 4 2 + 1))) (tU (tU τ 6 r.toNat ((m ||| 2 ^ k : Nat) : Int)) 4 2 (τ 4 2 + 1)) := by
  refine zMet_of (ls := [.ref 4, vi (k : Int), vi r, vi 1, .null]) pn_wi rfl (by simp [vi, Value.category]) rfl rfl ?_
  refine zi_iload_n d_wi_addBan_0 rfl ?_
  refine zi_if_ne 11 d_wi_addBan_1 (by decide) (by first | assumption | exact ⟨by omega, by omega⟩) (fun h1 => ?_) (fun h1 => ?_)
  · refine zr_aload_n d_wi_addBan_11 rfl ?_
    refine zi_getr (j := 1) d_wi_addBan_12 zC6 fl_wi_15 (by decide) rfl rfl ?_
    refine zi_astore d_wi_addBan_15 (by decide) rfl ?_
    refine zr_aload d_wi_addBan_17 rfl ?_
    refine zi_iload_n d_wi_addBan_19 rfl ?_
    refine zi_iald d_wi_addBan_20 rfl (by decide) (by omega) (by omega) ?_
    refine zi_iload_n d_wi_addBan_21 rfl ?_
    rw [hm]
    refine c_wi_addBan_22 rfl (lr_hasBit hm2 hk) ?_
    show zV _ _ _ _ _ (vi _ :: _) _ _ _
    rw [if_neg (by rw [hb]; decide)]
    refine zi_if_ne 48 d_wi_addBan_25 (by decide) (by first | assumption | exact ⟨by omega, by omega⟩) (fun h25 => ?_) (fun h25 => ?_)
    · exact absurd rfl h25
    · refine zr_aload d_wi_addBan_28 rfl ?_
      refine zi_iload_n d_wi_addBan_30 rfl ?_
      refine zr_dup2 d_wi_addBan_31 rfl rfl ?_
      refine zi_iald d_wi_addBan_32 rfl (by decide) (by omega) (by omega) ?_
      refine zi_iconst d_wi_addBan_33 ?_
      refine zi_iload_n d_wi_addBan_34 rfl ?_
      refine zi_ishl d_wi_addBan_35 hk  ?_
      rw [hm]
      have h36 : 2 ^ k < 2 ^ 31 := Nat.pow_lt_pow_right (by decide) hk
      refine zi_ior d_wi_addBan_36 hm2 (by omega) ?_
      refine zi_iast d_wi_addBan_37 rfl (by decide) (by omega) (by omega) ?_
      refine zr_aload_n d_wi_addBan_38 rfl ?_
      refine zr_dup d_wi_addBan_39 rfl ?_
      refine zi_geti (j := 2) d_wi_addBan_40 zC6 fl_wi_39 (by decide) rfl rfl ?_
      refine zi_iconst d_wi_addBan_43 ?_
      refine zi_iadd d_wi_addBan_44 ?_
      refine zi_puti (j := 2) d_wi_addBan_45 zC6 fl_wi_39 (by decide) rfl rfl rfl rfl ?_
      refine zr_aload_n d_wi_addBan_48 rfl ?_
      refine zi_geti (j := 2) d_wi_addBan_49 zC6 fl_wi_39 (by decide) rfl rfl ?_
      exact zk_iret rfl d_wi_addBan_52 (Nat.zero_le _) (Nat.zero_le _) (by first | rfl | omega | (split <;> omega) | simp_all) rfl
  · exact absurd h1 (by decide)
def sdF (τ : tS) : tS := tF (tF (tF (tF (tF τ 22 20 0) 23 20 0) 24 20 0) 25 20 0) 26 20 0
theorem sd_forget {l : Launch} {d : Nat} {τ : tS} : zF l (d + 2) M_sd_forget [.ref 21] (τ) (none) (sdF τ) := by
  refine zMet_of (ls := [.ref 21]) pn_sd rfl (by simp [vi, Value.category]) rfl rfl ?_
  refine zr_aload_n d_sd_forget_0 rfl ?_
  refine zi_getr (j := 0) d_sd_forget_1 zC3 fl_sd_9 (by decide) rfl rfl ?_
  refine zi_iconst d_sd_forget_4 ?_
  refine c_sd_forget_5 rfl (ar_fill rfl (by decide)) ?_
  refine zr_aload_n d_sd_forget_8 rfl ?_
  refine zi_getr (j := 1) d_sd_forget_9 zC3 fl_sd_15 (by decide) rfl rfl ?_
  refine zi_iconst d_sd_forget_12 ?_
  refine c_sd_forget_13 rfl (ar_fill rfl (by decide)) ?_
  refine zr_aload_n d_sd_forget_16 rfl ?_
  refine zi_getr (j := 2) d_sd_forget_17 zC3 fl_sd_18 (by decide) rfl rfl ?_
  refine zi_iconst d_sd_forget_20 ?_
  refine c_sd_forget_21 rfl (ar_fill rfl (by decide)) ?_
  refine zr_aload_n d_sd_forget_24 rfl ?_
  refine zi_getr (j := 3) d_sd_forget_25 zC3 fl_sd_21 (by decide) rfl rfl ?_
  refine zi_iconst d_sd_forget_28 ?_
  refine c_sd_forget_29 rfl (ar_fill rfl (by decide)) ?_
  refine zr_aload_n d_sd_forget_32 rfl ?_
  refine zi_getr (j := 4) d_sd_forget_33 zC3 fl_sd_24 (by decide) rfl rfl ?_
  refine zi_iconst d_sd_forget_36 ?_
  refine c_sd_forget_37 rfl (ar_fill rfl (by decide)) ?_
  exact zk_vret rfl d_sd_forget_40 (Nat.zero_le _) (Nat.zero_le _) rfl
def scW (own oth : Int) : Nat := if oth < own then 22 else if own = oth then 23 else 24
def sc1 (τ : tS) (t own oth x : Int) : tS :=
  let τ1 := tU τ (scW own oth) t.toNat (τ (scW own oth) t.toNat + x)
  let τ2 := tU τ1 25 t.toNat (τ1 25 t.toNat + x * own)
  tU τ2 26 t.toNat (τ2 26 t.toNat + x * oth)
theorem sd_scoreSide {l : Launch} {d : Nat} {τ : tS} {t a b x : Int} (ht : 0 ≤ t ∧ t < 20) (ha : zin a) (hb : zin b) : zF l (d + 1) M_sd_scoreSide [.ref 21, vi t, vi a, vi b, vi x] (τ) (none) (sc1 τ t a b x) := by
  refine zMet_of (ls := [.ref 21, vi t, vi a, vi b, vi x]) pn_sd rfl (by simp [vi, Value.category]) rfl rfl ?_
  refine zi_iload_n d_sd_scoreSide_0 rfl ?_
  refine zi_iload_n d_sd_scoreSide_1 rfl ?_
  refine zi_icmp_le 19 d_sd_scoreSide_2 (by decide) (by first | assumption | exact ⟨by omega, by omega⟩) (by first | assumption | exact ⟨by omega, by omega⟩) (fun h2 => ?_) (fun h2 => ?_)
  · refine zi_iload_n d_sd_scoreSide_19 rfl ?_
    refine zi_iload_n d_sd_scoreSide_20 rfl ?_
    refine zi_icmp_ne 38 d_sd_scoreSide_21 (by decide) (by first | assumption | exact ⟨by omega, by omega⟩) (by first | assumption | exact ⟨by omega, by omega⟩) (fun h21 => ?_) (fun h21 => ?_)
    · refine zr_aload_n d_sd_scoreSide_38 rfl ?_
      refine zi_getr (j := 2) d_sd_scoreSide_39 zC3 fl_sd_18 (by decide) rfl rfl ?_
      refine zi_iload_n d_sd_scoreSide_42 rfl ?_
      refine zr_dup2 d_sd_scoreSide_43 rfl rfl ?_
      refine zi_iald d_sd_scoreSide_44 rfl (by decide) (by omega) (by omega) ?_
      refine zi_iload d_sd_scoreSide_45 rfl ?_
      refine zi_iadd d_sd_scoreSide_47 ?_
      refine zi_iast d_sd_scoreSide_48 rfl (by decide) (by omega) (by omega) ?_
      refine zr_aload_n d_sd_scoreSide_49 rfl ?_
      refine zi_getr (j := 3) d_sd_scoreSide_50 zC3 fl_sd_21 (by decide) rfl rfl ?_
      refine zi_iload_n d_sd_scoreSide_53 rfl ?_
      refine zr_dup2 d_sd_scoreSide_54 rfl rfl ?_
      refine zi_iald d_sd_scoreSide_55 rfl (by decide) (by omega) (by omega) ?_
      refine zi_iload d_sd_scoreSide_56 rfl ?_
      refine zi_iload_n d_sd_scoreSide_58 rfl ?_
      refine zi_imul d_sd_scoreSide_59 ?_
      refine zi_iadd d_sd_scoreSide_60 ?_
      refine zi_iast d_sd_scoreSide_61 rfl (by decide) (by omega) (by omega) ?_
      refine zr_aload_n d_sd_scoreSide_62 rfl ?_
      refine zi_getr (j := 4) d_sd_scoreSide_63 zC3 fl_sd_24 (by decide) rfl rfl ?_
      refine zi_iload_n d_sd_scoreSide_66 rfl ?_
      refine zr_dup2 d_sd_scoreSide_67 rfl rfl ?_
      refine zi_iald d_sd_scoreSide_68 rfl (by decide) (by omega) (by omega) ?_
      refine zi_iload d_sd_scoreSide_69 rfl ?_
      refine zi_iload_n d_sd_scoreSide_71 rfl ?_
      refine zi_imul d_sd_scoreSide_72 ?_
      refine zi_iadd d_sd_scoreSide_73 ?_
      refine zi_iast d_sd_scoreSide_74 rfl (by decide) (by omega) (by omega) ?_
      exact zk_vret rfl d_sd_scoreSide_75 (Nat.zero_le _) (Nat.zero_le _) (by simp only [sc1, scW]; first | (rw [if_pos (by omega)]; done) | (rw [if_neg (by omega), if_pos (by omega)]; done) | (rw [if_neg (by omega), if_neg (by omega)]; done))
    · refine zr_aload_n d_sd_scoreSide_24 rfl ?_
      refine zi_getr (j := 1) d_sd_scoreSide_25 zC3 fl_sd_15 (by decide) rfl rfl ?_
      refine zi_iload_n d_sd_scoreSide_28 rfl ?_
      refine zr_dup2 d_sd_scoreSide_29 rfl rfl ?_
      refine zi_iald d_sd_scoreSide_30 rfl (by decide) (by omega) (by omega) ?_
      refine zi_iload d_sd_scoreSide_31 rfl ?_
      refine zi_iadd d_sd_scoreSide_33 ?_
      refine zi_iast d_sd_scoreSide_34 rfl (by decide) (by omega) (by omega) ?_
      refine zr_goto 49 d_sd_scoreSide_35 (by decide) ?_
      refine zr_aload_n d_sd_scoreSide_49 rfl ?_
      refine zi_getr (j := 3) d_sd_scoreSide_50 zC3 fl_sd_21 (by decide) rfl rfl ?_
      refine zi_iload_n d_sd_scoreSide_53 rfl ?_
      refine zr_dup2 d_sd_scoreSide_54 rfl rfl ?_
      refine zi_iald d_sd_scoreSide_55 rfl (by decide) (by omega) (by omega) ?_
      refine zi_iload d_sd_scoreSide_56 rfl ?_
      refine zi_iload_n d_sd_scoreSide_58 rfl ?_
      refine zi_imul d_sd_scoreSide_59 ?_
      refine zi_iadd d_sd_scoreSide_60 ?_
      refine zi_iast d_sd_scoreSide_61 rfl (by decide) (by omega) (by omega) ?_
      refine zr_aload_n d_sd_scoreSide_62 rfl ?_
      refine zi_getr (j := 4) d_sd_scoreSide_63 zC3 fl_sd_24 (by decide) rfl rfl ?_
      refine zi_iload_n d_sd_scoreSide_66 rfl ?_
      refine zr_dup2 d_sd_scoreSide_67 rfl rfl ?_
      refine zi_iald d_sd_scoreSide_68 rfl (by decide) (by omega) (by omega) ?_
      refine zi_iload d_sd_scoreSide_69 rfl ?_
      refine zi_iload_n d_sd_scoreSide_71 rfl ?_
      refine zi_imul d_sd_scoreSide_72 ?_
      refine zi_iadd d_sd_scoreSide_73 ?_
      refine zi_iast d_sd_scoreSide_74 rfl (by decide) (by omega) (by omega) ?_
      exact zk_vret rfl d_sd_scoreSide_75 (Nat.zero_le _) (Nat.zero_le _) (by simp only [sc1, scW]; first | (rw [if_pos (by omega)]; done) | (rw [if_neg (by omega), if_pos (by omega)]; done) | (rw [if_neg (by omega), if_neg (by omega)]; done))
  · refine zr_aload_n d_sd_scoreSide_5 rfl ?_
    refine zi_getr (j := 0) d_sd_scoreSide_6 zC3 fl_sd_9 (by decide) rfl rfl ?_
    refine zi_iload_n d_sd_scoreSide_9 rfl ?_
    refine zr_dup2 d_sd_scoreSide_10 rfl rfl ?_
    refine zi_iald d_sd_scoreSide_11 rfl (by decide) (by omega) (by omega) ?_
    refine zi_iload d_sd_scoreSide_12 rfl ?_
    refine zi_iadd d_sd_scoreSide_14 ?_
    refine zi_iast d_sd_scoreSide_15 rfl (by decide) (by omega) (by omega) ?_
    refine zr_goto 49 d_sd_scoreSide_16 (by decide) ?_
    refine zr_aload_n d_sd_scoreSide_49 rfl ?_
    refine zi_getr (j := 3) d_sd_scoreSide_50 zC3 fl_sd_21 (by decide) rfl rfl ?_
    refine zi_iload_n d_sd_scoreSide_53 rfl ?_
    refine zr_dup2 d_sd_scoreSide_54 rfl rfl ?_
    refine zi_iald d_sd_scoreSide_55 rfl (by decide) (by omega) (by omega) ?_
    refine zi_iload d_sd_scoreSide_56 rfl ?_
    refine zi_iload_n d_sd_scoreSide_58 rfl ?_
    refine zi_imul d_sd_scoreSide_59 ?_
    refine zi_iadd d_sd_scoreSide_60 ?_
    refine zi_iast d_sd_scoreSide_61 rfl (by decide) (by omega) (by omega) ?_
    refine zr_aload_n d_sd_scoreSide_62 rfl ?_
    refine zi_getr (j := 4) d_sd_scoreSide_63 zC3 fl_sd_24 (by decide) rfl rfl ?_
    refine zi_iload_n d_sd_scoreSide_66 rfl ?_
    refine zr_dup2 d_sd_scoreSide_67 rfl rfl ?_
    refine zi_iald d_sd_scoreSide_68 rfl (by decide) (by omega) (by omega) ?_
    refine zi_iload d_sd_scoreSide_69 rfl ?_
    refine zi_iload_n d_sd_scoreSide_71 rfl ?_
    refine zi_imul d_sd_scoreSide_72 ?_
    refine zi_iadd d_sd_scoreSide_73 ?_
    refine zi_iast d_sd_scoreSide_74 rfl (by decide) (by omega) (by omega) ?_
    exact zk_vret rfl d_sd_scoreSide_75 (Nat.zero_le _) (Nat.zero_le _) (by simp only [sc1, scW]; first | (rw [if_pos (by omega)]; done) | (rw [if_neg (by omega), if_pos (by omega)]; done) | (rw [if_neg (by omega), if_neg (by omega)]; done))
theorem sd_score {l : Launch} {d : Nat} {τ : tS} {h a x y w : Int} (hh : 0 ≤ h ∧ h < 20) (ha : 0 ≤ a ∧ a < 20) (hx : zin x) (hy : zin y) : zF l (d + 2) M_sd_score [.ref 21, vi h, vi a, vi x, vi y, vi w] (τ) (none) (sc1 (sc1 τ h x y w) a y x w) := by
  refine zMet_of (ls := [.ref 21, vi h, vi a, vi x, vi y, vi w]) pn_sd rfl (by simp [vi, Value.category]) rfl rfl ?_
  refine zr_aload_n d_sd_score_0 rfl ?_
  refine zi_iload_n d_sd_score_1 rfl ?_
  refine zi_iload_n d_sd_score_2 rfl ?_
  refine zi_iload d_sd_score_3 rfl ?_
  refine zi_iload d_sd_score_5 rfl ?_
  refine c_sd_score_7 rfl rfl (sd_scoreSide hh hx hy) ?_
  refine zr_aload_n d_sd_score_10 rfl ?_
  refine zi_iload_n d_sd_score_11 rfl ?_
  refine zi_iload d_sd_score_12 rfl ?_
  refine zi_iload_n d_sd_score_14 rfl ?_
  refine zi_iload d_sd_score_15 rfl ?_
  refine c_sd_score_17 rfl rfl (sd_scoreSide ha hy hx) ?_
  exact zk_vret rfl d_sd_score_20 (Nat.zero_le _) (Nat.zero_le _) rfl
theorem sd_points {l : Launch} {d : Nat} {τ : tS} {t : Int} (ht : 0 ≤ t ∧ t < 20) : zF l (d + 1) M_sd_points [.ref 21, vi t] (τ) (some (vi (3 * τ 22 t.toNat + τ 23 t.toNat))) (τ) := by
  refine zMet_of (ls := [.ref 21, vi t]) pn_sd rfl (by simp [vi, Value.category]) rfl rfl ?_
  refine zi_iconst d_sd_points_0 ?_
  refine zr_aload_n d_sd_points_1 rfl ?_
  refine zi_getr (j := 0) d_sd_points_2 zC3 fl_sd_9 (by decide) rfl rfl ?_
  refine zi_iload_n d_sd_points_5 rfl ?_
  refine zi_iald d_sd_points_6 rfl (by decide) (by omega) (by omega) ?_
  refine zi_imul d_sd_points_7 ?_
  refine zr_aload_n d_sd_points_8 rfl ?_
  refine zi_getr (j := 1) d_sd_points_9 zC3 fl_sd_15 (by decide) rfl rfl ?_
  refine zi_iload_n d_sd_points_12 rfl ?_
  refine zi_iald d_sd_points_13 rfl (by decide) (by omega) (by omega) ?_
  refine zi_iadd d_sd_points_14 ?_
  exact zk_iret rfl d_sd_points_15 (Nat.zero_le _) (Nat.zero_le _) (by first | rfl | omega | (split <;> omega) | simp_all) rfl
theorem sd_difference {l : Launch} {d : Nat} {τ : tS} {t : Int} (ht : 0 ≤ t ∧ t < 20) : zF l (d + 1) M_sd_difference [.ref 21, vi t] (τ) (some (vi (τ 25 t.toNat - τ 26 t.toNat))) (τ) := by
  refine zMet_of (ls := [.ref 21, vi t]) pn_sd rfl (by simp [vi, Value.category]) rfl rfl ?_
  refine zr_aload_n d_sd_difference_0 rfl ?_
  refine zi_getr (j := 3) d_sd_difference_1 zC3 fl_sd_21 (by decide) rfl rfl ?_
  refine zi_iload_n d_sd_difference_4 rfl ?_
  refine zi_iald d_sd_difference_5 rfl (by decide) (by omega) (by omega) ?_
  refine zr_aload_n d_sd_difference_6 rfl ?_
  refine zi_getr (j := 4) d_sd_difference_7 zC3 fl_sd_24 (by decide) rfl rfl ?_
  refine zi_iload_n d_sd_difference_10 rfl ?_
  refine zi_iald d_sd_difference_11 rfl (by decide) (by omega) (by omega) ?_
  refine zi_isub d_sd_difference_12 ?_
  exact zk_iret rfl d_sd_difference_13 (Nat.zero_le _) (Nat.zero_le _) (by first | rfl | omega | (split <;> omega) | simp_all) rfl
def reF (τ : tS) : tS := tU (sdF (tF τ 19 760 (-1))) 18 3 0
theorem re_forget {l : Launch} {d : Nat} {τ : tS} : zF l (d + 3) M_re_forget [.ref 18] (τ) (none) (reF τ) := by
  refine zMet_of (ls := [.ref 18]) pn_re rfl (by simp [vi, Value.category]) rfl rfl ?_
  refine zr_aload_n d_re_forget_0 rfl ?_
  refine zi_getr (j := 0) d_re_forget_1 zC1 fl_re_9 (by decide) rfl rfl ?_
  refine zi_iconst d_re_forget_4 ?_
  refine c_re_forget_5 rfl (ar_fill rfl (by decide)) ?_
  refine zr_aload_n d_re_forget_8 rfl ?_
  refine zi_getr (j := 2) d_re_forget_9 zC1 fl_re_21 (by decide) rfl rfl ?_
  refine c_re_forget_12 rfl rfl (sd_forget) ?_
  refine zr_aload_n d_re_forget_15 rfl ?_
  refine zi_iconst d_re_forget_16 ?_
  refine zi_puti (j := 3) d_re_forget_17 zC1 fl_re_34 (by decide) rfl rfl rfl rfl ?_
  exact zk_vret rfl d_re_forget_20 (Nat.zero_le _) (Nat.zero_le _) rfl
theorem re_count {l : Launch} {d : Nat} {τ : tS} : zF l (d + 1) M_re_count [.ref 18] (τ) (some (vi (τ 18 3))) (τ) := by
  refine zMet_of (ls := [.ref 18]) pn_re rfl (by simp [vi, Value.category]) rfl rfl ?_
  refine zr_aload_n d_re_count_0 rfl ?_
  refine zi_geti (j := 3) d_re_count_1 zC1 fl_re_34 (by decide) rfl rfl ?_
  exact zk_iret rfl d_re_count_4 (Nat.zero_le _) (Nat.zero_le _) (by first | rfl | omega | (split <;> omega) | simp_all) rfl
theorem re_standings {l : Launch} {d : Nat} {τ : tS} : zF l (d + 1) M_re_standings [.ref 18] (τ) (some (.ref 21)) (τ) := by
  refine zMet_of (ls := [.ref 18]) pn_re rfl (by simp [vi, Value.category]) rfl rfl ?_
  refine zr_aload_n d_re_standings_0 rfl ?_
  refine zi_getr (j := 2) d_re_standings_1 zC1 fl_re_21 (by decide) rfl rfl ?_
  exact zk_aret rfl d_re_standings_4 (Nat.zero_le _) (Nat.zero_le _)
theorem re_has {l : Launch} {d : Nat} {τ : tS} {r t : Int} (hr : 0 ≤ r ∧ r < 38) (ht : 0 ≤ t ∧ t < 20) (h : zin (τ 19 (r * 20 + t).toNat)) : zF l (d + 2) M_re_has [.ref 18, vi r, vi t] (τ) (some (vi (if ¬ τ 19 (r * 20 + t).toNat = -1 then 1 else 0))) (τ) := by
  refine zMet_of (ls := [.ref 18, vi r, vi t]) pn_re rfl (by simp [vi, Value.category]) rfl rfl ?_
  refine zr_aload_n d_re_has_0 rfl ?_
  refine zi_getr (j := 0) d_re_has_1 zC1 fl_re_9 (by decide) rfl rfl ?_
  refine zi_iload_n d_re_has_4 rfl ?_
  refine zi_iload_n d_re_has_5 rfl ?_
  refine c_re_has_6 rfl (lr_spot) ?_
  refine zi_iald d_re_has_9 rfl (by decide) (by omega) (by omega) ?_
  refine zi_iconst d_re_has_10 ?_
  refine zi_icmp_eq 18 d_re_has_11 (by decide) (by first | assumption | exact ⟨by omega, by omega⟩) (by first | assumption | exact ⟨by omega, by omega⟩) (fun h11 => ?_) (fun h11 => ?_)
  · refine zi_iconst d_re_has_18 ?_
    exact zk_zret rfl d_re_has_19 (Nat.zero_le _) (Nat.zero_le _) (by omega) (by first | rfl | omega | (split <;> omega) | simp_all) rfl
  · refine zi_iconst d_re_has_14 ?_
    refine zr_goto 19 d_re_has_15 (by decide) ?_
    exact zk_zret rfl d_re_has_19 (Nat.zero_le _) (Nat.zero_le _) (by omega) (by first | rfl | omega | (split <;> omega) | simp_all) rfl
def reG (τ : tS) (r h x y : Int) : tS := tU (tU τ 19 (r * 20 + h).toNat x) 20 (r * 20 + h).toNat y
theorem re_put_new {l : Launch} {d : Nat} {τ : tS} {r h a x y : Int} (hr : 0 ≤ r ∧ r < 38) (hh : 0 ≤ h ∧ h < 20) (ha : 0 ≤ a ∧ a < 20) (hx : zin x) (hy : zin y) (hg : τ 19 (r * 20 + h).toNat = -1) : zF l (d + 3) M_re_put [.ref 18, vi r, vi h, vi a, vi x, vi y] (τ) (none) (sc1 (sc1 (reG (tU τ 18 3 (τ 18 3 + 1)) r h x y) h x y 1) a y x 1) := by
  refine zMet_of (ls := [.ref 18, vi r, vi h, vi a, vi x, vi y, .null]) pn_re rfl (by simp [vi, Value.category]) rfl rfl ?_
  refine zi_iload_n d_re_put_0 rfl ?_
  refine zi_iload_n d_re_put_1 rfl ?_
  refine c_re_put_2 rfl (lr_spot) ?_
  refine zi_istore d_re_put_5 (by decide) rfl ?_
  refine zr_aload_n d_re_put_7 rfl ?_
  refine zi_getr (j := 0) d_re_put_8 zC1 fl_re_9 (by decide) rfl rfl ?_
  refine zi_iload d_re_put_11 rfl ?_
  refine zi_iald d_re_put_13 rfl (by decide) (by omega) (by omega) ?_
  refine zi_iconst d_re_put_14 ?_
  rw [hg]
  refine zi_icmp_ne 31 d_re_put_15 (by decide) ⟨by decide, by decide⟩ ⟨by decide, by decide⟩ (fun h15 => ?_) (fun h15 => ?_)
  · exact absurd rfl h15
  · refine zr_aload_n d_re_put_18 rfl ?_
    refine zr_dup d_re_put_19 rfl ?_
    refine zi_geti (j := 3) d_re_put_20 zC1 fl_re_34 (by decide) rfl rfl ?_
    refine zi_iconst d_re_put_23 ?_
    refine zi_iadd d_re_put_24 ?_
    refine zi_puti (j := 3) d_re_put_25 zC1 fl_re_34 (by decide) rfl rfl rfl rfl ?_
    refine zr_goto 55 d_re_put_28 (by decide) ?_
    refine zr_aload_n d_re_put_55 rfl ?_
    refine zi_getr (j := 0) d_re_put_56 zC1 fl_re_9 (by decide) rfl rfl ?_
    refine zi_iload d_re_put_59 rfl ?_
    refine zi_iload d_re_put_61 rfl ?_
    refine zi_iast d_re_put_63 rfl (by decide) (by omega) (by omega) ?_
    refine zr_aload_n d_re_put_64 rfl ?_
    refine zi_getr (j := 1) d_re_put_65 zC1 fl_re_15 (by decide) rfl rfl ?_
    refine zi_iload d_re_put_68 rfl ?_
    refine zi_iload d_re_put_70 rfl ?_
    refine zi_iast d_re_put_72 rfl (by decide) (by omega) (by omega) ?_
    refine zr_aload_n d_re_put_73 rfl ?_
    refine zi_getr (j := 2) d_re_put_74 zC1 fl_re_21 (by decide) rfl rfl ?_
    refine zi_iload_n d_re_put_77 rfl ?_
    refine zi_iload_n d_re_put_78 rfl ?_
    refine zi_iload d_re_put_79 rfl ?_
    refine zi_iload d_re_put_81 rfl ?_
    refine zi_iconst d_re_put_83 ?_
    refine c_re_put_84 rfl rfl (sd_score hh ha hx hy) ?_
    exact zk_vret rfl d_re_put_87 (Nat.zero_le _) (Nat.zero_le _) rfl
theorem re_put_old {l : Launch} {d : Nat} {τ : tS} {r h a x y : Int} (hr : 0 ≤ r ∧ r < 38) (hh : 0 ≤ h ∧ h < 20) (ha : 0 ≤ a ∧ a < 20) (hx : zin x) (hy : zin y) (hg : 0 ≤ τ 19 (r * 20 + h).toNat ∧ τ 19 (r * 20 + h).toNat < 100) (hg2 : zin (τ 20 (r * 20 + h).toNat)) : zF l (d + 3) M_re_put [.ref 18, vi r, vi h, vi a, vi x, vi y] (τ) (none) (sc1 (sc1 (reG (sc1 (sc1 τ h (τ 19 (r * 20 + h).toNat) (τ 20 (r * 20 + h).toNat) (-1)) a (τ 20 (r * 20 + h).toNat) (τ 19 (r * 20 + h).toNat) (-1)) r h x y) h x y 1) a y x 1) := by
  refine zMet_of (ls := [.ref 18, vi r, vi h, vi a, vi x, vi y, .null]) pn_re rfl (by simp [vi, Value.category]) rfl rfl ?_
  refine zi_iload_n d_re_put_0 rfl ?_
  refine zi_iload_n d_re_put_1 rfl ?_
  refine c_re_put_2 rfl (lr_spot) ?_
  refine zi_istore d_re_put_5 (by decide) rfl ?_
  refine zr_aload_n d_re_put_7 rfl ?_
  refine zi_getr (j := 0) d_re_put_8 zC1 fl_re_9 (by decide) rfl rfl ?_
  refine zi_iload d_re_put_11 rfl ?_
  refine zi_iald d_re_put_13 rfl (by decide) (by omega) (by omega) ?_
  refine zi_iconst d_re_put_14 ?_
  refine zi_icmp_ne 31 d_re_put_15 (by decide) ⟨by omega, by omega⟩ ⟨by decide, by decide⟩ (fun h15 => ?_) (fun h15 => ?_)
  · refine zr_aload_n d_re_put_31 rfl ?_
    refine zi_getr (j := 2) d_re_put_32 zC1 fl_re_21 (by decide) rfl rfl ?_
    refine zi_iload_n d_re_put_35 rfl ?_
    refine zi_iload_n d_re_put_36 rfl ?_
    refine zr_aload_n d_re_put_37 rfl ?_
    refine zi_getr (j := 0) d_re_put_38 zC1 fl_re_9 (by decide) rfl rfl ?_
    refine zi_iload d_re_put_41 rfl ?_
    refine zi_iald d_re_put_43 rfl (by decide) (by omega) (by omega) ?_
    refine zr_aload_n d_re_put_44 rfl ?_
    refine zi_getr (j := 1) d_re_put_45 zC1 fl_re_15 (by decide) rfl rfl ?_
    refine zi_iload d_re_put_48 rfl ?_
    refine zi_iald d_re_put_50 rfl (by decide) (by omega) (by omega) ?_
    refine zi_iconst d_re_put_51 ?_
    refine c_re_put_52 rfl rfl (sd_score hh ha ⟨by omega, by omega⟩ hg2) ?_
    refine zr_aload_n d_re_put_55 rfl ?_
    refine zi_getr (j := 0) d_re_put_56 zC1 fl_re_9 (by decide) rfl rfl ?_
    refine zi_iload d_re_put_59 rfl ?_
    refine zi_iload d_re_put_61 rfl ?_
    refine zi_iast d_re_put_63 rfl (by decide) (by omega) (by omega) ?_
    refine zr_aload_n d_re_put_64 rfl ?_
    refine zi_getr (j := 1) d_re_put_65 zC1 fl_re_15 (by decide) rfl rfl ?_
    refine zi_iload d_re_put_68 rfl ?_
    refine zi_iload d_re_put_70 rfl ?_
    refine zi_iast d_re_put_72 rfl (by decide) (by omega) (by omega) ?_
    refine zr_aload_n d_re_put_73 rfl ?_
    refine zi_getr (j := 2) d_re_put_74 zC1 fl_re_21 (by decide) rfl rfl ?_
    refine zi_iload_n d_re_put_77 rfl ?_
    refine zi_iload_n d_re_put_78 rfl ?_
    refine zi_iload d_re_put_79 rfl ?_
    refine zi_iload d_re_put_81 rfl ?_
    refine zi_iconst d_re_put_83 ?_
    refine c_re_put_84 rfl rfl (sd_score hh ha hx hy) ?_
    exact zk_vret rfl d_re_put_87 (Nat.zero_le _) (Nat.zero_le _) rfl
  · exact absurd h15 (by omega)
theorem wo_count {l : Launch} {d : Nat} {τ : tS} : zF l (d + 1) M_wo_count [.ref 27] (τ) (some (vi (τ 27 3))) (τ) := by
  refine zMet_of (ls := [.ref 27]) pn_wo rfl (by simp [vi, Value.category]) rfl rfl ?_
  refine zr_aload_n d_wo_count_0 rfl ?_
  refine zi_geti (j := 3) d_wo_count_1 zC5 fl_wo_23 (by decide) rfl rfl ?_
  exact zk_iret rfl d_wo_count_4 (Nat.zero_le _) (Nat.zero_le _) (by first | rfl | omega | (split <;> omega) | simp_all) rfl
theorem wo_isWashed {l : Launch} {d : Nat} {τ : tS} {r : Int} (hr : 0 ≤ r ∧ r < 38) (hb : τ 28 r.toNat = 0 ∨ τ 28 r.toNat = 1) : zF l (d + 1) M_wo_isWashed [.ref 27, vi r] (τ) (some (vi (τ 28 r.toNat))) (τ) := by
  refine zMet_of (ls := [.ref 27, vi r]) pn_wo rfl (by simp [vi, Value.category]) rfl rfl ?_
  refine zr_aload_n d_wo_isWashed_0 rfl ?_
  refine zi_getr (j := 2) d_wo_isWashed_1 zC5 fl_wo_9 (by decide) rfl rfl ?_
  refine zi_iload_n d_wo_isWashed_4 rfl ?_
  refine zi_zald d_wo_isWashed_5 rfl (by decide) (by omega) (by omega) ?_
  exact zk_zret rfl d_wo_isWashed_6 (Nat.zero_le _) (Nat.zero_le _) (by omega) (by first | rfl | omega | (split <;> omega) | simp_all) rfl
theorem wo_add {l : Launch} {d : Nat} {τ : tS} {r : Int} (hr : 0 ≤ r ∧ r < 38) : zF l (d + 1) M_wo_add [.ref 27, vi r] (τ) (none) (tU (tU τ 28 r.toNat 1) 27 3 (τ 27 3 + 1)) := by
  refine zMet_of (ls := [.ref 27, vi r]) pn_wo rfl (by simp [vi, Value.category]) rfl rfl ?_
  refine zr_aload_n d_wo_add_0 rfl ?_
  refine zi_getr (j := 2) d_wo_add_1 zC5 fl_wo_9 (by decide) rfl rfl ?_
  refine zi_iload_n d_wo_add_4 rfl ?_
  refine zi_iconst d_wo_add_5 ?_
  refine zi_zast d_wo_add_6 rfl (by decide) (by omega) (by omega) (by omega) ?_
  refine zr_aload_n d_wo_add_7 rfl ?_
  refine zr_dup d_wo_add_8 rfl ?_
  refine zi_geti (j := 3) d_wo_add_9 zC5 fl_wo_23 (by decide) rfl rfl ?_
  refine zi_iconst d_wo_add_12 ?_
  refine zi_iadd d_wo_add_13 ?_
  refine zi_puti (j := 3) d_wo_add_14 zC5 fl_wo_23 (by decide) rfl rfl rfl rfl ?_
  exact zk_vret rfl d_wo_add_17 (Nat.zero_le _) (Nat.zero_le _) rfl
theorem wo_isMissing {l : Launch} {d : Nat} {τ : tS} {r t : Int} (hw : τ 1 0 = 20) (hr : 0 ≤ r ∧ r < 38) (ht : 0 ≤ t ∧ t < 20) (hb : τ 28 r.toNat = 0 ∨ τ 28 r.toNat = 1) (hv : zin (τ 3 (r * 20 + t).toNat)) (h : zin (τ 19 (r * 20 + t).toNat)) : zF l (d + 3) M_wo_isMissing [.ref 27, vi r, vi t] (τ) (some (vi (if τ 28 r.toNat = 1 ∧ τ 3 (r * 20 + t).toNat = 1 ∧ τ 19 (r * 20 + t).toNat = -1 then 1 else 0))) (τ) := by
  refine zMet_of (ls := [.ref 27, vi r, vi t]) pn_wo rfl (by simp [vi, Value.category]) rfl rfl ?_
  refine zr_aload_n d_wo_isMissing_0 rfl ?_
  refine zi_getr (j := 2) d_wo_isMissing_1 zC5 fl_wo_9 (by decide) rfl rfl ?_
  refine zi_iload_n d_wo_isMissing_4 rfl ?_
  refine zi_zald d_wo_isMissing_5 rfl (by decide) (by omega) (by omega) ?_
  refine zi_if_eq 38 d_wo_isMissing_6 (by decide) (by first | assumption | exact ⟨by omega, by omega⟩) (fun h6 => ?_) (fun h6 => ?_)
  · refine zi_iconst d_wo_isMissing_38 ?_
    exact zk_zret rfl d_wo_isMissing_39 (Nat.zero_le _) (Nat.zero_le _) (by omega) (by (try split at h31) <;> split <;> omega) rfl
  · refine zr_aload_n d_wo_isMissing_9 rfl ?_
    refine zi_getr (j := 0) d_wo_isMissing_10 zC5 fl_wo_15 (by decide) rfl rfl ?_
    refine zi_iload_n d_wo_isMissing_13 rfl ?_
    refine zi_iload_n d_wo_isMissing_14 rfl ?_
    refine c_wo_isMissing_15 rfl rfl (tt1_venueAt hw hr ht) ?_
    refine zi_iconst d_wo_isMissing_18 ?_
    refine zi_icmp_ne 38 d_wo_isMissing_19 (by decide) (by first | assumption | exact ⟨by omega, by omega⟩) (by first | assumption | exact ⟨by omega, by omega⟩) (fun h19 => ?_) (fun h19 => ?_)
    · refine zi_iconst d_wo_isMissing_38 ?_
      exact zk_zret rfl d_wo_isMissing_39 (Nat.zero_le _) (Nat.zero_le _) (by omega) (by (try split at h31) <;> split <;> omega) rfl
    · refine zr_aload_n d_wo_isMissing_22 rfl ?_
      refine zi_getr (j := 1) d_wo_isMissing_23 zC5 fl_wo_19 (by decide) rfl rfl ?_
      refine zi_iload_n d_wo_isMissing_26 rfl ?_
      refine zi_iload_n d_wo_isMissing_27 rfl ?_
      refine c_wo_isMissing_28 rfl rfl (re_has hr ht h) ?_
      refine zi_if_ne 38 d_wo_isMissing_31 (by decide) (by split <;> exact ⟨by decide, by decide⟩) (fun h31 => ?_) (fun h31 => ?_)
      · refine zi_iconst d_wo_isMissing_38 ?_
        exact zk_zret rfl d_wo_isMissing_39 (Nat.zero_le _) (Nat.zero_le _) (by omega) (by (try split at h31) <;> split <;> omega) rfl
      · refine zi_iconst d_wo_isMissing_34 ?_
        refine zr_goto 39 d_wo_isMissing_35 (by decide) ?_
        exact zk_zret rfl d_wo_isMissing_39 (Nat.zero_le _) (Nat.zero_le _) (by omega) (by (try split at h31) <;> split <;> omega) rfl
theorem cu_datesAreFull {l : Launch} {d : Nat} {τ : tS} (h : zin (τ 29 3)) : zF l (d + 1) M_cu_datesAreFull [.ref 29] (τ) (some (vi (if 6 ≤ τ 29 3 then 1 else 0))) (τ) := by
  refine zMet_of (ls := [.ref 29]) pn_cu rfl (by simp [vi, Value.category]) rfl rfl ?_
  refine zr_aload_n d_cu_datesAreFull_0 rfl ?_
  refine zi_geti (j := 3) d_cu_datesAreFull_1 zC0 fl_cu_47 (by decide) rfl rfl ?_
  refine zi_bipush d_cu_datesAreFull_4 (by decide) ?_
  refine zi_icmp_lt 13 d_cu_datesAreFull_6 (by decide) (by first | assumption | exact ⟨by omega, by omega⟩) (by first | assumption | exact ⟨by omega, by omega⟩) (fun h6 => ?_) (fun h6 => ?_)
  · refine zi_iconst d_cu_datesAreFull_13 ?_
    exact zk_zret rfl d_cu_datesAreFull_14 (Nat.zero_le _) (Nat.zero_le _) (by omega) (by first | rfl | omega | (split <;> omega) | simp_all) rfl
  · refine zi_iconst d_cu_datesAreFull_9 ?_
    refine zr_goto 14 d_cu_datesAreFull_10 (by decide) ?_
    exact zk_zret rfl d_cu_datesAreFull_14 (Nat.zero_le _) (Nat.zero_le _) (by omega) (by first | rfl | omega | (split <;> omega) | simp_all) rfl
theorem cu_dateAt {l : Launch} {d : Nat} {τ : tS} {r t : Int} (hr : 0 ≤ r ∧ r < 38) (ht : 0 ≤ t ∧ t < 20) : zF l (d + 2) M_cu_dateAt [.ref 29, vi r, vi t] (τ) (some (vi (τ 31 (r * 20 + t).toNat))) (τ) := by
  refine zMet_of (ls := [.ref 29, vi r, vi t]) pn_cu rfl (by simp [vi, Value.category]) rfl rfl ?_
  refine zr_aload_n d_cu_dateAt_0 rfl ?_
  refine zi_getr (j := 4) d_cu_dateAt_1 zC0 fl_cu_15 (by decide) rfl rfl ?_
  refine zi_iload_n d_cu_dateAt_4 rfl ?_
  refine zi_iload_n d_cu_dateAt_5 rfl ?_
  refine c_cu_dateAt_6 rfl (lr_spot) ?_
  refine zi_iald d_cu_dateAt_9 rfl (by decide) (by omega) (by omega) ?_
  exact zk_iret rfl d_cu_dateAt_10 (Nat.zero_le _) (Nat.zero_le _) (by first | rfl | omega | (split <;> omega) | simp_all) rfl
theorem cu_forget {l : Launch} {d : Nat} {τ : tS} : zF l (d + 2) M_cu_forget [.ref 29] (τ) (none) (tF (tU τ 29 3 0) 31 760 (-1)) := by
  refine zMet_of (ls := [.ref 29]) pn_cu rfl (by simp [vi, Value.category]) rfl rfl ?_
  refine zr_aload_n d_cu_forget_0 rfl ?_
  refine zi_iconst d_cu_forget_1 ?_
  refine zi_puti (j := 3) d_cu_forget_2 zC0 fl_cu_47 (by decide) rfl rfl rfl rfl ?_
  refine zr_aload_n d_cu_forget_5 rfl ?_
  refine zi_getr (j := 4) d_cu_forget_6 zC0 fl_cu_15 (by decide) rfl rfl ?_
  refine zi_iconst d_cu_forget_9 ?_
  refine c_cu_forget_10 rfl (ar_fill rfl (by decide)) ?_
  exact zk_vret rfl d_cu_forget_13 (Nat.zero_le _) (Nat.zero_le _) rfl
