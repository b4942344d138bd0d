/-! the reference: teams and wishes, opponent, venue (written by wip/gen/t24.py) -/
def mtT (τ : tS) (k : Int) : tS := csT (tU (tU (tU (tU (tU (tF (tU (tU τ 37 0 0) 37 1 k) 38 1560 0) 37 2 0) 37 4 0) 37 7 0) 37 11 0) 37 12 0)
theorem md_teams {l : Launch} {d : Nat} {τ : tS} {k : Int} (zk : zin k) (h : 4 ≤ k ∧ k ≤ 20) : zF l (d + 3) M_md_teams [.ref 37, vi k] (τ) (none) (mtT τ k) := by
  refine zMet_of (ls := [.ref 37, vi k, .null]) pn_md rfl (by simp [vi, Value.category]) rfl rfl ?_
  refine zr_aload_n d_md_teams_0 rfl ?_
  refine zi_iload_n d_md_teams_1 rfl ?_
  refine zi_iconst d_md_teams_2 ?_
  refine zi_bipush d_md_teams_3 (by decide) ?_
  refine c_md_teams_5 rfl (md_in zk ⟨by decide, by decide⟩ ⟨by decide, by decide⟩) ?_
  refine zi_if_ne 15 d_md_teams_8 (by decide) (by split <;> exact ⟨by decide, by decide⟩) (fun h8 => ?_) (fun h8 => ?_)
  · refine zi_iconst d_md_teams_15 ?_
    refine zi_iconst d_md_teams_16 ?_
    refine zi_iconst d_md_teams_17 ?_
    refine zi_iconst d_md_teams_18 ?_
    refine c_md_teams_19 rfl rfl (md_refused ⟨by decide, by decide⟩ ⟨by decide, by decide⟩ ⟨by decide, by decide⟩ ⟨by decide, by decide⟩) ?_
    show zV _ _ _ _ _ (vi 0 :: _) (tU τ 37 0 0) _ _
    refine zi_if_eq 26 d_md_teams_22 (by decide) (by first | assumption | exact ⟨by omega, by omega⟩) (fun h22 => ?_) (fun h22 => ?_)
    · refine zr_aload_n d_md_teams_26 rfl ?_
      refine zi_iload_n d_md_teams_27 rfl ?_
      refine zi_puti (j := 1) d_md_teams_28 zC8 fl_md_7 (by decide) rfl rfl rfl rfl ?_
      refine zi_iconst d_md_teams_31 ?_
      refine zi_istore_n d_md_teams_32 (by decide) rfl ?_
      have key := zup (P := fun (i : Nat) => zV l (d + 3) M_md_teams 33 [.ref 37, vi k, vi (i : Int)] [] (tF (tU (tU τ 37 0 0) 37 1 k) 38 i 0) (0, 0) (.inl none, (SH, zq (mtT τ k)), 0, 0)) (1560) ?_ ?_ 0 (by omega)
      · exact zE4 key (by refine ⟨?_, ?_, ?_, trivial⟩ <;> first | exact Or.inl rfl | exact Or.inr rfl) (tF_0 _ _ _).symm
      · intro i hi hk
        refine zi_iload_n d_md_teams_33 rfl ?_
        refine zi_sipush d_md_teams_34 (by decide) ?_
        refine zi_icmp_ge 53 d_md_teams_37 (by decide) (by first | assumption | exact ⟨by omega, by omega⟩) (by first | assumption | exact ⟨by omega, by omega⟩) (fun h37 => ?_) (fun h37 => ?_)
        · exact absurd h37 (by omega)
        · refine zr_aload_n d_md_teams_40 rfl ?_
          refine zi_getr (j := 3) d_md_teams_41 zC8 fl_md_13 (by decide) rfl rfl ?_
          refine zi_iload_n d_md_teams_44 rfl ?_
          refine zi_iconst d_md_teams_45 ?_
          refine zi_zast d_md_teams_46 rfl (by decide) (by omega) (by omega) (Or.inl rfl) ?_
          rw [Int.toNat_natCast]
          refine zi_iinc d_md_teams_47 (by decide) rfl rfl ?_
          refine zr_goto 33 d_md_teams_50 (by decide) ?_
          exact zE4 hk (by refine ⟨?_, ?_, ?_, trivial⟩ <;> first | exact Or.inl rfl | exact Or.inr rfl) (tF_s _ _ _ _)
      · refine zi_iload_n d_md_teams_33 rfl ?_
        refine zi_sipush d_md_teams_34 (by decide) ?_
        refine zi_icmp_ge 53 d_md_teams_37 (by decide) (by first | assumption | exact ⟨by omega, by omega⟩) (by first | assumption | exact ⟨by omega, by omega⟩) (fun h37 => ?_) (fun h37 => ?_)
        · refine zr_aload_n d_md_teams_53 rfl ?_
          refine zi_iconst d_md_teams_54 ?_
          refine zi_puti (j := 2) d_md_teams_55 zC8 fl_md_104 (by decide) rfl rfl rfl rfl ?_
          refine zr_aload_n d_md_teams_58 rfl ?_
          refine zi_iconst d_md_teams_59 ?_
          refine zi_puti (j := 4) d_md_teams_60 zC8 fl_md_107 (by decide) rfl rfl rfl rfl ?_
          refine zr_aload_n d_md_teams_63 rfl ?_
          refine zi_iconst d_md_teams_64 ?_
          refine zi_puti (j := 7) d_md_teams_65 zC8 fl_md_110 (by decide) rfl rfl rfl rfl ?_
          refine zr_aload_n d_md_teams_68 rfl ?_
          refine zi_iconst d_md_teams_69 ?_
          refine zi_puti (j := 11) d_md_teams_70 zC8 fl_md_113 (by decide) rfl rfl rfl rfl ?_
          refine zr_aload_n d_md_teams_73 rfl ?_
          refine zi_iconst d_md_teams_74 ?_
          refine zi_puti (j := 12) d_md_teams_75 zC8 fl_md_94 (by decide) rfl rfl rfl rfl ?_
          refine zr_aload_n d_md_teams_78 rfl ?_
          refine c_md_teams_79 rfl rfl (md_clearSeason) ?_
          exact zk_vret rfl d_md_teams_82 (Nat.zero_le _) (Nat.zero_le _) rfl
        · exact absurd h37 (by omega)
    · exact absurd h22 (by decide)
  · exfalso
    grind
theorem md_teamsX {l : Launch} {d : Nat} {τ : tS} {k : Int} (zk : zin k) (h : ¬ (4 ≤ k ∧ k ≤ 20)) : zF l (d + 3) M_md_teams [.ref 37, vi k] (τ) (none) (tU τ 37 0 1) := by
  refine zMet_of (ls := [.ref 37, vi k, .null]) pn_md rfl (by simp [vi, Value.category]) rfl rfl ?_
  refine zr_aload_n d_md_teams_0 rfl ?_
  refine zi_iload_n d_md_teams_1 rfl ?_
  refine zi_iconst d_md_teams_2 ?_
  refine zi_bipush d_md_teams_3 (by decide) ?_
  refine c_md_teams_5 rfl (md_in zk ⟨by decide, by decide⟩ ⟨by decide, by decide⟩) ?_
  refine zi_if_ne 15 d_md_teams_8 (by decide) (by split <;> exact ⟨by decide, by decide⟩) (fun h8 => ?_) (fun h8 => ?_)
  · exfalso
    grind
  · refine zi_iconst d_md_teams_11 ?_
    refine zr_goto 16 d_md_teams_12 (by decide) ?_
    refine zi_iconst d_md_teams_16 ?_
    refine zi_iconst d_md_teams_17 ?_
    refine zi_iconst d_md_teams_18 ?_
    refine c_md_teams_19 rfl rfl (md_refused ⟨by decide, by decide⟩ ⟨by decide, by decide⟩ ⟨by decide, by decide⟩ ⟨by decide, by decide⟩) ?_
    show zV _ _ _ _ _ (vi 1 :: _) (tU τ 37 0 1) _ _
    refine zi_if_eq 26 d_md_teams_22 (by decide) (by first | assumption | exact ⟨by omega, by omega⟩) (fun h22 => ?_) (fun h22 => ?_)
    · exact absurd h22 (by decide)
    · exact zk_vret rfl d_md_teams_25 (Nat.zero_le _) (Nat.zero_le _) rfl
theorem md_awayCap {l : Launch} {d : Nat} {τ : tS} {k : Int} (zk : zin k) (h : 0 ≤ k ∧ k ≤ 19) : zF l (d + 3) M_md_awayCap [.ref 37, vi k] (τ) (none) (tU (tU τ 37 0 0) 37 11 k) := by
  refine zMet_of (ls := [.ref 37, vi k]) pn_md rfl (by simp [vi, Value.category]) rfl rfl ?_
  refine zr_aload_n d_md_awayCap_0 rfl ?_
  refine zi_iload_n d_md_awayCap_1 rfl ?_
  refine zi_iconst d_md_awayCap_2 ?_
  refine zi_bipush d_md_awayCap_3 (by decide) ?_
  refine c_md_awayCap_5 rfl (md_in zk ⟨by decide, by decide⟩ ⟨by decide, by decide⟩) ?_
  refine zi_if_ne 15 d_md_awayCap_8 (by decide) (by split <;> exact ⟨by decide, by decide⟩) (fun h8 => ?_) (fun h8 => ?_)
  · refine zi_iconst d_md_awayCap_15 ?_
    refine zi_iconst d_md_awayCap_16 ?_
    refine zi_iconst d_md_awayCap_17 ?_
    refine zi_iconst d_md_awayCap_18 ?_
    refine c_md_awayCap_19 rfl rfl (md_refused ⟨by decide, by decide⟩ ⟨by decide, by decide⟩ ⟨by decide, by decide⟩ ⟨by decide, by decide⟩) ?_
    show zV _ _ _ _ _ (vi 0 :: _) (tU τ 37 0 0) _ _
    refine zi_if_ne 30 d_md_awayCap_22 (by decide) (by first | assumption | exact ⟨by omega, by omega⟩) (fun h22 => ?_) (fun h22 => ?_)
    · exact absurd h22 (by decide)
    · refine zr_aload_n d_md_awayCap_25 rfl ?_
      refine zi_iload_n d_md_awayCap_26 rfl ?_
      refine zi_puti (j := 11) d_md_awayCap_27 zC8 fl_md_113 (by decide) rfl rfl rfl rfl ?_
      exact zk_vret rfl d_md_awayCap_30 (Nat.zero_le _) (Nat.zero_le _) rfl
  · exfalso
    grind
theorem md_awayCapX {l : Launch} {d : Nat} {τ : tS} {k : Int} (zk : zin k) (h : ¬ (0 ≤ k ∧ k ≤ 19)) : zF l (d + 3) M_md_awayCap [.ref 37, vi k] (τ) (none) (tU τ 37 0 1) := by
  refine zMet_of (ls := [.ref 37, vi k]) pn_md rfl (by simp [vi, Value.category]) rfl rfl ?_
  refine zr_aload_n d_md_awayCap_0 rfl ?_
  refine zi_iload_n d_md_awayCap_1 rfl ?_
  refine zi_iconst d_md_awayCap_2 ?_
  refine zi_bipush d_md_awayCap_3 (by decide) ?_
  refine c_md_awayCap_5 rfl (md_in zk ⟨by decide, by decide⟩ ⟨by decide, by decide⟩) ?_
  refine zi_if_ne 15 d_md_awayCap_8 (by decide) (by split <;> exact ⟨by decide, by decide⟩) (fun h8 => ?_) (fun h8 => ?_)
  · exfalso
    grind
  · refine zi_iconst d_md_awayCap_11 ?_
    refine zr_goto 16 d_md_awayCap_12 (by decide) ?_
    refine zi_iconst d_md_awayCap_16 ?_
    refine zi_iconst d_md_awayCap_17 ?_
    refine zi_iconst d_md_awayCap_18 ?_
    refine c_md_awayCap_19 rfl rfl (md_refused ⟨by decide, by decide⟩ ⟨by decide, by decide⟩ ⟨by decide, by decide⟩ ⟨by decide, by decide⟩) ?_
    show zV _ _ _ _ _ (vi 1 :: _) (tU τ 37 0 1) _ _
    refine zi_if_ne 30 d_md_awayCap_22 (by decide) (by first | assumption | exact ⟨by omega, by omega⟩) (fun h22 => ?_) (fun h22 => ?_)
    · exact zk_vret rfl d_md_awayCap_30 (Nat.zero_le _) (Nat.zero_le _) rfl
    · exact absurd h22 (by decide)
def mbT (τ : tS) (j : Nat) : tS := tU (tU (tU τ 37 0 0) 37 2 (if τ 38 j = 0 then τ 37 2 + 1 else τ 37 2)) 38 j 1
theorem md_ban {l : Launch} {d : Nat} {τ : tS} {n R p f e : Nat} (C : Mo τ n R p f e) {t r v : Int} (zt : zin t) (zr : zin r) (zv : zin v) (h : (0 ≤ t ∧ t < n) ∧ (0 ≤ r ∧ r ≤ 38) ∧ (v = 0 ∨ v = 1)) : zF l (d + 4) M_md_ban [.ref 37, vi t, vi r, vi v] (τ) (some (vi (if τ 38 (2 * (39 * t + r) + v).toNat = 0 then τ 37 2 + 1 else τ 37 2))) (mbT τ (2 * (39 * t + r) + v).toNat) := by
  refine zMet_of (ls := [.ref 37, vi t, vi r, vi v, .null]) pn_md rfl (by simp [vi, Value.category]) rfl rfl ?_
  have hA := C.A
  have hn := C.n
  have hn4 := C.n4
  have hn20 := C.n20
  have hR := C.R
  have hR38 := C.R38
  refine zr_aload_n d_md_ban_0 rfl ?_
  refine zr_aload_n d_md_ban_1 rfl ?_
  refine zi_iload_n d_md_ban_2 rfl ?_
  refine c_md_ban_3 rfl rfl (md_isTeam C zt) ?_
  refine zi_if_eq 28 d_md_ban_6 (by decide) (by split <;> exact ⟨by decide, by decide⟩) (fun h6 => ?_) (fun h6 => ?_)
  · exfalso
    grind
  · refine zi_iload_n d_md_ban_9 rfl ?_
    refine zi_iconst d_md_ban_10 ?_
    refine zi_bipush d_md_ban_11 (by decide) ?_
    refine c_md_ban_13 rfl (md_in zr ⟨by decide, by decide⟩ ⟨by decide, by decide⟩) ?_
    refine zi_if_eq 28 d_md_ban_16 (by decide) (by split <;> exact ⟨by decide, by decide⟩) (fun h16 => ?_) (fun h16 => ?_)
    · exfalso
      grind
    · refine zi_iload_n d_md_ban_19 rfl ?_
      refine zi_iconst d_md_ban_20 ?_
      refine zi_iconst d_md_ban_21 ?_
      refine c_md_ban_22 rfl (md_in zv ⟨by decide, by decide⟩ ⟨by decide, by decide⟩) ?_
      refine zi_if_ne 32 d_md_ban_25 (by decide) (by split <;> exact ⟨by decide, by decide⟩) (fun h25 => ?_) (fun h25 => ?_)
      · refine zi_iconst d_md_ban_32 ?_
        refine zi_iconst d_md_ban_33 ?_
        refine zi_iconst d_md_ban_34 ?_
        refine zi_iconst d_md_ban_35 ?_
        refine c_md_ban_36 rfl rfl (md_refused ⟨by decide, by decide⟩ ⟨by decide, by decide⟩ ⟨by decide, by decide⟩ ⟨by decide, by decide⟩) ?_
        show zV _ _ _ _ _ (vi 0 :: _) (tU τ 37 0 0) _ _
        refine zi_if_eq 44 d_md_ban_39 (by decide) (by first | assumption | exact ⟨by omega, by omega⟩) (fun h39 => ?_) (fun h39 => ?_)
        · refine zi_iconst d_md_ban_44 ?_
          refine zi_bipush d_md_ban_45 (by decide) ?_
          refine zi_iload_n d_md_ban_47 rfl ?_
          refine zi_imul d_md_ban_48 ?_
          refine zi_iload_n d_md_ban_49 rfl ?_
          refine zi_iadd d_md_ban_50 ?_
          refine zi_imul d_md_ban_51 ?_
          refine zi_iload_n d_md_ban_52 rfl ?_
          refine zi_iadd d_md_ban_53 ?_
          refine zi_istore d_md_ban_54 (by decide) rfl ?_
          refine zr_aload_n d_md_ban_56 rfl ?_
          refine zr_aload_n d_md_ban_57 rfl ?_
          refine zi_getr (j := 3) d_md_ban_58 zC8 fl_md_13 (by decide) rfl rfl ?_
          refine zi_iload d_md_ban_61 rfl ?_
          refine zi_zaldE (x := τ 38 (2 * (39 * t + r) + v).toNat) d_md_ban_63 rfl (by decide) (by omega) (by omega) (by simp [tU]) ?_
          refine zi_if_eq 74 d_md_ban_64 (by decide) (hA _ _) (fun h64 => ?_) (fun h64 => ?_)
          · have hb2 : (if τ 38 (2 * (39 * t + r) + v).toNat = 0 then τ 37 2 + 1 else τ 37 2) = τ 37 2 + 1 := if_pos h64
            refine zr_aload_n d_md_ban_74 rfl ?_
            refine zi_getiE (j := 2) (x := τ 37 2) d_md_ban_75 zC8 fl_md_104 (by decide) rfl rfl (by simp [tU]) ?_
            refine zi_iconst d_md_ban_78 ?_
            refine zi_iadd d_md_ban_79 ?_
            refine zE5 (st := vi (if τ 38 (2 * (39 * t + r) + v).toNat = 0 then τ 37 2 + 1 else τ 37 2) :: .ref 37 :: []) ?_ (by rw [hb2]; rfl)
            refine zi_puti (j := 2) d_md_ban_80 zC8 fl_md_104 (by decide) rfl rfl rfl rfl ?_
            refine zr_aload_n d_md_ban_83 rfl ?_
            refine zi_getr (j := 3) d_md_ban_84 zC8 fl_md_13 (by decide) rfl rfl ?_
            refine zi_iload d_md_ban_87 rfl ?_
            refine zi_iconst d_md_ban_89 ?_
            refine zi_zast d_md_ban_90 rfl (by decide) (by omega) (by omega) (Or.inr rfl) ?_
            refine zr_aload_n d_md_ban_91 rfl ?_
            refine zi_getiE (j := 2) (x := if τ 38 (2 * (39 * t + r) + v).toNat = 0 then τ 37 2 + 1 else τ 37 2) d_md_ban_92 zC8 fl_md_104 (by decide) rfl rfl (by simp [tU]) ?_
            exact zk_iret rfl d_md_ban_95 (Nat.zero_le _) (Nat.zero_le _) rfl rfl
          · have hb2 : (if τ 38 (2 * (39 * t + r) + v).toNat = 0 then τ 37 2 + 1 else τ 37 2) = τ 37 2 := if_neg h64
            refine zr_aload_n d_md_ban_67 rfl ?_
            refine zi_getiE (j := 2) (x := τ 37 2) d_md_ban_68 zC8 fl_md_104 (by decide) rfl rfl (by simp [tU]) ?_
            refine zr_goto 80 d_md_ban_71 (by decide) ?_
            refine zE5 (st := vi (if τ 38 (2 * (39 * t + r) + v).toNat = 0 then τ 37 2 + 1 else τ 37 2) :: .ref 37 :: []) ?_ (by rw [hb2]; rfl)
            refine zi_puti (j := 2) d_md_ban_80 zC8 fl_md_104 (by decide) rfl rfl rfl rfl ?_
            refine zr_aload_n d_md_ban_83 rfl ?_
            refine zi_getr (j := 3) d_md_ban_84 zC8 fl_md_13 (by decide) rfl rfl ?_
            refine zi_iload d_md_ban_87 rfl ?_
            refine zi_iconst d_md_ban_89 ?_
            refine zi_zast d_md_ban_90 rfl (by decide) (by omega) (by omega) (Or.inr rfl) ?_
            refine zr_aload_n d_md_ban_91 rfl ?_
            refine zi_getiE (j := 2) (x := if τ 38 (2 * (39 * t + r) + v).toNat = 0 then τ 37 2 + 1 else τ 37 2) d_md_ban_92 zC8 fl_md_104 (by decide) rfl rfl (by simp [tU]) ?_
            exact zk_iret rfl d_md_ban_95 (Nat.zero_le _) (Nat.zero_le _) rfl rfl
        · exact absurd h39 (by decide)
      · exfalso
        grind
theorem md_banX {l : Launch} {d : Nat} {τ : tS} {n R p f e : Nat} (C : Mo τ n R p f e) {t r v : Int} (zt : zin t) (zr : zin r) (zv : zin v) (h : ¬ ((0 ≤ t ∧ t < n) ∧ (0 ≤ r ∧ r ≤ 38) ∧ (v = 0 ∨ v = 1))) : zF l (d + 4) M_md_ban [.ref 37, vi t, vi r, vi v] (τ) (some (vi 0)) (tU τ 37 0 1) := by
  refine zMet_of (ls := [.ref 37, vi t, vi r, vi v, .null]) pn_md rfl (by simp [vi, Value.category]) rfl rfl ?_
  have hA := C.A
  have hn := C.n
  have hn4 := C.n4
  have hn20 := C.n20
  have hR := C.R
  have hR38 := C.R38
  refine zr_aload_n d_md_ban_0 rfl ?_
  refine zr_aload_n d_md_ban_1 rfl ?_
  refine zi_iload_n d_md_ban_2 rfl ?_
  refine c_md_ban_3 rfl rfl (md_isTeam C zt) ?_
  refine zi_if_eq 28 d_md_ban_6 (by decide) (by split <;> exact ⟨by decide, by decide⟩) (fun h6 => ?_) (fun h6 => ?_)
  · refine zi_iconst d_md_ban_28 ?_
    refine zr_goto 33 d_md_ban_29 (by decide) ?_
    refine zi_iconst d_md_ban_33 ?_
    refine zi_iconst d_md_ban_34 ?_
    refine zi_iconst d_md_ban_35 ?_
    refine c_md_ban_36 rfl rfl (md_refused ⟨by decide, by decide⟩ ⟨by decide, by decide⟩ ⟨by decide, by decide⟩ ⟨by decide, by decide⟩) ?_
    show zV _ _ _ _ _ (vi 1 :: _) (tU τ 37 0 1) _ _
    refine zi_if_eq 44 d_md_ban_39 (by decide) (by first | assumption | exact ⟨by omega, by omega⟩) (fun h39 => ?_) (fun h39 => ?_)
    · exact absurd h39 (by decide)
    · refine zi_iconst d_md_ban_42 ?_
      exact zk_iret rfl d_md_ban_43 (Nat.zero_le _) (Nat.zero_le _) (by first | rfl | omega | (split <;> omega) | simp_all) rfl
  · refine zi_iload_n d_md_ban_9 rfl ?_
    refine zi_iconst d_md_ban_10 ?_
    refine zi_bipush d_md_ban_11 (by decide) ?_
    refine c_md_ban_13 rfl (md_in zr ⟨by decide, by decide⟩ ⟨by decide, by decide⟩) ?_
    refine zi_if_eq 28 d_md_ban_16 (by decide) (by split <;> exact ⟨by decide, by decide⟩) (fun h16 => ?_) (fun h16 => ?_)
    · refine zi_iconst d_md_ban_28 ?_
      refine zr_goto 33 d_md_ban_29 (by decide) ?_
      refine zi_iconst d_md_ban_33 ?_
      refine zi_iconst d_md_ban_34 ?_
      refine zi_iconst d_md_ban_35 ?_
      refine c_md_ban_36 rfl rfl (md_refused ⟨by decide, by decide⟩ ⟨by decide, by decide⟩ ⟨by decide, by decide⟩ ⟨by decide, by decide⟩) ?_
      show zV _ _ _ _ _ (vi 1 :: _) (tU τ 37 0 1) _ _
      refine zi_if_eq 44 d_md_ban_39 (by decide) (by first | assumption | exact ⟨by omega, by omega⟩) (fun h39 => ?_) (fun h39 => ?_)
      · exact absurd h39 (by decide)
      · refine zi_iconst d_md_ban_42 ?_
        exact zk_iret rfl d_md_ban_43 (Nat.zero_le _) (Nat.zero_le _) (by first | rfl | omega | (split <;> omega) | simp_all) rfl
    · refine zi_iload_n d_md_ban_19 rfl ?_
      refine zi_iconst d_md_ban_20 ?_
      refine zi_iconst d_md_ban_21 ?_
      refine c_md_ban_22 rfl (md_in zv ⟨by decide, by decide⟩ ⟨by decide, by decide⟩) ?_
      refine zi_if_ne 32 d_md_ban_25 (by decide) (by split <;> exact ⟨by decide, by decide⟩) (fun h25 => ?_) (fun h25 => ?_)
      · exfalso
        grind
      · refine zi_iconst d_md_ban_28 ?_
        refine zr_goto 33 d_md_ban_29 (by decide) ?_
        refine zi_iconst d_md_ban_33 ?_
        refine zi_iconst d_md_ban_34 ?_
        refine zi_iconst d_md_ban_35 ?_
        refine c_md_ban_36 rfl rfl (md_refused ⟨by decide, by decide⟩ ⟨by decide, by decide⟩ ⟨by decide, by decide⟩ ⟨by decide, by decide⟩) ?_
        show zV _ _ _ _ _ (vi 1 :: _) (tU τ 37 0 1) _ _
        refine zi_if_eq 44 d_md_ban_39 (by decide) (by first | assumption | exact ⟨by omega, by omega⟩) (fun h39 => ?_) (fun h39 => ?_)
        · exact absurd h39 (by decide)
        · refine zi_iconst d_md_ban_42 ?_
          exact zk_iret rfl d_md_ban_43 (Nat.zero_le _) (Nat.zero_le _) (by first | rfl | omega | (split <;> omega) | simp_all) rfl
def msT (τ : tS) (p : Nat) (a b : Int) : tS := tU (tU (tU (tU τ 37 0 0) 39 p a) 40 p b) 37 4 ((p : Int) + 1)
theorem md_shareGround {l : Launch} {d : Nat} {τ : tS} {n R p f e : Nat} (C : Mo τ n R p f e) {a b : Int} (za : zin a) (zb : zin b) (h : (0 ≤ a ∧ a < n) ∧ (0 ≤ b ∧ b < n) ∧ ¬ a = b) (h6 : p < 6) : zF l (d + 4) M_md_shareGround [.ref 37, vi a, vi b] (τ) (some (vi ((p : Int) + 1))) (msT τ p a b) := by
  refine zMet_of (ls := [.ref 37, vi a, vi b]) pn_md rfl (by simp [vi, Value.category]) rfl rfl ?_
  have hA := C.A
  have hn := C.n
  have hn4 := C.n4
  have hn20 := C.n20
  have hR := C.R
  have hR38 := C.R38
  have hp := C.p
  have hp6 := C.p6
  refine zr_aload_n d_md_shareGround_0 rfl ?_
  refine zr_aload_n d_md_shareGround_1 rfl ?_
  refine zi_iload_n d_md_shareGround_2 rfl ?_
  refine c_md_shareGround_3 rfl rfl (md_isTeam C za) ?_
  refine zi_if_eq 22 d_md_shareGround_6 (by decide) (by split <;> exact ⟨by decide, by decide⟩) (fun h6 => ?_) (fun h6 => ?_)
  · exfalso
    grind
  · refine zr_aload_n d_md_shareGround_9 rfl ?_
    refine zi_iload_n d_md_shareGround_10 rfl ?_
    refine c_md_shareGround_11 rfl rfl (md_isTeam C zb) ?_
    refine zi_if_eq 22 d_md_shareGround_14 (by decide) (by split <;> exact ⟨by decide, by decide⟩) (fun h14 => ?_) (fun h14 => ?_)
    · exfalso
      grind
    · refine zi_iload_n d_md_shareGround_17 rfl ?_
      refine zi_iload_n d_md_shareGround_18 rfl ?_
      refine zi_icmp_ne 26 d_md_shareGround_19 (by decide) (by first | assumption | exact ⟨by omega, by omega⟩) (by first | assumption | exact ⟨by omega, by omega⟩) (fun h19 => ?_) (fun h19 => ?_)
      · refine zi_iconst d_md_shareGround_26 ?_
        refine zr_aload_n d_md_shareGround_27 rfl ?_
        refine zi_getiE (j := 4) (x := (p : Int)) d_md_shareGround_28 zC8 fl_md_107 (by decide) rfl rfl (C.p) ?_
        refine zi_bipush d_md_shareGround_31 (by decide) ?_
        refine zi_icmp_ne 40 d_md_shareGround_33 (by decide) (by first | assumption | exact ⟨by omega, by omega⟩) (by first | assumption | exact ⟨by omega, by omega⟩) (fun h33 => ?_) (fun h33 => ?_)
        · refine zi_iconst d_md_shareGround_40 ?_
          refine zi_iconst d_md_shareGround_41 ?_
          refine zi_iconst d_md_shareGround_42 ?_
          refine c_md_shareGround_43 rfl rfl (md_refused ⟨by decide, by decide⟩ ⟨by decide, by decide⟩ ⟨by decide, by decide⟩ ⟨by decide, by decide⟩) ?_
          show zV _ _ _ _ _ (vi 0 :: _) (tU τ 37 0 0) _ _
          refine zi_if_eq 51 d_md_shareGround_46 (by decide) (by first | assumption | exact ⟨by omega, by omega⟩) (fun h46 => ?_) (fun h46 => ?_)
          · refine zr_aload_n d_md_shareGround_51 rfl ?_
            refine zi_getr (j := 5) d_md_shareGround_52 zC8 fl_md_17 (by decide) rfl rfl ?_
            refine zr_aload_n d_md_shareGround_55 rfl ?_
            refine zi_getiE (j := 4) (x := (p : Int)) d_md_shareGround_56 zC8 fl_md_107 (by decide) rfl rfl (by simp [tU]; exact C.p) ?_
            refine zi_iload_n d_md_shareGround_59 rfl ?_
            refine zi_iast d_md_shareGround_60 rfl (by decide) (by omega) (by omega) ?_
            refine zr_aload_n d_md_shareGround_61 rfl ?_
            refine zi_getr (j := 6) d_md_shareGround_62 zC8 fl_md_21 (by decide) rfl rfl ?_
            refine zr_aload_n d_md_shareGround_65 rfl ?_
            refine zi_getiE (j := 4) (x := (p : Int)) d_md_shareGround_66 zC8 fl_md_107 (by decide) rfl rfl (by simp [tU]; exact C.p) ?_
            refine zi_iload_n d_md_shareGround_69 rfl ?_
            refine zi_iast d_md_shareGround_70 rfl (by decide) (by omega) (by omega) ?_
            simp only [Int.toNat_natCast]
            refine zr_aload_n d_md_shareGround_71 rfl ?_
            refine zr_dup d_md_shareGround_72 rfl ?_
            refine zi_getiE (j := 4) (x := (p : Int)) d_md_shareGround_73 zC8 fl_md_107 (by decide) rfl rfl (by simp [tU]; exact C.p) ?_
            refine zi_iconst d_md_shareGround_76 ?_
            refine zi_iadd d_md_shareGround_77 ?_
            refine zi_puti (j := 4) d_md_shareGround_78 zC8 fl_md_107 (by decide) rfl rfl rfl rfl ?_
            refine zr_aload_n d_md_shareGround_81 rfl ?_
            refine zi_getiE (j := 4) (x := (p : Int) + 1) d_md_shareGround_82 zC8 fl_md_107 (by decide) rfl rfl (by simp [tU]) ?_
            exact zk_iret rfl d_md_shareGround_85 (Nat.zero_le _) (Nat.zero_le _) rfl rfl
          · exact absurd h46 (by decide)
        · exfalso
          grind
      · exfalso
        grind
theorem md_shareGroundX {l : Launch} {d : Nat} {τ : tS} {n R p f e : Nat} (C : Mo τ n R p f e) {a b : Int} (za : zin a) (zb : zin b) (h : ¬ ((0 ≤ a ∧ a < n) ∧ (0 ≤ b ∧ b < n) ∧ ¬ a = b)) : zF l (d + 4) M_md_shareGround [.ref 37, vi a, vi b] (τ) (some (vi 0)) (tU τ 37 0 1) := by
  refine zMet_of (ls := [.ref 37, vi a, vi b]) pn_md rfl (by simp [vi, Value.category]) rfl rfl ?_
  have hA := C.A
  have hn := C.n
  have hn4 := C.n4
  have hn20 := C.n20
  have hR := C.R
  have hR38 := C.R38
  have hp := C.p
  have hp6 := C.p6
  refine zr_aload_n d_md_shareGround_0 rfl ?_
  refine zr_aload_n d_md_shareGround_1 rfl ?_
  refine zi_iload_n d_md_shareGround_2 rfl ?_
  refine c_md_shareGround_3 rfl rfl (md_isTeam C za) ?_
  refine zi_if_eq 22 d_md_shareGround_6 (by decide) (by split <;> exact ⟨by decide, by decide⟩) (fun h6 => ?_) (fun h6 => ?_)
  · refine zi_iconst d_md_shareGround_22 ?_
    refine zr_goto 27 d_md_shareGround_23 (by decide) ?_
    refine zr_aload_n d_md_shareGround_27 rfl ?_
    refine zi_getiE (j := 4) (x := (p : Int)) d_md_shareGround_28 zC8 fl_md_107 (by decide) rfl rfl (C.p) ?_
    refine zi_bipush d_md_shareGround_31 (by decide) ?_
    refine zi_icmp_ne 40 d_md_shareGround_33 (by decide) (by first | assumption | exact ⟨by omega, by omega⟩) (by first | assumption | exact ⟨by omega, by omega⟩) (fun h33 => ?_) (fun h33 => ?_)
    · refine zi_iconst d_md_shareGround_40 ?_
      refine zi_iconst d_md_shareGround_41 ?_
      refine zi_iconst d_md_shareGround_42 ?_
      refine c_md_shareGround_43 rfl rfl (md_refused ⟨by decide, by decide⟩ ⟨by decide, by decide⟩ ⟨by decide, by decide⟩ ⟨by decide, by decide⟩) ?_
      show zV _ _ _ _ _ (vi 1 :: _) (tU τ 37 0 1) _ _
      refine zi_if_eq 51 d_md_shareGround_46 (by decide) (by first | assumption | exact ⟨by omega, by omega⟩) (fun h46 => ?_) (fun h46 => ?_)
      · exact absurd h46 (by decide)
      · refine zi_iconst d_md_shareGround_49 ?_
        exact zk_iret rfl d_md_shareGround_50 (Nat.zero_le _) (Nat.zero_le _) (by first | rfl | omega | (split <;> omega) | simp_all) rfl
    · refine zi_iconst d_md_shareGround_36 ?_
      refine zr_goto 41 d_md_shareGround_37 (by decide) ?_
      refine zi_iconst d_md_shareGround_41 ?_
      refine zi_iconst d_md_shareGround_42 ?_
      refine c_md_shareGround_43 rfl rfl (md_refused ⟨by decide, by decide⟩ ⟨by decide, by decide⟩ ⟨by decide, by decide⟩ ⟨by decide, by decide⟩) ?_
      show zV _ _ _ _ _ (vi 1 :: _) (tU τ 37 0 1) _ _
      refine zi_if_eq 51 d_md_shareGround_46 (by decide) (by first | assumption | exact ⟨by omega, by omega⟩) (fun h46 => ?_) (fun h46 => ?_)
      · exact absurd h46 (by decide)
      · refine zi_iconst d_md_shareGround_49 ?_
        exact zk_iret rfl d_md_shareGround_50 (Nat.zero_le _) (Nat.zero_le _) (by first | rfl | omega | (split <;> omega) | simp_all) rfl
  · refine zr_aload_n d_md_shareGround_9 rfl ?_
    refine zi_iload_n d_md_shareGround_10 rfl ?_
    refine c_md_shareGround_11 rfl rfl (md_isTeam C zb) ?_
    refine zi_if_eq 22 d_md_shareGround_14 (by decide) (by split <;> exact ⟨by decide, by decide⟩) (fun h14 => ?_) (fun h14 => ?_)
    · refine zi_iconst d_md_shareGround_22 ?_
      refine zr_goto 27 d_md_shareGround_23 (by decide) ?_
      refine zr_aload_n d_md_shareGround_27 rfl ?_
      refine zi_getiE (j := 4) (x := (p : Int)) d_md_shareGround_28 zC8 fl_md_107 (by decide) rfl rfl (C.p) ?_
      refine zi_bipush d_md_shareGround_31 (by decide) ?_
      refine zi_icmp_ne 40 d_md_shareGround_33 (by decide) (by first | assumption | exact ⟨by omega, by omega⟩) (by first | assumption | exact ⟨by omega, by omega⟩) (fun h33 => ?_) (fun h33 => ?_)
      · refine zi_iconst d_md_shareGround_40 ?_
        refine zi_iconst d_md_shareGround_41 ?_
        refine zi_iconst d_md_shareGround_42 ?_
        refine c_md_shareGround_43 rfl rfl (md_refused ⟨by decide, by decide⟩ ⟨by decide, by decide⟩ ⟨by decide, by decide⟩ ⟨by decide, by decide⟩) ?_
        show zV _ _ _ _ _ (vi 1 :: _) (tU τ 37 0 1) _ _
        refine zi_if_eq 51 d_md_shareGround_46 (by decide) (by first | assumption | exact ⟨by omega, by omega⟩) (fun h46 => ?_) (fun h46 => ?_)
        · exact absurd h46 (by decide)
        · refine zi_iconst d_md_shareGround_49 ?_
          exact zk_iret rfl d_md_shareGround_50 (Nat.zero_le _) (Nat.zero_le _) (by first | rfl | omega | (split <;> omega) | simp_all) rfl
      · refine zi_iconst d_md_shareGround_36 ?_
        refine zr_goto 41 d_md_shareGround_37 (by decide) ?_
        refine zi_iconst d_md_shareGround_41 ?_
        refine zi_iconst d_md_shareGround_42 ?_
        refine c_md_shareGround_43 rfl rfl (md_refused ⟨by decide, by decide⟩ ⟨by decide, by decide⟩ ⟨by decide, by decide⟩ ⟨by decide, by decide⟩) ?_
        show zV _ _ _ _ _ (vi 1 :: _) (tU τ 37 0 1) _ _
        refine zi_if_eq 51 d_md_shareGround_46 (by decide) (by first | assumption | exact ⟨by omega, by omega⟩) (fun h46 => ?_) (fun h46 => ?_)
        · exact absurd h46 (by decide)
        · refine zi_iconst d_md_shareGround_49 ?_
          exact zk_iret rfl d_md_shareGround_50 (Nat.zero_le _) (Nat.zero_le _) (by first | rfl | omega | (split <;> omega) | simp_all) rfl
    · refine zi_iload_n d_md_shareGround_17 rfl ?_
      refine zi_iload_n d_md_shareGround_18 rfl ?_
      refine zi_icmp_ne 26 d_md_shareGround_19 (by decide) (by first | assumption | exact ⟨by omega, by omega⟩) (by first | assumption | exact ⟨by omega, by omega⟩) (fun h19 => ?_) (fun h19 => ?_)
      · exfalso
        grind
      · refine zi_iconst d_md_shareGround_22 ?_
        refine zr_goto 27 d_md_shareGround_23 (by decide) ?_
        refine zr_aload_n d_md_shareGround_27 rfl ?_
        refine zi_getiE (j := 4) (x := (p : Int)) d_md_shareGround_28 zC8 fl_md_107 (by decide) rfl rfl (C.p) ?_
        refine zi_bipush d_md_shareGround_31 (by decide) ?_
        refine zi_icmp_ne 40 d_md_shareGround_33 (by decide) (by first | assumption | exact ⟨by omega, by omega⟩) (by first | assumption | exact ⟨by omega, by omega⟩) (fun h33 => ?_) (fun h33 => ?_)
        · refine zi_iconst d_md_shareGround_40 ?_
          refine zi_iconst d_md_shareGround_41 ?_
          refine zi_iconst d_md_shareGround_42 ?_
          refine c_md_shareGround_43 rfl rfl (md_refused ⟨by decide, by decide⟩ ⟨by decide, by decide⟩ ⟨by decide, by decide⟩ ⟨by decide, by decide⟩) ?_
          show zV _ _ _ _ _ (vi 1 :: _) (tU τ 37 0 1) _ _
          refine zi_if_eq 51 d_md_shareGround_46 (by decide) (by first | assumption | exact ⟨by omega, by omega⟩) (fun h46 => ?_) (fun h46 => ?_)
          · exact absurd h46 (by decide)
          · refine zi_iconst d_md_shareGround_49 ?_
            exact zk_iret rfl d_md_shareGround_50 (Nat.zero_le _) (Nat.zero_le _) (by first | rfl | omega | (split <;> omega) | simp_all) rfl
        · refine zi_iconst d_md_shareGround_36 ?_
          refine zr_goto 41 d_md_shareGround_37 (by decide) ?_
          refine zi_iconst d_md_shareGround_41 ?_
          refine zi_iconst d_md_shareGround_42 ?_
          refine c_md_shareGround_43 rfl rfl (md_refused ⟨by decide, by decide⟩ ⟨by decide, by decide⟩ ⟨by decide, by decide⟩ ⟨by decide, by decide⟩) ?_
          show zV _ _ _ _ _ (vi 1 :: _) (tU τ 37 0 1) _ _
          refine zi_if_eq 51 d_md_shareGround_46 (by decide) (by first | assumption | exact ⟨by omega, by omega⟩) (fun h46 => ?_) (fun h46 => ?_)
          · exact absurd h46 (by decide)
          · refine zi_iconst d_md_shareGround_49 ?_
            exact zk_iret rfl d_md_shareGround_50 (Nat.zero_le _) (Nat.zero_le _) (by first | rfl | omega | (split <;> omega) | simp_all) rfl
theorem md_shareGroundY {l : Launch} {d : Nat} {τ : tS} {n R p f e : Nat} (C : Mo τ n R p f e) {a b : Int} (za : zin a) (zb : zin b) (h : (0 ≤ a ∧ a < n) ∧ (0 ≤ b ∧ b < n) ∧ ¬ a = b) (h6 : p = 6) : zF l (d + 4) M_md_shareGround [.ref 37, vi a, vi b] (τ) (some (vi 0)) (tU τ 37 0 2) := by
  refine zMet_of (ls := [.ref 37, vi a, vi b]) pn_md rfl (by simp [vi, Value.category]) rfl rfl ?_
  have hA := C.A
  have hn := C.n
  have hn4 := C.n4
  have hn20 := C.n20
  have hR := C.R
  have hR38 := C.R38
  have hp := C.p
  have hp6 := C.p6
  refine zr_aload_n d_md_shareGround_0 rfl ?_
  refine zr_aload_n d_md_shareGround_1 rfl ?_
  refine zi_iload_n d_md_shareGround_2 rfl ?_
  refine c_md_shareGround_3 rfl rfl (md_isTeam C za) ?_
  refine zi_if_eq 22 d_md_shareGround_6 (by decide) (by split <;> exact ⟨by decide, by decide⟩) (fun h6 => ?_) (fun h6 => ?_)
  · exfalso
    grind
  · refine zr_aload_n d_md_shareGround_9 rfl ?_
    refine zi_iload_n d_md_shareGround_10 rfl ?_
    refine c_md_shareGround_11 rfl rfl (md_isTeam C zb) ?_
    refine zi_if_eq 22 d_md_shareGround_14 (by decide) (by split <;> exact ⟨by decide, by decide⟩) (fun h14 => ?_) (fun h14 => ?_)
    · exfalso
      grind
    · refine zi_iload_n d_md_shareGround_17 rfl ?_
      refine zi_iload_n d_md_shareGround_18 rfl ?_
      refine zi_icmp_ne 26 d_md_shareGround_19 (by decide) (by first | assumption | exact ⟨by omega, by omega⟩) (by first | assumption | exact ⟨by omega, by omega⟩) (fun h19 => ?_) (fun h19 => ?_)
      · refine zi_iconst d_md_shareGround_26 ?_
        refine zr_aload_n d_md_shareGround_27 rfl ?_
        refine zi_getiE (j := 4) (x := (p : Int)) d_md_shareGround_28 zC8 fl_md_107 (by decide) rfl rfl (C.p) ?_
        refine zi_bipush d_md_shareGround_31 (by decide) ?_
        refine zi_icmp_ne 40 d_md_shareGround_33 (by decide) (by first | assumption | exact ⟨by omega, by omega⟩) (by first | assumption | exact ⟨by omega, by omega⟩) (fun h33 => ?_) (fun h33 => ?_)
        · exfalso
          grind
        · refine zi_iconst d_md_shareGround_36 ?_
          refine zr_goto 41 d_md_shareGround_37 (by decide) ?_
          refine zi_iconst d_md_shareGround_41 ?_
          refine zi_iconst d_md_shareGround_42 ?_
          refine c_md_shareGround_43 rfl rfl (md_refused ⟨by decide, by decide⟩ ⟨by decide, by decide⟩ ⟨by decide, by decide⟩ ⟨by decide, by decide⟩) ?_
          show zV _ _ _ _ _ (vi 1 :: _) (tU τ 37 0 2) _ _
          refine zi_if_eq 51 d_md_shareGround_46 (by decide) (by first | assumption | exact ⟨by omega, by omega⟩) (fun h46 => ?_) (fun h46 => ?_)
          · exact absurd h46 (by decide)
          · refine zi_iconst d_md_shareGround_49 ?_
            exact zk_iret rfl d_md_shareGround_50 (Nat.zero_le _) (Nat.zero_le _) (by first | rfl | omega | (split <;> omega) | simp_all) rfl
      · exfalso
        grind
def mfT (τ : tS) (f : Nat) (a b r : Int) : tS := tU (tU (tU (tU (tU τ 37 0 0) 41 f a) 42 f b) 43 f r) 37 7 ((f : Int) + 1)
theorem md_fixGame {l : Launch} {d : Nat} {τ : tS} {n R p f e : Nat} (C : Mo τ n R p f e) {a b r : Int} (za : zin a) (zb : zin b) (zr : zin r) (h : ((0 ≤ a ∧ a < n) ∧ (0 ≤ b ∧ b < n) ∧ ¬ a = b) ∧ (0 ≤ r ∧ r ≤ 38)) (h6 : f < 6) : zF l (d + 4) M_md_fixGame [.ref 37, vi a, vi b, vi r] (τ) (some (vi ((f : Int) + 1))) (mfT τ f a b r) := by
  refine zMet_of (ls := [.ref 37, vi a, vi b, vi r]) pn_md rfl (by simp [vi, Value.category]) rfl rfl ?_
  have hA := C.A
  have hn := C.n
  have hn4 := C.n4
  have hn20 := C.n20
  have hR := C.R
  have hR38 := C.R38
  have hf := C.f
  have hf6 := C.f6
  refine zr_aload_n d_md_fixGame_0 rfl ?_
  refine zr_aload_n d_md_fixGame_1 rfl ?_
  refine zi_iload_n d_md_fixGame_2 rfl ?_
  refine c_md_fixGame_3 rfl rfl (md_isTeam C za) ?_
  refine zi_if_eq 32 d_md_fixGame_6 (by decide) (by split <;> exact ⟨by decide, by decide⟩) (fun h6 => ?_) (fun h6 => ?_)
  · exfalso
    grind
  · refine zr_aload_n d_md_fixGame_9 rfl ?_
    refine zi_iload_n d_md_fixGame_10 rfl ?_
    refine c_md_fixGame_11 rfl rfl (md_isTeam C zb) ?_
    refine zi_if_eq 32 d_md_fixGame_14 (by decide) (by split <;> exact ⟨by decide, by decide⟩) (fun h14 => ?_) (fun h14 => ?_)
    · exfalso
      grind
    · refine zi_iload_n d_md_fixGame_17 rfl ?_
      refine zi_iload_n d_md_fixGame_18 rfl ?_
      refine zi_icmp_eq 32 d_md_fixGame_19 (by decide) (by first | assumption | exact ⟨by omega, by omega⟩) (by first | assumption | exact ⟨by omega, by omega⟩) (fun h19 => ?_) (fun h19 => ?_)
      · exfalso
        grind
      · refine zi_iload_n d_md_fixGame_22 rfl ?_
        refine zi_iconst d_md_fixGame_23 ?_
        refine zi_bipush d_md_fixGame_24 (by decide) ?_
        refine c_md_fixGame_26 rfl (md_in zr ⟨by decide, by decide⟩ ⟨by decide, by decide⟩) ?_
        refine zi_if_ne 36 d_md_fixGame_29 (by decide) (by split <;> exact ⟨by decide, by decide⟩) (fun h29 => ?_) (fun h29 => ?_)
        · refine zi_iconst d_md_fixGame_36 ?_
          refine zr_aload_n d_md_fixGame_37 rfl ?_
          refine zi_getiE (j := 7) (x := (f : Int)) d_md_fixGame_38 zC8 fl_md_110 (by decide) rfl rfl (C.f) ?_
          refine zi_bipush d_md_fixGame_41 (by decide) ?_
          refine zi_icmp_ne 50 d_md_fixGame_43 (by decide) (by first | assumption | exact ⟨by omega, by omega⟩) (by first | assumption | exact ⟨by omega, by omega⟩) (fun h43 => ?_) (fun h43 => ?_)
          · refine zi_iconst d_md_fixGame_50 ?_
            refine zi_iconst d_md_fixGame_51 ?_
            refine zi_iconst d_md_fixGame_52 ?_
            refine c_md_fixGame_53 rfl rfl (md_refused ⟨by decide, by decide⟩ ⟨by decide, by decide⟩ ⟨by decide, by decide⟩ ⟨by decide, by decide⟩) ?_
            show zV _ _ _ _ _ (vi 0 :: _) (tU τ 37 0 0) _ _
            refine zi_if_eq 61 d_md_fixGame_56 (by decide) (by first | assumption | exact ⟨by omega, by omega⟩) (fun h56 => ?_) (fun h56 => ?_)
            · refine zr_aload_n d_md_fixGame_61 rfl ?_
              refine zi_getr (j := 8) d_md_fixGame_62 zC8 fl_md_24 (by decide) rfl rfl ?_
              refine zr_aload_n d_md_fixGame_65 rfl ?_
              refine zi_getiE (j := 7) (x := (f : Int)) d_md_fixGame_66 zC8 fl_md_110 (by decide) rfl rfl (by simp [tU]; exact C.f) ?_
              refine zi_iload_n d_md_fixGame_69 rfl ?_
              refine zi_iast d_md_fixGame_70 rfl (by decide) (by omega) (by omega) ?_
              refine zr_aload_n d_md_fixGame_71 rfl ?_
              refine zi_getr (j := 9) d_md_fixGame_72 zC8 fl_md_27 (by decide) rfl rfl ?_
              refine zr_aload_n d_md_fixGame_75 rfl ?_
              refine zi_getiE (j := 7) (x := (f : Int)) d_md_fixGame_76 zC8 fl_md_110 (by decide) rfl rfl (by simp [tU]; exact C.f) ?_
              refine zi_iload_n d_md_fixGame_79 rfl ?_
              refine zi_iast d_md_fixGame_80 rfl (by decide) (by omega) (by omega) ?_
              refine zr_aload_n d_md_fixGame_81 rfl ?_
              refine zi_getr (j := 10) d_md_fixGame_82 zC8 fl_md_30 (by decide) rfl rfl ?_
              refine zr_aload_n d_md_fixGame_85 rfl ?_
              refine zi_getiE (j := 7) (x := (f : Int)) d_md_fixGame_86 zC8 fl_md_110 (by decide) rfl rfl (by simp [tU]; exact C.f) ?_
              refine zi_iload_n d_md_fixGame_89 rfl ?_
              refine zi_iast d_md_fixGame_90 rfl (by decide) (by omega) (by omega) ?_
              simp only [Int.toNat_natCast]
              refine zr_aload_n d_md_fixGame_91 rfl ?_
              refine zr_dup d_md_fixGame_92 rfl ?_
              refine zi_getiE (j := 7) (x := (f : Int)) d_md_fixGame_93 zC8 fl_md_110 (by decide) rfl rfl (by simp [tU]; exact C.f) ?_
              refine zi_iconst d_md_fixGame_96 ?_
              refine zi_iadd d_md_fixGame_97 ?_
              refine zi_puti (j := 7) d_md_fixGame_98 zC8 fl_md_110 (by decide) rfl rfl rfl rfl ?_
              refine zr_aload_n d_md_fixGame_101 rfl ?_
              refine zi_getiE (j := 7) (x := (f : Int) + 1) d_md_fixGame_102 zC8 fl_md_110 (by decide) rfl rfl (by simp [tU]) ?_
              exact zk_iret rfl d_md_fixGame_105 (Nat.zero_le _) (Nat.zero_le _) rfl rfl
            · exact absurd h56 (by decide)
          · exfalso
            grind
        · exfalso
          grind
theorem md_fixGameX {l : Launch} {d : Nat} {τ : tS} {n R p f e : Nat} (C : Mo τ n R p f e) {a b r : Int} (za : zin a) (zb : zin b) (zr : zin r) (h : ¬ (((0 ≤ a ∧ a < n) ∧ (0 ≤ b ∧ b < n) ∧ ¬ a = b) ∧ (0 ≤ r ∧ r ≤ 38))) : zF l (d + 4) M_md_fixGame [.ref 37, vi a, vi b, vi r] (τ) (some (vi 0)) (tU τ 37 0 1) := by
  refine zMet_of (ls := [.ref 37, vi a, vi b, vi r]) pn_md rfl (by simp [vi, Value.category]) rfl rfl ?_
  have hA := C.A
  have hn := C.n
  have hn4 := C.n4
  have hn20 := C.n20
  have hR := C.R
  have hR38 := C.R38
  have hf := C.f
  have hf6 := C.f6
  refine zr_aload_n d_md_fixGame_0 rfl ?_
  refine zr_aload_n d_md_fixGame_1 rfl ?_
  refine zi_iload_n d_md_fixGame_2 rfl ?_
  refine c_md_fixGame_3 rfl rfl (md_isTeam C za) ?_
  refine zi_if_eq 32 d_md_fixGame_6 (by decide) (by split <;> exact ⟨by decide, by decide⟩) (fun h6 => ?_) (fun h6 => ?_)
  · refine zi_iconst d_md_fixGame_32 ?_
    refine zr_goto 37 d_md_fixGame_33 (by decide) ?_
    refine zr_aload_n d_md_fixGame_37 rfl ?_
    refine zi_getiE (j := 7) (x := (f : Int)) d_md_fixGame_38 zC8 fl_md_110 (by decide) rfl rfl (C.f) ?_
    refine zi_bipush d_md_fixGame_41 (by decide) ?_
    refine zi_icmp_ne 50 d_md_fixGame_43 (by decide) (by first | assumption | exact ⟨by omega, by omega⟩) (by first | assumption | exact ⟨by omega, by omega⟩) (fun h43 => ?_) (fun h43 => ?_)
    · refine zi_iconst d_md_fixGame_50 ?_
      refine zi_iconst d_md_fixGame_51 ?_
      refine zi_iconst d_md_fixGame_52 ?_
      refine c_md_fixGame_53 rfl rfl (md_refused ⟨by decide, by decide⟩ ⟨by decide, by decide⟩ ⟨by decide, by decide⟩ ⟨by decide, by decide⟩) ?_
      show zV _ _ _ _ _ (vi 1 :: _) (tU τ 37 0 1) _ _
      refine zi_if_eq 61 d_md_fixGame_56 (by decide) (by first | assumption | exact ⟨by omega, by omega⟩) (fun h56 => ?_) (fun h56 => ?_)
      · exact absurd h56 (by decide)
      · refine zi_iconst d_md_fixGame_59 ?_
        exact zk_iret rfl d_md_fixGame_60 (Nat.zero_le _) (Nat.zero_le _) (by first | rfl | omega | (split <;> omega) | simp_all) rfl
    · refine zi_iconst d_md_fixGame_46 ?_
      refine zr_goto 51 d_md_fixGame_47 (by decide) ?_
      refine zi_iconst d_md_fixGame_51 ?_
      refine zi_iconst d_md_fixGame_52 ?_
      refine c_md_fixGame_53 rfl rfl (md_refused ⟨by decide, by decide⟩ ⟨by decide, by decide⟩ ⟨by decide, by decide⟩ ⟨by decide, by decide⟩) ?_
      show zV _ _ _ _ _ (vi 1 :: _) (tU τ 37 0 1) _ _
      refine zi_if_eq 61 d_md_fixGame_56 (by decide) (by first | assumption | exact ⟨by omega, by omega⟩) (fun h56 => ?_) (fun h56 => ?_)
      · exact absurd h56 (by decide)
      · refine zi_iconst d_md_fixGame_59 ?_
        exact zk_iret rfl d_md_fixGame_60 (Nat.zero_le _) (Nat.zero_le _) (by first | rfl | omega | (split <;> omega) | simp_all) rfl
  · refine zr_aload_n d_md_fixGame_9 rfl ?_
    refine zi_iload_n d_md_fixGame_10 rfl ?_
    refine c_md_fixGame_11 rfl rfl (md_isTeam C zb) ?_
    refine zi_if_eq 32 d_md_fixGame_14 (by decide) (by split <;> exact ⟨by decide, by decide⟩) (fun h14 => ?_) (fun h14 => ?_)
    · refine zi_iconst d_md_fixGame_32 ?_
      refine zr_goto 37 d_md_fixGame_33 (by decide) ?_
      refine zr_aload_n d_md_fixGame_37 rfl ?_
      refine zi_getiE (j := 7) (x := (f : Int)) d_md_fixGame_38 zC8 fl_md_110 (by decide) rfl rfl (C.f) ?_
      refine zi_bipush d_md_fixGame_41 (by decide) ?_
      refine zi_icmp_ne 50 d_md_fixGame_43 (by decide) (by first | assumption | exact ⟨by omega, by omega⟩) (by first | assumption | exact ⟨by omega, by omega⟩) (fun h43 => ?_) (fun h43 => ?_)
      · refine zi_iconst d_md_fixGame_50 ?_
        refine zi_iconst d_md_fixGame_51 ?_
        refine zi_iconst d_md_fixGame_52 ?_
        refine c_md_fixGame_53 rfl rfl (md_refused ⟨by decide, by decide⟩ ⟨by decide, by decide⟩ ⟨by decide, by decide⟩ ⟨by decide, by decide⟩) ?_
        show zV _ _ _ _ _ (vi 1 :: _) (tU τ 37 0 1) _ _
        refine zi_if_eq 61 d_md_fixGame_56 (by decide) (by first | assumption | exact ⟨by omega, by omega⟩) (fun h56 => ?_) (fun h56 => ?_)
        · exact absurd h56 (by decide)
        · refine zi_iconst d_md_fixGame_59 ?_
          exact zk_iret rfl d_md_fixGame_60 (Nat.zero_le _) (Nat.zero_le _) (by first | rfl | omega | (split <;> omega) | simp_all) rfl
      · refine zi_iconst d_md_fixGame_46 ?_
        refine zr_goto 51 d_md_fixGame_47 (by decide) ?_
        refine zi_iconst d_md_fixGame_51 ?_
        refine zi_iconst d_md_fixGame_52 ?_
        refine c_md_fixGame_53 rfl rfl (md_refused ⟨by decide, by decide⟩ ⟨by decide, by decide⟩ ⟨by decide, by decide⟩ ⟨by decide, by decide⟩) ?_
        show zV _ _ _ _ _ (vi 1 :: _) (tU τ 37 0 1) _ _
        refine zi_if_eq 61 d_md_fixGame_56 (by decide) (by first | assumption | exact ⟨by omega, by omega⟩) (fun h56 => ?_) (fun h56 => ?_)
        · exact absurd h56 (by decide)
        · refine zi_iconst d_md_fixGame_59 ?_
          exact zk_iret rfl d_md_fixGame_60 (Nat.zero_le _) (Nat.zero_le _) (by first | rfl | omega | (split <;> omega) | simp_all) rfl
    · refine zi_iload_n d_md_fixGame_17 rfl ?_
      refine zi_iload_n d_md_fixGame_18 rfl ?_
      refine zi_icmp_eq 32 d_md_fixGame_19 (by decide) (by first | assumption | exact ⟨by omega, by omega⟩) (by first | assumption | exact ⟨by omega, by omega⟩) (fun h19 => ?_) (fun h19 => ?_)
      · refine zi_iconst d_md_fixGame_32 ?_
        refine zr_goto 37 d_md_fixGame_33 (by decide) ?_
        refine zr_aload_n d_md_fixGame_37 rfl ?_
        refine zi_getiE (j := 7) (x := (f : Int)) d_md_fixGame_38 zC8 fl_md_110 (by decide) rfl rfl (C.f) ?_
        refine zi_bipush d_md_fixGame_41 (by decide) ?_
        refine zi_icmp_ne 50 d_md_fixGame_43 (by decide) (by first | assumption | exact ⟨by omega, by omega⟩) (by first | assumption | exact ⟨by omega, by omega⟩) (fun h43 => ?_) (fun h43 => ?_)
        · refine zi_iconst d_md_fixGame_50 ?_
          refine zi_iconst d_md_fixGame_51 ?_
          refine zi_iconst d_md_fixGame_52 ?_
          refine c_md_fixGame_53 rfl rfl (md_refused ⟨by decide, by decide⟩ ⟨by decide, by decide⟩ ⟨by decide, by decide⟩ ⟨by decide, by decide⟩) ?_
          show zV _ _ _ _ _ (vi 1 :: _) (tU τ 37 0 1) _ _
          refine zi_if_eq 61 d_md_fixGame_56 (by decide) (by first | assumption | exact ⟨by omega, by omega⟩) (fun h56 => ?_) (fun h56 => ?_)
          · exact absurd h56 (by decide)
          · refine zi_iconst d_md_fixGame_59 ?_
            exact zk_iret rfl d_md_fixGame_60 (Nat.zero_le _) (Nat.zero_le _) (by first | rfl | omega | (split <;> omega) | simp_all) rfl
        · refine zi_iconst d_md_fixGame_46 ?_
          refine zr_goto 51 d_md_fixGame_47 (by decide) ?_
          refine zi_iconst d_md_fixGame_51 ?_
          refine zi_iconst d_md_fixGame_52 ?_
          refine c_md_fixGame_53 rfl rfl (md_refused ⟨by decide, by decide⟩ ⟨by decide, by decide⟩ ⟨by decide, by decide⟩ ⟨by decide, by decide⟩) ?_
          show zV _ _ _ _ _ (vi 1 :: _) (tU τ 37 0 1) _ _
          refine zi_if_eq 61 d_md_fixGame_56 (by decide) (by first | assumption | exact ⟨by omega, by omega⟩) (fun h56 => ?_) (fun h56 => ?_)
          · exact absurd h56 (by decide)
          · refine zi_iconst d_md_fixGame_59 ?_
            exact zk_iret rfl d_md_fixGame_60 (Nat.zero_le _) (Nat.zero_le _) (by first | rfl | omega | (split <;> omega) | simp_all) rfl
      · refine zi_iload_n d_md_fixGame_22 rfl ?_
        refine zi_iconst d_md_fixGame_23 ?_
        refine zi_bipush d_md_fixGame_24 (by decide) ?_
        refine c_md_fixGame_26 rfl (md_in zr ⟨by decide, by decide⟩ ⟨by decide, by decide⟩) ?_
        refine zi_if_ne 36 d_md_fixGame_29 (by decide) (by split <;> exact ⟨by decide, by decide⟩) (fun h29 => ?_) (fun h29 => ?_)
        · exfalso
          grind
        · refine zi_iconst d_md_fixGame_32 ?_
          refine zr_goto 37 d_md_fixGame_33 (by decide) ?_
          refine zr_aload_n d_md_fixGame_37 rfl ?_
          refine zi_getiE (j := 7) (x := (f : Int)) d_md_fixGame_38 zC8 fl_md_110 (by decide) rfl rfl (C.f) ?_
          refine zi_bipush d_md_fixGame_41 (by decide) ?_
          refine zi_icmp_ne 50 d_md_fixGame_43 (by decide) (by first | assumption | exact ⟨by omega, by omega⟩) (by first | assumption | exact ⟨by omega, by omega⟩) (fun h43 => ?_) (fun h43 => ?_)
          · refine zi_iconst d_md_fixGame_50 ?_
            refine zi_iconst d_md_fixGame_51 ?_
            refine zi_iconst d_md_fixGame_52 ?_
            refine c_md_fixGame_53 rfl rfl (md_refused ⟨by decide, by decide⟩ ⟨by decide, by decide⟩ ⟨by decide, by decide⟩ ⟨by decide, by decide⟩) ?_
            show zV _ _ _ _ _ (vi 1 :: _) (tU τ 37 0 1) _ _
            refine zi_if_eq 61 d_md_fixGame_56 (by decide) (by first | assumption | exact ⟨by omega, by omega⟩) (fun h56 => ?_) (fun h56 => ?_)
            · exact absurd h56 (by decide)
            · refine zi_iconst d_md_fixGame_59 ?_
              exact zk_iret rfl d_md_fixGame_60 (Nat.zero_le _) (Nat.zero_le _) (by first | rfl | omega | (split <;> omega) | simp_all) rfl
          · refine zi_iconst d_md_fixGame_46 ?_
            refine zr_goto 51 d_md_fixGame_47 (by decide) ?_
            refine zi_iconst d_md_fixGame_51 ?_
            refine zi_iconst d_md_fixGame_52 ?_
            refine c_md_fixGame_53 rfl rfl (md_refused ⟨by decide, by decide⟩ ⟨by decide, by decide⟩ ⟨by decide, by decide⟩ ⟨by decide, by decide⟩) ?_
            show zV _ _ _ _ _ (vi 1 :: _) (tU τ 37 0 1) _ _
            refine zi_if_eq 61 d_md_fixGame_56 (by decide) (by first | assumption | exact ⟨by omega, by omega⟩) (fun h56 => ?_) (fun h56 => ?_)
            · exact absurd h56 (by decide)
            · refine zi_iconst d_md_fixGame_59 ?_
              exact zk_iret rfl d_md_fixGame_60 (Nat.zero_le _) (Nat.zero_le _) (by first | rfl | omega | (split <;> omega) | simp_all) rfl
theorem md_fixGameY {l : Launch} {d : Nat} {τ : tS} {n R p f e : Nat} (C : Mo τ n R p f e) {a b r : Int} (za : zin a) (zb : zin b) (zr : zin r) (h : ((0 ≤ a ∧ a < n) ∧ (0 ≤ b ∧ b < n) ∧ ¬ a = b) ∧ (0 ≤ r ∧ r ≤ 38)) (h6 : f = 6) : zF l (d + 4) M_md_fixGame [.ref 37, vi a, vi b, vi r] (τ) (some (vi 0)) (tU τ 37 0 2) := by
  refine zMet_of (ls := [.ref 37, vi a, vi b, vi r]) pn_md rfl (by simp [vi, Value.category]) rfl rfl ?_
  have hA := C.A
  have hn := C.n
  have hn4 := C.n4
  have hn20 := C.n20
  have hR := C.R
  have hR38 := C.R38
  have hf := C.f
  have hf6 := C.f6
  refine zr_aload_n d_md_fixGame_0 rfl ?_
  refine zr_aload_n d_md_fixGame_1 rfl ?_
  refine zi_iload_n d_md_fixGame_2 rfl ?_
  refine c_md_fixGame_3 rfl rfl (md_isTeam C za) ?_
  refine zi_if_eq 32 d_md_fixGame_6 (by decide) (by split <;> exact ⟨by decide, by decide⟩) (fun h6 => ?_) (fun h6 => ?_)
  · exfalso
    grind
  · refine zr_aload_n d_md_fixGame_9 rfl ?_
    refine zi_iload_n d_md_fixGame_10 rfl ?_
    refine c_md_fixGame_11 rfl rfl (md_isTeam C zb) ?_
    refine zi_if_eq 32 d_md_fixGame_14 (by decide) (by split <;> exact ⟨by decide, by decide⟩) (fun h14 => ?_) (fun h14 => ?_)
    · exfalso
      grind
    · refine zi_iload_n d_md_fixGame_17 rfl ?_
      refine zi_iload_n d_md_fixGame_18 rfl ?_
      refine zi_icmp_eq 32 d_md_fixGame_19 (by decide) (by first | assumption | exact ⟨by omega, by omega⟩) (by first | assumption | exact ⟨by omega, by omega⟩) (fun h19 => ?_) (fun h19 => ?_)
      · exfalso
        grind
      · refine zi_iload_n d_md_fixGame_22 rfl ?_
        refine zi_iconst d_md_fixGame_23 ?_
        refine zi_bipush d_md_fixGame_24 (by decide) ?_
        refine c_md_fixGame_26 rfl (md_in zr ⟨by decide, by decide⟩ ⟨by decide, by decide⟩) ?_
        refine zi_if_ne 36 d_md_fixGame_29 (by decide) (by split <;> exact ⟨by decide, by decide⟩) (fun h29 => ?_) (fun h29 => ?_)
        · refine zi_iconst d_md_fixGame_36 ?_
          refine zr_aload_n d_md_fixGame_37 rfl ?_
          refine zi_getiE (j := 7) (x := (f : Int)) d_md_fixGame_38 zC8 fl_md_110 (by decide) rfl rfl (C.f) ?_
          refine zi_bipush d_md_fixGame_41 (by decide) ?_
          refine zi_icmp_ne 50 d_md_fixGame_43 (by decide) (by first | assumption | exact ⟨by omega, by omega⟩) (by first | assumption | exact ⟨by omega, by omega⟩) (fun h43 => ?_) (fun h43 => ?_)
          · exfalso
            grind
          · refine zi_iconst d_md_fixGame_46 ?_
            refine zr_goto 51 d_md_fixGame_47 (by decide) ?_
            refine zi_iconst d_md_fixGame_51 ?_
            refine zi_iconst d_md_fixGame_52 ?_
            refine c_md_fixGame_53 rfl rfl (md_refused ⟨by decide, by decide⟩ ⟨by decide, by decide⟩ ⟨by decide, by decide⟩ ⟨by decide, by decide⟩) ?_
            show zV _ _ _ _ _ (vi 1 :: _) (tU τ 37 0 2) _ _
            refine zi_if_eq 61 d_md_fixGame_56 (by decide) (by first | assumption | exact ⟨by omega, by omega⟩) (fun h56 => ?_) (fun h56 => ?_)
            · exact absurd h56 (by decide)
            · refine zi_iconst d_md_fixGame_59 ?_
              exact zk_iret rfl d_md_fixGame_60 (Nat.zero_le _) (Nat.zero_le _) (by first | rfl | omega | (split <;> omega) | simp_all) rfl
        · exfalso
          grind
theorem md_rounds {l : Launch} {d : Nat} {τ : tS} {n R p f e : Nat} (C : Mo τ n R p f e) : zF l (d + 1) M_md_rounds [.ref 37] (τ) (some (vi (R : Int))) (tU τ 37 0 0) := by
  refine zMet_of (ls := [.ref 37]) pn_md rfl (by simp [vi, Value.category]) rfl rfl ?_
  have hA := C.A
  have hn := C.n
  have hn4 := C.n4
  have hn20 := C.n20
  have hR := C.R
  have hR38 := C.R38
  refine zr_aload_n d_md_rounds_0 rfl ?_
  refine zi_iconst d_md_rounds_1 ?_
  refine zi_puti (j := 0) d_md_rounds_2 zC8 fl_md_87 (by decide) rfl rfl rfl rfl ?_
  refine zr_aload_n d_md_rounds_5 rfl ?_
  refine zi_getiE (j := 12) (x := (R : Int)) d_md_rounds_6 zC8 fl_md_94 (by decide) rfl rfl (by simp [tU]; exact hR) ?_
  exact zk_iret rfl d_md_rounds_9 (Nat.zero_le _) (Nat.zero_le _) (by first | rfl | omega | (split <;> omega) | simp_all) rfl
theorem md_opponent {l : Launch} {d : Nat} {τ : tS} {n R p f e : Nat} (C : Mo τ n R p f e) {t r : Int} (zt : zin t) (zr : zin r) (h : (0 ≤ r ∧ r < R) ∧ (0 ≤ t ∧ t < n)) : zF l (d + 4) M_md_opponent [.ref 37, vi t, vi r] (τ) (some (vi (τ 44 (20 * r + t).toNat))) (tU τ 37 0 0) := by
  refine zMet_of (ls := [.ref 37, vi t, vi r]) pn_md rfl (by simp [vi, Value.category]) rfl rfl ?_
  have hA := C.A
  have hn := C.n
  have hn4 := C.n4
  have hn20 := C.n20
  have hR := C.R
  have hR38 := C.R38
  refine zr_aload_n d_md_opponent_0 rfl ?_
  refine zr_aload_n d_md_opponent_1 rfl ?_
  refine zi_iload_n d_md_opponent_2 rfl ?_
  refine c_md_opponent_3 rfl rfl (md_isTeam C zt) ?_
  refine zi_if_eq 17 d_md_opponent_6 (by decide) (by split <;> exact ⟨by decide, by decide⟩) (fun h6 => ?_) (fun h6 => ?_)
  · exfalso
    grind
  · refine zr_aload_n d_md_opponent_9 rfl ?_
    refine zi_iload_n d_md_opponent_10 rfl ?_
    refine c_md_opponent_11 rfl rfl (md_isRound C zr) ?_
    refine zi_if_ne 21 d_md_opponent_14 (by decide) (by split <;> exact ⟨by decide, by decide⟩) (fun h14 => ?_) (fun h14 => ?_)
    · refine zi_iconst d_md_opponent_21 ?_
      refine zi_iconst d_md_opponent_22 ?_
      refine zi_iconst d_md_opponent_23 ?_
      refine zi_iconst d_md_opponent_24 ?_
      refine c_md_opponent_25 rfl rfl (md_refused ⟨by decide, by decide⟩ ⟨by decide, by decide⟩ ⟨by decide, by decide⟩ ⟨by decide, by decide⟩) ?_
      show zV _ _ _ _ _ (vi 0 :: _) (tU τ 37 0 0) _ _
      refine zi_if_eq 35 d_md_opponent_28 (by decide) (by first | assumption | exact ⟨by omega, by omega⟩) (fun h28 => ?_) (fun h28 => ?_)
      · refine zr_aload_n d_md_opponent_35 rfl ?_
        refine zi_getr (j := 13) d_md_opponent_36 zC8 fl_md_33 (by decide) rfl rfl ?_
        refine zi_bipush d_md_opponent_39 (by decide) ?_
        refine zi_iload_n d_md_opponent_41 rfl ?_
        refine zi_imul d_md_opponent_42 ?_
        refine zi_iload_n d_md_opponent_43 rfl ?_
        refine zi_iadd d_md_opponent_44 ?_
        refine zi_ialdE (x := τ 44 (20 * r + t).toNat) d_md_opponent_45 rfl (by decide) (by omega) (by omega) (by simp [tU]) ?_
        exact zk_iret rfl d_md_opponent_46 (Nat.zero_le _) (Nat.zero_le _) (by first | rfl | omega | (split <;> omega) | simp_all) rfl
      · exact absurd h28 (by decide)
    · exfalso
      grind
theorem md_opponentX {l : Launch} {d : Nat} {τ : tS} {n R p f e : Nat} (C : Mo τ n R p f e) {t r : Int} (zt : zin t) (zr : zin r) (h : ¬ ((0 ≤ r ∧ r < R) ∧ (0 ≤ t ∧ t < n))) : zF l (d + 4) M_md_opponent [.ref 37, vi t, vi r] (τ) (some (vi 0)) (tU τ 37 0 1) := by
  refine zMet_of (ls := [.ref 37, vi t, vi r]) pn_md rfl (by simp [vi, Value.category]) rfl rfl ?_
  have hA := C.A
  have hn := C.n
  have hn4 := C.n4
  have hn20 := C.n20
  have hR := C.R
  have hR38 := C.R38
  refine zr_aload_n d_md_opponent_0 rfl ?_
  refine zr_aload_n d_md_opponent_1 rfl ?_
  refine zi_iload_n d_md_opponent_2 rfl ?_
  refine c_md_opponent_3 rfl rfl (md_isTeam C zt) ?_
  refine zi_if_eq 17 d_md_opponent_6 (by decide) (by split <;> exact ⟨by decide, by decide⟩) (fun h6 => ?_) (fun h6 => ?_)
  · refine zi_iconst d_md_opponent_17 ?_
    refine zr_goto 22 d_md_opponent_18 (by decide) ?_
    refine zi_iconst d_md_opponent_22 ?_
    refine zi_iconst d_md_opponent_23 ?_
    refine zi_iconst d_md_opponent_24 ?_
    refine c_md_opponent_25 rfl rfl (md_refused ⟨by decide, by decide⟩ ⟨by decide, by decide⟩ ⟨by decide, by decide⟩ ⟨by decide, by decide⟩) ?_
    show zV _ _ _ _ _ (vi 1 :: _) (tU τ 37 0 1) _ _
    refine zi_if_eq 35 d_md_opponent_28 (by decide) (by first | assumption | exact ⟨by omega, by omega⟩) (fun h28 => ?_) (fun h28 => ?_)
    · exact absurd h28 (by decide)
    · refine zi_iconst d_md_opponent_31 ?_
      refine zr_goto 46 d_md_opponent_32 (by decide) ?_
      exact zk_iret rfl d_md_opponent_46 (Nat.zero_le _) (Nat.zero_le _) (by first | rfl | omega | (split <;> omega) | simp_all) rfl
  · refine zr_aload_n d_md_opponent_9 rfl ?_
    refine zi_iload_n d_md_opponent_10 rfl ?_
    refine c_md_opponent_11 rfl rfl (md_isRound C zr) ?_
    refine zi_if_ne 21 d_md_opponent_14 (by decide) (by split <;> exact ⟨by decide, by decide⟩) (fun h14 => ?_) (fun h14 => ?_)
    · exfalso
      grind
    · refine zi_iconst d_md_opponent_17 ?_
      refine zr_goto 22 d_md_opponent_18 (by decide) ?_
      refine zi_iconst d_md_opponent_22 ?_
      refine zi_iconst d_md_opponent_23 ?_
      refine zi_iconst d_md_opponent_24 ?_
      refine c_md_opponent_25 rfl rfl (md_refused ⟨by decide, by decide⟩ ⟨by decide, by decide⟩ ⟨by decide, by decide⟩ ⟨by decide, by decide⟩) ?_
      show zV _ _ _ _ _ (vi 1 :: _) (tU τ 37 0 1) _ _
      refine zi_if_eq 35 d_md_opponent_28 (by decide) (by first | assumption | exact ⟨by omega, by omega⟩) (fun h28 => ?_) (fun h28 => ?_)
      · exact absurd h28 (by decide)
      · refine zi_iconst d_md_opponent_31 ?_
        refine zr_goto 46 d_md_opponent_32 (by decide) ?_
        exact zk_iret rfl d_md_opponent_46 (Nat.zero_le _) (Nat.zero_le _) (by first | rfl | omega | (split <;> omega) | simp_all) rfl
theorem in_37 {τ : tS} (h : AllIn τ) {j : Nat} {x : Int} (hx : zin x) : AllIn (tU τ 37 j x) := by
  intro q i
  unfold tU
  split
  · exact hx
  · exact h q i
theorem ve_37 (τ : tS) (j i : Nat) (x : Int) : veM (tU τ 37 j x) i = veM τ i := by simp [veM, tU]
theorem md_venue {l : Launch} {d : Nat} {τ : tS} {n R p f e : Nat} (C : Mo τ n R p f e) {t r : Int} (zt : zin t) (zr : zin r) (h : (0 ≤ r ∧ r < R) ∧ (0 ≤ t ∧ t < n)) : zF l (d + 4) M_md_venue [.ref 37, vi t, vi r] (τ) (some (vi (veM τ (20 * r + t).toNat))) (tU τ 37 0 0) := by
  refine zMet_of (ls := [.ref 37, vi t, vi r]) pn_md rfl (by simp [vi, Value.category]) rfl rfl ?_
  have hA := C.A
  have hn := C.n
  have hn4 := C.n4
  have hn20 := C.n20
  have hR := C.R
  have hR38 := C.R38
  refine zr_aload_n d_md_venue_0 rfl ?_
  refine zr_aload_n d_md_venue_1 rfl ?_
  refine zi_iload_n d_md_venue_2 rfl ?_
  refine c_md_venue_3 rfl rfl (md_isTeam C zt) ?_
  refine zi_if_eq 17 d_md_venue_6 (by decide) (by split <;> exact ⟨by decide, by decide⟩) (fun h6 => ?_) (fun h6 => ?_)
  · exfalso
    grind
  · refine zr_aload_n d_md_venue_9 rfl ?_
    refine zi_iload_n d_md_venue_10 rfl ?_
    refine c_md_venue_11 rfl rfl (md_isRound C zr) ?_
    refine zi_if_ne 21 d_md_venue_14 (by decide) (by split <;> exact ⟨by decide, by decide⟩) (fun h14 => ?_) (fun h14 => ?_)
    · refine zi_iconst d_md_venue_21 ?_
      refine zi_iconst d_md_venue_22 ?_
      refine zi_iconst d_md_venue_23 ?_
      refine zi_iconst d_md_venue_24 ?_
      refine c_md_venue_25 rfl rfl (md_refused ⟨by decide, by decide⟩ ⟨by decide, by decide⟩ ⟨by decide, by decide⟩ ⟨by decide, by decide⟩) ?_
      show zV _ _ _ _ _ (vi 0 :: _) (tU τ 37 0 0) _ _
      refine zi_if_eq 35 d_md_venue_28 (by decide) (by first | assumption | exact ⟨by omega, by omega⟩) (fun h28 => ?_) (fun h28 => ?_)
      · refine zr_aload_n d_md_venue_35 rfl ?_
        refine zi_iload_n d_md_venue_36 rfl ?_
        refine zi_iload_n d_md_venue_37 rfl ?_
        refine c_md_venue_38 rfl rfl (md_venueOf (in_37 hA ⟨by decide, by decide⟩) ⟨by omega, by omega⟩ ⟨by omega, by omega⟩) ?_
        exact zk_iret rfl d_md_venue_41 (Nat.zero_le _) (Nat.zero_le _) (ve_37 _ _ _ _) rfl
      · exact absurd h28 (by decide)
    · exfalso
      grind
theorem md_venueX {l : Launch} {d : Nat} {τ : tS} {n R p f e : Nat} (C : Mo τ n R p f e) {t r : Int} (zt : zin t) (zr : zin r) (h : ¬ ((0 ≤ r ∧ r < R) ∧ (0 ≤ t ∧ t < n))) : zF l (d + 4) M_md_venue [.ref 37, vi t, vi r] (τ) (some (vi 0)) (tU τ 37 0 1) := by
  refine zMet_of (ls := [.ref 37, vi t, vi r]) pn_md rfl (by simp [vi, Value.category]) rfl rfl ?_
  have hA := C.A
  have hn := C.n
  have hn4 := C.n4
  have hn20 := C.n20
  have hR := C.R
  have hR38 := C.R38
  refine zr_aload_n d_md_venue_0 rfl ?_
  refine zr_aload_n d_md_venue_1 rfl ?_
  refine zi_iload_n d_md_venue_2 rfl ?_
  refine c_md_venue_3 rfl rfl (md_isTeam C zt) ?_
  refine zi_if_eq 17 d_md_venue_6 (by decide) (by split <;> exact ⟨by decide, by decide⟩) (fun h6 => ?_) (fun h6 => ?_)
  · refine zi_iconst d_md_venue_17 ?_
    refine zr_goto 22 d_md_venue_18 (by decide) ?_
    refine zi_iconst d_md_venue_22 ?_
    refine zi_iconst d_md_venue_23 ?_
    refine zi_iconst d_md_venue_24 ?_
    refine c_md_venue_25 rfl rfl (md_refused ⟨by decide, by decide⟩ ⟨by decide, by decide⟩ ⟨by decide, by decide⟩ ⟨by decide, by decide⟩) ?_
    show zV _ _ _ _ _ (vi 1 :: _) (tU τ 37 0 1) _ _
    refine zi_if_eq 35 d_md_venue_28 (by decide) (by first | assumption | exact ⟨by omega, by omega⟩) (fun h28 => ?_) (fun h28 => ?_)
    · exact absurd h28 (by decide)
    · refine zi_iconst d_md_venue_31 ?_
      refine zr_goto 41 d_md_venue_32 (by decide) ?_
      exact zk_iret rfl d_md_venue_41 (Nat.zero_le _) (Nat.zero_le _) (by first | rfl | omega | (split <;> omega) | simp_all) rfl
  · refine zr_aload_n d_md_venue_9 rfl ?_
    refine zi_iload_n d_md_venue_10 rfl ?_
    refine c_md_venue_11 rfl rfl (md_isRound C zr) ?_
    refine zi_if_ne 21 d_md_venue_14 (by decide) (by split <;> exact ⟨by decide, by decide⟩) (fun h14 => ?_) (fun h14 => ?_)
    · exfalso
      grind
    · refine zi_iconst d_md_venue_17 ?_
      refine zr_goto 22 d_md_venue_18 (by decide) ?_
      refine zi_iconst d_md_venue_22 ?_
      refine zi_iconst d_md_venue_23 ?_
      refine zi_iconst d_md_venue_24 ?_
      refine c_md_venue_25 rfl rfl (md_refused ⟨by decide, by decide⟩ ⟨by decide, by decide⟩ ⟨by decide, by decide⟩ ⟨by decide, by decide⟩) ?_
      show zV _ _ _ _ _ (vi 1 :: _) (tU τ 37 0 1) _ _
      refine zi_if_eq 35 d_md_venue_28 (by decide) (by first | assumption | exact ⟨by omega, by omega⟩) (fun h28 => ?_) (fun h28 => ?_)
      · exact absurd h28 (by decide)
      · refine zi_iconst d_md_venue_31 ?_
        refine zr_goto 41 d_md_venue_32 (by decide) ?_
        exact zk_iret rfl d_md_venue_41 (Nat.zero_le _) (Nat.zero_le _) (by first | rfl | omega | (split <;> omega) | simp_all) rfl
