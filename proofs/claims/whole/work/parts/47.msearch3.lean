/-! the reference: choose, takeBack, begin, nextChoice (written by wip/gen/t36.py) -/
def coT (τ : tS) (r t x s : Nat) : tS := tU (tU (tU (tU τ 53 (20 * r + t) (x : Int)) 53 (20 * r + x) (t : Int)) 54 (20 * r + t) (if s = 0 then 1 else 0)) 54 (20 * r + x) (if s = 1 then 1 else 0)
def tbT (τ : tS) (r t : Nat) : tS := if 0 ≤ τ 53 (20 * r + t) then tU (tU τ 53 (20 * r + t) (-2)) 53 (20 * r + (τ 53 (20 * r + t)).toNat) (-2) else tU τ 53 (20 * r + t) (-2)
def beT (τ : tS) (n L r : Nat) : tS := tU (tU (tU τ 55 L (r : Int)) 56 L (dnF (opP τ r) n n)) 57 L (-1)
def ncF (ok : Nat → Bool) (N : Nat) : Nat → Int
  | 0 => -1
  | m + 1 => if ok (N - (m + 1)) = true then ((N - (m + 1) : Nat) : Int) else ncF ok N m
theorem dn_in (p : Nat → Bool) (n : Nat) : ∀ c, -1 ≤ dnF p n c ∧ dnF p n c ≤ n
  | 0 => by rw [dnF]; omega
  | c + 1 => by
    rw [dnF]
    split
    · omega
    · exact dn_in p n c
theorem md_chooseB {l : Launch} {d : Nat} {τ : tS} {n : Nat} (hn : τ 37 1 = (n : Int)) (hn20 : n ≤ 20) {r t c : Nat} (ht : t < 20) (hr : r < 8) (hc : c / 2 = n) : zF l (d + 1) M_md_choose [.ref 37, vi (t : Int), vi (r : Int), vi (c : Int)] (τ) (none) (tU τ 53 (20 * r + t) (-1)) := by
  refine zMet_of (ls := [.ref 37, vi (t : Int), vi (r : Int), vi (c : Int), .null]) pn_md rfl (by simp [vi, Value.category]) rfl rfl ?_
  refine zi_iload_n d_md_choose_0 rfl ?_
  refine zi_iconst d_md_choose_1 ?_
  refine zi_idiv d_md_choose_2 ⟨by omega, by omega⟩ ⟨by decide, by decide⟩ ?_
  rw [show (c : Int) / 2 = ((c / 2 : Nat) : Int) by omega]
  refine zi_istore d_md_choose_3 (by decide) rfl ?_
  refine zi_iload d_md_choose_5 rfl ?_
  refine zr_aload_n d_md_choose_7 rfl ?_
  refine zi_getiE (j := 1) (x := (n : Int)) d_md_choose_8 zC8 fl_md_7 (by decide) rfl rfl (hn) ?_
  refine zi_icmp_ne 27 d_md_choose_11 (by decide) (by first | assumption | exact ⟨by omega, by omega⟩) (by first | assumption | exact ⟨by omega, by omega⟩) (fun h11 => ?_) (fun h11 => ?_)
  · exact absurd h11 (by omega)
  · refine zr_aload_n d_md_choose_14 rfl ?_
    refine zi_getr (j := 23) d_md_choose_15 zC8 fl_md_60 (by decide) rfl rfl ?_
    refine zi_bipush d_md_choose_18 (by decide) ?_
    refine zi_iload_n d_md_choose_20 rfl ?_
    refine zi_imul d_md_choose_21 ?_
    refine zi_iload_n d_md_choose_22 rfl ?_
    refine zi_iadd d_md_choose_23 ?_
    refine zi_iconst d_md_choose_24 ?_
    refine zi_iast d_md_choose_25 rfl (by decide) (by omega) (by omega) ?_
    exact zk_vret rfl d_md_choose_26 (Nat.zero_le _) (Nat.zero_le _) (by rw [ixm])
theorem md_chooseG {l : Launch} {d : Nat} {τ : tS} {n : Nat} (hn : τ 37 1 = (n : Int)) (hn20 : n ≤ 20) {r t c : Nat} (ht : t < 20) (hr : r < 8) (hc : c / 2 < n) : zF l (d + 1) M_md_choose [.ref 37, vi (t : Int), vi (r : Int), vi (c : Int)] (τ) (none) (coT τ r t (c / 2) (c % 2)) := by
  refine zMet_of (ls := [.ref 37, vi (t : Int), vi (r : Int), vi (c : Int), .null]) pn_md rfl (by simp [vi, Value.category]) rfl rfl ?_
  refine zi_iload_n d_md_choose_0 rfl ?_
  refine zi_iconst d_md_choose_1 ?_
  refine zi_idiv d_md_choose_2 ⟨by omega, by omega⟩ ⟨by decide, by decide⟩ ?_
  rw [show (c : Int) / 2 = ((c / 2 : Nat) : Int) by omega]
  refine zi_istore d_md_choose_3 (by decide) rfl ?_
  refine zi_iload d_md_choose_5 rfl ?_
  refine zr_aload_n d_md_choose_7 rfl ?_
  refine zi_getiE (j := 1) (x := (n : Int)) d_md_choose_8 zC8 fl_md_7 (by decide) rfl rfl (hn) ?_
  refine zi_icmp_ne 27 d_md_choose_11 (by decide) (by first | assumption | exact ⟨by omega, by omega⟩) (by first | assumption | exact ⟨by omega, by omega⟩) (fun h11 => ?_) (fun h11 => ?_)
  · refine zr_aload_n d_md_choose_27 rfl ?_
    refine zi_getr (j := 23) d_md_choose_28 zC8 fl_md_60 (by decide) rfl rfl ?_
    refine zi_bipush d_md_choose_31 (by decide) ?_
    refine zi_iload_n d_md_choose_33 rfl ?_
    refine zi_imul d_md_choose_34 ?_
    refine zi_iload_n d_md_choose_35 rfl ?_
    refine zi_iadd d_md_choose_36 ?_
    refine zi_iload d_md_choose_37 rfl ?_
    refine zi_iast d_md_choose_39 rfl (by decide) (by omega) (by omega) ?_
    refine zr_aload_n d_md_choose_40 rfl ?_
    refine zi_getr (j := 23) d_md_choose_41 zC8 fl_md_60 (by decide) rfl rfl ?_
    refine zi_bipush d_md_choose_44 (by decide) ?_
    refine zi_iload_n d_md_choose_46 rfl ?_
    refine zi_imul d_md_choose_47 ?_
    refine zi_iload d_md_choose_48 rfl ?_
    refine zi_iadd d_md_choose_50 ?_
    refine zi_iload_n d_md_choose_51 rfl ?_
    refine zi_iast d_md_choose_52 rfl (by decide) (by omega) (by omega) ?_
    refine zr_aload_n d_md_choose_53 rfl ?_
    refine zi_getr (j := 24) d_md_choose_54 zC8 fl_md_63 (by decide) rfl rfl ?_
    refine zi_bipush d_md_choose_57 (by decide) ?_
    refine zi_iload_n d_md_choose_59 rfl ?_
    refine zi_imul d_md_choose_60 ?_
    refine zi_iload_n d_md_choose_61 rfl ?_
    refine zi_iadd d_md_choose_62 ?_
    refine zi_iload_n d_md_choose_63 rfl ?_
    refine zi_iconst d_md_choose_64 ?_
    refine zi_irem d_md_choose_65 ⟨by omega, by omega⟩ ⟨by decide, by decide⟩ ?_
    refine zi_if_ne 73 d_md_choose_66 (by decide) ⟨by omega, by omega⟩ (fun h66 => ?_) (fun h66 => ?_)
    · refine zi_iconst d_md_choose_73 ?_
      refine zi_zast d_md_choose_74 rfl (by decide) (by omega) (by omega) (by first | exact Or.inl rfl | exact Or.inr rfl) ?_
      refine zr_aload_n d_md_choose_75 rfl ?_
      refine zi_getr (j := 24) d_md_choose_76 zC8 fl_md_63 (by decide) rfl rfl ?_
      refine zi_bipush d_md_choose_79 (by decide) ?_
      refine zi_iload_n d_md_choose_81 rfl ?_
      refine zi_imul d_md_choose_82 ?_
      refine zi_iload d_md_choose_83 rfl ?_
      refine zi_iadd d_md_choose_85 ?_
      refine zi_iload_n d_md_choose_86 rfl ?_
      refine zi_iconst d_md_choose_87 ?_
      refine zi_irem d_md_choose_88 ⟨by omega, by omega⟩ ⟨by decide, by decide⟩ ?_
      refine zi_iconst d_md_choose_89 ?_
      refine zi_icmp_ne 97 d_md_choose_90 (by decide) ⟨by omega, by omega⟩ ⟨by decide, by decide⟩ (fun h90 => ?_) (fun h90 => ?_)
      · exact absurd h90 (by omega)
      · refine zi_iconst d_md_choose_93 ?_
        refine zr_goto 98 d_md_choose_94 (by decide) ?_
        refine zi_zast d_md_choose_98 rfl (by decide) (by omega) (by omega) (by first | exact Or.inl rfl | exact Or.inr rfl) ?_
        exact zk_vret rfl d_md_choose_99 (Nat.zero_le _) (Nat.zero_le _) (by rw [coT, ixm, ixm, if_neg (show ¬ c % 2 = 0 by omega), if_pos (show c % 2 = 1 by omega)])
    · refine zi_iconst d_md_choose_69 ?_
      refine zr_goto 74 d_md_choose_70 (by decide) ?_
      refine zi_zast d_md_choose_74 rfl (by decide) (by omega) (by omega) (by first | exact Or.inl rfl | exact Or.inr rfl) ?_
      refine zr_aload_n d_md_choose_75 rfl ?_
      refine zi_getr (j := 24) d_md_choose_76 zC8 fl_md_63 (by decide) rfl rfl ?_
      refine zi_bipush d_md_choose_79 (by decide) ?_
      refine zi_iload_n d_md_choose_81 rfl ?_
      refine zi_imul d_md_choose_82 ?_
      refine zi_iload d_md_choose_83 rfl ?_
      refine zi_iadd d_md_choose_85 ?_
      refine zi_iload_n d_md_choose_86 rfl ?_
      refine zi_iconst d_md_choose_87 ?_
      refine zi_irem d_md_choose_88 ⟨by omega, by omega⟩ ⟨by decide, by decide⟩ ?_
      refine zi_iconst d_md_choose_89 ?_
      refine zi_icmp_ne 97 d_md_choose_90 (by decide) ⟨by omega, by omega⟩ ⟨by decide, by decide⟩ (fun h90 => ?_) (fun h90 => ?_)
      · refine zi_iconst d_md_choose_97 ?_
        refine zi_zast d_md_choose_98 rfl (by decide) (by omega) (by omega) (by first | exact Or.inl rfl | exact Or.inr rfl) ?_
        exact zk_vret rfl d_md_choose_99 (Nat.zero_le _) (Nat.zero_le _) (by rw [coT, ixm, ixm, if_pos (show c % 2 = 0 by omega), if_neg (show ¬ c % 2 = 1 by omega)])
      · exact absurd h90 (by omega)
  · exact absurd h11 (by omega)
theorem md_takeBack {l : Launch} {d : Nat} {τ : tS} (hA : AllIn τ) {r t : Nat} (ht : t < 20) (hr : r < 8) (ho : τ 53 (20 * r + t) < 20) : zF l (d + 1) M_md_takeBack [.ref 37, vi (t : Int), vi (r : Int)] (τ) (none) (tbT τ r t) := by
  refine zMet_of (ls := [.ref 37, vi (t : Int), vi (r : Int), .null]) pn_md rfl (by simp [vi, Value.category]) rfl rfl ?_
  refine zr_aload_n d_md_takeBack_0 rfl ?_
  refine zi_getr (j := 23) d_md_takeBack_1 zC8 fl_md_60 (by decide) rfl rfl ?_
  refine zi_bipush d_md_takeBack_4 (by decide) ?_
  refine zi_iload_n d_md_takeBack_6 rfl ?_
  refine zi_imul d_md_takeBack_7 ?_
  refine zi_iload_n d_md_takeBack_8 rfl ?_
  refine zi_iadd d_md_takeBack_9 ?_
  refine zi_ialdE (x := τ 53 (20 * r + t)) d_md_takeBack_10 rfl (by decide) (by omega) (by omega) (by rw [ixm]) ?_
  refine zi_istore_n d_md_takeBack_11 (by decide) rfl ?_
  refine zr_aload_n d_md_takeBack_12 rfl ?_
  refine zi_getr (j := 23) d_md_takeBack_13 zC8 fl_md_60 (by decide) rfl rfl ?_
  refine zi_bipush d_md_takeBack_16 (by decide) ?_
  refine zi_iload_n d_md_takeBack_18 rfl ?_
  refine zi_imul d_md_takeBack_19 ?_
  refine zi_iload_n d_md_takeBack_20 rfl ?_
  refine zi_iadd d_md_takeBack_21 ?_
  refine zi_bipush d_md_takeBack_22 (by decide) ?_
  refine zi_iast d_md_takeBack_24 rfl (by decide) (by omega) (by omega) ?_
  rw [ixm]
  refine zi_iload_n d_md_takeBack_25 rfl ?_
  refine zi_if_lt 42 d_md_takeBack_26 (by decide) (hA _ _) (fun h26 => ?_) (fun h26 => ?_)
  · exact zk_vret rfl d_md_takeBack_42 (Nat.zero_le _) (Nat.zero_le _) (by unfold tbT; first | (rw [if_neg (show ¬ 0 ≤ τ 53 (20 * r + t) by omega)]; done) | (rw [if_pos (show 0 ≤ τ 53 (20 * r + t) by omega), show (20 * (r : Int) + τ 53 (20 * r + t)).toNat = 20 * r + (τ 53 (20 * r + t)).toNat by omega]))
  · refine zr_aload_n d_md_takeBack_29 rfl ?_
    refine zi_getr (j := 23) d_md_takeBack_30 zC8 fl_md_60 (by decide) rfl rfl ?_
    refine zi_bipush d_md_takeBack_33 (by decide) ?_
    refine zi_iload_n d_md_takeBack_35 rfl ?_
    refine zi_imul d_md_takeBack_36 ?_
    refine zi_iload_n d_md_takeBack_37 rfl ?_
    refine zi_iadd d_md_takeBack_38 ?_
    refine zi_bipush d_md_takeBack_39 (by decide) ?_
    refine zi_iast d_md_takeBack_41 rfl (by decide) (by omega) (by omega) ?_
    exact zk_vret rfl d_md_takeBack_42 (Nat.zero_le _) (Nat.zero_le _) (by unfold tbT; first | (rw [if_neg (show ¬ 0 ≤ τ 53 (20 * r + t) by omega)]; done) | (rw [if_pos (show 0 ≤ τ 53 (20 * r + t) by omega), show (20 * (r : Int) + τ 53 (20 * r + t)).toNat = 20 * r + (τ 53 (20 * r + t)).toNat by omega]))
theorem md_begin0 {l : Launch} {d : Nat} {τ : tS} {n R p f e : Nat} (C : Mo τ n R p f e) (hn8 : n ≤ 8) {L rp all : Nat} (hL : L < 64) (hp0 : L = 0 → rp = 0) (hp1 : 0 < L → τ 55 (L - 1) = (rp : Int)) (hrp : rp < 7) (ha : all ≤ 7) (hr : (if dnF (opP τ rp) n n < 0 then rp + 1 else rp) = all) : zF l (d + 2) M_md_begin [.ref 37, vi (L : Int), vi (all : Int)] (τ) (some (vi 0)) (τ) := by
  refine zMet_of (ls := [.ref 37, vi (L : Int), vi (all : Int), .null]) pn_md rfl (by simp [vi, Value.category]) rfl rfl ?_
  have hA := C.A
  have hn := C.n
  have hn4 := C.n4
  have hn20 := C.n20
  have hR := C.R
  have hR38 := C.R38
  have hdn := dn_in (opP τ rp) n n
  have k16 : zV l (d + 2) M_md_begin 16 [.ref 37, vi (L : Int), vi (all : Int), .null] (vi (rp : Int) :: []) τ (0, 0) (.inl (some (vi 0)), (SH, zq (τ)), 0, 0) := by
    refine zi_istore_n d_md_begin_16 (by decide) rfl ?_
    refine zr_aload_n d_md_begin_17 rfl ?_
    refine zi_iload_n d_md_begin_18 rfl ?_
    refine c_md_begin_19 rfl rfl (md_firstOpen C hn8 (by omega)) ?_
    refine zi_if_ge 28 d_md_begin_22 (by decide) ⟨by omega, by omega⟩ (fun h22 => ?_) (fun h22 => ?_)
    · have hq : (if dnF (opP τ rp) n n < 0 then rp + 1 else rp) = rp := if_neg (by omega)
      rw [hq] at hr
      refine zi_iload_n d_md_begin_28 rfl ?_
      refine zi_iload_n d_md_begin_29 rfl ?_
      refine zi_icmp_ne 35 d_md_begin_30 (by decide) ⟨by omega, by omega⟩ ⟨by omega, by omega⟩ (fun h30 => ?_) (fun h30 => ?_)
      · exact absurd h30 (by omega)
      · refine zi_iconst d_md_begin_33 ?_
        exact zk_zret rfl d_md_begin_34 (Nat.zero_le _) (Nat.zero_le _) (by omega) (by first | rfl | omega | (split <;> omega) | simp_all) rfl
    · have hq : (if dnF (opP τ rp) n n < 0 then rp + 1 else rp) = rp + 1 := if_pos (by omega)
      rw [hq] at hr
      refine zi_iinc d_md_begin_25 (by decide) rfl rfl ?_
      refine zi_iload_n d_md_begin_28 rfl ?_
      refine zi_iload_n d_md_begin_29 rfl ?_
      refine zi_icmp_ne 35 d_md_begin_30 (by decide) ⟨by omega, by omega⟩ ⟨by omega, by omega⟩ (fun h30 => ?_) (fun h30 => ?_)
      · exact absurd h30 (by omega)
      · refine zi_iconst d_md_begin_33 ?_
        exact zk_zret rfl d_md_begin_34 (Nat.zero_le _) (Nat.zero_le _) (by omega) (by first | rfl | omega | (split <;> omega) | simp_all) rfl
  refine zi_iload_n d_md_begin_0 rfl ?_
  refine zi_if_ne 8 d_md_begin_1 (by decide) ⟨by omega, by omega⟩ (fun h1 => ?_) (fun h1 => ?_)
  · have hL1 := hp1 (by omega)
    refine zr_aload_n d_md_begin_8 rfl ?_
    refine zi_getr (j := 25) d_md_begin_9 zC8 fl_md_66 (by decide) rfl rfl ?_
    refine zi_iload_n d_md_begin_12 rfl ?_
    refine zi_iconst d_md_begin_13 ?_
    refine zi_isub d_md_begin_14 ?_
    refine zi_ialdE (x := (rp : Int)) d_md_begin_15 rfl (by decide) (by omega) (by omega) (by rw [show ((L : Int) - 1).toNat = L - 1 by omega]; exact hL1) ?_
    exact k16
  · have hr0 := hp0 (by omega)
    refine zi_iconst d_md_begin_4 ?_
    refine zr_goto 16 d_md_begin_5 (by decide) ?_
    exact zE5 k16 (by rw [hr0]; rfl)
theorem op_55 (τ : tS) (L r n : Nat) (x : Int) : dnF (opP (tU τ 55 L x) r) n n = dnF (opP τ r) n n := by
  have : opP (tU τ 55 L x) r = opP τ r := by funext t; simp [opP, tU]
  rw [this]
theorem Mo.k5 {τ w : tS} {n R p f e : Nat} (h : Mo τ n R p f e) (hA : AllIn w) (hz : ∀ j, w 54 j = 0 ∨ w 54 j = 1) (hw : ∀ q j, ¬ (53 ≤ q ∧ q ≤ 57) → w q j = τ q j) : Mo w n R p f e := by
  refine ⟨hA, ?_, h.n4, h.n20, ?_, h.R38, ?_, h.p6, ?_, h.f6, ?_, h.e6, ?_, ?_, ?_, ?_, ?_, ?_, ?_, hz, ?_⟩
  · rw [hw _ _ (by omega)]; exact h.n
  · rw [hw _ _ (by omega)]; exact h.R
  · rw [hw _ _ (by omega)]; exact h.p
  · rw [hw _ _ (by omega)]; exact h.f
  · rw [hw _ _ (by omega)]; exact h.e
  · intro i hi; rw [hw _ _ (by omega), hw _ _ (by omega)]; exact h.pr i hi
  · intro i hi; rw [hw _ _ (by omega), hw _ _ (by omega), hw _ _ (by omega)]; exact h.fx i hi
  · intro j; rw [hw _ _ (by omega)]; exact h.z38 j
  · intro j; rw [hw _ _ (by omega)]; exact h.z45 j
  · intro j; rw [hw _ _ (by omega)]; exact h.z46 j
  · intro j; rw [hw _ _ (by omega)]; exact h.z49 j
  · intro j; rw [hw _ _ (by omega)]; exact h.z51 j
  · intro r t hr ht; rw [hw _ _ (by omega)]; exact h.foe r t hr ht
theorem md_begin1 {l : Launch} {d : Nat} {τ : tS} {n R p f e : Nat} (C : Mo τ n R p f e) (hn8 : n ≤ 8) {L rp all : Nat} (hL : L < 64) (hp0 : L = 0 → rp = 0) (hp1 : 0 < L → τ 55 (L - 1) = (rp : Int)) (hrp : rp < 7) (ha : all ≤ 7) (hr : (if dnF (opP τ rp) n n < 0 then rp + 1 else rp) < all) : zF l (d + 2) M_md_begin [.ref 37, vi (L : Int), vi (all : Int)] (τ) (some (vi 1)) (beT τ n L (if dnF (opP τ rp) n n < 0 then rp + 1 else rp)) := by
  refine zMet_of (ls := [.ref 37, vi (L : Int), vi (all : Int), .null]) pn_md rfl (by simp [vi, Value.category]) rfl rfl ?_
  have hA := C.A
  have hn := C.n
  have hn4 := C.n4
  have hn20 := C.n20
  have hR := C.R
  have hR38 := C.R38
  have hdn := dn_in (opP τ rp) n n
  have k16 : zV l (d + 2) M_md_begin 16 [.ref 37, vi (L : Int), vi (all : Int), .null] (vi (rp : Int) :: []) τ (0, 0) (.inl (some (vi 1)), (SH, zq (beT τ n L (if dnF (opP τ rp) n n < 0 then rp + 1 else rp))), 0, 0) := by
    refine zi_istore_n d_md_begin_16 (by decide) rfl ?_
    refine zr_aload_n d_md_begin_17 rfl ?_
    refine zi_iload_n d_md_begin_18 rfl ?_
    refine c_md_begin_19 rfl rfl (md_firstOpen C hn8 (by omega)) ?_
    refine zi_if_ge 28 d_md_begin_22 (by decide) ⟨by omega, by omega⟩ (fun h22 => ?_) (fun h22 => ?_)
    · have hq : (if dnF (opP τ rp) n n < 0 then rp + 1 else rp) = rp := if_neg (by omega)
      rw [hq] at hr
      rw [hq]
      first | rw [show (rp : Int) + 1 = ((rp + 1 : Nat) : Int) by omega] | skip
      have hrr : rp < 7 ∨ True := Or.inr trivial
      refine zi_iload_n d_md_begin_28 rfl ?_
      refine zi_iload_n d_md_begin_29 rfl ?_
      refine zi_icmp_ne 35 d_md_begin_30 (by decide) ⟨by omega, by omega⟩ ⟨by omega, by omega⟩ (fun h30 => ?_) (fun h30 => ?_)
      · refine zr_aload_n d_md_begin_35 rfl ?_
        refine zi_getr (j := 25) d_md_begin_36 zC8 fl_md_66 (by decide) rfl rfl ?_
        refine zi_iload_n d_md_begin_39 rfl ?_
        refine zi_iload_n d_md_begin_40 rfl ?_
        refine zi_iast d_md_begin_41 rfl (by decide) (by omega) (by omega) ?_
        rw [Int.toNat_natCast]
        refine zr_aload_n d_md_begin_42 rfl ?_
        refine zi_getr (j := 26) d_md_begin_43 zC8 fl_md_69 (by decide) rfl rfl ?_
        refine zi_iload_n d_md_begin_46 rfl ?_
        refine zr_aload_n d_md_begin_47 rfl ?_
        refine zi_iload_n d_md_begin_48 rfl ?_
        refine c_md_begin_49 rfl rfl (md_firstOpen (by first | exact (C.k5 (w := tU τ 55 L (rp : Int)) (in_U hA ⟨by omega, by omega⟩) (fun j => by simp only [tU]; simpa using C.z54 j) (fun q j h => by simp only [tU]; rw [if_neg (by omega)])) | exact (C.k5 (w := tU τ 55 L ((rp + 1 : Nat) : Int)) (in_U hA ⟨by omega, by omega⟩) (fun j => by simp only [tU]; simpa using C.z54 j) (fun q j h => by simp only [tU]; rw [if_neg (by omega)]))) hn8 (by omega)) ?_
        show zV _ _ _ _ _ (vi _ :: _) _ _ _
        rw [op_55]
        refine zi_iast d_md_begin_52 rfl (by decide) (by omega) (by omega) ?_
        rw [Int.toNat_natCast]
        refine zr_aload_n d_md_begin_53 rfl ?_
        refine zi_getr (j := 27) d_md_begin_54 zC8 fl_md_72 (by decide) rfl rfl ?_
        refine zi_iload_n d_md_begin_57 rfl ?_
        refine zi_iconst d_md_begin_58 ?_
        refine zi_iast d_md_begin_59 rfl (by decide) (by omega) (by omega) ?_
        rw [Int.toNat_natCast]
        refine zi_iconst d_md_begin_60 ?_
        exact zk_zret rfl d_md_begin_61 (Nat.zero_le _) (Nat.zero_le _) (by omega) rfl rfl
      · exact absurd h30 (by omega)
    · have hq : (if dnF (opP τ rp) n n < 0 then rp + 1 else rp) = rp + 1 := if_pos (by omega)
      rw [hq] at hr
      rw [hq]
      refine zi_iinc d_md_begin_25 (by decide) rfl rfl ?_
      first | rw [show (rp : Int) + 1 = ((rp + 1 : Nat) : Int) by omega] | skip
      have hrr : rp < 7 ∨ True := Or.inr trivial
      refine zi_iload_n d_md_begin_28 rfl ?_
      refine zi_iload_n d_md_begin_29 rfl ?_
      refine zi_icmp_ne 35 d_md_begin_30 (by decide) ⟨by omega, by omega⟩ ⟨by omega, by omega⟩ (fun h30 => ?_) (fun h30 => ?_)
      · refine zr_aload_n d_md_begin_35 rfl ?_
        refine zi_getr (j := 25) d_md_begin_36 zC8 fl_md_66 (by decide) rfl rfl ?_
        refine zi_iload_n d_md_begin_39 rfl ?_
        refine zi_iload_n d_md_begin_40 rfl ?_
        refine zi_iast d_md_begin_41 rfl (by decide) (by omega) (by omega) ?_
        rw [Int.toNat_natCast]
        refine zr_aload_n d_md_begin_42 rfl ?_
        refine zi_getr (j := 26) d_md_begin_43 zC8 fl_md_69 (by decide) rfl rfl ?_
        refine zi_iload_n d_md_begin_46 rfl ?_
        refine zr_aload_n d_md_begin_47 rfl ?_
        refine zi_iload_n d_md_begin_48 rfl ?_
        refine c_md_begin_49 rfl rfl (md_firstOpen (by first | exact (C.k5 (w := tU τ 55 L (rp : Int)) (in_U hA ⟨by omega, by omega⟩) (fun j => by simp only [tU]; simpa using C.z54 j) (fun q j h => by simp only [tU]; rw [if_neg (by omega)])) | exact (C.k5 (w := tU τ 55 L ((rp + 1 : Nat) : Int)) (in_U hA ⟨by omega, by omega⟩) (fun j => by simp only [tU]; simpa using C.z54 j) (fun q j h => by simp only [tU]; rw [if_neg (by omega)]))) hn8 (by omega)) ?_
        show zV _ _ _ _ _ (vi _ :: _) _ _ _
        rw [op_55]
        refine zi_iast d_md_begin_52 rfl (by decide) (by omega) (by omega) ?_
        rw [Int.toNat_natCast]
        refine zr_aload_n d_md_begin_53 rfl ?_
        refine zi_getr (j := 27) d_md_begin_54 zC8 fl_md_72 (by decide) rfl rfl ?_
        refine zi_iload_n d_md_begin_57 rfl ?_
        refine zi_iconst d_md_begin_58 ?_
        refine zi_iast d_md_begin_59 rfl (by decide) (by omega) (by omega) ?_
        rw [Int.toNat_natCast]
        refine zi_iconst d_md_begin_60 ?_
        exact zk_zret rfl d_md_begin_61 (Nat.zero_le _) (Nat.zero_le _) (by omega) rfl rfl
      · exact absurd h30 (by omega)
  refine zi_iload_n d_md_begin_0 rfl ?_
  refine zi_if_ne 8 d_md_begin_1 (by decide) ⟨by omega, by omega⟩ (fun h1 => ?_) (fun h1 => ?_)
  · have hL1 := hp1 (by omega)
    refine zr_aload_n d_md_begin_8 rfl ?_
    refine zi_getr (j := 25) d_md_begin_9 zC8 fl_md_66 (by decide) rfl rfl ?_
    refine zi_iload_n d_md_begin_12 rfl ?_
    refine zi_iconst d_md_begin_13 ?_
    refine zi_isub d_md_begin_14 ?_
    refine zi_ialdE (x := (rp : Int)) d_md_begin_15 rfl (by decide) (by omega) (by omega) (by rw [show ((L : Int) - 1).toNat = L - 1 by omega]; exact hL1) ?_
    exact k16
  · have hr0 := hp0 (by omega)
    refine zi_iconst d_md_begin_4 ?_
    refine zr_goto 16 d_md_begin_5 (by decide) ?_
    exact zE5 k16 (by rw [hr0]; rfl)
theorem md_nextChoice {l : Launch} {d : Nat} {τ : tS} {n R p f e : Nat} (C : Mo τ n R p f e) (hn8 : n ≤ 8) {L r t c : Nat} (hL : L < 64) (h55 : τ 55 L = (r : Int)) (h56 : τ 56 L = (t : Int)) (h57 : τ 57 L = (c : Int) - 1) (ht : t < n) (hr : r < 7) (hc : c ≤ 2 * n + 1) : zF l (d + 5) M_md_nextChoice [.ref 37, vi (L : Int)] (τ) (some (vi (ncF (canF τ n p f r t) (2 * n + 1) (2 * n + 1 - c)))) (τ) := by
  refine zMet_of (ls := [.ref 37, vi (L : Int), .null]) pn_md rfl (by simp [vi, Value.category]) rfl rfl ?_
  have hA := C.A
  have hn := C.n
  have hn4 := C.n4
  have hn20 := C.n20
  have hR := C.R
  have hR38 := C.R38
  have key : ∀ (m c : Nat), c + m = 2 * n + 1 → zV l (d + 5) M_md_nextChoice 9 [.ref 37, vi (L : Int), vi (c : Int)] [] τ (0, 0) (.inl (some (vi (ncF (canF τ n p f r t) (2 * n + 1) m))), (SH, zq τ), 0, 0) := by
    intro m
    induction m with
    | zero =>
      intro c hc
      refine zi_iload_n d_md_nextChoice_9 rfl ?_
      refine zi_iconst d_md_nextChoice_10 ?_
      refine zr_aload_n d_md_nextChoice_11 rfl ?_
      refine zi_getiE (j := 1) (x := (n : Int)) d_md_nextChoice_12 zC8 fl_md_7 (by decide) rfl rfl (hn) ?_
      refine zi_imul d_md_nextChoice_15 ?_
      refine zi_icmp_gt 45 d_md_nextChoice_16 (by decide) ⟨by omega, by omega⟩ ⟨by omega, by omega⟩ (fun h16 => ?_) (fun h16 => ?_)
      · refine zi_iload_n d_md_nextChoice_45 rfl ?_
        refine zi_iconst d_md_nextChoice_46 ?_
        refine zr_aload_n d_md_nextChoice_47 rfl ?_
        refine zi_getiE (j := 1) (x := (n : Int)) d_md_nextChoice_48 zC8 fl_md_7 (by decide) rfl rfl (hn) ?_
        refine zi_imul d_md_nextChoice_51 ?_
        refine zi_icmp_gt 59 d_md_nextChoice_52 (by decide) ⟨by omega, by omega⟩ ⟨by omega, by omega⟩ (fun h52 => ?_) (fun h52 => ?_)
        · refine zi_iconst d_md_nextChoice_59 ?_
          exact zk_iret rfl d_md_nextChoice_60 (Nat.zero_le _) (Nat.zero_le _) rfl rfl
        · exact absurd h52 (by omega)
      · exact absurd h16 (by omega)
    | succ m ih =>
      intro c hc
      have hcm : 2 * n + 1 - (m + 1) = c := by omega
      refine zi_iload_n d_md_nextChoice_9 rfl ?_
      refine zi_iconst d_md_nextChoice_10 ?_
      refine zr_aload_n d_md_nextChoice_11 rfl ?_
      refine zi_getiE (j := 1) (x := (n : Int)) d_md_nextChoice_12 zC8 fl_md_7 (by decide) rfl rfl (hn) ?_
      refine zi_imul d_md_nextChoice_15 ?_
      refine zi_icmp_gt 45 d_md_nextChoice_16 (by decide) ⟨by omega, by omega⟩ ⟨by omega, by omega⟩ (fun h16 => ?_) (fun h16 => ?_)
      · exact absurd h16 (by omega)
      · refine zr_aload_n d_md_nextChoice_19 rfl ?_
        refine zr_aload_n d_md_nextChoice_20 rfl ?_
        refine zi_getr (j := 26) d_md_nextChoice_21 zC8 fl_md_69 (by decide) rfl rfl ?_
        refine zi_iload_n d_md_nextChoice_24 rfl ?_
        refine zi_ialdE (x := (t : Int)) d_md_nextChoice_25 rfl (by decide) (by omega) (by omega) (by rw [Int.toNat_natCast]; exact h56) ?_
        refine zr_aload_n d_md_nextChoice_26 rfl ?_
        refine zi_getr (j := 25) d_md_nextChoice_27 zC8 fl_md_66 (by decide) rfl rfl ?_
        refine zi_iload_n d_md_nextChoice_30 rfl ?_
        refine zi_ialdE (x := (r : Int)) d_md_nextChoice_31 rfl (by decide) (by omega) (by omega) (by rw [Int.toNat_natCast]; exact h55) ?_
        refine zi_iload_n d_md_nextChoice_32 rfl ?_
        refine c_md_nextChoice_33 rfl rfl (md_can C hn8 ht hr (by omega)) ?_
        refine zi_if_ne 45 d_md_nextChoice_36 (by decide) (b2i_in _) (fun h36 => ?_) (fun h36 => ?_)
        · have hcn : canF τ n p f r t c = true := by cases e9 : canF τ n p f r t c; (rw [e9] at h36; exact absurd rfl h36); rfl
          refine zi_iload_n d_md_nextChoice_45 rfl ?_
          refine zi_iconst d_md_nextChoice_46 ?_
          refine zr_aload_n d_md_nextChoice_47 rfl ?_
          refine zi_getiE (j := 1) (x := (n : Int)) d_md_nextChoice_48 zC8 fl_md_7 (by decide) rfl rfl (hn) ?_
          refine zi_imul d_md_nextChoice_51 ?_
          refine zi_icmp_gt 59 d_md_nextChoice_52 (by decide) ⟨by omega, by omega⟩ ⟨by omega, by omega⟩ (fun h52 => ?_) (fun h52 => ?_)
          · exact absurd h52 (by omega)
          · refine zi_iload_n d_md_nextChoice_55 rfl ?_
            refine zr_goto 60 d_md_nextChoice_56 (by decide) ?_
            exact zk_iret rfl d_md_nextChoice_60 (Nat.zero_le _) (Nat.zero_le _) (by rw [ncF, hcm, if_pos hcn]) rfl
        · have hcn : ¬ canF τ n p f r t c = true := by intro e9; rw [e9] at h36; exact absurd h36 (by decide)
          refine zi_iinc d_md_nextChoice_39 (by decide) rfl rfl ?_
          refine zr_goto 9 d_md_nextChoice_42 (by decide) ?_
          have hgo := ih (c + 1) (by omega)
          rw [ncF, hcm, if_neg hcn]
          exact zE4 hgo (by refine ⟨?_, ?_, ?_, trivial⟩ <;> first | exact Or.inl rfl | exact Or.inr rfl | exact Or.inr (congrArg vi (by omega))) rfl
  refine zr_aload_n d_md_nextChoice_0 rfl ?_
  refine zi_getr (j := 27) d_md_nextChoice_1 zC8 fl_md_72 (by decide) rfl rfl ?_
  refine zi_iload_n d_md_nextChoice_4 rfl ?_
  refine zi_ialdE (x := (c : Int) - 1) d_md_nextChoice_5 rfl (by decide) (by omega) (by omega) (by rw [Int.toNat_natCast]; exact h57) ?_
  refine zi_iconst d_md_nextChoice_6 ?_
  refine zi_iadd d_md_nextChoice_7 ?_
  refine zi_istore_n d_md_nextChoice_8 (by decide) rfl ?_
  exact zE4 (key (2 * n + 1 - c) c (by omega)) (by refine ⟨?_, ?_, ?_, trivial⟩ <;> first | exact Or.inl rfl | exact Or.inr rfl | exact Or.inr (congrArg vi (by omega))) rfl
