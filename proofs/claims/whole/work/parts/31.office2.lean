/-! the methods of LeagueRounds, second half (written by wip/gen/t20.py) -/
theorem tX_ne (τ : tS) (a b i q j : Nat) (h2 : q ≠ 2) (h3 : q ≠ 3) : tX τ a b i q j = τ q j := by
  unfold tX
  rw [if_neg (by omega), if_neg (by omega)]
theorem tX_in {τ : tS} {a b i : Nat} (h : AllIn τ) : AllIn (tX τ a b i) := by
  intro q j
  unfold tX
  split
  · exact h _ _
  · split
    · exact h _ _
    · exact h _ _
theorem brok_in (τ : tS) (n R p f : Nat) : zin (brokF τ n R p f) := by
  unfold brokF
  repeat' split
  all_goals exact ⟨by decide, by decide⟩
theorem lr_swapRounds {l : Launch} {d : Nat} {τ : tS} {n R p f e : Nat} (C : Cl τ n R p f e) {a b : Nat} (ha : a < R) (hb : b < R) (h1 : τ 18 3 ≤ 0) (h2 : τ 27 3 ≤ 0) : zF l (d + 7) M_lr_swapRounds [.ref 0, vi (a : Int), vi (b : Int)] (τ) (some (vi (if brokF (tX τ a b n) n R p f = 0 then 1 else 0))) (if brokF (tX τ a b n) n R p f = 0 then tX τ a b n else tX (tX τ a b n) a b n) := by
  refine zMet_of (ls := [.ref 0, vi (a : Int), vi (b : Int)]) pn_lr rfl (by simp [vi, Value.category]) rfl rfl ?_
  have hA := C.A
  have hw := C.w
  have hn := C.n
  have hn4 := C.n4
  have hn20 := C.n20
  have hR := C.R
  have hR38 := C.R38
  have zn : zin (τ 1 3) := C.A _ _
  have zR : zin (τ 1 4) := C.A _ _
  refine zr_aload_n d_lr_swapRounds_0 rfl ?_
  refine zi_getr (j := 0) d_lr_swapRounds_1 zC7 fl_lr_14 (by decide) rfl rfl ?_
  refine zi_iload_n d_lr_swapRounds_4 rfl ?_
  refine c_lr_swapRounds_5 rfl rfl (tt1_hasRound ⟨by omega, by omega⟩ zR) ?_
  refine zi_if_eq 22 d_lr_swapRounds_8 (by decide) (by split <;> exact ⟨by decide, by decide⟩) (fun h8 => ?_) (fun h8 => ?_)
  · exfalso
    grind
  · refine zr_aload_n d_lr_swapRounds_11 rfl ?_
    refine zi_getr (j := 0) d_lr_swapRounds_12 zC7 fl_lr_14 (by decide) rfl rfl ?_
    refine zi_iload_n d_lr_swapRounds_15 rfl ?_
    refine c_lr_swapRounds_16 rfl rfl (tt1_hasRound ⟨by omega, by omega⟩ zR) ?_
    refine zi_if_ne 32 d_lr_swapRounds_19 (by decide) (by split <;> exact ⟨by decide, by decide⟩) (fun h19 => ?_) (fun h19 => ?_)
    · refine zr_aload_n d_lr_swapRounds_32 rfl ?_
      refine zi_getr (j := 3) d_lr_swapRounds_33 zC7 fl_lr_37 (by decide) rfl rfl ?_
      refine c_lr_swapRounds_36 rfl rfl (re_count) ?_
      refine zi_if_gt 52 d_lr_swapRounds_39 (by decide) (hA _ _) (fun h39 => ?_) (fun h39 => ?_)
      · exfalso
        grind
      · refine zr_aload_n d_lr_swapRounds_42 rfl ?_
        refine zi_getr (j := 4) d_lr_swapRounds_43 zC7 fl_lr_46 (by decide) rfl rfl ?_
        refine c_lr_swapRounds_46 rfl rfl (wo_count) ?_
        refine zi_if_le 62 d_lr_swapRounds_49 (by decide) (hA _ _) (fun h49 => ?_) (fun h49 => ?_)
        · refine zr_aload_n d_lr_swapRounds_62 rfl ?_
          refine zi_getr (j := 0) d_lr_swapRounds_63 zC7 fl_lr_14 (by decide) rfl rfl ?_
          refine zi_iload_n d_lr_swapRounds_66 rfl ?_
          refine zi_iload_n d_lr_swapRounds_67 rfl ?_
          refine c_lr_swapRounds_68 rfl rfl (tt1_exchange hw (by omega) (by omega) hn hn20) ?_
          refine zr_aload_n d_lr_swapRounds_71 rfl ?_
          refine zi_getr (j := 1) d_lr_swapRounds_72 zC7 fl_lr_21 (by decide) rfl rfl ?_
          refine zr_aload_n d_lr_swapRounds_75 rfl ?_
          refine zi_getr (j := 0) d_lr_swapRounds_76 zC7 fl_lr_14 (by decide) rfl rfl ?_
          refine c_lr_swapRounds_79 rfl rfl (wi_firstBroken (n := n) (R := R) (tX_in hA) (by rw [tX_ne _ _ _ _ _ _ (by decide) (by decide)]; exact hw) (by rw [tX_ne _ _ _ _ _ _ (by decide) (by decide)]; exact hn) hn20 (by rw [tX_ne _ _ _ _ _ _ (by decide) (by decide)]; exact hR) hR38 (fun j => by rw [tX_ne _ _ _ _ _ _ (by decide) (by decide)]; exact C.b5 j) (fun j => by rw [tX_ne _ _ _ _ _ _ (by decide) (by decide)]; exact C.b6 j) (by rw [tX_ne _ _ _ _ _ _ (by decide) (by decide)]; exact C.p) C.p6 (fun i hi => by rw [tX_ne _ _ _ _ _ _ (by decide) (by decide), tX_ne _ _ _ _ _ _ (by decide) (by decide)]; have := C.pr i hi; omega) (by rw [tX_ne _ _ _ _ _ _ (by decide) (by decide)]; exact C.f) C.f6 (fun i hi => by rw [tX_ne _ _ _ _ _ _ (by decide) (by decide), tX_ne _ _ _ _ _ _ (by decide) (by decide), tX_ne _ _ _ _ _ _ (by decide) (by decide)]; have := C.fx i hi; omega)) ?_
          refine zi_if_ne 87 d_lr_swapRounds_82 (by decide) (brok_in _ _ _ _ _) (fun h82 => ?_) (fun h82 => ?_)
          · refine zr_aload_n d_lr_swapRounds_87 rfl ?_
            refine zi_getr (j := 0) d_lr_swapRounds_88 zC7 fl_lr_14 (by decide) rfl rfl ?_
            refine zi_iload_n d_lr_swapRounds_91 rfl ?_
            refine zi_iload_n d_lr_swapRounds_92 rfl ?_
            refine c_lr_swapRounds_93 rfl rfl (tt1_exchange (by rw [tX_ne _ _ _ _ _ _ (by decide) (by decide)]; exact hw) (by omega) (by omega) (by rw [tX_ne _ _ _ _ _ _ (by decide) (by decide)]; exact hn) hn20) ?_
            refine zi_iconst d_lr_swapRounds_96 ?_
            exact zk_zret rfl d_lr_swapRounds_97 (Nat.zero_le _) (Nat.zero_le _) (by omega) (by rw [if_neg h82]) (by rw [if_neg h82])
          · refine zi_iconst d_lr_swapRounds_85 ?_
            exact zk_zret rfl d_lr_swapRounds_86 (Nat.zero_le _) (Nat.zero_le _) (by omega) (by rw [if_pos h82]) (by rw [if_pos h82])
        · exfalso
          grind
    · exfalso
      grind
theorem lr_swapRoundsX {l : Launch} {d : Nat} {τ : tS} {n R p f e : Nat} (C : Cl τ n R p f e) {a b : Int} (za : zin a) (zb : zin b) (h : ¬ ((0 ≤ a ∧ a < R) ∧ (0 ≤ b ∧ b < R))) : zG l (d + 7) M_lr_swapRounds [.ref 0, vi a, vi b] (τ) ("java/lang/IndexOutOfBoundsException") (τ) := by
  refine zMet_of (ls := [.ref 0, vi a, vi b]) pn_lr rfl (by simp [vi, Value.category]) rfl rfl ?_
  have hA := C.A
  have hw := C.w
  have hn := C.n
  have hn4 := C.n4
  have hn20 := C.n20
  have hR := C.R
  have hR38 := C.R38
  have zn : zin (τ 1 3) := C.A _ _
  have zR : zin (τ 1 4) := C.A _ _
  refine zr_aload_n d_lr_swapRounds_0 rfl ?_
  refine zi_getr (j := 0) d_lr_swapRounds_1 zC7 fl_lr_14 (by decide) rfl rfl ?_
  refine zi_iload_n d_lr_swapRounds_4 rfl ?_
  refine c_lr_swapRounds_5 rfl rfl (tt1_hasRound za zR) ?_
  refine zi_if_eq 22 d_lr_swapRounds_8 (by decide) (by split <;> exact ⟨by decide, by decide⟩) (fun h8 => ?_) (fun h8 => ?_)
  · exact zk_throw (text := "no such round") rfl at_2 (by decide) d_lr_swapRounds_22 d_lr_swapRounds_25 d_lr_swapRounds_26 d_lr_swapRounds_28 d_lr_swapRounds_31 rfl rfl (by decide) (by decide)
  · refine zr_aload_n d_lr_swapRounds_11 rfl ?_
    refine zi_getr (j := 0) d_lr_swapRounds_12 zC7 fl_lr_14 (by decide) rfl rfl ?_
    refine zi_iload_n d_lr_swapRounds_15 rfl ?_
    refine c_lr_swapRounds_16 rfl rfl (tt1_hasRound zb zR) ?_
    refine zi_if_ne 32 d_lr_swapRounds_19 (by decide) (by split <;> exact ⟨by decide, by decide⟩) (fun h19 => ?_) (fun h19 => ?_)
    · exfalso
      grind
    · exact zk_throw (text := "no such round") rfl at_2 (by decide) d_lr_swapRounds_22 d_lr_swapRounds_25 d_lr_swapRounds_26 d_lr_swapRounds_28 d_lr_swapRounds_31 rfl rfl (by decide) (by decide)
theorem lr_swapRoundsY {l : Launch} {d : Nat} {τ : tS} {n R p f e : Nat} (C : Cl τ n R p f e) {a b : Int} (za : zin a) (zb : zin b) (h : (0 ≤ a ∧ a < R) ∧ (0 ≤ b ∧ b < R)) (h2 : 0 < τ 18 3 ∨ 0 < τ 27 3) : zG l (d + 7) M_lr_swapRounds [.ref 0, vi a, vi b] (τ) ("java/lang/IllegalStateException") (τ) := by
  refine zMet_of (ls := [.ref 0, vi a, vi b]) pn_lr rfl (by simp [vi, Value.category]) rfl rfl ?_
  have hA := C.A
  have hw := C.w
  have hn := C.n
  have hn4 := C.n4
  have hn20 := C.n20
  have hR := C.R
  have hR38 := C.R38
  have zn : zin (τ 1 3) := C.A _ _
  have zR : zin (τ 1 4) := C.A _ _
  refine zr_aload_n d_lr_swapRounds_0 rfl ?_
  refine zi_getr (j := 0) d_lr_swapRounds_1 zC7 fl_lr_14 (by decide) rfl rfl ?_
  refine zi_iload_n d_lr_swapRounds_4 rfl ?_
  refine c_lr_swapRounds_5 rfl rfl (tt1_hasRound za zR) ?_
  refine zi_if_eq 22 d_lr_swapRounds_8 (by decide) (by split <;> exact ⟨by decide, by decide⟩) (fun h8 => ?_) (fun h8 => ?_)
  · exfalso
    grind
  · refine zr_aload_n d_lr_swapRounds_11 rfl ?_
    refine zi_getr (j := 0) d_lr_swapRounds_12 zC7 fl_lr_14 (by decide) rfl rfl ?_
    refine zi_iload_n d_lr_swapRounds_15 rfl ?_
    refine c_lr_swapRounds_16 rfl rfl (tt1_hasRound zb zR) ?_
    refine zi_if_ne 32 d_lr_swapRounds_19 (by decide) (by split <;> exact ⟨by decide, by decide⟩) (fun h19 => ?_) (fun h19 => ?_)
    · refine zr_aload_n d_lr_swapRounds_32 rfl ?_
      refine zi_getr (j := 3) d_lr_swapRounds_33 zC7 fl_lr_37 (by decide) rfl rfl ?_
      refine c_lr_swapRounds_36 rfl rfl (re_count) ?_
      refine zi_if_gt 52 d_lr_swapRounds_39 (by decide) (hA _ _) (fun h39 => ?_) (fun h39 => ?_)
      · exact zk_throw (text := "the season has begun") rfl at_1 (by decide) d_lr_swapRounds_52 d_lr_swapRounds_55 d_lr_swapRounds_56 d_lr_swapRounds_58 d_lr_swapRounds_61 rfl rfl (by decide) (by decide)
      · refine zr_aload_n d_lr_swapRounds_42 rfl ?_
        refine zi_getr (j := 4) d_lr_swapRounds_43 zC7 fl_lr_46 (by decide) rfl rfl ?_
        refine c_lr_swapRounds_46 rfl rfl (wo_count) ?_
        refine zi_if_le 62 d_lr_swapRounds_49 (by decide) (hA _ _) (fun h49 => ?_) (fun h49 => ?_)
        · exfalso
          grind
        · exact zk_throw (text := "the season has begun") rfl at_1 (by decide) d_lr_swapRounds_52 d_lr_swapRounds_55 d_lr_swapRounds_56 d_lr_swapRounds_58 d_lr_swapRounds_61 rfl rfl (by decide) (by decide)
    · exfalso
      grind
theorem lr_requireHome {l : Launch} {d : Nat} {τ : tS} {n R p f e : Nat} (C : Cl τ n R p f e) {r t : Int} (zr : zin r) (zt : zin t) (h : (0 ≤ r ∧ r < R) ∧ (0 ≤ t ∧ t < n)) (hv : τ 3 (r * 20 + t).toNat = 1) : zF l (d + 6) M_lr_requireHomeGame [.ref 0, vi r, vi t] (τ) (none) (τ) := by
  refine zMet_of (ls := [.ref 0, vi r, vi t]) pn_lr rfl (by simp [vi, Value.category]) rfl rfl ?_
  have hA := C.A
  have hw := C.w
  have hn := C.n
  have hn4 := C.n4
  have hn20 := C.n20
  have hR := C.R
  have hR38 := C.R38
  have zn : zin (τ 1 3) := C.A _ _
  have zR : zin (τ 1 4) := C.A _ _
  refine zr_aload_n d_lr_requireHomeGame_0 rfl ?_
  refine zi_getr (j := 0) d_lr_requireHomeGame_1 zC7 fl_lr_14 (by decide) rfl rfl ?_
  refine zi_iload_n d_lr_requireHomeGame_4 rfl ?_
  refine zi_iload_n d_lr_requireHomeGame_5 rfl ?_
  refine c_lr_requireHomeGame_6 rfl rfl (tt1_venueAt hw ⟨by omega, by omega⟩ ⟨by omega, by omega⟩) ?_
  refine zi_iconst d_lr_requireHomeGame_9 ?_
  refine zi_icmp_eq 24 d_lr_requireHomeGame_10 (by decide) (hA _ _) (by first | assumption | exact ⟨by omega, by omega⟩) (fun h10 => ?_) (fun h10 => ?_)
  · exact zk_vret rfl d_lr_requireHomeGame_24 (Nat.zero_le _) (Nat.zero_le _) rfl
  · exfalso
    grind
theorem lr_result {l : Launch} {d : Nat} {τ : tS} {n R p f e : Nat} (C : Cl τ n R p f e) {r t : Int} (zr : zin r) (zt : zin t) {x y : Int} (zx : zin x) (zy : zin y) {τ' : tS} (h : (0 ≤ r ∧ r < R) ∧ (0 ≤ t ∧ t < n)) (hg : (0 ≤ x ∧ x ≤ 99) ∧ (0 ≤ y ∧ y ≤ 99)) (hv : τ 3 (r * 20 + t).toNat = 1) (hd : ¬ ((τ 28 r.toNat = 1 ∧ τ 3 (r * 20 + t).toNat = 1 ∧ τ 19 (r * 20 + t).toNat = -1) ∧ τ 31 (r * 20 + t).toNat = -1)) (hM : zF l (d + 6) M_re_put [.ref 18, vi r, vi t, vi (τ 2 (r * 20 + t).toNat), vi x, vi y] τ none τ') : zF l (d + 7) M_lr_result [.ref 0, vi r, vi t, vi x, vi y] (τ) (some (vi (τ' 18 3))) (τ') := by
  refine zMet_of (ls := [.ref 0, vi r, vi t, vi x, vi y]) pn_lr rfl (by simp [vi, Value.category]) rfl rfl ?_
  have hA := C.A
  have hw := C.w
  have hn := C.n
  have hn4 := C.n4
  have hn20 := C.n20
  have hR := C.R
  have hR38 := C.R38
  have zn : zin (τ 1 3) := C.A _ _
  have zR : zin (τ 1 4) := C.A _ _
  refine zr_aload_n d_lr_result_0 rfl ?_
  refine zi_iload_n d_lr_result_1 rfl ?_
  refine zi_iload_n d_lr_result_2 rfl ?_
  refine c_lr_result_3 rfl rfl (lr_requireRT C zr zt h) ?_
  refine zi_iload_n d_lr_result_6 rfl ?_
  refine c_lr_result_7 rfl (lr_areGoals zx) ?_
  refine zi_if_eq 21 d_lr_result_10 (by decide) (by split <;> exact ⟨by decide, by decide⟩) (fun h10 => ?_) (fun h10 => ?_)
  · exfalso
    grind
  · refine zi_iload d_lr_result_13 rfl ?_
    refine c_lr_result_15 rfl (lr_areGoals zy) ?_
    refine zi_if_ne 31 d_lr_result_18 (by decide) (by split <;> exact ⟨by decide, by decide⟩) (fun h18 => ?_) (fun h18 => ?_)
    · refine zr_aload_n d_lr_result_31 rfl ?_
      refine zi_iload_n d_lr_result_32 rfl ?_
      refine zi_iload_n d_lr_result_33 rfl ?_
      refine c_lr_result_34 rfl rfl (lr_requireHome C zr zt h hv) ?_
      refine zr_aload_n d_lr_result_37 rfl ?_
      refine zi_getr (j := 4) d_lr_result_38 zC7 fl_lr_46 (by decide) rfl rfl ?_
      refine zi_iload_n d_lr_result_41 rfl ?_
      refine zi_iload_n d_lr_result_42 rfl ?_
      refine c_lr_result_43 rfl rfl (wo_isMissing hw ⟨by omega, by omega⟩ ⟨by omega, by omega⟩ (C.wash _) (hA _ _) (hA _ _)) ?_
      refine zi_if_eq 72 d_lr_result_46 (by decide) (by split <;> exact ⟨by decide, by decide⟩) (fun h46 => ?_) (fun h46 => ?_)
      · refine zr_aload_n d_lr_result_72 rfl ?_
        refine zi_getr (j := 3) d_lr_result_73 zC7 fl_lr_37 (by decide) rfl rfl ?_
        refine zi_iload_n d_lr_result_76 rfl ?_
        refine zi_iload_n d_lr_result_77 rfl ?_
        refine zr_aload_n d_lr_result_78 rfl ?_
        refine zi_getr (j := 0) d_lr_result_79 zC7 fl_lr_14 (by decide) rfl rfl ?_
        refine zi_iload_n d_lr_result_82 rfl ?_
        refine zi_iload_n d_lr_result_83 rfl ?_
        refine c_lr_result_84 rfl rfl (tt1_opponentAt hw ⟨by omega, by omega⟩ ⟨by omega, by omega⟩) ?_
        refine zi_iload_n d_lr_result_87 rfl ?_
        refine zi_iload d_lr_result_88 rfl ?_
        refine c_lr_result_90 rfl rfl (hM) ?_
        refine zr_aload_n d_lr_result_93 rfl ?_
        refine zi_getr (j := 3) d_lr_result_94 zC7 fl_lr_37 (by decide) rfl rfl ?_
        refine c_lr_result_97 rfl rfl (re_count) ?_
        exact zk_iret rfl d_lr_result_100 (Nat.zero_le _) (Nat.zero_le _) (by first | rfl | omega | (split <;> omega) | simp_all) rfl
      · refine zr_aload_n d_lr_result_49 rfl ?_
        refine zi_getr (j := 5) d_lr_result_50 zC7 fl_lr_55 (by decide) rfl rfl ?_
        refine zi_iload_n d_lr_result_53 rfl ?_
        refine zi_iload_n d_lr_result_54 rfl ?_
        refine c_lr_result_55 rfl rfl (cu_dateAt ⟨by omega, by omega⟩ ⟨by omega, by omega⟩) ?_
        refine zi_iconst d_lr_result_58 ?_
        refine zi_icmp_ne 72 d_lr_result_59 (by decide) (hA _ _) (by first | assumption | exact ⟨by omega, by omega⟩) (fun h59 => ?_) (fun h59 => ?_)
        · refine zr_aload_n d_lr_result_72 rfl ?_
          refine zi_getr (j := 3) d_lr_result_73 zC7 fl_lr_37 (by decide) rfl rfl ?_
          refine zi_iload_n d_lr_result_76 rfl ?_
          refine zi_iload_n d_lr_result_77 rfl ?_
          refine zr_aload_n d_lr_result_78 rfl ?_
          refine zi_getr (j := 0) d_lr_result_79 zC7 fl_lr_14 (by decide) rfl rfl ?_
          refine zi_iload_n d_lr_result_82 rfl ?_
          refine zi_iload_n d_lr_result_83 rfl ?_
          refine c_lr_result_84 rfl rfl (tt1_opponentAt hw ⟨by omega, by omega⟩ ⟨by omega, by omega⟩) ?_
          refine zi_iload_n d_lr_result_87 rfl ?_
          refine zi_iload d_lr_result_88 rfl ?_
          refine c_lr_result_90 rfl rfl (hM) ?_
          refine zr_aload_n d_lr_result_93 rfl ?_
          refine zi_getr (j := 3) d_lr_result_94 zC7 fl_lr_37 (by decide) rfl rfl ?_
          refine c_lr_result_97 rfl rfl (re_count) ?_
          exact zk_iret rfl d_lr_result_100 (Nat.zero_le _) (Nat.zero_le _) (by first | rfl | omega | (split <;> omega) | simp_all) rfl
        · exfalso
          grind
    · exfalso
      grind
theorem lr_resultX1 {l : Launch} {d : Nat} {τ : tS} {n R p f e : Nat} (C : Cl τ n R p f e) {r t : Int} (zr : zin r) (zt : zin t) {x y : Int} (zx : zin x) (zy : zin y) (h : ¬ ((0 ≤ r ∧ r < R) ∧ (0 ≤ t ∧ t < n))) : zG l (d + 7) M_lr_result [.ref 0, vi r, vi t, vi x, vi y] (τ) ("java/lang/IndexOutOfBoundsException") (τ) := by
  refine zMet_of (ls := [.ref 0, vi r, vi t, vi x, vi y]) pn_lr rfl (by simp [vi, Value.category]) rfl rfl ?_
  refine zr_aload_n d_lr_result_0 rfl ?_
  refine zi_iload_n d_lr_result_1 rfl ?_
  refine zi_iload_n d_lr_result_2 rfl ?_
  exact x_lr_result_3 rfl (lr_requireRTX C zr zt h)
theorem lr_resultX2 {l : Launch} {d : Nat} {τ : tS} {n R p f e : Nat} (C : Cl τ n R p f e) {r t : Int} (zr : zin r) (zt : zin t) {x y : Int} (zx : zin x) (zy : zin y) (h : (0 ≤ r ∧ r < R) ∧ (0 ≤ t ∧ t < n)) (hg : ¬ ((0 ≤ x ∧ x ≤ 99) ∧ (0 ≤ y ∧ y ≤ 99))) : zG l (d + 7) M_lr_result [.ref 0, vi r, vi t, vi x, vi y] (τ) ("java/lang/IllegalArgumentException") (τ) := by
  refine zMet_of (ls := [.ref 0, vi r, vi t, vi x, vi y]) pn_lr rfl (by simp [vi, Value.category]) rfl rfl ?_
  have hA := C.A
  have hw := C.w
  have hn := C.n
  have hn4 := C.n4
  have hn20 := C.n20
  have hR := C.R
  have hR38 := C.R38
  have zn : zin (τ 1 3) := C.A _ _
  have zR : zin (τ 1 4) := C.A _ _
  refine zr_aload_n d_lr_result_0 rfl ?_
  refine zi_iload_n d_lr_result_1 rfl ?_
  refine zi_iload_n d_lr_result_2 rfl ?_
  refine c_lr_result_3 rfl rfl (lr_requireRT C zr zt h) ?_
  refine zi_iload_n d_lr_result_6 rfl ?_
  refine c_lr_result_7 rfl (lr_areGoals zx) ?_
  refine zi_if_eq 21 d_lr_result_10 (by decide) (by split <;> exact ⟨by decide, by decide⟩) (fun h10 => ?_) (fun h10 => ?_)
  · exact zk_throw (text := "no such goals") rfl at_0 (by decide) d_lr_result_21 d_lr_result_24 d_lr_result_25 d_lr_result_27 d_lr_result_30 rfl rfl (by decide) (by decide)
  · refine zi_iload d_lr_result_13 rfl ?_
    refine c_lr_result_15 rfl (lr_areGoals zy) ?_
    refine zi_if_ne 31 d_lr_result_18 (by decide) (by split <;> exact ⟨by decide, by decide⟩) (fun h18 => ?_) (fun h18 => ?_)
    · exfalso
      grind
    · exact zk_throw (text := "no such goals") rfl at_0 (by decide) d_lr_result_21 d_lr_result_24 d_lr_result_25 d_lr_result_27 d_lr_result_30 rfl rfl (by decide) (by decide)
theorem lr_resultX3 {l : Launch} {d : Nat} {τ : tS} {n R p f e : Nat} (C : Cl τ n R p f e) {r t : Int} (zr : zin r) (zt : zin t) {x y : Int} (zx : zin x) (zy : zin y) (h : (0 ≤ r ∧ r < R) ∧ (0 ≤ t ∧ t < n)) (hg : (0 ≤ x ∧ x ≤ 99) ∧ (0 ≤ y ∧ y ≤ 99)) (hX : zG l (d + 6) M_lr_requireHomeGame [.ref 0, vi r, vi t] τ "java/util/NoSuchElementException" τ) : zG l (d + 7) M_lr_result [.ref 0, vi r, vi t, vi x, vi y] (τ) ("java/util/NoSuchElementException") (τ) := by
  refine zMet_of (ls := [.ref 0, vi r, vi t, vi x, vi y]) pn_lr rfl (by simp [vi, Value.category]) rfl rfl ?_
  have hA := C.A
  have hw := C.w
  have hn := C.n
  have hn4 := C.n4
  have hn20 := C.n20
  have hR := C.R
  have hR38 := C.R38
  have zn : zin (τ 1 3) := C.A _ _
  have zR : zin (τ 1 4) := C.A _ _
  refine zr_aload_n d_lr_result_0 rfl ?_
  refine zi_iload_n d_lr_result_1 rfl ?_
  refine zi_iload_n d_lr_result_2 rfl ?_
  refine c_lr_result_3 rfl rfl (lr_requireRT C zr zt h) ?_
  refine zi_iload_n d_lr_result_6 rfl ?_
  refine c_lr_result_7 rfl (lr_areGoals zx) ?_
  refine zi_if_eq 21 d_lr_result_10 (by decide) (by split <;> exact ⟨by decide, by decide⟩) (fun h10 => ?_) (fun h10 => ?_)
  · exfalso
    grind
  · refine zi_iload d_lr_result_13 rfl ?_
    refine c_lr_result_15 rfl (lr_areGoals zy) ?_
    refine zi_if_ne 31 d_lr_result_18 (by decide) (by split <;> exact ⟨by decide, by decide⟩) (fun h18 => ?_) (fun h18 => ?_)
    · refine zr_aload_n d_lr_result_31 rfl ?_
      refine zi_iload_n d_lr_result_32 rfl ?_
      refine zi_iload_n d_lr_result_33 rfl ?_
      exact x_lr_result_34 rfl hX
    · exfalso
      grind
theorem lr_resultX4 {l : Launch} {d : Nat} {τ : tS} {n R p f e : Nat} (C : Cl τ n R p f e) {r t : Int} (zr : zin r) (zt : zin t) {x y : Int} (zx : zin x) (zy : zin y) (h : (0 ≤ r ∧ r < R) ∧ (0 ≤ t ∧ t < n)) (hg : (0 ≤ x ∧ x ≤ 99) ∧ (0 ≤ y ∧ y ≤ 99)) (hv : τ 3 (r * 20 + t).toNat = 1) (hd : (τ 28 r.toNat = 1 ∧ τ 3 (r * 20 + t).toNat = 1 ∧ τ 19 (r * 20 + t).toNat = -1) ∧ τ 31 (r * 20 + t).toNat = -1) : zG l (d + 7) M_lr_result [.ref 0, vi r, vi t, vi x, vi y] (τ) ("java/lang/IllegalStateException") (τ) := by
  refine zMet_of (ls := [.ref 0, vi r, vi t, vi x, vi y]) pn_lr rfl (by simp [vi, Value.category]) rfl rfl ?_
  have hA := C.A
  have hw := C.w
  have hn := C.n
  have hn4 := C.n4
  have hn20 := C.n20
  have hR := C.R
  have hR38 := C.R38
  have zn : zin (τ 1 3) := C.A _ _
  have zR : zin (τ 1 4) := C.A _ _
  refine zr_aload_n d_lr_result_0 rfl ?_
  refine zi_iload_n d_lr_result_1 rfl ?_
  refine zi_iload_n d_lr_result_2 rfl ?_
  refine c_lr_result_3 rfl rfl (lr_requireRT C zr zt h) ?_
  refine zi_iload_n d_lr_result_6 rfl ?_
  refine c_lr_result_7 rfl (lr_areGoals zx) ?_
  refine zi_if_eq 21 d_lr_result_10 (by decide) (by split <;> exact ⟨by decide, by decide⟩) (fun h10 => ?_) (fun h10 => ?_)
  · exfalso
    grind
  · refine zi_iload d_lr_result_13 rfl ?_
    refine c_lr_result_15 rfl (lr_areGoals zy) ?_
    refine zi_if_ne 31 d_lr_result_18 (by decide) (by split <;> exact ⟨by decide, by decide⟩) (fun h18 => ?_) (fun h18 => ?_)
    · refine zr_aload_n d_lr_result_31 rfl ?_
      refine zi_iload_n d_lr_result_32 rfl ?_
      refine zi_iload_n d_lr_result_33 rfl ?_
      refine c_lr_result_34 rfl rfl (lr_requireHome C zr zt h hv) ?_
      refine zr_aload_n d_lr_result_37 rfl ?_
      refine zi_getr (j := 4) d_lr_result_38 zC7 fl_lr_46 (by decide) rfl rfl ?_
      refine zi_iload_n d_lr_result_41 rfl ?_
      refine zi_iload_n d_lr_result_42 rfl ?_
      refine c_lr_result_43 rfl rfl (wo_isMissing hw ⟨by omega, by omega⟩ ⟨by omega, by omega⟩ (C.wash _) (hA _ _) (hA _ _)) ?_
      refine zi_if_eq 72 d_lr_result_46 (by decide) (by split <;> exact ⟨by decide, by decide⟩) (fun h46 => ?_) (fun h46 => ?_)
      · exfalso
        grind
      · refine zr_aload_n d_lr_result_49 rfl ?_
        refine zi_getr (j := 5) d_lr_result_50 zC7 fl_lr_55 (by decide) rfl rfl ?_
        refine zi_iload_n d_lr_result_53 rfl ?_
        refine zi_iload_n d_lr_result_54 rfl ?_
        refine c_lr_result_55 rfl rfl (cu_dateAt ⟨by omega, by omega⟩ ⟨by omega, by omega⟩) ?_
        refine zi_iconst d_lr_result_58 ?_
        refine zi_icmp_ne 72 d_lr_result_59 (by decide) (hA _ _) (by first | assumption | exact ⟨by omega, by omega⟩) (fun h59 => ?_) (fun h59 => ?_)
        · exfalso
          grind
        · exact zk_throw (text := "the game is missing and has no date") rfl at_1 (by decide) d_lr_result_62 d_lr_result_65 d_lr_result_66 d_lr_result_68 d_lr_result_71 rfl rfl (by decide) (by decide)
    · exfalso
      grind
theorem fst0_lt (p : Nat → Bool) (n : Nat) (hn : 0 < n) : (fst0 p n).getD 0 < n := by
  by_cases h : ∃ j, j < n ∧ p j = true
  · obtain ⟨i, h1, h2⟩ := zleast (fun j => j < n ∧ p j = true) h
    rw [fst0_some _ n i h1.1 (fun j hj hp => h2 j hj ⟨by omega, hp⟩) h1.2]
    exact h1.1
  · rw [fst0_none _ n (fun j hj hp => h ⟨j, hj, hp⟩)]
    exact hn
def tbF (τ : tS) (n k f : Nat) : Int := fldF τ ((fst0 (fun t => decide (cnt (plcP τ t) n = k)) n).getD 0) f
theorem lr_table {l : Launch} {d : Nat} {τ : tS} {n R p f e : Nat} (C : Cl τ n R p f e) {k q : Nat} (hk : k < n) (hq : q < 8) : zF l (d + 7) M_lr_table [.ref 0, vi (k : Int), vi (q : Int)] (τ) (some (vi (tbF τ n k q))) (τ) := by
  refine zMet_of (ls := [.ref 0, vi (k : Int), vi (q : Int), .null]) pn_lr rfl (by simp [vi, Value.category]) rfl rfl ?_
  have hA := C.A
  have hw := C.w
  have hn := C.n
  have hn4 := C.n4
  have hn20 := C.n20
  have hR := C.R
  have hR38 := C.R38
  have zn : zin (τ 1 3) := C.A _ _
  have zR : zin (τ 1 4) := C.A _ _
  refine zr_aload_n d_lr_table_0 rfl ?_
  refine zi_getr (j := 0) d_lr_table_1 zC7 fl_lr_14 (by decide) rfl rfl ?_
  refine zi_iload_n d_lr_table_4 rfl ?_
  refine c_lr_table_5 rfl rfl (tt1_hasTeam ⟨by omega, by omega⟩ zn) ?_
  refine zi_if_eq 21 d_lr_table_8 (by decide) (by split <;> exact ⟨by decide, by decide⟩) (fun h8 => ?_) (fun h8 => ?_)
  · exfalso
    grind
  · refine zi_iload_n d_lr_table_11 rfl ?_
    refine zi_if_lt 21 d_lr_table_12 (by decide) (by first | assumption | exact ⟨by omega, by omega⟩) (fun h12 => ?_) (fun h12 => ?_)
    · exfalso
      grind
    · refine zi_iload_n d_lr_table_15 rfl ?_
      refine zi_bipush d_lr_table_16 (by decide) ?_
      refine zi_icmp_le 31 d_lr_table_18 (by decide) (by first | assumption | exact ⟨by omega, by omega⟩) (by first | assumption | exact ⟨by omega, by omega⟩) (fun h18 => ?_) (fun h18 => ?_)
      · refine zr_aload_n d_lr_table_31 rfl ?_
        refine zi_getr (j := 3) d_lr_table_32 zC7 fl_lr_37 (by decide) rfl rfl ?_
        refine c_lr_table_35 rfl rfl (re_standings) ?_
        refine zi_astore_n d_lr_table_38 (by decide) rfl ?_
        refine zr_aload_n d_lr_table_39 rfl ?_
        refine zr_aload_n d_lr_table_40 rfl ?_
        refine zi_iload_n d_lr_table_41 rfl ?_
        refine zr_aload_n d_lr_table_42 rfl ?_
        refine zi_getr (j := 0) d_lr_table_43 zC7 fl_lr_14 (by decide) rfl rfl ?_
        refine c_lr_table_46 rfl rfl (tt1_teamCount) ?_
        show zV _ _ _ _ _ (vi _ :: _) _ _ _
        rw [hn]
        refine c_lr_table_49 rfl rfl (sd_teamAt hA C.st (by omega) hn20) ?_
        refine zi_iload_n d_lr_table_52 rfl ?_
        refine c_lr_table_53 rfl rfl (sd_fieldOf (by have := fst0_lt (fun t => decide (cnt (plcP τ t) n = k)) n (by omega); omega) (by omega)) ?_
        exact zk_iret rfl d_lr_table_56 (Nat.zero_le _) (Nat.zero_le _) rfl rfl
      · exfalso
        grind
theorem lr_tableX {l : Launch} {d : Nat} {τ : tS} {n R p f e : Nat} (C : Cl τ n R p f e) {k q : Int} (zk : zin k) (zq' : zin q) (h : ¬ ((0 ≤ k ∧ k < n) ∧ (0 ≤ q ∧ q ≤ 7))) : zG l (d + 7) M_lr_table [.ref 0, vi k, vi q] (τ) ("java/lang/IndexOutOfBoundsException") (τ) := by
  refine zMet_of (ls := [.ref 0, vi k, vi q, .null]) pn_lr rfl (by simp [vi, Value.category]) rfl rfl ?_
  have hA := C.A
  have hw := C.w
  have hn := C.n
  have hn4 := C.n4
  have hn20 := C.n20
  have hR := C.R
  have hR38 := C.R38
  have zn : zin (τ 1 3) := C.A _ _
  have zR : zin (τ 1 4) := C.A _ _
  refine zr_aload_n d_lr_table_0 rfl ?_
  refine zi_getr (j := 0) d_lr_table_1 zC7 fl_lr_14 (by decide) rfl rfl ?_
  refine zi_iload_n d_lr_table_4 rfl ?_
  refine c_lr_table_5 rfl rfl (tt1_hasTeam zk zn) ?_
  refine zi_if_eq 21 d_lr_table_8 (by decide) (by split <;> exact ⟨by decide, by decide⟩) (fun h8 => ?_) (fun h8 => ?_)
  · exact zk_throw (text := "no such place or field") rfl at_2 (by decide) d_lr_table_21 d_lr_table_24 d_lr_table_25 d_lr_table_27 d_lr_table_30 rfl rfl (by decide) (by decide)
  · refine zi_iload_n d_lr_table_11 rfl ?_
    refine zi_if_lt 21 d_lr_table_12 (by decide) (by first | assumption | exact ⟨by omega, by omega⟩) (fun h12 => ?_) (fun h12 => ?_)
    · exact zk_throw (text := "no such place or field") rfl at_2 (by decide) d_lr_table_21 d_lr_table_24 d_lr_table_25 d_lr_table_27 d_lr_table_30 rfl rfl (by decide) (by decide)
    · refine zi_iload_n d_lr_table_15 rfl ?_
      refine zi_bipush d_lr_table_16 (by decide) ?_
      refine zi_icmp_le 31 d_lr_table_18 (by decide) (by first | assumption | exact ⟨by omega, by omega⟩) (by first | assumption | exact ⟨by omega, by omega⟩) (fun h18 => ?_) (fun h18 => ?_)
      · exfalso
        grind
      · exact zk_throw (text := "no such place or field") rfl at_2 (by decide) d_lr_table_21 d_lr_table_24 d_lr_table_25 d_lr_table_27 d_lr_table_30 rfl rfl (by decide) (by decide)
def woA (τ : tS) (r : Int) : tS := tU (tU τ 28 r.toNat 1) 27 3 (τ 27 3 + 1)
theorem woA_in {τ : tS} {r : Int} (h : AllIn τ) (h4 : τ 27 3 < 4) : AllIn (woA τ r) := by
  intro q j
  have := h q j
  have h3 := h 27 3
  unfold zin at *
  unfold woA tU
  split
  · omega
  · split
    · omega
    · exact this
theorem woA_w {τ : tS} {r : Int} (h : ∀ j, τ 28 j = 0 ∨ τ 28 j = 1) (j : Nat) : woA τ r 28 j = 0 ∨ woA τ r 28 j = 1 := by
  have := h j
  unfold woA tU
  rw [if_neg (by omega)]
  split
  · exact Or.inr rfl
  · exact this
theorem woA_1 (τ : tS) (r : Int) (j : Nat) : woA τ r 1 j = τ 1 j := by simp [woA, tU]
theorem lr_washOut {l : Launch} {d : Nat} {τ : tS} {n R p f e : Nat} (C : Cl τ n R p f e) {r : Int} (zr : zin r) (h : 0 ≤ r ∧ r < R) (h0 : τ 28 r.toNat = 0) (h4 : τ 27 3 < 4) : zF l (d + 7) M_lr_washOut [.ref 0, vi r] (τ) (some (vi ((cnt (misP (woA τ r) r) n : Nat) : Int))) (woA τ r) := by
  refine zMet_of (ls := [.ref 0, vi r]) pn_lr rfl (by simp [vi, Value.category]) rfl rfl ?_
  have hA := C.A
  have hw := C.w
  have hn := C.n
  have hn4 := C.n4
  have hn20 := C.n20
  have hR := C.R
  have hR38 := C.R38
  have zn : zin (τ 1 3) := C.A _ _
  have zR : zin (τ 1 4) := C.A _ _
  refine zr_aload_n d_lr_washOut_0 rfl ?_
  refine zi_getr (j := 0) d_lr_washOut_1 zC7 fl_lr_14 (by decide) rfl rfl ?_
  refine zi_iload_n d_lr_washOut_4 rfl ?_
  refine c_lr_washOut_5 rfl rfl (tt1_hasRound zr zR) ?_
  refine zi_if_ne 21 d_lr_washOut_8 (by decide) (by split <;> exact ⟨by decide, by decide⟩) (fun h8 => ?_) (fun h8 => ?_)
  · refine zr_aload_n d_lr_washOut_21 rfl ?_
    refine zi_getr (j := 4) d_lr_washOut_22 zC7 fl_lr_46 (by decide) rfl rfl ?_
    refine zi_iload_n d_lr_washOut_25 rfl ?_
    refine c_lr_washOut_26 rfl rfl (wo_isWashed ⟨by omega, by omega⟩ (C.wash _)) ?_
    refine zi_if_ne 43 d_lr_washOut_29 (by decide) (hA _ _) (fun h29 => ?_) (fun h29 => ?_)
    · exfalso
      grind
    · refine zr_aload_n d_lr_washOut_32 rfl ?_
      refine zi_getr (j := 4) d_lr_washOut_33 zC7 fl_lr_46 (by decide) rfl rfl ?_
      refine c_lr_washOut_36 rfl rfl (wo_count) ?_
      refine zi_iconst d_lr_washOut_39 ?_
      refine zi_icmp_lt 53 d_lr_washOut_40 (by decide) (hA _ _) (by first | assumption | exact ⟨by omega, by omega⟩) (fun h40 => ?_) (fun h40 => ?_)
      · refine zr_aload_n d_lr_washOut_53 rfl ?_
        refine zi_getr (j := 4) d_lr_washOut_54 zC7 fl_lr_46 (by decide) rfl rfl ?_
        refine zi_iload_n d_lr_washOut_57 rfl ?_
        refine c_lr_washOut_58 rfl rfl (wo_add ⟨by omega, by omega⟩) ?_
        refine zr_aload_n d_lr_washOut_61 rfl ?_
        refine zi_getr (j := 4) d_lr_washOut_62 zC7 fl_lr_46 (by decide) rfl rfl ?_
        refine zi_iload_n d_lr_washOut_65 rfl ?_
        change zV l (d + 7) M_lr_washOut 66 _ _ (woA τ r) _ _
        refine c_lr_washOut_66 rfl rfl (wo_missingIn (woA_in hA h4) (by rw [woA_1]; exact hw) (by rw [woA_1]; exact hn) hn20 (woA_w C.wash) ⟨by omega, by omega⟩) ?_
        exact zk_iret rfl d_lr_washOut_69 (Nat.zero_le _) (Nat.zero_le _) (by first | rfl | omega | (split <;> omega) | simp_all) rfl
      · exfalso
        grind
  · exfalso
    grind
theorem lr_washOutX {l : Launch} {d : Nat} {τ : tS} {n R p f e : Nat} (C : Cl τ n R p f e) {r : Int} (zr : zin r) (h : ¬ (0 ≤ r ∧ r < R)) : zG l (d + 7) M_lr_washOut [.ref 0, vi r] (τ) ("java/lang/IndexOutOfBoundsException") (τ) := by
  refine zMet_of (ls := [.ref 0, vi r]) pn_lr rfl (by simp [vi, Value.category]) rfl rfl ?_
  have hA := C.A
  have hw := C.w
  have hn := C.n
  have hn4 := C.n4
  have hn20 := C.n20
  have hR := C.R
  have hR38 := C.R38
  have zn : zin (τ 1 3) := C.A _ _
  have zR : zin (τ 1 4) := C.A _ _
  refine zr_aload_n d_lr_washOut_0 rfl ?_
  refine zi_getr (j := 0) d_lr_washOut_1 zC7 fl_lr_14 (by decide) rfl rfl ?_
  refine zi_iload_n d_lr_washOut_4 rfl ?_
  refine c_lr_washOut_5 rfl rfl (tt1_hasRound zr zR) ?_
  refine zi_if_ne 21 d_lr_washOut_8 (by decide) (by split <;> exact ⟨by decide, by decide⟩) (fun h8 => ?_) (fun h8 => ?_)
  · exfalso
    grind
  · exact zk_throw (text := "no such round") rfl at_2 (by decide) d_lr_washOut_11 d_lr_washOut_14 d_lr_washOut_15 d_lr_washOut_17 d_lr_washOut_20 rfl rfl (by decide) (by decide)
theorem lr_washOutY {l : Launch} {d : Nat} {τ : tS} {n R p f e : Nat} (C : Cl τ n R p f e) {r : Int} (zr : zin r) (h : 0 ≤ r ∧ r < R) (h0 : ¬ (τ 28 r.toNat = 0 ∧ τ 27 3 < 4)) : zG l (d + 7) M_lr_washOut [.ref 0, vi r] (τ) ("java/lang/IllegalStateException") (τ) := by
  refine zMet_of (ls := [.ref 0, vi r]) pn_lr rfl (by simp [vi, Value.category]) rfl rfl ?_
  have hA := C.A
  have hw := C.w
  have hn := C.n
  have hn4 := C.n4
  have hn20 := C.n20
  have hR := C.R
  have hR38 := C.R38
  have zn : zin (τ 1 3) := C.A _ _
  have zR : zin (τ 1 4) := C.A _ _
  refine zr_aload_n d_lr_washOut_0 rfl ?_
  refine zi_getr (j := 0) d_lr_washOut_1 zC7 fl_lr_14 (by decide) rfl rfl ?_
  refine zi_iload_n d_lr_washOut_4 rfl ?_
  refine c_lr_washOut_5 rfl rfl (tt1_hasRound zr zR) ?_
  refine zi_if_ne 21 d_lr_washOut_8 (by decide) (by split <;> exact ⟨by decide, by decide⟩) (fun h8 => ?_) (fun h8 => ?_)
  · refine zr_aload_n d_lr_washOut_21 rfl ?_
    refine zi_getr (j := 4) d_lr_washOut_22 zC7 fl_lr_46 (by decide) rfl rfl ?_
    refine zi_iload_n d_lr_washOut_25 rfl ?_
    refine c_lr_washOut_26 rfl rfl (wo_isWashed ⟨by omega, by omega⟩ (C.wash _)) ?_
    refine zi_if_ne 43 d_lr_washOut_29 (by decide) (hA _ _) (fun h29 => ?_) (fun h29 => ?_)
    · exact zk_throw (text := "washed out already, or too many rounds are") rfl at_1 (by decide) d_lr_washOut_43 d_lr_washOut_46 d_lr_washOut_47 d_lr_washOut_49 d_lr_washOut_52 rfl rfl (by decide) (by decide)
    · refine zr_aload_n d_lr_washOut_32 rfl ?_
      refine zi_getr (j := 4) d_lr_washOut_33 zC7 fl_lr_46 (by decide) rfl rfl ?_
      refine c_lr_washOut_36 rfl rfl (wo_count) ?_
      refine zi_iconst d_lr_washOut_39 ?_
      refine zi_icmp_lt 53 d_lr_washOut_40 (by decide) (hA _ _) (by first | assumption | exact ⟨by omega, by omega⟩) (fun h40 => ?_) (fun h40 => ?_)
      · exfalso
        grind
      · exact zk_throw (text := "washed out already, or too many rounds are") rfl at_1 (by decide) d_lr_washOut_43 d_lr_washOut_46 d_lr_washOut_47 d_lr_washOut_49 d_lr_washOut_52 rfl rfl (by decide) (by decide)
  · exfalso
    grind
theorem lr_reserve {l : Launch} {d : Nat} {τ : tS} {n R p f e : Nat} (C : Cl τ n R p f e) {x : Int} (zx : zin x) (h : 0 ≤ x ∧ x ≤ 99) (h1 : ¬ anyN (dtP τ x) e = true) (h6 : e < 6) : zF l (d + 7) M_lr_reserve [.ref 0, vi x] (τ) (some (vi ((e : Int) + 1))) (tU (tR τ 30 (insR x e (τ 30))) 29 3 ((e : Int) + 1)) := by
  refine zMet_of (ls := [.ref 0, vi x]) pn_lr rfl (by simp [vi, Value.category]) rfl rfl ?_
  have hA := C.A
  have hw := C.w
  have hn := C.n
  have hn4 := C.n4
  have hn20 := C.n20
  have hR := C.R
  have hR38 := C.R38
  have zn : zin (τ 1 3) := C.A _ _
  have zR : zin (τ 1 4) := C.A _ _
  have he := C.e
  have he6 := C.e6
  refine zi_iload_n d_lr_reserve_0 rfl ?_
  refine zi_if_lt 10 d_lr_reserve_1 (by decide) (by first | assumption | exact ⟨by omega, by omega⟩) (fun h1 => ?_) (fun h1 => ?_)
  · exfalso
    grind
  · refine zi_iload_n d_lr_reserve_4 rfl ?_
    refine zi_bipush d_lr_reserve_5 (by decide) ?_
    refine zi_icmp_le 20 d_lr_reserve_7 (by decide) (by first | assumption | exact ⟨by omega, by omega⟩) (by first | assumption | exact ⟨by omega, by omega⟩) (fun h7 => ?_) (fun h7 => ?_)
    · refine zr_aload_n d_lr_reserve_20 rfl ?_
      refine zi_getr (j := 5) d_lr_reserve_21 zC7 fl_lr_55 (by decide) rfl rfl ?_
      refine zi_iload_n d_lr_reserve_24 rfl ?_
      refine c_lr_reserve_25 rfl rfl (cu_hasDate hA C.e C.e6 zx) ?_
      refine zi_if_ne 41 d_lr_reserve_28 (by decide) (by split <;> exact ⟨by decide, by decide⟩) (fun h28 => ?_) (fun h28 => ?_)
      · exfalso
        grind
      · refine zr_aload_n d_lr_reserve_31 rfl ?_
        refine zi_getr (j := 5) d_lr_reserve_32 zC7 fl_lr_55 (by decide) rfl rfl ?_
        refine c_lr_reserve_35 rfl rfl (cu_datesAreFull (hA _ _)) ?_
        refine zi_if_eq 51 d_lr_reserve_38 (by decide) (by split <;> exact ⟨by decide, by decide⟩) (fun h38 => ?_) (fun h38 => ?_)
        · refine zr_aload_n d_lr_reserve_51 rfl ?_
          refine zi_getr (j := 5) d_lr_reserve_52 zC7 fl_lr_55 (by decide) rfl rfl ?_
          refine zi_iload_n d_lr_reserve_55 rfl ?_
          refine c_lr_reserve_56 rfl rfl (cu_addDate hA C.e (by omega) zx) ?_
          exact zk_iret rfl d_lr_reserve_59 (Nat.zero_le _) (Nat.zero_le _) (by first | rfl | omega | (split <;> omega) | simp_all) rfl
        · exfalso
          grind
    · exfalso
      grind
theorem lr_reserveX {l : Launch} {d : Nat} {τ : tS} {n R p f e : Nat} (C : Cl τ n R p f e) {x : Int} (zx : zin x) (h : ¬ (0 ≤ x ∧ x ≤ 99)) : zG l (d + 7) M_lr_reserve [.ref 0, vi x] (τ) ("java/lang/IllegalArgumentException") (τ) := by
  refine zMet_of (ls := [.ref 0, vi x]) pn_lr rfl (by simp [vi, Value.category]) rfl rfl ?_
  have hA := C.A
  have hw := C.w
  have hn := C.n
  have hn4 := C.n4
  have hn20 := C.n20
  have hR := C.R
  have hR38 := C.R38
  have zn : zin (τ 1 3) := C.A _ _
  have zR : zin (τ 1 4) := C.A _ _
  have he := C.e
  have he6 := C.e6
  refine zi_iload_n d_lr_reserve_0 rfl ?_
  refine zi_if_lt 10 d_lr_reserve_1 (by decide) (by first | assumption | exact ⟨by omega, by omega⟩) (fun h1 => ?_) (fun h1 => ?_)
  · exact zk_throw (text := "no such date") rfl at_0 (by decide) d_lr_reserve_10 d_lr_reserve_13 d_lr_reserve_14 d_lr_reserve_16 d_lr_reserve_19 rfl rfl (by decide) (by decide)
  · refine zi_iload_n d_lr_reserve_4 rfl ?_
    refine zi_bipush d_lr_reserve_5 (by decide) ?_
    refine zi_icmp_le 20 d_lr_reserve_7 (by decide) (by first | assumption | exact ⟨by omega, by omega⟩) (by first | assumption | exact ⟨by omega, by omega⟩) (fun h7 => ?_) (fun h7 => ?_)
    · exfalso
      grind
    · exact zk_throw (text := "no such date") rfl at_0 (by decide) d_lr_reserve_10 d_lr_reserve_13 d_lr_reserve_14 d_lr_reserve_16 d_lr_reserve_19 rfl rfl (by decide) (by decide)
theorem lr_reserveY {l : Launch} {d : Nat} {τ : tS} {n R p f e : Nat} (C : Cl τ n R p f e) {x : Int} (zx : zin x) (h : 0 ≤ x ∧ x ≤ 99) (h1 : anyN (dtP τ x) e = true ∨ e = 6) : zG l (d + 7) M_lr_reserve [.ref 0, vi x] (τ) ("java/lang/IllegalStateException") (τ) := by
  refine zMet_of (ls := [.ref 0, vi x]) pn_lr rfl (by simp [vi, Value.category]) rfl rfl ?_
  have hA := C.A
  have hw := C.w
  have hn := C.n
  have hn4 := C.n4
  have hn20 := C.n20
  have hR := C.R
  have hR38 := C.R38
  have zn : zin (τ 1 3) := C.A _ _
  have zR : zin (τ 1 4) := C.A _ _
  have he := C.e
  have he6 := C.e6
  refine zi_iload_n d_lr_reserve_0 rfl ?_
  refine zi_if_lt 10 d_lr_reserve_1 (by decide) (by first | assumption | exact ⟨by omega, by omega⟩) (fun h1 => ?_) (fun h1 => ?_)
  · exfalso
    grind
  · refine zi_iload_n d_lr_reserve_4 rfl ?_
    refine zi_bipush d_lr_reserve_5 (by decide) ?_
    refine zi_icmp_le 20 d_lr_reserve_7 (by decide) (by first | assumption | exact ⟨by omega, by omega⟩) (by first | assumption | exact ⟨by omega, by omega⟩) (fun h7 => ?_) (fun h7 => ?_)
    · refine zr_aload_n d_lr_reserve_20 rfl ?_
      refine zi_getr (j := 5) d_lr_reserve_21 zC7 fl_lr_55 (by decide) rfl rfl ?_
      refine zi_iload_n d_lr_reserve_24 rfl ?_
      refine c_lr_reserve_25 rfl rfl (cu_hasDate hA C.e C.e6 zx) ?_
      refine zi_if_ne 41 d_lr_reserve_28 (by decide) (by split <;> exact ⟨by decide, by decide⟩) (fun h28 => ?_) (fun h28 => ?_)
      · exact zk_throw (text := "a reserve date already, or no more dates") rfl at_1 (by decide) d_lr_reserve_41 d_lr_reserve_44 d_lr_reserve_45 d_lr_reserve_47 d_lr_reserve_50 rfl rfl (by decide) (by decide)
      · refine zr_aload_n d_lr_reserve_31 rfl ?_
        refine zi_getr (j := 5) d_lr_reserve_32 zC7 fl_lr_55 (by decide) rfl rfl ?_
        refine c_lr_reserve_35 rfl rfl (cu_datesAreFull (hA _ _)) ?_
        refine zi_if_eq 51 d_lr_reserve_38 (by decide) (by split <;> exact ⟨by decide, by decide⟩) (fun h38 => ?_) (fun h38 => ?_)
        · exfalso
          grind
        · exact zk_throw (text := "a reserve date already, or no more dates") rfl at_1 (by decide) d_lr_reserve_41 d_lr_reserve_44 d_lr_reserve_45 d_lr_reserve_47 d_lr_reserve_50 rfl rfl (by decide) (by decide)
    · exfalso
      grind
def misN (τ : tS) (n R : Nat) : Int := sumI (fun r => ((cnt (misP τ (r : Int)) n : Nat) : Int)) R
theorem sumI_bd {f : Nat → Int} {k : Nat} (h : ∀ i, 0 ≤ f i ∧ f i ≤ k) : ∀ n : Nat, 0 ≤ sumI f n ∧ sumI f n ≤ n * k
  | 0 => ⟨by simp [sumI], by simp [sumI]⟩
  | n + 1 => by
    have h1 := sumI_bd h n
    have h2 := h n
    rw [sumI]
    constructor
    · omega
    · rw [show ((n + 1 : Nat) : Int) = (n : Int) + 1 by omega, Int.add_mul]
      omega
theorem misN_in {τ : tS} {n R : Nat} (hn : n ≤ 20) (hR : R ≤ 38) : 0 ≤ misN τ n R ∧ misN τ n R ≤ 800 := by
  have h := sumI_bd (f := fun r => ((cnt (misP τ (r : Int)) n : Nat) : Int)) (k := 20) (fun i => by have := cnt_le (misP τ (i : Int)) n; show 0 ≤ ((cnt (misP τ (i : Int)) n : Nat) : Int) ∧ _; omega) R
  unfold misN
  omega
theorem lr_catchUp {l : Launch} {d : Nat} {τ : tS} {n R p f e : Nat} (C : Cl τ n R p f e) (h : misN τ n R ≤ 14) : zF l (d + 22) M_lr_catchUp [.ref 0] (τ) (some (vi (crF τ n R e).1)) ((crF τ n R e).2) := by
  refine zMet_of (ls := [.ref 0]) pn_lr rfl (by simp [vi, Value.category]) rfl rfl ?_
  have hA := C.A
  have hw := C.w
  have hn := C.n
  have hn4 := C.n4
  have hn20 := C.n20
  have hR := C.R
  have hR38 := C.R38
  have zn : zin (τ 1 3) := C.A _ _
  have zR : zin (τ 1 4) := C.A _ _
  refine zr_aload_n d_lr_catchUp_0 rfl ?_
  refine zi_getr (j := 4) d_lr_catchUp_1 zC7 fl_lr_46 (by decide) rfl rfl ?_
  refine c_lr_catchUp_4 rfl rfl (wo_missingInAll hA hw hn hn20 C.wash hR hR38) ?_
  show zV _ _ _ _ _ (vi (misN τ n R) :: _) _ _ _
  have hmi := misN_in (τ := τ) hn20 hR38
  refine zi_bipush d_lr_catchUp_7 (by decide) ?_
  refine zi_icmp_le 22 d_lr_catchUp_9 (by decide) (by first | assumption | exact ⟨by omega, by omega⟩) (by first | assumption | exact ⟨by omega, by omega⟩) (fun h9 => ?_) (fun h9 => ?_)
  · refine zr_aload_n d_lr_catchUp_22 rfl ?_
    refine zi_getr (j := 5) d_lr_catchUp_23 zC7 fl_lr_55 (by decide) rfl rfl ?_
    refine c_lr_catchUp_26 rfl rfl (cu_run hA hw hn hn20 hR hR38 C.wash C.e C.e6 C.tk (fun r t h1 h2 h3 => by have := C.opp r t h1 h2 h3; omega)) ?_
    exact zk_iret rfl d_lr_catchUp_29 (Nat.zero_le _) (Nat.zero_le _) (by first | rfl | omega | (split <;> omega) | simp_all) rfl
  · exfalso
    grind
theorem lr_catchUpX {l : Launch} {d : Nat} {τ : tS} {n R p f e : Nat} (C : Cl τ n R p f e) (h : ¬ misN τ n R ≤ 14) : zG l (d + 22) M_lr_catchUp [.ref 0] (τ) ("java/lang/IllegalStateException") (τ) := by
  refine zMet_of (ls := [.ref 0]) pn_lr rfl (by simp [vi, Value.category]) rfl rfl ?_
  have hA := C.A
  have hw := C.w
  have hn := C.n
  have hn4 := C.n4
  have hn20 := C.n20
  have hR := C.R
  have hR38 := C.R38
  have zn : zin (τ 1 3) := C.A _ _
  have zR : zin (τ 1 4) := C.A _ _
  refine zr_aload_n d_lr_catchUp_0 rfl ?_
  refine zi_getr (j := 4) d_lr_catchUp_1 zC7 fl_lr_46 (by decide) rfl rfl ?_
  refine c_lr_catchUp_4 rfl rfl (wo_missingInAll hA hw hn hn20 C.wash hR hR38) ?_
  show zV _ _ _ _ _ (vi (misN τ n R) :: _) _ _ _
  have hmi := misN_in (τ := τ) hn20 hR38
  refine zi_bipush d_lr_catchUp_7 (by decide) ?_
  refine zi_icmp_le 22 d_lr_catchUp_9 (by decide) (by first | assumption | exact ⟨by omega, by omega⟩) (by first | assumption | exact ⟨by omega, by omega⟩) (fun h9 => ?_) (fun h9 => ?_)
  · exfalso
    grind
  · exact zk_throw (text := "too many games are missing") rfl at_1 (by decide) d_lr_catchUp_12 d_lr_catchUp_15 d_lr_catchUp_16 d_lr_catchUp_18 d_lr_catchUp_21 rfl rfl (by decide) (by decide)
theorem lr_catchDate {l : Launch} {d : Nat} {τ : tS} {n R p f e : Nat} (C : Cl τ n R p f e) {r t : Int} (zr : zin r) (zt : zin t) (h : (0 ≤ r ∧ r < R) ∧ (0 ≤ t ∧ t < n)) (hv : τ 3 (r * 20 + t).toNat = 1) : zF l (d + 7) M_lr_catchDate [.ref 0, vi r, vi t] (τ) (some (vi (if τ 19 (r * 20 + t).toNat = -1 then τ 31 (r * 20 + t).toNat else -1))) (τ) := by
  refine zMet_of (ls := [.ref 0, vi r, vi t]) pn_lr rfl (by simp [vi, Value.category]) rfl rfl ?_
  have hA := C.A
  have hw := C.w
  have hn := C.n
  have hn4 := C.n4
  have hn20 := C.n20
  have hR := C.R
  have hR38 := C.R38
  have zn : zin (τ 1 3) := C.A _ _
  have zR : zin (τ 1 4) := C.A _ _
  refine zr_aload_n d_lr_catchDate_0 rfl ?_
  refine zi_iload_n d_lr_catchDate_1 rfl ?_
  refine zi_iload_n d_lr_catchDate_2 rfl ?_
  refine c_lr_catchDate_3 rfl rfl (lr_requireRT C zr zt h) ?_
  refine zr_aload_n d_lr_catchDate_6 rfl ?_
  refine zi_iload_n d_lr_catchDate_7 rfl ?_
  refine zi_iload_n d_lr_catchDate_8 rfl ?_
  refine c_lr_catchDate_9 rfl rfl (lr_requireHome C zr zt h hv) ?_
  refine zr_aload_n d_lr_catchDate_12 rfl ?_
  refine zi_getr (j := 3) d_lr_catchDate_13 zC7 fl_lr_37 (by decide) rfl rfl ?_
  refine zi_iload_n d_lr_catchDate_16 rfl ?_
  refine zi_iload_n d_lr_catchDate_17 rfl ?_
  refine c_lr_catchDate_18 rfl rfl (re_has ⟨by omega, by omega⟩ ⟨by omega, by omega⟩ (hA _ _)) ?_
  refine zi_if_eq 28 d_lr_catchDate_21 (by decide) (by split <;> exact ⟨by decide, by decide⟩) (fun h21 => ?_) (fun h21 => ?_)
  · refine zr_aload_n d_lr_catchDate_28 rfl ?_
    refine zi_getr (j := 5) d_lr_catchDate_29 zC7 fl_lr_55 (by decide) rfl rfl ?_
    refine zi_iload_n d_lr_catchDate_32 rfl ?_
    refine zi_iload_n d_lr_catchDate_33 rfl ?_
    refine c_lr_catchDate_34 rfl rfl (cu_dateAt ⟨by omega, by omega⟩ ⟨by omega, by omega⟩) ?_
    exact zk_iret rfl d_lr_catchDate_37 (Nat.zero_le _) (Nat.zero_le _) (by grind) rfl
  · refine zi_iconst d_lr_catchDate_24 ?_
    refine zr_goto 37 d_lr_catchDate_25 (by decide) ?_
    exact zk_iret rfl d_lr_catchDate_37 (Nat.zero_le _) (Nat.zero_le _) (by grind) rfl
theorem lr_catchDateX1 {l : Launch} {d : Nat} {τ : tS} {n R p f e : Nat} (C : Cl τ n R p f e) {r t : Int} (zr : zin r) (zt : zin t) (h : ¬ ((0 ≤ r ∧ r < R) ∧ (0 ≤ t ∧ t < n))) : zG l (d + 7) M_lr_catchDate [.ref 0, vi r, vi t] (τ) ("java/lang/IndexOutOfBoundsException") (τ) := by
  refine zMet_of (ls := [.ref 0, vi r, vi t]) pn_lr rfl (by simp [vi, Value.category]) rfl rfl ?_
  refine zr_aload_n d_lr_catchDate_0 rfl ?_
  refine zi_iload_n d_lr_catchDate_1 rfl ?_
  refine zi_iload_n d_lr_catchDate_2 rfl ?_
  exact x_lr_catchDate_3 rfl (lr_requireRTX C zr zt h)
theorem lr_catchDateX2 {l : Launch} {d : Nat} {τ : tS} {n R p f e : Nat} (C : Cl τ n R p f e) {r t : Int} (zr : zin r) (zt : zin t) (h : (0 ≤ r ∧ r < R) ∧ (0 ≤ t ∧ t < n)) (hX : zG l (d + 6) M_lr_requireHomeGame [.ref 0, vi r, vi t] τ "java/util/NoSuchElementException" τ) : zG l (d + 7) M_lr_catchDate [.ref 0, vi r, vi t] (τ) ("java/util/NoSuchElementException") (τ) := by
  refine zMet_of (ls := [.ref 0, vi r, vi t]) pn_lr rfl (by simp [vi, Value.category]) rfl rfl ?_
  have hA := C.A
  have hw := C.w
  have hn := C.n
  have hn4 := C.n4
  have hn20 := C.n20
  have hR := C.R
  have hR38 := C.R38
  have zn : zin (τ 1 3) := C.A _ _
  have zR : zin (τ 1 4) := C.A _ _
  refine zr_aload_n d_lr_catchDate_0 rfl ?_
  refine zi_iload_n d_lr_catchDate_1 rfl ?_
  refine zi_iload_n d_lr_catchDate_2 rfl ?_
  refine c_lr_catchDate_3 rfl rfl (lr_requireRT C zr zt h) ?_
  refine zr_aload_n d_lr_catchDate_6 rfl ?_
  refine zi_iload_n d_lr_catchDate_7 rfl ?_
  refine zi_iload_n d_lr_catchDate_8 rfl ?_
  exact x_lr_catchDate_9 rfl hX
def mkW (τ : tS) (n all p f b : Nat) : tS := enc (srT τ n all) (srF τ n all p f b).2.1 (srF τ n all p f b).2.2
def mkF (τ : tS) (n all p f b : Nat) : tS := if (srF τ n all p f b).1 = 1 then fsT (toT (bgT (mkW τ n all p f b) n all) (mkW τ n all p f b) n all 0) else mkW τ n all p f b
theorem Cl.S {τ : tS} {n R p f e all : Nat} (C : Cl τ n R p f e) (h8 : n ≤ 8) (hall : all = n - 1 + n % 2) : SOk (srT τ n all) n all p f := srT_ok C.A C.w13 C.b5 C.b6 C.p C.p6 (fun i hi => by have := C.pr i hi; omega) C.f C.f6 C.n4 h8 (by omega)
theorem srT_ne (τ : tS) (n all q j : Nat) (h12 : q ≠ 12) (h13 : q ≠ 13) : srT τ n all q j = τ q j := by simp [srT, tU, h12, h13]
theorem mkW_ne (τ : tS) (n all p f b q j : Nat) (h : ¬ (q = 12 ∨ q = 13 ∨ q = 14 ∨ q = 15 ∨ q = 16 ∨ q = 17)) : mkW τ n all p f b q j = τ q j := by rw [mkW, enc_ne _ _ _ _ _ (by omega), srT_ne _ _ _ _ _ (by omega) (by omega)]
theorem mkW_13 (τ : tS) (n all p f b j : Nat) : mkW τ n all p f b 13 j = srT τ n all 13 j := by rw [mkW, enc_ne _ _ _ _ _ (by decide)]
theorem lr_make {l : Launch} {d : Nat} {τ : tS} {n R p f e : Nat} (C : Cl τ n R p f e) {b all : Nat} (hb : 1 ≤ b ∧ b ≤ 4000) (h8 : n ≤ 8) (hall : all = n - 1 + n % 2) : zF l (d + 64) M_lr_make [.ref 0, vi (b : Int)] (τ) (some (vi (srF τ n all p f b).1)) (mkF τ n all p f b) := by
  refine zMet_of (ls := [.ref 0, vi (b : Int), .null]) pn_lr rfl (by simp [vi, Value.category]) rfl rfl ?_
  have hA := C.A
  have hw := C.w
  have hn := C.n
  have hn4 := C.n4
  have hn20 := C.n20
  have hR := C.R
  have hR38 := C.R38
  have zn : zin (τ 1 3) := C.A _ _
  have zR : zin (τ 1 4) := C.A _ _
  refine zi_iload_n d_lr_make_0 rfl ?_
  refine zi_iconst d_lr_make_1 ?_
  refine zi_icmp_lt 12 d_lr_make_2 (by decide) (by first | assumption | exact ⟨by omega, by omega⟩) (by first | assumption | exact ⟨by omega, by omega⟩) (fun h2 => ?_) (fun h2 => ?_)
  · exfalso
    grind
  · refine zi_iload_n d_lr_make_5 rfl ?_
    refine zi_sipush d_lr_make_6 (by decide) ?_
    refine zi_icmp_le 22 d_lr_make_9 (by decide) (by first | assumption | exact ⟨by omega, by omega⟩) (by first | assumption | exact ⟨by omega, by omega⟩) (fun h9 => ?_) (fun h9 => ?_)
    · refine zr_aload_n d_lr_make_22 rfl ?_
      refine zi_getr (j := 0) d_lr_make_23 zC7 fl_lr_14 (by decide) rfl rfl ?_
      refine c_lr_make_26 rfl rfl (tt1_teamCount) ?_
      show zV _ _ _ _ _ (vi _ :: _) _ _ _
      rw [hn]
      refine zi_bipush d_lr_make_29 (by decide) ?_
      refine zi_icmp_le 44 d_lr_make_31 (by decide) (by first | assumption | exact ⟨by omega, by omega⟩) (by first | assumption | exact ⟨by omega, by omega⟩) (fun h31 => ?_) (fun h31 => ?_)
      · refine zr_aload_n d_lr_make_44 rfl ?_
        refine zi_getr (j := 2) d_lr_make_45 zC7 fl_lr_30 (by decide) rfl rfl ?_
        refine zr_aload_n d_lr_make_48 rfl ?_
        refine zi_getr (j := 0) d_lr_make_49 zC7 fl_lr_14 (by decide) rfl rfl ?_
        refine c_lr_make_52 rfl rfl (tt1_teamCount) ?_
        show zV _ _ _ _ _ (vi _ :: _) _ _ _
        rw [hn]
        refine zi_iload_n d_lr_make_55 rfl ?_
        refine c_lr_make_56 rfl rfl (se_run (p := p) (f := f) (by omega) hall (C.S h8 hall)) ?_
        change zV l (d + 64) M_lr_make 59 _ (vi (srF τ n all p f b).1 :: _) (mkW τ n all p f b) _ _
        refine zi_istore_n d_lr_make_59 (by decide) rfl ?_
        refine zi_iload_n d_lr_make_60 rfl ?_
        refine zi_iconst d_lr_make_61 ?_
        refine zi_icmp_ne 83 d_lr_make_62 (by decide) (rz (goF_ok 28 D0 0 b)) (by first | assumption | exact ⟨by omega, by omega⟩) (fun h62 => ?_) (fun h62 => ?_)
        · refine zi_iload_n d_lr_make_83 rfl ?_
          exact zk_iret rfl d_lr_make_84 (Nat.zero_le _) (Nat.zero_le _) rfl (by unfold mkF; first | (rw [if_neg h62]; done) | (rw [if_pos (by omega)]; done))
        · refine zr_aload_n d_lr_make_65 rfl ?_
          refine zi_getr (j := 0) d_lr_make_66 zC7 fl_lr_14 (by decide) rfl rfl ?_
          refine zr_aload_n d_lr_make_69 rfl ?_
          refine zi_getr (j := 2) d_lr_make_70 zC7 fl_lr_30 (by decide) rfl rfl ?_
          refine c_lr_make_73 rfl rfl (se_found) ?_
          refine c_lr_make_76 rfl rfl (tt_takeOver (n := n) (R := all) (by rw [mkW_ne _ _ _ _ _ _ _ _ (by decide)]; exact hw) (by rw [mkW_13]; simp [srT, tU, C.w13]) (by rw [mkW_13]; simp [srT, tU]) (by rw [mkW_13]; simp [srT, tU]) h8 (by omega)) ?_
          refine zr_aload_n d_lr_make_79 rfl ?_
          refine c_lr_make_80 rfl rfl (lr_forgetSeason) ?_
          refine zi_iload_n d_lr_make_83 rfl ?_
          exact zk_iret rfl d_lr_make_84 (Nat.zero_le _) (Nat.zero_le _) rfl (by unfold mkF; first | (rw [if_neg h62]; done) | (rw [if_pos (by omega)]; done))
      · exfalso
        grind
    · exfalso
      grind
theorem lr_makeX {l : Launch} {d : Nat} {τ : tS} {n R p f e : Nat} (C : Cl τ n R p f e) {b : Int} (zb : zin b) (h : ¬ (1 ≤ b ∧ b ≤ 4000)) : zG l (d + 64) M_lr_make [.ref 0, vi b] (τ) ("java/lang/IllegalArgumentException") (τ) := by
  refine zMet_of (ls := [.ref 0, vi b, .null]) pn_lr rfl (by simp [vi, Value.category]) rfl rfl ?_
  have hA := C.A
  have hw := C.w
  have hn := C.n
  have hn4 := C.n4
  have hn20 := C.n20
  have hR := C.R
  have hR38 := C.R38
  have zn : zin (τ 1 3) := C.A _ _
  have zR : zin (τ 1 4) := C.A _ _
  refine zi_iload_n d_lr_make_0 rfl ?_
  refine zi_iconst d_lr_make_1 ?_
  refine zi_icmp_lt 12 d_lr_make_2 (by decide) (by first | assumption | exact ⟨by omega, by omega⟩) (by first | assumption | exact ⟨by omega, by omega⟩) (fun h2 => ?_) (fun h2 => ?_)
  · exact zk_throw (text := "no such budget") rfl at_0 (by decide) d_lr_make_12 d_lr_make_15 d_lr_make_16 d_lr_make_18 d_lr_make_21 rfl rfl (by decide) (by decide)
  · refine zi_iload_n d_lr_make_5 rfl ?_
    refine zi_sipush d_lr_make_6 (by decide) ?_
    refine zi_icmp_le 22 d_lr_make_9 (by decide) (by first | assumption | exact ⟨by omega, by omega⟩) (by first | assumption | exact ⟨by omega, by omega⟩) (fun h9 => ?_) (fun h9 => ?_)
    · exfalso
      grind
    · exact zk_throw (text := "no such budget") rfl at_0 (by decide) d_lr_make_12 d_lr_make_15 d_lr_make_16 d_lr_make_18 d_lr_make_21 rfl rfl (by decide) (by decide)
theorem lr_makeY {l : Launch} {d : Nat} {τ : tS} {n R p f e : Nat} (C : Cl τ n R p f e) {b : Int} (zb : zin b) (h : 1 ≤ b ∧ b ≤ 4000) (h8 : ¬ n ≤ 8) : zG l (d + 64) M_lr_make [.ref 0, vi b] (τ) ("java/lang/IllegalStateException") (τ) := by
  refine zMet_of (ls := [.ref 0, vi b, .null]) pn_lr rfl (by simp [vi, Value.category]) rfl rfl ?_
  have hA := C.A
  have hw := C.w
  have hn := C.n
  have hn4 := C.n4
  have hn20 := C.n20
  have hR := C.R
  have hR38 := C.R38
  have zn : zin (τ 1 3) := C.A _ _
  have zR : zin (τ 1 4) := C.A _ _
  refine zi_iload_n d_lr_make_0 rfl ?_
  refine zi_iconst d_lr_make_1 ?_
  refine zi_icmp_lt 12 d_lr_make_2 (by decide) (by first | assumption | exact ⟨by omega, by omega⟩) (by first | assumption | exact ⟨by omega, by omega⟩) (fun h2 => ?_) (fun h2 => ?_)
  · exfalso
    grind
  · refine zi_iload_n d_lr_make_5 rfl ?_
    refine zi_sipush d_lr_make_6 (by decide) ?_
    refine zi_icmp_le 22 d_lr_make_9 (by decide) (by first | assumption | exact ⟨by omega, by omega⟩) (by first | assumption | exact ⟨by omega, by omega⟩) (fun h9 => ?_) (fun h9 => ?_)
    · refine zr_aload_n d_lr_make_22 rfl ?_
      refine zi_getr (j := 0) d_lr_make_23 zC7 fl_lr_14 (by decide) rfl rfl ?_
      refine c_lr_make_26 rfl rfl (tt1_teamCount) ?_
      show zV _ _ _ _ _ (vi _ :: _) _ _ _
      rw [hn]
      refine zi_bipush d_lr_make_29 (by decide) ?_
      refine zi_icmp_le 44 d_lr_make_31 (by decide) (by first | assumption | exact ⟨by omega, by omega⟩) (by first | assumption | exact ⟨by omega, by omega⟩) (fun h31 => ?_) (fun h31 => ?_)
      · exfalso
        grind
      · exact zk_throw (text := "too many teams") rfl at_1 (by decide) d_lr_make_34 d_lr_make_37 d_lr_make_38 d_lr_make_40 d_lr_make_43 rfl rfl (by decide) (by decide)
    · exfalso
      grind
