/-! the methods of LeagueRounds (written by wip/gen/t19.py) -/
def Cl (τ : tS) (n R p f e : Nat) : Prop := (AllIn τ) ∧ (τ 1 0 = 20) ∧ (τ 13 0 = 8) ∧ (τ 1 3 = (n : Int)) ∧ (4 ≤ n) ∧ (n ≤ 20) ∧ (τ 1 4 = (R : Int)) ∧ (R ≤ 38) ∧ (∀ j, 0 ≤ τ 5 j) ∧ (∀ j, 0 ≤ τ 6 j) ∧ (τ 4 5 = (p : Int)) ∧ (p ≤ 6) ∧ (∀ i, i < p → (0 ≤ τ 7 i ∧ τ 7 i < n) ∧ (0 ≤ τ 8 i ∧ τ 8 i < n)) ∧ (τ 4 9 = (f : Int)) ∧ (f ≤ 6) ∧ (∀ i, i < f → (0 ≤ τ 9 i ∧ τ 9 i < n) ∧ (0 ≤ τ 10 i ∧ τ 10 i < n) ∧ (0 ≤ τ 11 i ∧ τ 11 i ≤ 38)) ∧ (∀ j, τ 28 j = 0 ∨ τ 28 j = 1) ∧ (τ 29 3 = (e : Int)) ∧ (e ≤ 6) ∧ (∀ j, 0 ≤ τ 36 j) ∧ (∀ r t : Nat, r < R → t < n → τ 3 ((r : Int) * 20 + (t : Int)).toNat = 1 → 0 ≤ τ 2 ((r : Int) * 20 + (t : Int)).toNat ∧ τ 2 ((r : Int) * 20 + (t : Int)).toNat < n) ∧ (∀ q j, 22 ≤ q ∧ q ≤ 26 → -1000000 ≤ τ q j ∧ τ q j ≤ 1000000)
theorem Cl.A {τ : tS} {n R p f e : Nat} (h : Cl τ n R p f e) : AllIn τ := h.1
theorem Cl.w {τ : tS} {n R p f e : Nat} (h : Cl τ n R p f e) : τ 1 0 = 20 := h.2.1
theorem Cl.w13 {τ : tS} {n R p f e : Nat} (h : Cl τ n R p f e) : τ 13 0 = 8 := h.2.2.1
theorem Cl.n {τ : tS} {n R p f e : Nat} (h : Cl τ n R p f e) : τ 1 3 = (n : Int) := h.2.2.2.1
theorem Cl.n4 {τ : tS} {n R p f e : Nat} (h : Cl τ n R p f e) : 4 ≤ n := h.2.2.2.2.1
theorem Cl.n20 {τ : tS} {n R p f e : Nat} (h : Cl τ n R p f e) : n ≤ 20 := h.2.2.2.2.2.1
theorem Cl.R {τ : tS} {n R p f e : Nat} (h : Cl τ n R p f e) : τ 1 4 = (R : Int) := h.2.2.2.2.2.2.1
theorem Cl.R38 {τ : tS} {n R p f e : Nat} (h : Cl τ n R p f e) : R ≤ 38 := h.2.2.2.2.2.2.2.1
theorem Cl.b5 {τ : tS} {n R p f e : Nat} (h : Cl τ n R p f e) : ∀ j, 0 ≤ τ 5 j := h.2.2.2.2.2.2.2.2.1
theorem Cl.b6 {τ : tS} {n R p f e : Nat} (h : Cl τ n R p f e) : ∀ j, 0 ≤ τ 6 j := h.2.2.2.2.2.2.2.2.2.1
theorem Cl.p {τ : tS} {n R p f e : Nat} (h : Cl τ n R p f e) : τ 4 5 = (p : Int) := h.2.2.2.2.2.2.2.2.2.2.1
theorem Cl.p6 {τ : tS} {n R p f e : Nat} (h : Cl τ n R p f e) : p ≤ 6 := h.2.2.2.2.2.2.2.2.2.2.2.1
theorem Cl.pr {τ : tS} {n R p f e : Nat} (h : Cl τ n R p f e) : ∀ i, i < p → (0 ≤ τ 7 i ∧ τ 7 i < n) ∧ (0 ≤ τ 8 i ∧ τ 8 i < n) := h.2.2.2.2.2.2.2.2.2.2.2.2.1
theorem Cl.f {τ : tS} {n R p f e : Nat} (h : Cl τ n R p f e) : τ 4 9 = (f : Int) := h.2.2.2.2.2.2.2.2.2.2.2.2.2.1
theorem Cl.f6 {τ : tS} {n R p f e : Nat} (h : Cl τ n R p f e) : f ≤ 6 := h.2.2.2.2.2.2.2.2.2.2.2.2.2.2.1
theorem Cl.fx {τ : tS} {n R p f e : Nat} (h : Cl τ n R p f e) : ∀ i, i < f → (0 ≤ τ 9 i ∧ τ 9 i < n) ∧ (0 ≤ τ 10 i ∧ τ 10 i < n) ∧ (0 ≤ τ 11 i ∧ τ 11 i ≤ 38) := h.2.2.2.2.2.2.2.2.2.2.2.2.2.2.2.1
theorem Cl.wash {τ : tS} {n R p f e : Nat} (h : Cl τ n R p f e) : ∀ j, τ 28 j = 0 ∨ τ 28 j = 1 := h.2.2.2.2.2.2.2.2.2.2.2.2.2.2.2.2.1
theorem Cl.e {τ : tS} {n R p f e : Nat} (h : Cl τ n R p f e) : τ 29 3 = (e : Int) := h.2.2.2.2.2.2.2.2.2.2.2.2.2.2.2.2.2.1
theorem Cl.e6 {τ : tS} {n R p f e : Nat} (h : Cl τ n R p f e) : e ≤ 6 := h.2.2.2.2.2.2.2.2.2.2.2.2.2.2.2.2.2.2.1
theorem Cl.tk {τ : tS} {n R p f e : Nat} (h : Cl τ n R p f e) : ∀ j, 0 ≤ τ 36 j := h.2.2.2.2.2.2.2.2.2.2.2.2.2.2.2.2.2.2.2.1
theorem Cl.opp {τ : tS} {n R p f e : Nat} (h : Cl τ n R p f e) : ∀ r t : Nat, r < R → t < n → τ 3 ((r : Int) * 20 + (t : Int)).toNat = 1 → 0 ≤ τ 2 ((r : Int) * 20 + (t : Int)).toNat ∧ τ 2 ((r : Int) * 20 + (t : Int)).toNat < n := h.2.2.2.2.2.2.2.2.2.2.2.2.2.2.2.2.2.2.2.2.1
theorem Cl.st {τ : tS} {n R p f e : Nat} (h : Cl τ n R p f e) : ∀ q j, 22 ≤ q ∧ q ≤ 26 → -1000000 ≤ τ q j ∧ τ q j ≤ 1000000 := h.2.2.2.2.2.2.2.2.2.2.2.2.2.2.2.2.2.2.2.2.2
def fsT (τ : tS) : tS := tF (tU (tU (tF (reF τ) 28 38 0) 27 3 0) 29 3 0) 31 760 (-1)
theorem lr_forgetSeason {l : Launch} {d : Nat} {τ : tS} : zF l (d + 4) M_lr_forgetSeason [.ref 0] (τ) (none) (fsT τ) := by
  refine zMet_of (ls := [.ref 0]) pn_lr rfl (by simp [vi, Value.category]) rfl rfl ?_
  refine zr_aload_n d_lr_forgetSeason_0 rfl ?_
  refine zi_getr (j := 3) d_lr_forgetSeason_1 zC7 fl_lr_37 (by decide) rfl rfl ?_
  refine c_lr_forgetSeason_4 rfl rfl (re_forget) ?_
  refine zr_aload_n d_lr_forgetSeason_7 rfl ?_
  refine zi_getr (j := 4) d_lr_forgetSeason_8 zC7 fl_lr_46 (by decide) rfl rfl ?_
  refine c_lr_forgetSeason_11 rfl rfl (wo_forget) ?_
  refine zr_aload_n d_lr_forgetSeason_14 rfl ?_
  refine zi_getr (j := 5) d_lr_forgetSeason_15 zC7 fl_lr_55 (by decide) rfl rfl ?_
  refine c_lr_forgetSeason_18 rfl rfl (cu_forget) ?_
  exact zk_vret rfl d_lr_forgetSeason_21 (Nat.zero_le _) (Nat.zero_le _) rfl
theorem lr_teams {l : Launch} {d : Nat} {τ : tS} {k : Int} (hk : 4 ≤ k ∧ k ≤ 20) : zF l (d + 6) M_lr_teams [.ref 0, vi k] (τ) (none) (fsT (wiF (tF (tF (tU (tU τ 1 3 k) 1 4 0) 2 760 (-1)) 3 760 (-1)))) := by
  refine zMet_of (ls := [.ref 0, vi k]) pn_lr rfl (by simp [vi, Value.category]) rfl rfl ?_
  refine zi_iload_n d_lr_teams_0 rfl ?_
  refine zi_iconst d_lr_teams_1 ?_
  refine zi_icmp_lt 11 d_lr_teams_2 (by decide) (by first | assumption | exact ⟨by omega, by omega⟩) (by first | assumption | exact ⟨by omega, by omega⟩) (fun h2 => ?_) (fun h2 => ?_)
  · exfalso
    grind
  · refine zi_iload_n d_lr_teams_5 rfl ?_
    refine zi_bipush d_lr_teams_6 (by decide) ?_
    refine zi_icmp_le 21 d_lr_teams_8 (by decide) (by first | assumption | exact ⟨by omega, by omega⟩) (by first | assumption | exact ⟨by omega, by omega⟩) (fun h8 => ?_) (fun h8 => ?_)
    · refine zr_aload_n d_lr_teams_21 rfl ?_
      refine zi_getr (j := 0) d_lr_teams_22 zC7 fl_lr_14 (by decide) rfl rfl ?_
      refine zi_iload_n d_lr_teams_25 rfl ?_
      refine zi_iconst d_lr_teams_26 ?_
      refine c_lr_teams_27 rfl rfl (tt1_begin) ?_
      refine zr_aload_n d_lr_teams_30 rfl ?_
      refine zi_getr (j := 1) d_lr_teams_31 zC7 fl_lr_21 (by decide) rfl rfl ?_
      refine c_lr_teams_34 rfl rfl (wi_forget) ?_
      refine zr_aload_n d_lr_teams_37 rfl ?_
      refine c_lr_teams_38 rfl rfl (lr_forgetSeason) ?_
      exact zk_vret rfl d_lr_teams_41 (Nat.zero_le _) (Nat.zero_le _) rfl
    · exfalso
      grind
theorem lr_teamsX {l : Launch} {d : Nat} {τ : tS} {k : Int} (zk : zin k) (hk : ¬ (4 ≤ k ∧ k ≤ 20)) : zG l (d + 6) M_lr_teams [.ref 0, vi k] (τ) ("java/lang/IllegalArgumentException") (τ) := by
  refine zMet_of (ls := [.ref 0, vi k]) pn_lr rfl (by simp [vi, Value.category]) rfl rfl ?_
  refine zi_iload_n d_lr_teams_0 rfl ?_
  refine zi_iconst d_lr_teams_1 ?_
  refine zi_icmp_lt 11 d_lr_teams_2 (by decide) (by first | assumption | exact ⟨by omega, by omega⟩) (by first | assumption | exact ⟨by omega, by omega⟩) (fun h2 => ?_) (fun h2 => ?_)
  · exact zk_throw (text := "no such number of teams") rfl at_0 (by decide) d_lr_teams_11 d_lr_teams_14 d_lr_teams_15 d_lr_teams_17 d_lr_teams_20 rfl rfl (by decide) (by decide)
  · refine zi_iload_n d_lr_teams_5 rfl ?_
    refine zi_bipush d_lr_teams_6 (by decide) ?_
    refine zi_icmp_le 21 d_lr_teams_8 (by decide) (by first | assumption | exact ⟨by omega, by omega⟩) (by first | assumption | exact ⟨by omega, by omega⟩) (fun h8 => ?_) (fun h8 => ?_)
    · exfalso
      grind
    · exact zk_throw (text := "no such number of teams") rfl at_0 (by decide) d_lr_teams_11 d_lr_teams_14 d_lr_teams_15 d_lr_teams_17 d_lr_teams_20 rfl rfl (by decide) (by decide)
theorem lr_ban {l : Launch} {d : Nat} {τ : tS} {n R p f e : Nat} (C : Cl τ n R p f e) {t r v x : Int} {τ' : tS} (zt : zin t) (zr : zin r) (zv : zin v) (h : (0 ≤ t ∧ t < n) ∧ (0 ≤ r ∧ r ≤ 38) ∧ (v = 0 ∨ v = 1)) (hM : zF l (d + 6) M_wi_addBan [.ref 4, vi t, vi r, vi v] τ (some (vi x)) τ') : zF l (d + 7) M_lr_ban [.ref 0, vi t, vi r, vi v] (τ) (some (vi x)) (τ') := by
  refine zMet_of (ls := [.ref 0, vi t, vi r, vi v]) pn_lr rfl (by simp [vi, Value.category]) rfl rfl ?_
  have hA := C.A
  have hw := C.w
  have hn := C.n
  have hn4 := C.n4
  have hn20 := C.n20
  have hR := C.R
  have hR38 := C.R38
  have zn : zin (τ 1 3) := C.A _ _
  have zR : zin (τ 1 4) := C.A _ _
  refine zr_aload_n d_lr_ban_0 rfl ?_
  refine zi_getr (j := 0) d_lr_ban_1 zC7 fl_lr_14 (by decide) rfl rfl ?_
  refine zi_iload_n d_lr_ban_4 rfl ?_
  refine c_lr_ban_5 rfl rfl (tt1_hasTeam zt zn) ?_
  refine zi_if_eq 18 d_lr_ban_8 (by decide) (by split <;> exact ⟨by decide, by decide⟩) (fun h8 => ?_) (fun h8 => ?_)
  · exfalso
    grind
  · refine zi_iload_n d_lr_ban_11 rfl ?_
    refine c_lr_ban_12 rfl (lr_isWishRound zr) ?_
    refine zi_if_ne 28 d_lr_ban_15 (by decide) (by split <;> exact ⟨by decide, by decide⟩) (fun h15 => ?_) (fun h15 => ?_)
    · refine zi_iload_n d_lr_ban_28 rfl ?_
      refine zi_if_eq 47 d_lr_ban_29 (by decide) (by first | assumption | exact ⟨by omega, by omega⟩) (fun h29 => ?_) (fun h29 => ?_)
      · refine zr_aload_n d_lr_ban_47 rfl ?_
        refine zi_getr (j := 1) d_lr_ban_48 zC7 fl_lr_21 (by decide) rfl rfl ?_
        refine zi_iload_n d_lr_ban_51 rfl ?_
        refine zi_iload_n d_lr_ban_52 rfl ?_
        refine zi_iload_n d_lr_ban_53 rfl ?_
        refine c_lr_ban_54 rfl rfl (hM) ?_
        exact zk_iret rfl d_lr_ban_57 (Nat.zero_le _) (Nat.zero_le _) (by first | rfl | omega | (split <;> omega) | simp_all) rfl
      · refine zi_iload_n d_lr_ban_32 rfl ?_
        refine zi_iconst d_lr_ban_33 ?_
        refine zi_icmp_eq 47 d_lr_ban_34 (by decide) (by first | assumption | exact ⟨by omega, by omega⟩) (by first | assumption | exact ⟨by omega, by omega⟩) (fun h34 => ?_) (fun h34 => ?_)
        · refine zr_aload_n d_lr_ban_47 rfl ?_
          refine zi_getr (j := 1) d_lr_ban_48 zC7 fl_lr_21 (by decide) rfl rfl ?_
          refine zi_iload_n d_lr_ban_51 rfl ?_
          refine zi_iload_n d_lr_ban_52 rfl ?_
          refine zi_iload_n d_lr_ban_53 rfl ?_
          refine c_lr_ban_54 rfl rfl (hM) ?_
          exact zk_iret rfl d_lr_ban_57 (Nat.zero_le _) (Nat.zero_le _) (by first | rfl | omega | (split <;> omega) | simp_all) rfl
        · exfalso
          grind
    · exfalso
      grind
theorem lr_banX {l : Launch} {d : Nat} {τ : tS} {n R p f e : Nat} (C : Cl τ n R p f e) {t r v : Int} (zt : zin t) (zr : zin r) (zv : zin v) (h : ¬ ((0 ≤ t ∧ t < n) ∧ (0 ≤ r ∧ r ≤ 38) ∧ (v = 0 ∨ v = 1))) : zG l (d + 7) M_lr_ban [.ref 0, vi t, vi r, vi v] (τ) ("java/lang/IllegalArgumentException") (τ) := by
  refine zMet_of (ls := [.ref 0, vi t, vi r, vi v]) pn_lr rfl (by simp [vi, Value.category]) rfl rfl ?_
  have hA := C.A
  have hw := C.w
  have hn := C.n
  have hn4 := C.n4
  have hn20 := C.n20
  have hR := C.R
  have hR38 := C.R38
  have zn : zin (τ 1 3) := C.A _ _
  have zR : zin (τ 1 4) := C.A _ _
  refine zr_aload_n d_lr_ban_0 rfl ?_
  refine zi_getr (j := 0) d_lr_ban_1 zC7 fl_lr_14 (by decide) rfl rfl ?_
  refine zi_iload_n d_lr_ban_4 rfl ?_
  refine c_lr_ban_5 rfl rfl (tt1_hasTeam zt zn) ?_
  refine zi_if_eq 18 d_lr_ban_8 (by decide) (by split <;> exact ⟨by decide, by decide⟩) (fun h8 => ?_) (fun h8 => ?_)
  · exact zk_throw (text := "no such team or round") rfl at_0 (by decide) d_lr_ban_18 d_lr_ban_21 d_lr_ban_22 d_lr_ban_24 d_lr_ban_27 rfl rfl (by decide) (by decide)
  · refine zi_iload_n d_lr_ban_11 rfl ?_
    refine c_lr_ban_12 rfl (lr_isWishRound zr) ?_
    refine zi_if_ne 28 d_lr_ban_15 (by decide) (by split <;> exact ⟨by decide, by decide⟩) (fun h15 => ?_) (fun h15 => ?_)
    · refine zi_iload_n d_lr_ban_28 rfl ?_
      refine zi_if_eq 47 d_lr_ban_29 (by decide) (by first | assumption | exact ⟨by omega, by omega⟩) (fun h29 => ?_) (fun h29 => ?_)
      · exfalso
        grind
      · refine zi_iload_n d_lr_ban_32 rfl ?_
        refine zi_iconst d_lr_ban_33 ?_
        refine zi_icmp_eq 47 d_lr_ban_34 (by decide) (by first | assumption | exact ⟨by omega, by omega⟩) (by first | assumption | exact ⟨by omega, by omega⟩) (fun h34 => ?_) (fun h34 => ?_)
        · exfalso
          grind
        · exact zk_throw (text := "no such venue") rfl at_0 (by decide) d_lr_ban_37 d_lr_ban_40 d_lr_ban_41 d_lr_ban_43 d_lr_ban_46 rfl rfl (by decide) (by decide)
    · exact zk_throw (text := "no such team or round") rfl at_0 (by decide) d_lr_ban_18 d_lr_ban_21 d_lr_ban_22 d_lr_ban_24 d_lr_ban_27 rfl rfl (by decide) (by decide)
theorem lr_areTwoTeams {l : Launch} {d : Nat} {τ : tS} {n R p f e : Nat} (C : Cl τ n R p f e) {a b : Int} (za : zin a) (zb : zin b) : zF l (d + 2) M_lr_areTwoTeams [.ref 0, vi a, vi b] (τ) (some (vi (if (0 ≤ a ∧ a < n) ∧ (0 ≤ b ∧ b < n) ∧ ¬ a = b then 1 else 0))) (τ) := by
  refine zMet_of (ls := [.ref 0, vi a, vi b]) pn_lr rfl (by simp [vi, Value.category]) rfl rfl ?_
  have hA := C.A
  have hw := C.w
  have hn := C.n
  have hn4 := C.n4
  have hn20 := C.n20
  have hR := C.R
  have hR38 := C.R38
  have zn : zin (τ 1 3) := C.A _ _
  have zR : zin (τ 1 4) := C.A _ _
  refine zr_aload_n d_lr_areTwoTeams_0 rfl ?_
  refine zi_getr (j := 0) d_lr_areTwoTeams_1 zC7 fl_lr_14 (by decide) rfl rfl ?_
  refine zi_iload_n d_lr_areTwoTeams_4 rfl ?_
  refine c_lr_areTwoTeams_5 rfl rfl (tt1_hasTeam za zn) ?_
  refine zi_if_eq 31 d_lr_areTwoTeams_8 (by decide) (by split <;> exact ⟨by decide, by decide⟩) (fun h8 => ?_) (fun h8 => ?_)
  · refine zi_iconst d_lr_areTwoTeams_31 ?_
    exact zk_zret rfl d_lr_areTwoTeams_32 (Nat.zero_le _) (Nat.zero_le _) (by omega) (by grind) rfl
  · refine zr_aload_n d_lr_areTwoTeams_11 rfl ?_
    refine zi_getr (j := 0) d_lr_areTwoTeams_12 zC7 fl_lr_14 (by decide) rfl rfl ?_
    refine zi_iload_n d_lr_areTwoTeams_15 rfl ?_
    refine c_lr_areTwoTeams_16 rfl rfl (tt1_hasTeam zb zn) ?_
    refine zi_if_eq 31 d_lr_areTwoTeams_19 (by decide) (by split <;> exact ⟨by decide, by decide⟩) (fun h19 => ?_) (fun h19 => ?_)
    · refine zi_iconst d_lr_areTwoTeams_31 ?_
      exact zk_zret rfl d_lr_areTwoTeams_32 (Nat.zero_le _) (Nat.zero_le _) (by omega) (by grind) rfl
    · refine zi_iload_n d_lr_areTwoTeams_22 rfl ?_
      refine zi_iload_n d_lr_areTwoTeams_23 rfl ?_
      refine zi_icmp_eq 31 d_lr_areTwoTeams_24 (by decide) (by first | assumption | exact ⟨by omega, by omega⟩) (by first | assumption | exact ⟨by omega, by omega⟩) (fun h24 => ?_) (fun h24 => ?_)
      · refine zi_iconst d_lr_areTwoTeams_31 ?_
        exact zk_zret rfl d_lr_areTwoTeams_32 (Nat.zero_le _) (Nat.zero_le _) (by omega) (by grind) rfl
      · refine zi_iconst d_lr_areTwoTeams_27 ?_
        refine zr_goto 32 d_lr_areTwoTeams_28 (by decide) ?_
        exact zk_zret rfl d_lr_areTwoTeams_32 (Nat.zero_le _) (Nat.zero_le _) (by omega) (by grind) rfl
theorem lr_shareGround {l : Launch} {d : Nat} {τ : tS} {n R p f e : Nat} (C : Cl τ n R p f e) {a b : Int} (za : zin a) (zb : zin b) (h : (0 ≤ a ∧ a < n) ∧ (0 ≤ b ∧ b < n) ∧ ¬ a = b) (hq : p < 6) : zF l (d + 7) M_lr_shareGround [.ref 0, vi a, vi b] (τ) (some (vi (τ 4 5 + 1))) (wiP τ a b) := by
  refine zMet_of (ls := [.ref 0, vi a, vi b]) pn_lr rfl (by simp [vi, Value.category]) rfl rfl ?_
  have hA := C.A
  have hw := C.w
  have hn := C.n
  have hn4 := C.n4
  have hn20 := C.n20
  have hR := C.R
  have hR38 := C.R38
  have zn : zin (τ 1 3) := C.A _ _
  have zR : zin (τ 1 4) := C.A _ _
  have hp := C.p
  have hp6 := C.p6
  refine zr_aload_n d_lr_shareGround_0 rfl ?_
  refine zi_iload_n d_lr_shareGround_1 rfl ?_
  refine zi_iload_n d_lr_shareGround_2 rfl ?_
  refine c_lr_shareGround_3 rfl rfl (lr_areTwoTeams C za zb) ?_
  refine zi_if_ne 19 d_lr_shareGround_6 (by decide) (by split <;> exact ⟨by decide, by decide⟩) (fun h6 => ?_) (fun h6 => ?_)
  · refine zr_aload_n d_lr_shareGround_19 rfl ?_
    refine zi_getr (j := 1) d_lr_shareGround_20 zC7 fl_lr_21 (by decide) rfl rfl ?_
    refine c_lr_shareGround_23 rfl rfl (wi_pairsAreFull (C.A _ _)) ?_
    refine zi_if_eq 39 d_lr_shareGround_26 (by decide) (by split <;> exact ⟨by decide, by decide⟩) (fun h26 => ?_) (fun h26 => ?_)
    · refine zr_aload_n d_lr_shareGround_39 rfl ?_
      refine zi_getr (j := 1) d_lr_shareGround_40 zC7 fl_lr_21 (by decide) rfl rfl ?_
      refine zi_iload_n d_lr_shareGround_43 rfl ?_
      refine zi_iload_n d_lr_shareGround_44 rfl ?_
      refine c_lr_shareGround_45 rfl rfl (wi_addPair ⟨by omega, by omega⟩) ?_
      exact zk_iret rfl d_lr_shareGround_48 (Nat.zero_le _) (Nat.zero_le _) (by first | rfl | omega | (split <;> omega) | simp_all) rfl
    · exfalso
      grind
  · exfalso
    grind
theorem lr_shareGroundX {l : Launch} {d : Nat} {τ : tS} {n R p f e : Nat} (C : Cl τ n R p f e) {a b : Int} (za : zin a) (zb : zin b) (h : ¬ ((0 ≤ a ∧ a < n) ∧ (0 ≤ b ∧ b < n) ∧ ¬ a = b)) : zG l (d + 7) M_lr_shareGround [.ref 0, vi a, vi b] (τ) ("java/lang/IllegalArgumentException") (τ) := by
  refine zMet_of (ls := [.ref 0, vi a, vi b]) pn_lr rfl (by simp [vi, Value.category]) rfl rfl ?_
  have hA := C.A
  have hw := C.w
  have hn := C.n
  have hn4 := C.n4
  have hn20 := C.n20
  have hR := C.R
  have hR38 := C.R38
  have zn : zin (τ 1 3) := C.A _ _
  have zR : zin (τ 1 4) := C.A _ _
  have hp := C.p
  have hp6 := C.p6
  refine zr_aload_n d_lr_shareGround_0 rfl ?_
  refine zi_iload_n d_lr_shareGround_1 rfl ?_
  refine zi_iload_n d_lr_shareGround_2 rfl ?_
  refine c_lr_shareGround_3 rfl rfl (lr_areTwoTeams C za zb) ?_
  refine zi_if_ne 19 d_lr_shareGround_6 (by decide) (by split <;> exact ⟨by decide, by decide⟩) (fun h6 => ?_) (fun h6 => ?_)
  · exfalso
    grind
  · exact zk_throw (text := "not two teams") rfl at_0 (by decide) d_lr_shareGround_9 d_lr_shareGround_12 d_lr_shareGround_13 d_lr_shareGround_15 d_lr_shareGround_18 rfl rfl (by decide) (by decide)
theorem lr_shareGroundY {l : Launch} {d : Nat} {τ : tS} {n R p f e : Nat} (C : Cl τ n R p f e) {a b : Int} (za : zin a) (zb : zin b) (h : (0 ≤ a ∧ a < n) ∧ (0 ≤ b ∧ b < n) ∧ ¬ a = b) (hq : p = 6) : zG l (d + 7) M_lr_shareGround [.ref 0, vi a, vi b] (τ) ("java/lang/IllegalStateException") (τ) := by
  refine zMet_of (ls := [.ref 0, vi a, vi b]) pn_lr rfl (by simp [vi, Value.category]) rfl rfl ?_
  have hA := C.A
  have hw := C.w
  have hn := C.n
  have hn4 := C.n4
  have hn20 := C.n20
  have hR := C.R
  have hR38 := C.R38
  have zn : zin (τ 1 3) := C.A _ _
  have zR : zin (τ 1 4) := C.A _ _
  have hp := C.p
  have hp6 := C.p6
  refine zr_aload_n d_lr_shareGround_0 rfl ?_
  refine zi_iload_n d_lr_shareGround_1 rfl ?_
  refine zi_iload_n d_lr_shareGround_2 rfl ?_
  refine c_lr_shareGround_3 rfl rfl (lr_areTwoTeams C za zb) ?_
  refine zi_if_ne 19 d_lr_shareGround_6 (by decide) (by split <;> exact ⟨by decide, by decide⟩) (fun h6 => ?_) (fun h6 => ?_)
  · refine zr_aload_n d_lr_shareGround_19 rfl ?_
    refine zi_getr (j := 1) d_lr_shareGround_20 zC7 fl_lr_21 (by decide) rfl rfl ?_
    refine c_lr_shareGround_23 rfl rfl (wi_pairsAreFull (C.A _ _)) ?_
    refine zi_if_eq 39 d_lr_shareGround_26 (by decide) (by split <;> exact ⟨by decide, by decide⟩) (fun h26 => ?_) (fun h26 => ?_)
    · exfalso
      grind
    · exact zk_throw (text := "no more pairs") rfl at_1 (by decide) d_lr_shareGround_29 d_lr_shareGround_32 d_lr_shareGround_33 d_lr_shareGround_35 d_lr_shareGround_38 rfl rfl (by decide) (by decide)
  · exfalso
    grind
theorem lr_fixGame {l : Launch} {d : Nat} {τ : tS} {n R p f e : Nat} (C : Cl τ n R p f e) {a b r : Int} (za : zin a) (zb : zin b) (zr : zin r) (h : ((0 ≤ a ∧ a < n) ∧ (0 ≤ b ∧ b < n) ∧ ¬ a = b) ∧ (0 ≤ r ∧ r ≤ 38)) (hq : f < 6) : zF l (d + 7) M_lr_fixGame [.ref 0, vi a, vi b, vi r] (τ) (some (vi (τ 4 9 + 1))) (wiX τ a b r) := by
  refine zMet_of (ls := [.ref 0, vi a, vi b, vi r]) pn_lr rfl (by simp [vi, Value.category]) rfl rfl ?_
  have hA := C.A
  have hw := C.w
  have hn := C.n
  have hn4 := C.n4
  have hn20 := C.n20
  have hR := C.R
  have hR38 := C.R38
  have zn : zin (τ 1 3) := C.A _ _
  have zR : zin (τ 1 4) := C.A _ _
  have hf := C.f
  have hf6 := C.f6
  refine zr_aload_n d_lr_fixGame_0 rfl ?_
  refine zi_iload_n d_lr_fixGame_1 rfl ?_
  refine zi_iload_n d_lr_fixGame_2 rfl ?_
  refine c_lr_fixGame_3 rfl rfl (lr_areTwoTeams C za zb) ?_
  refine zi_if_eq 16 d_lr_fixGame_6 (by decide) (by split <;> exact ⟨by decide, by decide⟩) (fun h6 => ?_) (fun h6 => ?_)
  · exfalso
    grind
  · refine zi_iload_n d_lr_fixGame_9 rfl ?_
    refine c_lr_fixGame_10 rfl (lr_isWishRound zr) ?_
    refine zi_if_ne 26 d_lr_fixGame_13 (by decide) (by split <;> exact ⟨by decide, by decide⟩) (fun h13 => ?_) (fun h13 => ?_)
    · refine zr_aload_n d_lr_fixGame_26 rfl ?_
      refine zi_getr (j := 1) d_lr_fixGame_27 zC7 fl_lr_21 (by decide) rfl rfl ?_
      refine c_lr_fixGame_30 rfl rfl (wi_fixedAreFull (C.A _ _)) ?_
      refine zi_if_eq 46 d_lr_fixGame_33 (by decide) (by split <;> exact ⟨by decide, by decide⟩) (fun h33 => ?_) (fun h33 => ?_)
      · refine zr_aload_n d_lr_fixGame_46 rfl ?_
        refine zi_getr (j := 1) d_lr_fixGame_47 zC7 fl_lr_21 (by decide) rfl rfl ?_
        refine zi_iload_n d_lr_fixGame_50 rfl ?_
        refine zi_iload_n d_lr_fixGame_51 rfl ?_
        refine zi_iload_n d_lr_fixGame_52 rfl ?_
        refine c_lr_fixGame_53 rfl rfl (wi_addFixed ⟨by omega, by omega⟩) ?_
        exact zk_iret rfl d_lr_fixGame_56 (Nat.zero_le _) (Nat.zero_le _) (by first | rfl | omega | (split <;> omega) | simp_all) rfl
      · exfalso
        grind
    · exfalso
      grind
theorem lr_fixGameX {l : Launch} {d : Nat} {τ : tS} {n R p f e : Nat} (C : Cl τ n R p f e) {a b r : Int} (za : zin a) (zb : zin b) (zr : zin r) (h : ¬ (((0 ≤ a ∧ a < n) ∧ (0 ≤ b ∧ b < n) ∧ ¬ a = b) ∧ (0 ≤ r ∧ r ≤ 38))) : zG l (d + 7) M_lr_fixGame [.ref 0, vi a, vi b, vi r] (τ) ("java/lang/IllegalArgumentException") (τ) := by
  refine zMet_of (ls := [.ref 0, vi a, vi b, vi r]) pn_lr rfl (by simp [vi, Value.category]) rfl rfl ?_
  have hA := C.A
  have hw := C.w
  have hn := C.n
  have hn4 := C.n4
  have hn20 := C.n20
  have hR := C.R
  have hR38 := C.R38
  have zn : zin (τ 1 3) := C.A _ _
  have zR : zin (τ 1 4) := C.A _ _
  have hf := C.f
  have hf6 := C.f6
  refine zr_aload_n d_lr_fixGame_0 rfl ?_
  refine zi_iload_n d_lr_fixGame_1 rfl ?_
  refine zi_iload_n d_lr_fixGame_2 rfl ?_
  refine c_lr_fixGame_3 rfl rfl (lr_areTwoTeams C za zb) ?_
  refine zi_if_eq 16 d_lr_fixGame_6 (by decide) (by split <;> exact ⟨by decide, by decide⟩) (fun h6 => ?_) (fun h6 => ?_)
  · exact zk_throw (text := "not two teams, or no such round") rfl at_0 (by decide) d_lr_fixGame_16 d_lr_fixGame_19 d_lr_fixGame_20 d_lr_fixGame_22 d_lr_fixGame_25 rfl rfl (by decide) (by decide)
  · refine zi_iload_n d_lr_fixGame_9 rfl ?_
    refine c_lr_fixGame_10 rfl (lr_isWishRound zr) ?_
    refine zi_if_ne 26 d_lr_fixGame_13 (by decide) (by split <;> exact ⟨by decide, by decide⟩) (fun h13 => ?_) (fun h13 => ?_)
    · exfalso
      grind
    · exact zk_throw (text := "not two teams, or no such round") rfl at_0 (by decide) d_lr_fixGame_16 d_lr_fixGame_19 d_lr_fixGame_20 d_lr_fixGame_22 d_lr_fixGame_25 rfl rfl (by decide) (by decide)
theorem lr_fixGameY {l : Launch} {d : Nat} {τ : tS} {n R p f e : Nat} (C : Cl τ n R p f e) {a b r : Int} (za : zin a) (zb : zin b) (zr : zin r) (h : ((0 ≤ a ∧ a < n) ∧ (0 ≤ b ∧ b < n) ∧ ¬ a = b) ∧ (0 ≤ r ∧ r ≤ 38)) (hq : f = 6) : zG l (d + 7) M_lr_fixGame [.ref 0, vi a, vi b, vi r] (τ) ("java/lang/IllegalStateException") (τ) := by
  refine zMet_of (ls := [.ref 0, vi a, vi b, vi r]) pn_lr rfl (by simp [vi, Value.category]) rfl rfl ?_
  have hA := C.A
  have hw := C.w
  have hn := C.n
  have hn4 := C.n4
  have hn20 := C.n20
  have hR := C.R
  have hR38 := C.R38
  have zn : zin (τ 1 3) := C.A _ _
  have zR : zin (τ 1 4) := C.A _ _
  have hf := C.f
  have hf6 := C.f6
  refine zr_aload_n d_lr_fixGame_0 rfl ?_
  refine zi_iload_n d_lr_fixGame_1 rfl ?_
  refine zi_iload_n d_lr_fixGame_2 rfl ?_
  refine c_lr_fixGame_3 rfl rfl (lr_areTwoTeams C za zb) ?_
  refine zi_if_eq 16 d_lr_fixGame_6 (by decide) (by split <;> exact ⟨by decide, by decide⟩) (fun h6 => ?_) (fun h6 => ?_)
  · exfalso
    grind
  · refine zi_iload_n d_lr_fixGame_9 rfl ?_
    refine c_lr_fixGame_10 rfl (lr_isWishRound zr) ?_
    refine zi_if_ne 26 d_lr_fixGame_13 (by decide) (by split <;> exact ⟨by decide, by decide⟩) (fun h13 => ?_) (fun h13 => ?_)
    · refine zr_aload_n d_lr_fixGame_26 rfl ?_
      refine zi_getr (j := 1) d_lr_fixGame_27 zC7 fl_lr_21 (by decide) rfl rfl ?_
      refine c_lr_fixGame_30 rfl rfl (wi_fixedAreFull (C.A _ _)) ?_
      refine zi_if_eq 46 d_lr_fixGame_33 (by decide) (by split <;> exact ⟨by decide, by decide⟩) (fun h33 => ?_) (fun h33 => ?_)
      · exfalso
        grind
      · exact zk_throw (text := "no more fixed games") rfl at_1 (by decide) d_lr_fixGame_36 d_lr_fixGame_39 d_lr_fixGame_40 d_lr_fixGame_42 d_lr_fixGame_45 rfl rfl (by decide) (by decide)
    · exfalso
      grind
theorem lr_awayCap {l : Launch} {d : Nat} {τ : tS} {k : Int} (zk : zin k) (hk : 0 ≤ k ∧ k ≤ 19) : zF l (d + 6) M_lr_awayCap [.ref 0, vi k] (τ) (none) (tU τ 4 10 k) := by
  refine zMet_of (ls := [.ref 0, vi k]) pn_lr rfl (by simp [vi, Value.category]) rfl rfl ?_
  refine zi_iload_n d_lr_awayCap_0 rfl ?_
  refine zi_if_lt 10 d_lr_awayCap_1 (by decide) (by first | assumption | exact ⟨by omega, by omega⟩) (fun h1 => ?_) (fun h1 => ?_)
  · exfalso
    grind
  · refine zi_iload_n d_lr_awayCap_4 rfl ?_
    refine zi_bipush d_lr_awayCap_5 (by decide) ?_
    refine zi_icmp_le 20 d_lr_awayCap_7 (by decide) (by first | assumption | exact ⟨by omega, by omega⟩) (by first | assumption | exact ⟨by omega, by omega⟩) (fun h7 => ?_) (fun h7 => ?_)
    · refine zr_aload_n d_lr_awayCap_20 rfl ?_
      refine zi_getr (j := 1) d_lr_awayCap_21 zC7 fl_lr_21 (by decide) rfl rfl ?_
      refine zi_iload_n d_lr_awayCap_24 rfl ?_
      refine c_lr_awayCap_25 rfl rfl (wi_setCap) ?_
      exact zk_vret rfl d_lr_awayCap_28 (Nat.zero_le _) (Nat.zero_le _) rfl
    · exfalso
      grind
theorem lr_awayCapX {l : Launch} {d : Nat} {τ : tS} {k : Int} (zk : zin k) (hk : ¬ (0 ≤ k ∧ k ≤ 19)) : zG l (d + 6) M_lr_awayCap [.ref 0, vi k] (τ) ("java/lang/IllegalArgumentException") (τ) := by
  refine zMet_of (ls := [.ref 0, vi k]) pn_lr rfl (by simp [vi, Value.category]) rfl rfl ?_
  refine zi_iload_n d_lr_awayCap_0 rfl ?_
  refine zi_if_lt 10 d_lr_awayCap_1 (by decide) (by first | assumption | exact ⟨by omega, by omega⟩) (fun h1 => ?_) (fun h1 => ?_)
  · exact zk_throw (text := "no such cap") rfl at_0 (by decide) d_lr_awayCap_10 d_lr_awayCap_13 d_lr_awayCap_14 d_lr_awayCap_16 d_lr_awayCap_19 rfl rfl (by decide) (by decide)
  · refine zi_iload_n d_lr_awayCap_4 rfl ?_
    refine zi_bipush d_lr_awayCap_5 (by decide) ?_
    refine zi_icmp_le 20 d_lr_awayCap_7 (by decide) (by first | assumption | exact ⟨by omega, by omega⟩) (by first | assumption | exact ⟨by omega, by omega⟩) (fun h7 => ?_) (fun h7 => ?_)
    · exfalso
      grind
    · exact zk_throw (text := "no such cap") rfl at_0 (by decide) d_lr_awayCap_10 d_lr_awayCap_13 d_lr_awayCap_14 d_lr_awayCap_16 d_lr_awayCap_19 rfl rfl (by decide) (by decide)
theorem fsT_1 (τ : tS) (j : Nat) : fsT τ 1 j = τ 1 j := by simp [fsT, tF, tU, reF, sdF]
theorem plA_R {τ : tS} {m n R : Nat} (hA : AllIn τ) (hn2 : 4 ≤ n ∧ n ≤ 20) (hm : m = n - 1 + n % 2) (hR : R = m ∨ R = 2 * m) : plA τ m n R 1 4 = (R : Int) := by
  have hm2 : 0 < m ∧ m < 20 := ⟨by omega, by omega⟩
  have ho2 : okT (plS (bgT τ n R) m n m) := okT_plS (okT_bgT hA hn2.2 (by omega)) hm2 hn2.2 (by omega) m (Nat.le_refl _)
  rw [plA, rtS_ne ho2 hm2.2 hn2.2 _ _ (by decide) (by decide) _ (by omega), plS_ne _ _ _ _ _ (by decide) (by decide), bgT_R]
theorem lr_makePlain {l : Launch} {d : Nat} {τ : tS} {n R p f e : Nat} (C : Cl τ n R p f e) {b : Int} {m R' : Nat} (hm : m = n - 1 + n % 2) (hb : b = 0 ∧ R' = m ∨ b = 1 ∧ R' = 2 * m) : zF l (d + 6) M_lr_makePlain [.ref 0, vi b] (τ) (some (vi (R' : Int))) (fsT (plA τ m n R')) := by
  refine zMet_of (ls := [.ref 0, vi b]) pn_lr rfl (by simp [vi, Value.category]) rfl rfl ?_
  have hA := C.A
  have hw := C.w
  have hn := C.n
  have hn4 := C.n4
  have hn20 := C.n20
  have hR := C.R
  have hR38 := C.R38
  have zn : zin (τ 1 3) := C.A _ _
  have zR : zin (τ 1 4) := C.A _ _
  refine zr_aload_n d_lr_makePlain_0 rfl ?_
  refine zi_getr (j := 0) d_lr_makePlain_1 zC7 fl_lr_14 (by decide) rfl rfl ?_
  refine zi_iload_n d_lr_makePlain_4 rfl ?_
  refine c_lr_makePlain_5 rfl rfl (tt_layPlain hA hw hn ⟨hn4, hn20⟩ hm hb) ?_
  refine zr_aload_n d_lr_makePlain_8 rfl ?_
  refine c_lr_makePlain_9 rfl rfl (lr_forgetSeason) ?_
  refine zr_aload_n d_lr_makePlain_12 rfl ?_
  refine zi_getr (j := 0) d_lr_makePlain_13 zC7 fl_lr_14 (by decide) rfl rfl ?_
  refine c_lr_makePlain_16 rfl rfl (tt1_roundCount) ?_
  exact zk_iret rfl d_lr_makePlain_19 (Nat.zero_le _) (Nat.zero_le _) (by rw [fsT_1]; exact plA_R hA ⟨hn4, hn20⟩ hm (by omega)) rfl
theorem lr_rounds {l : Launch} {d : Nat} {τ : tS} {n R p f e : Nat} (C : Cl τ n R p f e) : zF l (d + 2) M_lr_rounds [.ref 0] (τ) (some (vi (R : Int))) (τ) := by
  refine zMet_of (ls := [.ref 0]) pn_lr rfl (by simp [vi, Value.category]) rfl rfl ?_
  have hA := C.A
  have hw := C.w
  have hn := C.n
  have hn4 := C.n4
  have hn20 := C.n20
  have hR := C.R
  have hR38 := C.R38
  have zn : zin (τ 1 3) := C.A _ _
  have zR : zin (τ 1 4) := C.A _ _
  refine zr_aload_n d_lr_rounds_0 rfl ?_
  refine zi_getr (j := 0) d_lr_rounds_1 zC7 fl_lr_14 (by decide) rfl rfl ?_
  refine c_lr_rounds_4 rfl rfl (tt1_roundCount) ?_
  exact zk_iret rfl d_lr_rounds_7 (Nat.zero_le _) (Nat.zero_le _) hR rfl
theorem lr_requireRT {l : Launch} {d : Nat} {τ : tS} {n R p f e : Nat} (C : Cl τ n R p f e) {r t : Int} (zr : zin r) (zt : zin t) (h : (0 ≤ r ∧ r < R) ∧ (0 ≤ t ∧ t < n)) : zF l (d + 6) M_lr_requireRoundAndTeam [.ref 0, vi r, vi t] (τ) (none) (τ) := by
  refine zMet_of (ls := [.ref 0, vi r, vi t]) pn_lr rfl (by simp [vi, Value.category]) rfl rfl ?_
  have hA := C.A
  have hw := C.w
  have hn := C.n
  have hn4 := C.n4
  have hn20 := C.n20
  have hR := C.R
  have hR38 := C.R38
  have zn : zin (τ 1 3) := C.A _ _
  have zR : zin (τ 1 4) := C.A _ _
  refine zr_aload_n d_lr_requireRoundAndTeam_0 rfl ?_
  refine zi_getr (j := 0) d_lr_requireRoundAndTeam_1 zC7 fl_lr_14 (by decide) rfl rfl ?_
  refine zi_iload_n d_lr_requireRoundAndTeam_4 rfl ?_
  refine c_lr_requireRoundAndTeam_5 rfl rfl (tt1_hasRound zr zR) ?_
  refine zi_if_eq 22 d_lr_requireRoundAndTeam_8 (by decide) (by split <;> exact ⟨by decide, by decide⟩) (fun h8 => ?_) (fun h8 => ?_)
  · exfalso
    grind
  · refine zr_aload_n d_lr_requireRoundAndTeam_11 rfl ?_
    refine zi_getr (j := 0) d_lr_requireRoundAndTeam_12 zC7 fl_lr_14 (by decide) rfl rfl ?_
    refine zi_iload_n d_lr_requireRoundAndTeam_15 rfl ?_
    refine c_lr_requireRoundAndTeam_16 rfl rfl (tt1_hasTeam zt zn) ?_
    refine zi_if_ne 33 d_lr_requireRoundAndTeam_19 (by decide) (by split <;> exact ⟨by decide, by decide⟩) (fun h19 => ?_) (fun h19 => ?_)
    · exact zk_vret rfl d_lr_requireRoundAndTeam_33 (Nat.zero_le _) (Nat.zero_le _) rfl
    · exfalso
      grind
theorem lr_requireRTX {l : Launch} {d : Nat} {τ : tS} {n R p f e : Nat} (C : Cl τ n R p f e) {r t : Int} (zr : zin r) (zt : zin t) (h : ¬ ((0 ≤ r ∧ r < R) ∧ (0 ≤ t ∧ t < n))) : zG l (d + 6) M_lr_requireRoundAndTeam [.ref 0, vi r, vi t] (τ) ("java/lang/IndexOutOfBoundsException") (τ) := by
  refine zMet_of (ls := [.ref 0, vi r, vi t]) pn_lr rfl (by simp [vi, Value.category]) rfl rfl ?_
  have hA := C.A
  have hw := C.w
  have hn := C.n
  have hn4 := C.n4
  have hn20 := C.n20
  have hR := C.R
  have hR38 := C.R38
  have zn : zin (τ 1 3) := C.A _ _
  have zR : zin (τ 1 4) := C.A _ _
  refine zr_aload_n d_lr_requireRoundAndTeam_0 rfl ?_
  refine zi_getr (j := 0) d_lr_requireRoundAndTeam_1 zC7 fl_lr_14 (by decide) rfl rfl ?_
  refine zi_iload_n d_lr_requireRoundAndTeam_4 rfl ?_
  refine c_lr_requireRoundAndTeam_5 rfl rfl (tt1_hasRound zr zR) ?_
  refine zi_if_eq 22 d_lr_requireRoundAndTeam_8 (by decide) (by split <;> exact ⟨by decide, by decide⟩) (fun h8 => ?_) (fun h8 => ?_)
  · exact zk_throwW (text := "no such round or team") rfl at_2 (by decide) d_lr_requireRoundAndTeam_22 d_lr_requireRoundAndTeam_25 d_lr_requireRoundAndTeam_26 d_lr_requireRoundAndTeam_29 d_lr_requireRoundAndTeam_32 rfl rfl (by decide) (by decide)
  · refine zr_aload_n d_lr_requireRoundAndTeam_11 rfl ?_
    refine zi_getr (j := 0) d_lr_requireRoundAndTeam_12 zC7 fl_lr_14 (by decide) rfl rfl ?_
    refine zi_iload_n d_lr_requireRoundAndTeam_15 rfl ?_
    refine c_lr_requireRoundAndTeam_16 rfl rfl (tt1_hasTeam zt zn) ?_
    refine zi_if_ne 33 d_lr_requireRoundAndTeam_19 (by decide) (by split <;> exact ⟨by decide, by decide⟩) (fun h19 => ?_) (fun h19 => ?_)
    · exfalso
      grind
    · exact zk_throwW (text := "no such round or team") rfl at_2 (by decide) d_lr_requireRoundAndTeam_22 d_lr_requireRoundAndTeam_25 d_lr_requireRoundAndTeam_26 d_lr_requireRoundAndTeam_29 d_lr_requireRoundAndTeam_32 rfl rfl (by decide) (by decide)
theorem lr_opponent {l : Launch} {d : Nat} {τ : tS} {n R p f e : Nat} (C : Cl τ n R p f e) {r t : Int} (zr : zin r) (zt : zin t) (h : (0 ≤ r ∧ r < R) ∧ (0 ≤ t ∧ t < n)) : zF l (d + 7) M_lr_opponent [.ref 0, vi t, vi r] (τ) (some (vi (τ 2 (r * 20 + t).toNat))) (τ) := by
  refine zMet_of (ls := [.ref 0, vi t, vi r]) pn_lr rfl (by simp [vi, Value.category]) rfl rfl ?_
  have hA := C.A
  have hw := C.w
  have hn := C.n
  have hn4 := C.n4
  have hn20 := C.n20
  have hR := C.R
  have hR38 := C.R38
  have zn : zin (τ 1 3) := C.A _ _
  have zR : zin (τ 1 4) := C.A _ _
  refine zr_aload_n d_lr_opponent_0 rfl ?_
  refine zi_iload_n d_lr_opponent_1 rfl ?_
  refine zi_iload_n d_lr_opponent_2 rfl ?_
  refine c_lr_opponent_3 rfl rfl (lr_requireRT C zr zt h) ?_
  refine zr_aload_n d_lr_opponent_6 rfl ?_
  refine zi_getr (j := 0) d_lr_opponent_7 zC7 fl_lr_14 (by decide) rfl rfl ?_
  refine zi_iload_n d_lr_opponent_10 rfl ?_
  refine zi_iload_n d_lr_opponent_11 rfl ?_
  refine c_lr_opponent_12 rfl rfl (tt1_opponentAt hw ⟨by omega, by omega⟩ ⟨by omega, by omega⟩) ?_
  exact zk_iret rfl d_lr_opponent_15 (Nat.zero_le _) (Nat.zero_le _) (by first | rfl | omega | (split <;> omega) | simp_all) rfl
theorem lr_venue {l : Launch} {d : Nat} {τ : tS} {n R p f e : Nat} (C : Cl τ n R p f e) {r t : Int} (zr : zin r) (zt : zin t) (h : (0 ≤ r ∧ r < R) ∧ (0 ≤ t ∧ t < n)) : zF l (d + 7) M_lr_venue [.ref 0, vi t, vi r] (τ) (some (vi (τ 3 (r * 20 + t).toNat))) (τ) := by
  refine zMet_of (ls := [.ref 0, vi t, vi r]) pn_lr rfl (by simp [vi, Value.category]) rfl rfl ?_
  have hA := C.A
  have hw := C.w
  have hn := C.n
  have hn4 := C.n4
  have hn20 := C.n20
  have hR := C.R
  have hR38 := C.R38
  have zn : zin (τ 1 3) := C.A _ _
  have zR : zin (τ 1 4) := C.A _ _
  refine zr_aload_n d_lr_venue_0 rfl ?_
  refine zi_iload_n d_lr_venue_1 rfl ?_
  refine zi_iload_n d_lr_venue_2 rfl ?_
  refine c_lr_venue_3 rfl rfl (lr_requireRT C zr zt h) ?_
  refine zr_aload_n d_lr_venue_6 rfl ?_
  refine zi_getr (j := 0) d_lr_venue_7 zC7 fl_lr_14 (by decide) rfl rfl ?_
  refine zi_iload_n d_lr_venue_10 rfl ?_
  refine zi_iload_n d_lr_venue_11 rfl ?_
  refine c_lr_venue_12 rfl rfl (tt1_venueAt hw ⟨by omega, by omega⟩ ⟨by omega, by omega⟩) ?_
  exact zk_iret rfl d_lr_venue_15 (Nat.zero_le _) (Nat.zero_le _) (by first | rfl | omega | (split <;> omega) | simp_all) rfl
theorem x_lr_opponent_3 {l : Launch} {d : Nat} {ls rest : List Value} {τ τ' : tS} {E : String} {a1 a2 : Value} (hre : Nat.ble rest.length 4 = true) (hM : zG l d M_lr_requireRoundAndTeam (.ref 0 :: [a1, a2]) τ E τ') : zV l (d + 1) M_lr_opponent 3 ls (a2 :: a1 :: .ref 0 :: rest) τ (0, 0) (.inr E, (SH, zq τ'), 1, 6) := zr_callX (zJ_virt (as := [a1, a2]) d_lr_opponent_3 zC7 rfl ml_lr_151 im_lr_requireRoundAndTeam sl_lr_requireRoundAndTeam cw_lr_requireRoundAndTeam ⟨by decide, by decide⟩ (n := 2) (by decide +kernel) (q := 0) rfl rfl rfl) hM cw_lr_requireRoundAndTeam in_lr (by decide) (Nat.le_of_ble_eq_true hre) rfl rfl (by decide) (by decide)
theorem x_lr_venue_3 {l : Launch} {d : Nat} {ls rest : List Value} {τ τ' : tS} {E : String} {a1 a2 : Value} (hre : Nat.ble rest.length 4 = true) (hM : zG l d M_lr_requireRoundAndTeam (.ref 0 :: [a1, a2]) τ E τ') : zV l (d + 1) M_lr_venue 3 ls (a2 :: a1 :: .ref 0 :: rest) τ (0, 0) (.inr E, (SH, zq τ'), 1, 6) := zr_callX (zJ_virt (as := [a1, a2]) d_lr_venue_3 zC7 rfl ml_lr_151 im_lr_requireRoundAndTeam sl_lr_requireRoundAndTeam cw_lr_requireRoundAndTeam ⟨by decide, by decide⟩ (n := 2) (by decide +kernel) (q := 0) rfl rfl rfl) hM cw_lr_requireRoundAndTeam in_lr (by decide) (Nat.le_of_ble_eq_true hre) rfl rfl (by decide) (by decide)
theorem x_lr_result_3 {l : Launch} {d : Nat} {ls rest : List Value} {τ τ' : tS} {E : String} {a1 a2 : Value} (hre : Nat.ble rest.length 4 = true) (hM : zG l d M_lr_requireRoundAndTeam (.ref 0 :: [a1, a2]) τ E τ') : zV l (d + 1) M_lr_result 3 ls (a2 :: a1 :: .ref 0 :: rest) τ (0, 0) (.inr E, (SH, zq τ'), 1, 6) := zr_callX (zJ_virt (as := [a1, a2]) d_lr_result_3 zC7 rfl ml_lr_151 im_lr_requireRoundAndTeam sl_lr_requireRoundAndTeam cw_lr_requireRoundAndTeam ⟨by decide, by decide⟩ (n := 2) (by decide +kernel) (q := 0) rfl rfl rfl) hM cw_lr_requireRoundAndTeam in_lr (by decide) (Nat.le_of_ble_eq_true hre) rfl rfl (by decide) (by decide)
theorem x_lr_catchDate_3 {l : Launch} {d : Nat} {ls rest : List Value} {τ τ' : tS} {E : String} {a1 a2 : Value} (hre : Nat.ble rest.length 4 = true) (hM : zG l d M_lr_requireRoundAndTeam (.ref 0 :: [a1, a2]) τ E τ') : zV l (d + 1) M_lr_catchDate 3 ls (a2 :: a1 :: .ref 0 :: rest) τ (0, 0) (.inr E, (SH, zq τ'), 1, 6) := zr_callX (zJ_virt (as := [a1, a2]) d_lr_catchDate_3 zC7 rfl ml_lr_151 im_lr_requireRoundAndTeam sl_lr_requireRoundAndTeam cw_lr_requireRoundAndTeam ⟨by decide, by decide⟩ (n := 2) (by decide +kernel) (q := 0) rfl rfl rfl) hM cw_lr_requireRoundAndTeam in_lr (by decide) (Nat.le_of_ble_eq_true hre) rfl rfl (by decide) (by decide)
theorem x_lr_result_34 {l : Launch} {d : Nat} {ls rest : List Value} {τ τ' : tS} {E : String} {a1 a2 : Value} (hre : Nat.ble rest.length 4 = true) (hM : zG l d M_lr_requireHomeGame (.ref 0 :: [a1, a2]) τ E τ') : zV l (d + 1) M_lr_result 34 ls (a2 :: a1 :: .ref 0 :: rest) τ (0, 0) (.inr E, (SH, zq τ'), 1, 6) := zr_callX (zJ_virt (as := [a1, a2]) d_lr_result_34 zC7 rfl ml_lr_195 im_lr_requireHomeGame sl_lr_requireHomeGame cw_lr_requireHomeGame ⟨by decide, by decide⟩ (n := 2) (by decide +kernel) (q := 0) rfl rfl rfl) hM cw_lr_requireHomeGame in_lr (by decide) (Nat.le_of_ble_eq_true hre) rfl rfl (by decide) (by decide)
theorem x_lr_catchDate_9 {l : Launch} {d : Nat} {ls rest : List Value} {τ τ' : tS} {E : String} {a1 a2 : Value} (hre : Nat.ble rest.length 4 = true) (hM : zG l d M_lr_requireHomeGame (.ref 0 :: [a1, a2]) τ E τ') : zV l (d + 1) M_lr_catchDate 9 ls (a2 :: a1 :: .ref 0 :: rest) τ (0, 0) (.inr E, (SH, zq τ'), 1, 6) := zr_callX (zJ_virt (as := [a1, a2]) d_lr_catchDate_9 zC7 rfl ml_lr_195 im_lr_requireHomeGame sl_lr_requireHomeGame cw_lr_requireHomeGame ⟨by decide, by decide⟩ (n := 2) (by decide +kernel) (q := 0) rfl rfl rfl) hM cw_lr_requireHomeGame in_lr (by decide) (Nat.le_of_ble_eq_true hre) rfl rfl (by decide) (by decide)
theorem lr_opponentX {l : Launch} {d : Nat} {τ : tS} {n R p f e : Nat} (C : Cl τ n R p f e) {r t : Int} (zr : zin r) (zt : zin t) (h : ¬ ((0 ≤ r ∧ r < R) ∧ (0 ≤ t ∧ t < n))) : zG l (d + 7) M_lr_opponent [.ref 0, vi t, vi r] (τ) ("java/lang/IndexOutOfBoundsException") (τ) := by
  refine zMet_of (ls := [.ref 0, vi t, vi r]) pn_lr rfl (by simp [vi, Value.category]) rfl rfl ?_
  refine zr_aload_n d_lr_opponent_0 rfl ?_
  refine zi_iload_n d_lr_opponent_1 rfl ?_
  refine zi_iload_n d_lr_opponent_2 rfl ?_
  exact x_lr_opponent_3 rfl (lr_requireRTX C zr zt h)
theorem lr_venueX {l : Launch} {d : Nat} {τ : tS} {n R p f e : Nat} (C : Cl τ n R p f e) {r t : Int} (zr : zin r) (zt : zin t) (h : ¬ ((0 ≤ r ∧ r < R) ∧ (0 ≤ t ∧ t < n))) : zG l (d + 7) M_lr_venue [.ref 0, vi t, vi r] (τ) ("java/lang/IndexOutOfBoundsException") (τ) := by
  refine zMet_of (ls := [.ref 0, vi t, vi r]) pn_lr rfl (by simp [vi, Value.category]) rfl rfl ?_
  refine zr_aload_n d_lr_venue_0 rfl ?_
  refine zi_iload_n d_lr_venue_1 rfl ?_
  refine zi_iload_n d_lr_venue_2 rfl ?_
  exact x_lr_venue_3 rfl (lr_requireRTX C zr zt h)
theorem lr_breaksAll {l : Launch} {d : Nat} {τ : tS} {n R p f e : Nat} (C : Cl τ n R p f e) : zF l (d + 7) M_lr_breaks [.ref 0, vi (-1)] (τ) (some (vi (sumI (fun t => ((cnt (brkP τ (t : Int)) (R - 1) : Nat) : Int)) n))) (τ) := by
  refine zMet_of (ls := [.ref 0, vi (-1)]) pn_lr rfl (by simp [vi, Value.category]) rfl rfl ?_
  have hA := C.A
  have hw := C.w
  have hn := C.n
  have hn4 := C.n4
  have hn20 := C.n20
  have hR := C.R
  have hR38 := C.R38
  have zn : zin (τ 1 3) := C.A _ _
  have zR : zin (τ 1 4) := C.A _ _
  refine zi_iload_n d_lr_breaks_0 rfl ?_
  refine zi_iconst d_lr_breaks_1 ?_
  refine zi_icmp_ne 13 d_lr_breaks_2 (by decide) (by first | assumption | exact ⟨by omega, by omega⟩) (by first | assumption | exact ⟨by omega, by omega⟩) (fun h2 => ?_) (fun h2 => ?_)
  · exfalso
    grind
  · refine zr_aload_n d_lr_breaks_5 rfl ?_
    refine zi_getr (j := 0) d_lr_breaks_6 zC7 fl_lr_14 (by decide) rfl rfl ?_
    refine c_lr_breaks_9 rfl rfl (tt1_breaksOfAll hA hw hR hR38 hn hn20) ?_
    exact zk_iret rfl d_lr_breaks_12 (Nat.zero_le _) (Nat.zero_le _) (by first | rfl | omega | (split <;> omega) | simp_all) rfl
theorem lr_breaks {l : Launch} {d : Nat} {τ : tS} {n R p f e : Nat} (C : Cl τ n R p f e) {t : Int} (zt : zin t) (h : 0 ≤ t ∧ t < n) : zF l (d + 7) M_lr_breaks [.ref 0, vi t] (τ) (some (vi ((cnt (brkP τ t) (R - 1) : Nat) : Int))) (τ) := by
  refine zMet_of (ls := [.ref 0, vi t]) pn_lr rfl (by simp [vi, Value.category]) rfl rfl ?_
  have hA := C.A
  have hw := C.w
  have hn := C.n
  have hn4 := C.n4
  have hn20 := C.n20
  have hR := C.R
  have hR38 := C.R38
  have zn : zin (τ 1 3) := C.A _ _
  have zR : zin (τ 1 4) := C.A _ _
  refine zi_iload_n d_lr_breaks_0 rfl ?_
  refine zi_iconst d_lr_breaks_1 ?_
  refine zi_icmp_ne 13 d_lr_breaks_2 (by decide) (by first | assumption | exact ⟨by omega, by omega⟩) (by first | assumption | exact ⟨by omega, by omega⟩) (fun h2 => ?_) (fun h2 => ?_)
  · refine zr_aload_n d_lr_breaks_13 rfl ?_
    refine zi_getr (j := 0) d_lr_breaks_14 zC7 fl_lr_14 (by decide) rfl rfl ?_
    refine zi_iload_n d_lr_breaks_17 rfl ?_
    refine c_lr_breaks_18 rfl rfl (tt1_hasTeam zt zn) ?_
    refine zi_if_ne 34 d_lr_breaks_21 (by decide) (by split <;> exact ⟨by decide, by decide⟩) (fun h21 => ?_) (fun h21 => ?_)
    · refine zr_aload_n d_lr_breaks_34 rfl ?_
      refine zi_getr (j := 0) d_lr_breaks_35 zC7 fl_lr_14 (by decide) rfl rfl ?_
      refine zi_iload_n d_lr_breaks_38 rfl ?_
      refine c_lr_breaks_39 rfl rfl (tt1_breaksOf hA hw ⟨by omega, by omega⟩ hR hR38) ?_
      exact zk_iret rfl d_lr_breaks_42 (Nat.zero_le _) (Nat.zero_le _) (by first | rfl | omega | (split <;> omega) | simp_all) rfl
    · exfalso
      grind
  · exfalso
    grind
theorem lr_breaksX {l : Launch} {d : Nat} {τ : tS} {n R p f e : Nat} (C : Cl τ n R p f e) {t : Int} (zt : zin t) (h1 : ¬ t = -1) (h : ¬ (0 ≤ t ∧ t < n)) : zG l (d + 7) M_lr_breaks [.ref 0, vi t] (τ) ("java/lang/IndexOutOfBoundsException") (τ) := by
  refine zMet_of (ls := [.ref 0, vi t]) pn_lr rfl (by simp [vi, Value.category]) rfl rfl ?_
  have hA := C.A
  have hw := C.w
  have hn := C.n
  have hn4 := C.n4
  have hn20 := C.n20
  have hR := C.R
  have hR38 := C.R38
  have zn : zin (τ 1 3) := C.A _ _
  have zR : zin (τ 1 4) := C.A _ _
  refine zi_iload_n d_lr_breaks_0 rfl ?_
  refine zi_iconst d_lr_breaks_1 ?_
  refine zi_icmp_ne 13 d_lr_breaks_2 (by decide) (by first | assumption | exact ⟨by omega, by omega⟩) (by first | assumption | exact ⟨by omega, by omega⟩) (fun h2 => ?_) (fun h2 => ?_)
  · refine zr_aload_n d_lr_breaks_13 rfl ?_
    refine zi_getr (j := 0) d_lr_breaks_14 zC7 fl_lr_14 (by decide) rfl rfl ?_
    refine zi_iload_n d_lr_breaks_17 rfl ?_
    refine c_lr_breaks_18 rfl rfl (tt1_hasTeam zt zn) ?_
    refine zi_if_ne 34 d_lr_breaks_21 (by decide) (by split <;> exact ⟨by decide, by decide⟩) (fun h21 => ?_) (fun h21 => ?_)
    · exfalso
      grind
    · exact zk_throw (text := "no such team") rfl at_2 (by decide) d_lr_breaks_24 d_lr_breaks_27 d_lr_breaks_28 d_lr_breaks_30 d_lr_breaks_33 rfl rfl (by decide) (by decide)
  · exfalso
    grind
theorem lr_verify {l : Launch} {d : Nat} {τ : tS} {n R p f e : Nat} (C : Cl τ n R p f e) : zF l (d + 5) M_lr_verify [.ref 0] (τ) (some (vi (brokF τ n R p f))) (τ) := by
  refine zMet_of (ls := [.ref 0]) pn_lr rfl (by simp [vi, Value.category]) rfl rfl ?_
  have hA := C.A
  have hw := C.w
  have hn := C.n
  have hn4 := C.n4
  have hn20 := C.n20
  have hR := C.R
  have hR38 := C.R38
  have zn : zin (τ 1 3) := C.A _ _
  have zR : zin (τ 1 4) := C.A _ _
  refine zr_aload_n d_lr_verify_0 rfl ?_
  refine zi_getr (j := 1) d_lr_verify_1 zC7 fl_lr_21 (by decide) rfl rfl ?_
  refine zr_aload_n d_lr_verify_4 rfl ?_
  refine zi_getr (j := 0) d_lr_verify_5 zC7 fl_lr_14 (by decide) rfl rfl ?_
  refine c_lr_verify_8 rfl rfl (wi_firstBroken (n := n) (R := R) hA hw hn hn20 hR hR38 C.b5 C.b6 C.p C.p6 (fun i hi => by have := C.pr i hi; omega) C.f C.f6 (fun i hi => by have := C.fx i hi; omega)) ?_
  exact zk_iret rfl d_lr_verify_11 (Nat.zero_le _) (Nat.zero_le _) (by first | rfl | omega | (split <;> omega) | simp_all) rfl
theorem lr_missing {l : Launch} {d : Nat} {τ : tS} {n R p f e : Nat} (C : Cl τ n R p f e) : zF l (d + 6) M_lr_missing [.ref 0] (τ) (some (vi (sumI (fun r => ((cnt (misP τ (r : Int)) n : Nat) : Int)) R))) (τ) := by
  refine zMet_of (ls := [.ref 0]) pn_lr rfl (by simp [vi, Value.category]) rfl rfl ?_
  have hA := C.A
  have hw := C.w
  have hn := C.n
  have hn4 := C.n4
  have hn20 := C.n20
  have hR := C.R
  have hR38 := C.R38
  have zn : zin (τ 1 3) := C.A _ _
  have zR : zin (τ 1 4) := C.A _ _
  refine zr_aload_n d_lr_missing_0 rfl ?_
  refine zi_getr (j := 4) d_lr_missing_1 zC7 fl_lr_46 (by decide) rfl rfl ?_
  refine c_lr_missing_4 rfl rfl (wo_missingInAll hA hw hn hn20 C.wash hR hR38) ?_
  exact zk_iret rfl d_lr_missing_7 (Nat.zero_le _) (Nat.zero_le _) (by first | rfl | omega | (split <;> omega) | simp_all) rfl
