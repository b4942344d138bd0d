/-! the reference: small methods (written by wip/gen/t23.py) -/
def Mo (τ : tS) (n R p f e : Nat) : Prop := (AllIn τ) ∧ (τ 37 1 = (n : Int)) ∧ (4 ≤ n) ∧ (n ≤ 20) ∧ (τ 37 12 = (R : Int)) ∧ (R ≤ 38) ∧ (τ 37 4 = (p : Int)) ∧ (p ≤ 6) ∧ (τ 37 7 = (f : Int)) ∧ (f ≤ 6) ∧ (τ 37 21 = (e : Int)) ∧ (e ≤ 6) ∧ (∀ i, i < p → (0 ≤ τ 39 i ∧ τ 39 i < n) ∧ (0 ≤ τ 40 i ∧ τ 40 i < n)) ∧ (∀ i, i < f → (0 ≤ τ 41 i ∧ τ 41 i < n) ∧ (0 ≤ τ 42 i ∧ τ 42 i < n) ∧ (0 ≤ τ 43 i ∧ τ 43 i ≤ 38)) ∧ (∀ j, τ 38 j = 0 ∨ τ 38 j = 1) ∧ (∀ j, τ 45 j = 0 ∨ τ 45 j = 1) ∧ (∀ j, τ 46 j = 0 ∨ τ 46 j = 1) ∧ (∀ j, τ 49 j = 0 ∨ τ 49 j = 1) ∧ (∀ j, τ 51 j = 0 ∨ τ 51 j = 1) ∧ (∀ j, τ 54 j = 0 ∨ τ 54 j = 1) ∧ (∀ r t : Nat, r < R → t < n → -1 ≤ τ 44 (20 * r + t) ∧ τ 44 (20 * r + t) < n)
theorem Mo.A {τ : tS} {n R p f e : Nat} (h : Mo τ n R p f e) : AllIn τ := h.1
theorem Mo.n {τ : tS} {n R p f e : Nat} (h : Mo τ n R p f e) : τ 37 1 = (n : Int) := h.2.1
theorem Mo.n4 {τ : tS} {n R p f e : Nat} (h : Mo τ n R p f e) : 4 ≤ n := h.2.2.1
theorem Mo.n20 {τ : tS} {n R p f e : Nat} (h : Mo τ n R p f e) : n ≤ 20 := h.2.2.2.1
theorem Mo.R {τ : tS} {n R p f e : Nat} (h : Mo τ n R p f e) : τ 37 12 = (R : Int) := h.2.2.2.2.1
theorem Mo.R38 {τ : tS} {n R p f e : Nat} (h : Mo τ n R p f e) : R ≤ 38 := h.2.2.2.2.2.1
theorem Mo.p {τ : tS} {n R p f e : Nat} (h : Mo τ n R p f e) : τ 37 4 = (p : Int) := h.2.2.2.2.2.2.1
theorem Mo.p6 {τ : tS} {n R p f e : Nat} (h : Mo τ n R p f e) : p ≤ 6 := h.2.2.2.2.2.2.2.1
theorem Mo.f {τ : tS} {n R p f e : Nat} (h : Mo τ n R p f e) : τ 37 7 = (f : Int) := h.2.2.2.2.2.2.2.2.1
theorem Mo.f6 {τ : tS} {n R p f e : Nat} (h : Mo τ n R p f e) : f ≤ 6 := h.2.2.2.2.2.2.2.2.2.1
theorem Mo.e {τ : tS} {n R p f e : Nat} (h : Mo τ n R p f e) : τ 37 21 = (e : Int) := h.2.2.2.2.2.2.2.2.2.2.1
theorem Mo.e6 {τ : tS} {n R p f e : Nat} (h : Mo τ n R p f e) : e ≤ 6 := h.2.2.2.2.2.2.2.2.2.2.2.1
theorem Mo.pr {τ : tS} {n R p f e : Nat} (h : Mo τ n R p f e) : ∀ i, i < p → (0 ≤ τ 39 i ∧ τ 39 i < n) ∧ (0 ≤ τ 40 i ∧ τ 40 i < n) := h.2.2.2.2.2.2.2.2.2.2.2.2.1
theorem Mo.fx {τ : tS} {n R p f e : Nat} (h : Mo τ n R p f e) : ∀ i, i < f → (0 ≤ τ 41 i ∧ τ 41 i < n) ∧ (0 ≤ τ 42 i ∧ τ 42 i < n) ∧ (0 ≤ τ 43 i ∧ τ 43 i ≤ 38) := h.2.2.2.2.2.2.2.2.2.2.2.2.2.1
theorem Mo.z38 {τ : tS} {n R p f e : Nat} (h : Mo τ n R p f e) : ∀ j, τ 38 j = 0 ∨ τ 38 j = 1 := h.2.2.2.2.2.2.2.2.2.2.2.2.2.2.1
theorem Mo.z45 {τ : tS} {n R p f e : Nat} (h : Mo τ n R p f e) : ∀ j, τ 45 j = 0 ∨ τ 45 j = 1 := h.2.2.2.2.2.2.2.2.2.2.2.2.2.2.2.1
theorem Mo.z46 {τ : tS} {n R p f e : Nat} (h : Mo τ n R p f e) : ∀ j, τ 46 j = 0 ∨ τ 46 j = 1 := h.2.2.2.2.2.2.2.2.2.2.2.2.2.2.2.2.1
theorem Mo.z49 {τ : tS} {n R p f e : Nat} (h : Mo τ n R p f e) : ∀ j, τ 49 j = 0 ∨ τ 49 j = 1 := h.2.2.2.2.2.2.2.2.2.2.2.2.2.2.2.2.2.1
theorem Mo.z51 {τ : tS} {n R p f e : Nat} (h : Mo τ n R p f e) : ∀ j, τ 51 j = 0 ∨ τ 51 j = 1 := h.2.2.2.2.2.2.2.2.2.2.2.2.2.2.2.2.2.2.1
theorem Mo.z54 {τ : tS} {n R p f e : Nat} (h : Mo τ n R p f e) : ∀ j, τ 54 j = 0 ∨ τ 54 j = 1 := h.2.2.2.2.2.2.2.2.2.2.2.2.2.2.2.2.2.2.2.1
theorem Mo.foe {τ : tS} {n R p f e : Nat} (h : Mo τ n R p f e) : ∀ r t : Nat, r < R → t < n → -1 ≤ τ 44 (20 * r + t) ∧ τ 44 (20 * r + t) < n := h.2.2.2.2.2.2.2.2.2.2.2.2.2.2.2.2.2.2.2.2
theorem md_thrown {l : Launch} {d : Nat} {τ : tS} : zF l (d + 1) M_md_thrown [.ref 37] (τ) (some (vi (τ 37 0))) (τ) := by
  refine zMet_of (ls := [.ref 37]) pn_md rfl (by simp [vi, Value.category]) rfl rfl ?_
  refine zr_aload_n d_md_thrown_0 rfl ?_
  refine zi_geti (j := 0) d_md_thrown_1 zC8 fl_md_87 (by decide) rfl rfl ?_
  exact zk_iret rfl d_md_thrown_4 (Nat.zero_le _) (Nat.zero_le _) (by first | rfl | omega | (split <;> omega) | simp_all) rfl
theorem md_in {l : Launch} {d : Nat} {τ : tS} {v a b : Int} (zv : zin v) (za : zin a) (zb : zin b) : zF l (d + 1) M_md_in [vi v, vi a, vi b] (τ) (some (vi (if a ≤ v ∧ v ≤ b then 1 else 0))) (τ) := by
  refine zMet_of (ls := [vi v, vi a, vi b]) pn_md rfl (by simp [vi, Value.category]) rfl rfl ?_
  refine zi_iload_n d_md_in_0 rfl ?_
  refine zi_iload_n d_md_in_1 rfl ?_
  refine zi_icmp_lt 14 d_md_in_2 (by decide) (by first | assumption | exact ⟨by omega, by omega⟩) (by first | assumption | exact ⟨by omega, by omega⟩) (fun h2 => ?_) (fun h2 => ?_)
  · refine zi_iconst d_md_in_14 ?_
    exact zk_zret rfl d_md_in_15 (Nat.zero_le _) (Nat.zero_le _) (by omega) (by grind) rfl
  · refine zi_iload_n d_md_in_5 rfl ?_
    refine zi_iload_n d_md_in_6 rfl ?_
    refine zi_icmp_gt 14 d_md_in_7 (by decide) (by first | assumption | exact ⟨by omega, by omega⟩) (by first | assumption | exact ⟨by omega, by omega⟩) (fun h7 => ?_) (fun h7 => ?_)
    · refine zi_iconst d_md_in_14 ?_
      exact zk_zret rfl d_md_in_15 (Nat.zero_le _) (Nat.zero_le _) (by omega) (by grind) rfl
    · refine zi_iconst d_md_in_10 ?_
      refine zr_goto 15 d_md_in_11 (by decide) ?_
      exact zk_zret rfl d_md_in_15 (Nat.zero_le _) (Nat.zero_le _) (by omega) (by grind) rfl
def thN (a b c d : Int) : Int := if ¬ a = 0 then 1 else if ¬ b = 0 then 2 else if ¬ c = 0 then 3 else if ¬ d = 0 then 4 else 0
theorem zV_th {l : Launch} {d : Nat} {M : zM} {pc : Nat} {ls st : List Value} {τ : tS} {k k2 : Int} (h : zV l d M pc ls st τ (0, 0) (.inl (some (vi (if k = 0 then 0 else 1))), (SH, zq (tU τ 37 0 k)), 0, 0)) (e : k2 = k) : zV l d M pc ls st τ (0, 0) (.inl (some (vi (if k2 = 0 then 0 else 1))), (SH, zq (tU τ 37 0 k2)), 0, 0) := by rw [e]; exact h
theorem md_refused {l : Launch} {d : Nat} {τ : tS} {a b c e : Int} (za : zin a) (zb : zin b) (zc : zin c) (ze : zin e) : zF l (d + 1) M_md_refused [.ref 37, vi a, vi b, vi c, vi e] (τ) (some (vi (if thN a b c e = 0 then 0 else 1))) (tU τ 37 0 (thN a b c e)) := by
  refine zMet_of (ls := [.ref 37, vi a, vi b, vi c, vi e]) pn_md rfl (by simp [vi, Value.category]) rfl rfl ?_
  have key : ∀ k : Int, 0 ≤ k → k < 5 → zV l (d + 1) M_md_refused 35 [.ref 37, vi a, vi b, vi c, vi e] [vi k, .ref 37] τ (0, 0) (.inl (some (vi (if k = 0 then 0 else 1))), (SH, zq (tU τ 37 0 k)), 0, 0) := by
    intro k hk0 hk5
    refine zi_puti (j := 0) d_md_refused_35 zC8 fl_md_87 (by decide) rfl rfl rfl rfl ?_
    refine zr_aload_n d_md_refused_38 rfl ?_
    refine zi_getiE (j := 0) (x := k) d_md_refused_39 zC8 fl_md_87 (by decide) rfl rfl (by simp [tU]) ?_
    refine zi_if_le 49 d_md_refused_42 (by decide) (by first | assumption | exact ⟨by omega, by omega⟩) (fun h42 => ?_) (fun h42 => ?_)
    · refine zi_iconst d_md_refused_49 ?_
      exact zk_zret rfl d_md_refused_50 (Nat.zero_le _) (Nat.zero_le _) (by omega) (by grind) rfl
    · refine zi_iconst d_md_refused_45 ?_
      refine zr_goto 50 d_md_refused_46 (by decide) ?_
      exact zk_zret rfl d_md_refused_50 (Nat.zero_le _) (Nat.zero_le _) (by omega) (by grind) rfl
  refine zr_aload_n d_md_refused_0 rfl ?_
  refine zi_iload_n d_md_refused_1 rfl ?_
  refine zi_if_eq 9 d_md_refused_2 (by decide) (by first | assumption | exact ⟨by omega, by omega⟩) (fun h2 => ?_) (fun h2 => ?_)
  · refine zi_iload_n d_md_refused_9 rfl ?_
    refine zi_if_eq 17 d_md_refused_10 (by decide) (by first | assumption | exact ⟨by omega, by omega⟩) (fun h10 => ?_) (fun h10 => ?_)
    · refine zi_iload_n d_md_refused_17 rfl ?_
      refine zi_if_eq 25 d_md_refused_18 (by decide) (by first | assumption | exact ⟨by omega, by omega⟩) (fun h18 => ?_) (fun h18 => ?_)
      · refine zi_iload d_md_refused_25 rfl ?_
        refine zi_if_eq 34 d_md_refused_27 (by decide) (by first | assumption | exact ⟨by omega, by omega⟩) (fun h27 => ?_) (fun h27 => ?_)
        · refine zi_iconst d_md_refused_34 ?_
          refine zV_th (key _ (by decide) (by decide)) ?_
          unfold thN
          grind
        · refine zi_iconst d_md_refused_30 ?_
          refine zr_goto 35 d_md_refused_31 (by decide) ?_
          refine zV_th (key _ (by decide) (by decide)) ?_
          unfold thN
          grind
      · refine zi_iconst d_md_refused_21 ?_
        refine zr_goto 35 d_md_refused_22 (by decide) ?_
        refine zV_th (key _ (by decide) (by decide)) ?_
        unfold thN
        grind
    · refine zi_iconst d_md_refused_13 ?_
      refine zr_goto 35 d_md_refused_14 (by decide) ?_
      refine zV_th (key _ (by decide) (by decide)) ?_
      unfold thN
      grind
  · refine zi_iconst d_md_refused_5 ?_
    refine zr_goto 35 d_md_refused_6 (by decide) ?_
    refine zV_th (key _ (by decide) (by decide)) ?_
    unfold thN
    grind
theorem md_isTeam {l : Launch} {d : Nat} {τ : tS} {n R p f e : Nat} (C : Mo τ n R p f e) {t : Int} (zt : zin t) : zF l (d + 2) M_md_isTeam [.ref 37, vi t] (τ) (some (vi (if 0 ≤ t ∧ t < n then 1 else 0))) (τ) := by
  refine zMet_of (ls := [.ref 37, vi t]) pn_md rfl (by simp [vi, Value.category]) rfl rfl ?_
  have hA := C.A
  have hn := C.n
  have hn4 := C.n4
  have hn20 := C.n20
  have hR := C.R
  have hR38 := C.R38
  refine zi_iload_n d_md_isTeam_0 rfl ?_
  refine zi_iconst d_md_isTeam_1 ?_
  refine zr_aload_n d_md_isTeam_2 rfl ?_
  refine zi_getiE (j := 1) (x := (n : Int)) d_md_isTeam_3 zC8 fl_md_7 (by decide) rfl rfl (hn) ?_
  refine zi_iconst d_md_isTeam_6 ?_
  refine zi_isub d_md_isTeam_7 ?_
  refine c_md_isTeam_8 rfl (md_in zt ⟨by omega, by omega⟩ ⟨by omega, by omega⟩) ?_
  exact zk_zret rfl d_md_isTeam_11 (Nat.zero_le _) (Nat.zero_le _) (by split <;> simp) (by grind) rfl
theorem md_isRound {l : Launch} {d : Nat} {τ : tS} {n R p f e : Nat} (C : Mo τ n R p f e) {t : Int} (zt : zin t) : zF l (d + 2) M_md_isRound [.ref 37, vi t] (τ) (some (vi (if 0 ≤ t ∧ t < R then 1 else 0))) (τ) := by
  refine zMet_of (ls := [.ref 37, vi t]) pn_md rfl (by simp [vi, Value.category]) rfl rfl ?_
  have hA := C.A
  have hn := C.n
  have hn4 := C.n4
  have hn20 := C.n20
  have hR := C.R
  have hR38 := C.R38
  refine zi_iload_n d_md_isRound_0 rfl ?_
  refine zi_iconst d_md_isRound_1 ?_
  refine zr_aload_n d_md_isRound_2 rfl ?_
  refine zi_getiE (j := 12) (x := (R : Int)) d_md_isRound_3 zC8 fl_md_94 (by decide) rfl rfl (hR) ?_
  refine zi_iconst d_md_isRound_6 ?_
  refine zi_isub d_md_isRound_7 ?_
  refine c_md_isRound_8 rfl (md_in zt ⟨by omega, by omega⟩ ⟨by omega, by omega⟩) ?_
  exact zk_zret rfl d_md_isRound_11 (Nat.zero_le _) (Nat.zero_le _) (by split <;> simp) (by grind) rfl
theorem md_isOf {l : Launch} {d : Nat} {τ : tS} (hA : AllIn τ) {i : Nat} (hi : i < 6) {t : Int} (zt : zin t) : zF l (d + 1) M_md_isOf [.ref 37, vi (i : Int), vi t] (τ) (some (vi (if τ 41 i = t ∨ τ 42 i = t then 1 else 0))) (τ) := by
  refine zMet_of (ls := [.ref 37, vi (i : Int), vi t]) pn_md rfl (by simp [vi, Value.category]) rfl rfl ?_
  refine zr_aload_n d_md_isOf_0 rfl ?_
  refine zi_getr (j := 8) d_md_isOf_1 zC8 fl_md_24 (by decide) rfl rfl ?_
  refine zi_iload_n d_md_isOf_4 rfl ?_
  refine zi_ialdE (x := τ 41 i) d_md_isOf_5 rfl (by decide) (by omega) (by omega) (by rw [Int.toNat_natCast]) ?_
  refine zi_iload_n d_md_isOf_6 rfl ?_
  refine zi_icmp_eq 20 d_md_isOf_7 (by decide) (hA _ _) zt (fun h7 => ?_) (fun h7 => ?_)
  · refine zi_iconst d_md_isOf_20 ?_
    refine zr_goto 25 d_md_isOf_21 (by decide) ?_
    exact zk_zret rfl d_md_isOf_25 (Nat.zero_le _) (Nat.zero_le _) (by omega) (by grind) rfl
  · refine zr_aload_n d_md_isOf_10 rfl ?_
    refine zi_getr (j := 9) d_md_isOf_11 zC8 fl_md_27 (by decide) rfl rfl ?_
    refine zi_iload_n d_md_isOf_14 rfl ?_
    refine zi_ialdE (x := τ 42 i) d_md_isOf_15 rfl (by decide) (by omega) (by omega) (by rw [Int.toNat_natCast]) ?_
    refine zi_iload_n d_md_isOf_16 rfl ?_
    refine zi_icmp_ne 24 d_md_isOf_17 (by decide) (hA _ _) zt (fun h17 => ?_) (fun h17 => ?_)
    · refine zi_iconst d_md_isOf_24 ?_
      exact zk_zret rfl d_md_isOf_25 (Nat.zero_le _) (Nat.zero_le _) (by omega) (by grind) rfl
    · refine zi_iconst d_md_isOf_20 ?_
      refine zr_goto 25 d_md_isOf_21 (by decide) ?_
      exact zk_zret rfl d_md_isOf_25 (Nat.zero_le _) (Nat.zero_le _) (by omega) (by grind) rfl
theorem md_isBanned {l : Launch} {d : Nat} {τ : tS} (hz : ∀ j, τ 38 j = 0 ∨ τ 38 j = 1) {t r v : Int} (ht : 0 ≤ t ∧ t < 20) (hr : 0 ≤ r ∧ r < 39) (hv : v = 0 ∨ v = 1) : zF l (d + 1) M_md_isBanned [.ref 37, vi t, vi r, vi v] (τ) (some (vi (τ 38 (2 * (39 * t + r) + v).toNat))) (τ) := by
  refine zMet_of (ls := [.ref 37, vi t, vi r, vi v]) pn_md rfl (by simp [vi, Value.category]) rfl rfl ?_
  refine zr_aload_n d_md_isBanned_0 rfl ?_
  refine zi_getr (j := 3) d_md_isBanned_1 zC8 fl_md_13 (by decide) rfl rfl ?_
  refine zi_iconst d_md_isBanned_4 ?_
  refine zi_bipush d_md_isBanned_5 (by decide) ?_
  refine zi_iload_n d_md_isBanned_7 rfl ?_
  refine zi_imul d_md_isBanned_8 ?_
  refine zi_iload_n d_md_isBanned_9 rfl ?_
  refine zi_iadd d_md_isBanned_10 ?_
  refine zi_imul d_md_isBanned_11 ?_
  refine zi_iload_n d_md_isBanned_12 rfl ?_
  refine zi_iadd d_md_isBanned_13 ?_
  refine zi_zald d_md_isBanned_14 rfl (by decide) (by omega) (by omega) ?_
  exact zk_zret rfl d_md_isBanned_15 (Nat.zero_le _) (Nat.zero_le _) (hz _) rfl rfl
def veM (τ : tS) (j : Nat) : Int := if τ 44 j < 0 then -1 else if τ 45 j = 0 then 0 else 1
theorem md_venueOf {l : Launch} {d : Nat} {τ : tS} (hA : AllIn τ) {t r : Int} (ht : 0 ≤ t ∧ t < 20) (hr : 0 ≤ r ∧ r < 40) : zF l (d + 1) M_md_venueOf [.ref 37, vi t, vi r] (τ) (some (vi (veM τ (20 * r + t).toNat))) (τ) := by
  refine zMet_of (ls := [.ref 37, vi t, vi r, .null]) pn_md rfl (by simp [vi, Value.category]) rfl rfl ?_
  refine zi_bipush d_md_venueOf_0 (by decide) ?_
  refine zi_iload_n d_md_venueOf_2 rfl ?_
  refine zi_imul d_md_venueOf_3 ?_
  refine zi_iload_n d_md_venueOf_4 rfl ?_
  refine zi_iadd d_md_venueOf_5 ?_
  refine zi_istore_n d_md_venueOf_6 (by decide) rfl ?_
  refine zr_aload_n d_md_venueOf_7 rfl ?_
  refine zi_getr (j := 13) d_md_venueOf_8 zC8 fl_md_33 (by decide) rfl rfl ?_
  refine zi_iload_n d_md_venueOf_11 rfl ?_
  refine zi_iald d_md_venueOf_12 rfl (by decide) (by omega) (by omega) ?_
  refine zi_if_ge 20 d_md_venueOf_13 (by decide) (hA _ _) (fun h13 => ?_) (fun h13 => ?_)
  · refine zr_aload_n d_md_venueOf_20 rfl ?_
    refine zi_getr (j := 14) d_md_venueOf_21 zC8 fl_md_36 (by decide) rfl rfl ?_
    refine zi_iload_n d_md_venueOf_24 rfl ?_
    refine zi_zald d_md_venueOf_25 rfl (by decide) (by omega) (by omega) ?_
    refine zi_if_eq 33 d_md_venueOf_26 (by decide) (hA _ _) (fun h26 => ?_) (fun h26 => ?_)
    · refine zi_iconst d_md_venueOf_33 ?_
      exact zk_iret rfl d_md_venueOf_34 (Nat.zero_le _) (Nat.zero_le _) (by unfold veM; grind) rfl
    · refine zi_iconst d_md_venueOf_29 ?_
      refine zr_goto 34 d_md_venueOf_30 (by decide) ?_
      exact zk_iret rfl d_md_venueOf_34 (Nat.zero_le _) (Nat.zero_le _) (by unfold veM; grind) rfl
  · refine zi_iconst d_md_venueOf_16 ?_
    refine zr_goto 34 d_md_venueOf_17 (by decide) ?_
    exact zk_iret rfl d_md_venueOf_34 (Nat.zero_le _) (Nat.zero_le _) (by unfold veM; grind) rfl
def cs1 (τ : tS) (i : Nat) : tS := tF (tF (tF τ 46 i 0) 49 i 0) 50 i (-1)
theorem cs1_0 (τ : tS) : cs1 τ 0 = τ := by funext q j; simp [cs1, tF]
theorem cs1_s (τ : tS) (i : Nat) : tU (tU (tU (cs1 τ i) 46 i 0) 49 i 0) 50 i (-1) = cs1 τ (i + 1) := by
  funext q j
  simp only [cs1, tF, tU]
  grind
theorem tF_s (τ : tS) (q i : Nat) (x : Int) : tU (tF τ q i x) q i x = tF τ q (i + 1) x := by
  funext a b
  simp only [tF, tU]
  grind
def csT (τ : tS) : tS := tU (tF (cs1 τ 800) 51 40 0) 37 21 0
theorem md_clearSeason {l : Launch} {d : Nat} {τ : tS} : zF l (d + 1) M_md_clearSeason [.ref 37] (τ) (none) (csT τ) := by
  refine zMet_of (ls := [.ref 37, .null]) pn_md rfl (by simp [vi, Value.category]) rfl rfl ?_
  refine zi_iconst d_md_clearSeason_0 ?_
  refine zi_istore_n d_md_clearSeason_1 (by decide) rfl ?_
  have key := zup (P := fun (i : Nat) => zV l (d + 1) M_md_clearSeason 2 [.ref 37, vi (i : Int)] [] (cs1 τ i) (0, 0) (.inl none, (SH, zq (csT τ)), 0, 0)) (800) ?_ ?_ 0 (by omega)
  · exact zE4 key (by refine ⟨?_, ?_, trivial⟩ <;> first | exact Or.inl rfl | exact Or.inr rfl) (cs1_0 _).symm
  · intro i hi hk
    refine zi_iload_n d_md_clearSeason_2 rfl ?_
    refine zi_sipush d_md_clearSeason_3 (by decide) ?_
    refine zi_icmp_ge 36 d_md_clearSeason_6 (by decide) (by first | assumption | exact ⟨by omega, by omega⟩) (by first | assumption | exact ⟨by omega, by omega⟩) (fun h6 => ?_) (fun h6 => ?_)
    · exact absurd h6 (by omega)
    · refine zr_aload_n d_md_clearSeason_9 rfl ?_
      refine zi_getr (j := 15) d_md_clearSeason_10 zC8 fl_md_39 (by decide) rfl rfl ?_
      refine zi_iload_n d_md_clearSeason_13 rfl ?_
      refine zi_iconst d_md_clearSeason_14 ?_
      refine zi_zast d_md_clearSeason_15 rfl (by decide) (by omega) (by omega) (Or.inl rfl) ?_
      refine zr_aload_n d_md_clearSeason_16 rfl ?_
      refine zi_getr (j := 18) d_md_clearSeason_17 zC8 fl_md_48 (by decide) rfl rfl ?_
      refine zi_iload_n d_md_clearSeason_20 rfl ?_
      refine zi_iconst d_md_clearSeason_21 ?_
      refine zi_zast d_md_clearSeason_22 rfl (by decide) (by omega) (by omega) (Or.inl rfl) ?_
      refine zr_aload_n d_md_clearSeason_23 rfl ?_
      refine zi_getr (j := 19) d_md_clearSeason_24 zC8 fl_md_51 (by decide) rfl rfl ?_
      refine zi_iload_n d_md_clearSeason_27 rfl ?_
      refine zi_iconst d_md_clearSeason_28 ?_
      refine zi_iast d_md_clearSeason_29 rfl (by decide) (by omega) (by omega) ?_
      simp only [Int.toNat_natCast]
      refine zi_iinc d_md_clearSeason_30 (by decide) rfl rfl ?_
      refine zr_goto 2 d_md_clearSeason_33 (by decide) ?_
      exact zE4 hk (by refine ⟨?_, ?_, trivial⟩ <;> first | exact Or.inl rfl | exact Or.inr rfl) (cs1_s _ _)
  · refine zi_iload_n d_md_clearSeason_2 rfl ?_
    refine zi_sipush d_md_clearSeason_3 (by decide) ?_
    refine zi_icmp_ge 36 d_md_clearSeason_6 (by decide) (by first | assumption | exact ⟨by omega, by omega⟩) (by first | assumption | exact ⟨by omega, by omega⟩) (fun h6 => ?_) (fun h6 => ?_)
    · refine zi_iconst d_md_clearSeason_36 ?_
      refine zi_istore_n d_md_clearSeason_37 (by decide) rfl ?_
      have key := zup (P := fun (i : Nat) => zV l (d + 1) M_md_clearSeason 38 [.ref 37, vi (i : Int)] [] (tF (cs1 τ 800) 51 i 0) (0, 0) (.inl none, (SH, zq (csT τ)), 0, 0)) (40) ?_ ?_ 0 (by omega)
      · exact zE4 key (by refine ⟨?_, ?_, trivial⟩ <;> first | exact Or.inl rfl | exact Or.inr rfl) (tF_0 _ _ _).symm
      · intro i hi hk
        refine zi_iload_n d_md_clearSeason_38 rfl ?_
        refine zi_bipush d_md_clearSeason_39 (by decide) ?_
        refine zi_icmp_ge 57 d_md_clearSeason_41 (by decide) (by first | assumption | exact ⟨by omega, by omega⟩) (by first | assumption | exact ⟨by omega, by omega⟩) (fun h41 => ?_) (fun h41 => ?_)
        · exact absurd h41 (by omega)
        · refine zr_aload_n d_md_clearSeason_44 rfl ?_
          refine zi_getr (j := 20) d_md_clearSeason_45 zC8 fl_md_54 (by decide) rfl rfl ?_
          refine zi_iload_n d_md_clearSeason_48 rfl ?_
          refine zi_iconst d_md_clearSeason_49 ?_
          refine zi_zast d_md_clearSeason_50 rfl (by decide) (by omega) (by omega) (Or.inl rfl) ?_
          rw [Int.toNat_natCast]
          refine zi_iinc d_md_clearSeason_51 (by decide) rfl rfl ?_
          refine zr_goto 38 d_md_clearSeason_54 (by decide) ?_
          exact zE4 hk (by refine ⟨?_, ?_, trivial⟩ <;> first | exact Or.inl rfl | exact Or.inr rfl) (tF_s _ _ _ _)
      · refine zi_iload_n d_md_clearSeason_38 rfl ?_
        refine zi_bipush d_md_clearSeason_39 (by decide) ?_
        refine zi_icmp_ge 57 d_md_clearSeason_41 (by decide) (by first | assumption | exact ⟨by omega, by omega⟩) (by first | assumption | exact ⟨by omega, by omega⟩) (fun h41 => ?_) (fun h41 => ?_)
        · refine zr_aload_n d_md_clearSeason_57 rfl ?_
          refine zi_iconst d_md_clearSeason_58 ?_
          refine zi_puti (j := 21) d_md_clearSeason_59 zC8 fl_md_97 (by decide) rfl rfl rfl rfl ?_
          exact zk_vret rfl d_md_clearSeason_62 (Nat.zero_le _) (Nat.zero_le _) rfl
        · exact absurd h41 (by omega)
    · exact absurd h6 (by omega)
