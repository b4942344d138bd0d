/-! the plain timetable; takeOver (written by wip/gen/t11.py) -/
def tG (τ : tS) (r h a : Int) : tS := tP1 (tP1 τ r h a 1) r a h 0
theorem tP1_ne (τ : tS) (r t x y : Int) (q j : Nat) (h2 : q ≠ 2) (h3 : q ≠ 3) : tP1 τ r t x y q j = τ q j := by simp [tP1, tU, h2, h3]
theorem tG_ne (τ : tS) (r h a : Int) (q j : Nat) (h2 : q ≠ 2) (h3 : q ≠ 3) : tG τ r h a q j = τ q j := by rw [tG, tP1_ne _ _ _ _ _ _ _ h2 h3, tP1_ne _ _ _ _ _ _ _ h2 h3]
/-- outside round r nothing changes -/
theorem tP1_out (τ : tS) {r : Nat} {t x y : Int} (ht : 0 ≤ t ∧ t < 20) (q j : Nat) (hj : j < 20 * r ∨ 20 * r + 20 ≤ j) : tP1 τ (r : Int) t x y q j = τ q j := by
  have e : ((r : Int) * 20 + t).toNat ≠ j := by omega
  simp only [tP1, tU]
  rw [if_neg (fun g => e g.2.symm), if_neg (fun g => e g.2.symm)]
theorem tG_out (τ : tS) {r : Nat} {h a : Int} (hh : 0 ≤ h ∧ h < 20) (ha : 0 ≤ a ∧ a < 20) (q j : Nat) (hj : j < 20 * r ∨ 20 * r + 20 ≤ j) : tG τ (r : Int) h a q j = τ q j := by rw [tG, tP1_out _ ha q j hj, tP1_out _ hh q j hj]
theorem tt_wrapped {l : Launch} {d : Nat} {τ : tS} {t c : Int} (ht : zin t) (hc : zin c) : zF l (d + 1) M_tt_wrapped [vi t, vi c] (τ) (some (vi (if t < c then t else t - c))) (τ) := by
  refine zMet_of (ls := [vi t, vi c]) pn_tt rfl (by simp [vi, Value.category]) rfl rfl ?_
  refine zi_iload_n d_tt_wrapped_0 rfl ?_
  refine zi_iload_n d_tt_wrapped_1 rfl ?_
  refine zi_icmp_ge 9 d_tt_wrapped_2 (by decide) (by first | assumption | exact ⟨by omega, by omega⟩) (by first | assumption | exact ⟨by omega, by omega⟩) (fun h2 => ?_) (fun h2 => ?_)
  · refine zi_iload_n d_tt_wrapped_9 rfl ?_
    refine zi_iload_n d_tt_wrapped_10 rfl ?_
    refine zi_isub d_tt_wrapped_11 ?_
    exact zk_iret rfl d_tt_wrapped_12 (Nat.zero_le _) (Nat.zero_le _) (by first | rfl | omega | (split <;> omega) | simp_all) rfl
  · refine zi_iload_n d_tt_wrapped_5 rfl ?_
    refine zr_goto 12 d_tt_wrapped_6 (by decide) ?_
    exact zk_iret rfl d_tt_wrapped_12 (Nat.zero_le _) (Nat.zero_le _) (by first | rfl | omega | (split <;> omega) | simp_all) rfl
theorem tt_layPlainGame1 {l : Launch} {d : Nat} {τ : tS} {r f s : Int} (hw : τ 1 0 = 20) (hr : 0 ≤ r ∧ r < 38) (hf : 0 ≤ f ∧ f < 20) (hs : 0 ≤ s ∧ s < 20) : zF l (d + 3) M_tt_layPlainGame [.ref 1, vi r, vi f, vi s, vi 1] (τ) (none) (tG τ r f s) := by
  refine zMet_of (ls := [.ref 1, vi r, vi f, vi s, vi 1]) pn_tt rfl (by simp [vi, Value.category]) rfl rfl ?_
  refine zr_aload_n d_tt_layPlainGame_0 rfl ?_
  refine zi_iload_n d_tt_layPlainGame_1 rfl ?_
  refine zi_iload d_tt_layPlainGame_2 rfl ?_
  refine zi_if_eq 11 d_tt_layPlainGame_4 (by decide) (by first | assumption | exact ⟨by omega, by omega⟩) (fun h4 => ?_) (fun h4 => ?_)
  · exact absurd h4 (by decide)
  · refine zi_iload_n d_tt_layPlainGame_7 rfl ?_
    refine zr_goto 12 d_tt_layPlainGame_8 (by decide) ?_
    refine zi_iload d_tt_layPlainGame_12 rfl ?_
    refine zi_if_eq 21 d_tt_layPlainGame_14 (by decide) (by first | assumption | exact ⟨by omega, by omega⟩) (fun h14 => ?_) (fun h14 => ?_)
    · exact absurd h14 (by decide)
    · refine zi_iload_n d_tt_layPlainGame_17 rfl ?_
      refine zr_goto 22 d_tt_layPlainGame_18 (by decide) ?_
      refine c_tt_layPlainGame_22 rfl rfl (tt1_putGame hw hr hf hs) ?_
      exact zk_vret rfl d_tt_layPlainGame_25 (Nat.zero_le _) (Nat.zero_le _) rfl
theorem tt_layPlainGame0 {l : Launch} {d : Nat} {τ : tS} {r f s : Int} (hw : τ 1 0 = 20) (hr : 0 ≤ r ∧ r < 38) (hf : 0 ≤ f ∧ f < 20) (hs : 0 ≤ s ∧ s < 20) : zF l (d + 3) M_tt_layPlainGame [.ref 1, vi r, vi f, vi s, vi 0] (τ) (none) (tG τ r s f) := by
  refine zMet_of (ls := [.ref 1, vi r, vi f, vi s, vi 0]) pn_tt rfl (by simp [vi, Value.category]) rfl rfl ?_
  refine zr_aload_n d_tt_layPlainGame_0 rfl ?_
  refine zi_iload_n d_tt_layPlainGame_1 rfl ?_
  refine zi_iload d_tt_layPlainGame_2 rfl ?_
  refine zi_if_eq 11 d_tt_layPlainGame_4 (by decide) (by first | assumption | exact ⟨by omega, by omega⟩) (fun h4 => ?_) (fun h4 => ?_)
  · refine zi_iload_n d_tt_layPlainGame_11 rfl ?_
    refine zi_iload d_tt_layPlainGame_12 rfl ?_
    refine zi_if_eq 21 d_tt_layPlainGame_14 (by decide) (by first | assumption | exact ⟨by omega, by omega⟩) (fun h14 => ?_) (fun h14 => ?_)
    · refine zi_iload_n d_tt_layPlainGame_21 rfl ?_
      refine c_tt_layPlainGame_22 rfl rfl (tt1_putGame hw hr hs hf) ?_
      exact zk_vret rfl d_tt_layPlainGame_25 (Nat.zero_le _) (Nat.zero_le _) rfl
    · exact absurd rfl h14
  · exact absurd rfl h4
theorem tt_layPlainGame {l : Launch} {d : Nat} {τ : tS} {r f s b : Int} (hw : τ 1 0 = 20) (hr : 0 ≤ r ∧ r < 38) (hf : 0 ≤ f ∧ f < 20) (hs : 0 ≤ s ∧ s < 20) (hb : b = 0 ∨ b = 1) : zF l (d + 3) M_tt_layPlainGame [.ref 1, vi r, vi f, vi s, vi b] τ none (if b = 1 then tG τ r f s else tG τ r s f) := by
  rcases hb with rfl | rfl
  · exact tt_layPlainGame0 hw hr hf hs
  · exact tt_layPlainGame1 hw hr hf hs
def plG (τ : tS) (r m k : Nat) : tS := if k % 2 = 1 then tG τ r (((r + k) % m : Nat) : Int) (((r + m - k) % m : Nat) : Int) else tG τ r (((r + m - k) % m : Nat) : Int) (((r + k) % m : Nat) : Int)
def plR (τ : tS) (r m : Nat) : Nat → tS
  | 0 => τ
  | k + 1 => plG (plR τ r m k) r m (k + 1)
def plE (τ : tS) (r m n : Nat) : tS := if n % 2 = 0 then (if r % 2 = 0 then tG (plR τ r m ((m - 1) / 2)) r r ((n - 1 : Nat) : Int) else tG (plR τ r m ((m - 1) / 2)) r ((n - 1 : Nat) : Int) r) else plR τ r m ((m - 1) / 2)
theorem plG_ne (τ : tS) (r m k q j : Nat) (h2 : q ≠ 2) (h3 : q ≠ 3) : plG τ r m k q j = τ q j := by unfold plG; split <;> exact tG_ne _ _ _ _ _ _ h2 h3
theorem plR_ne (τ : tS) (r m q j : Nat) (h2 : q ≠ 2) (h3 : q ≠ 3) : ∀ k, plR τ r m k q j = τ q j
  | 0 => rfl
  | k + 1 => by rw [plR, plG_ne _ _ _ _ _ _ h2 h3, plR_ne τ r m q j h2 h3 k]
theorem plE_ne (τ : tS) (r m n q j : Nat) (h2 : q ≠ 2) (h3 : q ≠ 3) : plE τ r m n q j = τ q j := by
  unfold plE
  split
  · split <;> rw [tG_ne _ _ _ _ _ _ h2 h3, plR_ne _ _ _ _ _ h2 h3]
  · exact plR_ne _ _ _ _ _ h2 h3 _
theorem wrap_mod {a m : Nat} (h : a < 2 * m) : (if (a : Int) < (m : Int) then (a : Int) else (a : Int) - (m : Int)) = ((a % m : Nat) : Int) := by
  by_cases h1 : a < m
  · rw [if_pos (by omega), Nat.mod_eq_of_lt h1]
  · rw [if_neg (by omega), Nat.mod_eq_sub_mod (by omega), Nat.mod_eq_of_lt (by omega)]
    omega
theorem tt_layPlainRound {l : Launch} {d : Nat} {τ : tS} {r m n : Nat} (hw : τ 1 0 = 20) (hn : τ 1 3 = (n : Int)) (hn2 : 4 ≤ n ∧ n ≤ 20) (hm : m = n - 1 + n % 2) (hr : r < m) : zF l (d + 4) M_tt_layPlainRound [.ref 1, vi (r : Int), vi (m : Int)] τ none (plE τ r m n) := by
  refine zMet_of (ls := [.ref 1, vi (r : Int), vi (m : Int), .null, .null, .null]) pn_tt rfl (by simp [vi, Value.category]) rfl rfl ?_
  refine zi_iconst d_tt_layPlainRound_0 ?_
  refine zi_istore_n d_tt_layPlainRound_1 (by decide) rfl ?_
  have key := zup (P := fun (i : Nat) => zV l (d + 4) M_tt_layPlainRound 2 [.ref 1, vi (r : Int), vi (m : Int), vi ((i : Int) + 1), .null, .null] [] (plR τ r m i) (0, 0) (.inl none, (SH, zq (plE τ r m n)), 0, 0)) ((m - 1) / 2) ?_ ?_ 0 (by omega)
  · exact zE4 key (by refine ⟨?_, ?_, ?_, ?_, ?_, ?_, trivial⟩ <;> first | exact Or.inl rfl | exact Or.inr rfl) rfl
  · intro i hi hk
    refine zi_iload_n d_tt_layPlainRound_2 rfl ?_
    refine zi_iload_n d_tt_layPlainRound_3 rfl ?_
    refine zi_iconst d_tt_layPlainRound_4 ?_
    refine zi_isub d_tt_layPlainRound_5 ?_
    refine zi_iconst d_tt_layPlainRound_6 ?_
    refine zi_idiv d_tt_layPlainRound_7 ⟨by omega, by omega⟩ ⟨by omega, by omega⟩ ?_
    rw [show ((m : Int) - 1) / 2 = (((m - 1) / 2 : Nat) : Int) by omega]
    refine zi_icmp_gt 57 d_tt_layPlainRound_8 (by decide) ⟨by omega, by omega⟩ ⟨by omega, by omega⟩ (fun h8 => ?_) (fun h8 => ?_)
    · exact absurd h8 (by omega)
    · refine zi_iload_n d_tt_layPlainRound_11 rfl ?_
      refine zi_iload_n d_tt_layPlainRound_12 rfl ?_
      refine zi_iadd d_tt_layPlainRound_13 ?_
      refine zi_iload_n d_tt_layPlainRound_14 rfl ?_
      refine c_tt_layPlainRound_15 rfl (tt_wrapped ⟨by omega, by omega⟩ ⟨by omega, by omega⟩) ?_
      show zV _ _ _ _ _ (vi _ :: _) _ _ _
      rw [show (r : Int) + ((i : Int) + 1) = ((r + (i + 1) : Nat) : Int) by omega, wrap_mod (by omega)]
      refine zi_istore d_tt_layPlainRound_18 (by decide) rfl ?_
      refine zi_iload_n d_tt_layPlainRound_20 rfl ?_
      refine zi_iload_n d_tt_layPlainRound_21 rfl ?_
      refine zi_iadd d_tt_layPlainRound_22 ?_
      refine zi_iload_n d_tt_layPlainRound_23 rfl ?_
      refine zi_isub d_tt_layPlainRound_24 ?_
      refine zi_iload_n d_tt_layPlainRound_25 rfl ?_
      refine c_tt_layPlainRound_26 rfl (tt_wrapped ⟨by omega, by omega⟩ ⟨by omega, by omega⟩) ?_
      show zV _ _ _ _ _ (vi _ :: _) _ _ _
      rw [show (r : Int) + (m : Int) - ((i : Int) + 1) = ((r + m - (i + 1) : Nat) : Int) by omega, wrap_mod (by omega)]
      have hq1 := Nat.mod_lt (r + (i + 1)) (show 0 < m by omega)
      have hq2 := Nat.mod_lt (r + m - (i + 1)) (show 0 < m by omega)
      refine zi_istore d_tt_layPlainRound_29 (by decide) rfl ?_
      refine zr_aload_n d_tt_layPlainRound_31 rfl ?_
      refine zi_iload_n d_tt_layPlainRound_32 rfl ?_
      refine zi_iload d_tt_layPlainRound_33 rfl ?_
      refine zi_iload d_tt_layPlainRound_35 rfl ?_
      refine zi_iload_n d_tt_layPlainRound_37 rfl ?_
      refine zi_iconst d_tt_layPlainRound_38 ?_
      refine zi_irem d_tt_layPlainRound_39 ⟨by omega, by omega⟩ ⟨by omega, by omega⟩ ?_
      refine zi_if_eq 47 d_tt_layPlainRound_40 (by decide) ⟨by omega, by omega⟩ (fun h40 => ?_) (fun h40 => ?_)
      · have hpar : ¬ (i + 1) % 2 = 1 := by omega
        refine zi_iconst d_tt_layPlainRound_47 ?_
        refine c_tt_layPlainRound_48 rfl rfl (tt_layPlainGame (by rw [plR_ne _ _ _ _ _ (by decide) (by decide)]; exact hw) ⟨by omega, by omega⟩ ⟨by omega, by omega⟩ ⟨by omega, by omega⟩ (by first | exact Or.inl rfl | exact Or.inr rfl)) ?_
        refine zi_iinc d_tt_layPlainRound_51 (by decide) rfl rfl ?_
        refine zr_goto 2 d_tt_layPlainRound_54 (by decide) ?_
        exact zE4 hk (by refine ⟨?_, ?_, ?_, ?_, ?_, ?_, trivial⟩ <;> first | exact Or.inl rfl | exact Or.inr rfl) (by rw [plR, plG]; first | (rw [if_pos hpar]; rfl) | (rw [if_neg hpar]; rfl))
      · have hpar : (i + 1) % 2 = 1 := by omega
        refine zi_iconst d_tt_layPlainRound_43 ?_
        refine zr_goto 48 d_tt_layPlainRound_44 (by decide) ?_
        refine c_tt_layPlainRound_48 rfl rfl (tt_layPlainGame (by rw [plR_ne _ _ _ _ _ (by decide) (by decide)]; exact hw) ⟨by omega, by omega⟩ ⟨by omega, by omega⟩ ⟨by omega, by omega⟩ (by first | exact Or.inl rfl | exact Or.inr rfl)) ?_
        refine zi_iinc d_tt_layPlainRound_51 (by decide) rfl rfl ?_
        refine zr_goto 2 d_tt_layPlainRound_54 (by decide) ?_
        exact zE4 hk (by refine ⟨?_, ?_, ?_, ?_, ?_, ?_, trivial⟩ <;> first | exact Or.inl rfl | exact Or.inr rfl) (by rw [plR, plG]; first | (rw [if_pos hpar]; rfl) | (rw [if_neg hpar]; rfl))
  · refine zi_iload_n d_tt_layPlainRound_2 rfl ?_
    refine zi_iload_n d_tt_layPlainRound_3 rfl ?_
    refine zi_iconst d_tt_layPlainRound_4 ?_
    refine zi_isub d_tt_layPlainRound_5 ?_
    refine zi_iconst d_tt_layPlainRound_6 ?_
    refine zi_idiv d_tt_layPlainRound_7 ⟨by omega, by omega⟩ ⟨by omega, by omega⟩ ?_
    rw [show ((m : Int) - 1) / 2 = (((m - 1) / 2 : Nat) : Int) by omega]
    refine zi_icmp_gt 57 d_tt_layPlainRound_8 (by decide) ⟨by omega, by omega⟩ ⟨by omega, by omega⟩ (fun h8 => ?_) (fun h8 => ?_)
    · refine zr_aload_n d_tt_layPlainRound_57 rfl ?_
      refine zi_getiE (j := 3) (x := (n : Int)) d_tt_layPlainRound_58 zC4 fl_tt_22 (by decide) rfl rfl (by rw [plR_ne _ _ _ _ _ (by decide) (by decide)]; exact hn) ?_
      refine zi_iconst d_tt_layPlainRound_61 ?_
      refine zi_irem d_tt_layPlainRound_62 ⟨by omega, by omega⟩ ⟨by omega, by omega⟩ ?_
      refine zi_if_ne 89 d_tt_layPlainRound_63 (by decide) ⟨by omega, by omega⟩ (fun h63 => ?_) (fun h63 => ?_)
      · have hpn : ¬ n % 2 = 0 := by omega
        exact zk_vret rfl d_tt_layPlainRound_89 (Nat.zero_le _) (Nat.zero_le _) (by unfold plE; first | (rw [if_neg hpn]; done) | (rw [if_pos hpn, if_pos hpr]; rfl) | (rw [if_pos hpn, if_neg hpr]; rfl))
      · have hpn : n % 2 = 0 := by omega
        refine zr_aload_n d_tt_layPlainRound_66 rfl ?_
        refine zi_iload_n d_tt_layPlainRound_67 rfl ?_
        refine zi_iload_n d_tt_layPlainRound_68 rfl ?_
        refine zr_aload_n d_tt_layPlainRound_69 rfl ?_
        refine zi_getiE (j := 3) (x := (n : Int)) d_tt_layPlainRound_70 zC4 fl_tt_22 (by decide) rfl rfl (by rw [plR_ne _ _ _ _ _ (by decide) (by decide)]; exact hn) ?_
        refine zi_iconst d_tt_layPlainRound_73 ?_
        refine zi_isub d_tt_layPlainRound_74 ?_
        refine zi_iload_n d_tt_layPlainRound_75 rfl ?_
        refine zi_iconst d_tt_layPlainRound_76 ?_
        refine zi_irem d_tt_layPlainRound_77 ⟨by omega, by omega⟩ ⟨by omega, by omega⟩ ?_
        refine zi_if_ne 85 d_tt_layPlainRound_78 (by decide) ⟨by omega, by omega⟩ (fun h78 => ?_) (fun h78 => ?_)
        · have hpr : ¬ r % 2 = 0 := by omega
          refine zi_iconst d_tt_layPlainRound_85 ?_
          rw [show (n : Int) - 1 = ((n - 1 : Nat) : Int) by omega]
          refine c_tt_layPlainRound_86 rfl rfl (tt_layPlainGame (by rw [plR_ne _ _ _ _ _ (by decide) (by decide)]; exact hw) ⟨by omega, by omega⟩ ⟨by omega, by omega⟩ ⟨by omega, by omega⟩ (by first | exact Or.inl rfl | exact Or.inr rfl)) ?_
          exact zk_vret rfl d_tt_layPlainRound_89 (Nat.zero_le _) (Nat.zero_le _) (by unfold plE; first | (rw [if_neg hpn]; done) | (rw [if_pos hpn, if_pos hpr]; rfl) | (rw [if_pos hpn, if_neg hpr]; rfl))
        · have hpr : r % 2 = 0 := by omega
          refine zi_iconst d_tt_layPlainRound_81 ?_
          refine zr_goto 86 d_tt_layPlainRound_82 (by decide) ?_
          rw [show (n : Int) - 1 = ((n - 1 : Nat) : Int) by omega]
          refine c_tt_layPlainRound_86 rfl rfl (tt_layPlainGame (by rw [plR_ne _ _ _ _ _ (by decide) (by decide)]; exact hw) ⟨by omega, by omega⟩ ⟨by omega, by omega⟩ ⟨by omega, by omega⟩ (by first | exact Or.inl rfl | exact Or.inr rfl)) ?_
          exact zk_vret rfl d_tt_layPlainRound_89 (Nat.zero_le _) (Nat.zero_le _) (by unfold plE; first | (rw [if_neg hpn]; done) | (rw [if_pos hpn, if_pos hpr]; rfl) | (rw [if_pos hpn, if_neg hpr]; rfl))
    · exact absurd h8 (by omega)
def lrS (τ w : tS) (r k t : Nat) : tS := if τ 3 ((k : Int) * 20 + (t : Int)).toNat = 1 then tG w r (τ 2 ((k : Int) * 20 + (t : Int)).toNat) t else w
def lrR (τ : tS) (r k : Nat) : Nat → tS
  | 0 => τ
  | t + 1 => lrS τ (lrR τ r k t) r k t
def rowOk (τ : tS) (k n : Nat) : Prop := ∀ t : Nat, t < n → τ 3 ((k : Int) * 20 + (t : Int)).toNat = 1 → 0 ≤ τ 2 ((k : Int) * 20 + (t : Int)).toNat ∧ τ 2 ((k : Int) * 20 + (t : Int)).toNat < 20
theorem lrR_out {τ : tS} {r k n : Nat} (hO : rowOk τ k n) (hn : n ≤ 20) (q j : Nat) (hj : (q ≠ 2 ∧ q ≠ 3) ∨ j < 20 * r ∨ 20 * r + 20 ≤ j) : ∀ t, t ≤ n → lrR τ r k t q j = τ q j
  | 0, _ => rfl
  | t + 1, ht => by
    rw [lrR, lrS]
    split
    · rename_i h1
      rcases hj with h | h
      · rw [tG_ne _ _ _ _ _ _ h.1 h.2, lrR_out hO hn q j (Or.inl h) t (by omega)]
      · rw [tG_out _ (hO t (by omega) h1) ⟨by omega, by omega⟩ q j h, lrR_out hO hn q j (Or.inr h) t (by omega)]
    · exact lrR_out hO hn q j hj t (by omega)
theorem tt_layReturnRound {l : Launch} {d : Nat} {τ : tS} {r k n : Nat} (hw : τ 1 0 = 20) (hn : τ 1 3 = (n : Int)) (hn2 : n ≤ 20) (hr : r < 38) (hk8 : k < 38) (hrk : r ≠ k) (hA : AllIn τ) (hO : rowOk τ k n) : zF l (d + 3) M_tt_layReturnRound [.ref 1, vi (r : Int), vi (k : Int)] (τ) (none) (lrR τ r k n) := by
  refine zMet_of (ls := [.ref 1, vi (r : Int), vi (k : Int), .null]) pn_tt rfl (by simp [vi, Value.category]) rfl rfl ?_
  refine zi_iconst d_tt_layReturnRound_0 ?_
  refine zi_istore_n d_tt_layReturnRound_1 (by decide) rfl ?_
  have key := zup (P := fun (i : Nat) => zV l (d + 3) M_tt_layReturnRound 2 [.ref 1, vi (r : Int), vi (k : Int), vi (i : Int)] [] (lrR τ r k i) (0, 0) (.inl none, (SH, zq (lrR τ r k n)), 0, 0)) (n) ?_ ?_ 0 (by omega)
  · exact zE4 key (by refine ⟨?_, ?_, ?_, ?_, trivial⟩ <;> first | exact Or.inl rfl | exact Or.inr rfl) rfl
  · intro i hi hk
    refine zi_iload_n d_tt_layReturnRound_2 rfl ?_
    refine zr_aload_n d_tt_layReturnRound_3 rfl ?_
    refine zi_getiE (j := 3) (x := (n : Int)) d_tt_layReturnRound_4 zC4 fl_tt_22 (by decide) rfl rfl (by rw [lrR_out hO hn2 _ _ (Or.inl (by decide)) i (by omega)]; exact hn) ?_
    refine zi_icmp_ge 38 d_tt_layReturnRound_7 (by decide) (by first | assumption | exact ⟨by omega, by omega⟩) (by first | assumption | exact ⟨by omega, by omega⟩) (fun h7 => ?_) (fun h7 => ?_)
    · exact absurd h7 (by omega)
    · refine zr_aload_n d_tt_layReturnRound_10 rfl ?_
      refine zi_iload_n d_tt_layReturnRound_11 rfl ?_
      refine zi_iload_n d_tt_layReturnRound_12 rfl ?_
      refine c_tt_layReturnRound_13 rfl rfl (tt1_venueAt (by rw [lrR_out hO hn2 _ _ (Or.inl (by decide)) i (by omega)]; exact hw) ⟨by omega, by omega⟩ ⟨by omega, by omega⟩) ?_
      refine zi_iconst d_tt_layReturnRound_16 ?_
      rw [lrR_out hO hn2 3 ((k : Int) * 20 + (i : Int)).toNat (Or.inr (by omega)) i (by omega)]
      refine zi_icmp_ne 32 d_tt_layReturnRound_17 (by decide) (hA _ _) (by first | assumption | exact ⟨by omega, by omega⟩) (fun h17 => ?_) (fun h17 => ?_)
      · refine zi_iinc d_tt_layReturnRound_32 (by decide) rfl rfl ?_
        refine zr_goto 2 d_tt_layReturnRound_35 (by decide) ?_
        exact zE4 hk (by refine ⟨?_, ?_, ?_, ?_, trivial⟩ <;> first | exact Or.inl rfl | exact Or.inr rfl) (by rw [lrR, lrS]; first | (rw [if_pos h17]; rfl) | (rw [if_neg h17]; done))
      · refine zr_aload_n d_tt_layReturnRound_20 rfl ?_
        refine zi_iload_n d_tt_layReturnRound_21 rfl ?_
        refine zr_aload_n d_tt_layReturnRound_22 rfl ?_
        refine zi_iload_n d_tt_layReturnRound_23 rfl ?_
        refine zi_iload_n d_tt_layReturnRound_24 rfl ?_
        refine c_tt_layReturnRound_25 rfl rfl (tt1_opponentAt (by rw [lrR_out hO hn2 _ _ (Or.inl (by decide)) i (by omega)]; exact hw) ⟨by omega, by omega⟩ ⟨by omega, by omega⟩) ?_
        show zV _ _ _ _ _ (vi _ :: _) _ _ _
        rw [lrR_out hO hn2 2 ((k : Int) * 20 + (i : Int)).toNat (Or.inr (by omega)) i (by omega)]
        refine zi_iload_n d_tt_layReturnRound_28 rfl ?_
        refine c_tt_layReturnRound_29 rfl rfl (tt1_putGame (by rw [lrR_out hO hn2 _ _ (Or.inl (by decide)) i (by omega)]; exact hw) ⟨by omega, by omega⟩ (hO i (by omega) h17) ⟨by omega, by omega⟩) ?_
        refine zi_iinc d_tt_layReturnRound_32 (by decide) rfl rfl ?_
        refine zr_goto 2 d_tt_layReturnRound_35 (by decide) ?_
        exact zE4 hk (by refine ⟨?_, ?_, ?_, ?_, trivial⟩ <;> first | exact Or.inl rfl | exact Or.inr rfl) (by rw [lrR, lrS]; first | (rw [if_pos h17]; rfl) | (rw [if_neg h17]; done))
  · refine zi_iload_n d_tt_layReturnRound_2 rfl ?_
    refine zr_aload_n d_tt_layReturnRound_3 rfl ?_
    refine zi_getiE (j := 3) (x := (n : Int)) d_tt_layReturnRound_4 zC4 fl_tt_22 (by decide) rfl rfl (by rw [lrR_out hO hn2 _ _ (Or.inl (by decide)) n (Nat.le_refl _)]; exact hn) ?_
    refine zi_icmp_ge 38 d_tt_layReturnRound_7 (by decide) (by first | assumption | exact ⟨by omega, by omega⟩) (by first | assumption | exact ⟨by omega, by omega⟩) (fun h7 => ?_) (fun h7 => ?_)
    · exact zk_vret rfl d_tt_layReturnRound_38 (Nat.zero_le _) (Nat.zero_le _) rfl
    · exact absurd h7 (by omega)
