/-! the reference: what a choice of its search needs (written by wip/gen/t34.py) -/
def dnF (p : Nat → Bool) (n : Nat) : Nat → Int
  | 0 => -1
  | c + 1 => if p (n - (c + 1)) = true then ((n - (c + 1) : Nat) : Int) else dnF p n c
def opP (τ : tS) (r t : Nat) : Bool := decide (τ 53 (20 * r + t) = -2)
def hmP (τ : tS) (a b r : Nat) : Bool := decide (τ 53 (20 * r + a) = (b : Int))
def hbP (τ : tS) (t r : Nat) : Bool := decide (τ 53 (20 * r + t) = -1)
def awV (τ : tS) (t r : Nat) : Int := if 0 ≤ τ 53 (20 * r + t) ∧ τ 54 (20 * r + t) = 0 then 0 else 1
def swP (τ : tS) (r h i : Nat) : Bool := decide ((τ 39 i = (h : Int) ∧ 0 ≤ τ 53 (20 * (r : Int) + τ 40 i).toNat ∧ ¬ τ 54 (20 * (r : Int) + τ 40 i).toNat = 0) ∨ (¬ τ 39 i = (h : Int) ∧ τ 40 i = (h : Int) ∧ 0 ≤ τ 53 (20 * (r : Int) + τ 39 i).toNat ∧ ¬ τ 54 (20 * (r : Int) + τ 39 i).toNat = 0))
/-- the fixed game i does not let h play a in round r -/
def kfP (τ : tS) (r h a i : Nat) : Bool := decide (¬ (if τ 43 i = (r : Int) then ¬ ((τ 41 i = (h : Int) ∨ τ 42 i = (h : Int)) ∨ (τ 41 i = (a : Int) ∨ τ 42 i = (a : Int))) ∨ (τ 41 i = (h : Int) ∧ τ 42 i = (a : Int)) else ¬ (τ 41 i = (h : Int) ∧ τ 42 i = (a : Int)) ∧ ¬ (τ 41 i = (a : Int) ∧ τ 42 i = (h : Int))))
def mrP (τ : tS) (r t i : Nat) : Bool := decide (τ 43 i = (r : Int) ∧ (τ 41 i = (t : Int) ∨ τ 42 i = (t : Int)))
def mayF (τ : tS) (p f r h a : Nat) : Bool := decide (τ 38 (2 * (39 * h + r)) = 0 ∧ τ 38 (2 * (39 * a + r) + 1) = 0 ∧ anyN (swP τ r h) p = false ∧ anyN (kfP τ r h a) f = false ∧ (τ 37 11 = 0 ∨ ((awr (awV τ a) r : Nat) : Int) < τ 37 11))
def restF (τ : tS) (n f r t : Nat) : Bool := decide (n % 2 = 1 ∧ anyN (hbP τ t) r = false ∧ anyN (mrP τ r t) f = false)
def canF (τ : tS) (n p f r t c : Nat) : Bool := if c / 2 = n then restF τ n f r t else decide (¬ c / 2 = t ∧ τ 53 (20 * r + c / 2) = -2 ∧ anyN (hmP τ t (c / 2)) (r + 1) = false ∧ mayF τ p f r (if c % 2 = 0 then t else c / 2) (if c % 2 = 0 then c / 2 else t) = true)
theorem n2i1 (b : Bool) : n2i b = if b = true then 0 else 1 := rfl
theorem md_firstOpen {l : Launch} {d : Nat} {τ : tS} {n R p f e : Nat} (C : Mo τ n R p f e) (hn8 : n ≤ 8) {r : Nat} (hr : r < 8) : zF l (d + 1) M_md_firstOpen [.ref 37, vi (r : Int)] (τ) (some (vi (dnF (opP τ r) n n))) (τ) := by
  refine zMet_of (ls := [.ref 37, vi (r : Int), .null, .null]) pn_md rfl (by simp [vi, Value.category]) rfl rfl ?_
  have hA := C.A
  have hn := C.n
  have hn4 := C.n4
  have hn20 := C.n20
  have hR := C.R
  have hR38 := C.R38
  refine zi_iconst d_md_firstOpen_0 ?_
  refine zi_istore_n d_md_firstOpen_1 (by decide) rfl ?_
  refine zr_aload_n d_md_firstOpen_2 rfl ?_
  refine zi_getiE (j := 1) (x := (n : Int)) d_md_firstOpen_3 zC8 fl_md_7 (by decide) rfl rfl (hn) ?_
  refine zi_iconst d_md_firstOpen_6 ?_
  refine zi_isub d_md_firstOpen_7 ?_
  refine zi_istore_n d_md_firstOpen_8 (by decide) rfl ?_
  have key := zup (P := fun (c : Nat) => zV l (d + 1) M_md_firstOpen 9 [.ref 37, vi (r : Int), vi (dnF (opP τ r) n c), vi ((n : Int) - (c : Int) - 1)] [] τ (0, 0) (.inl (some (vi (dnF (opP τ r) n n))), (SH, zq τ), 0, 0)) n ?_ ?_ 0 (by omega)
  · exact zE4 key (by refine ⟨?_, ?_, ?_, ?_, trivial⟩ <;> first | exact Or.inl rfl | exact Or.inr rfl | exact Or.inr (congrArg vi (by omega))) rfl
  · intro c hc hk
    refine zi_iload_n d_md_firstOpen_9 rfl ?_
    refine zi_if_lt 41 d_md_firstOpen_10 (by decide) ⟨by omega, by omega⟩ (fun h10 => ?_) (fun h10 => ?_)
    · exact absurd h10 (by omega)
    · refine zr_aload_n d_md_firstOpen_13 rfl ?_
      refine zi_getr (j := 23) d_md_firstOpen_14 zC8 fl_md_60 (by decide) rfl rfl ?_
      refine zi_bipush d_md_firstOpen_17 (by decide) ?_
      refine zi_iload_n d_md_firstOpen_19 rfl ?_
      refine zi_imul d_md_firstOpen_20 ?_
      refine zi_iload_n d_md_firstOpen_21 rfl ?_
      refine zi_iadd d_md_firstOpen_22 ?_
      refine zi_ialdE (x := τ 53 (20 * r + (n - (c + 1)))) d_md_firstOpen_23 rfl (by decide) (by omega) (by omega) (by rw [show (20 * (r : Int) + ((n : Int) - (c : Int) - 1)).toNat = 20 * r + (n - (c + 1)) by omega]) ?_
      refine zi_bipush d_md_firstOpen_24 (by decide) ?_
      refine zi_icmp_ne 33 d_md_firstOpen_26 (by decide) (hA _ _) ⟨by decide, by decide⟩ (fun h26 => ?_) (fun h26 => ?_)
      · refine zi_iload_n d_md_firstOpen_33 rfl ?_
        refine zi_istore_n d_md_firstOpen_34 (by decide) rfl ?_
        refine zi_iinc d_md_firstOpen_35 (by decide) rfl rfl ?_
        refine zr_goto 9 d_md_firstOpen_38 (by decide) ?_
        exact zE4 hk (by refine ⟨?_, ?_, ?_, ?_, trivial⟩ <;> first | exact Or.inl rfl | exact Or.inr rfl | exact Or.inr (congrArg vi (by omega)) | exact Or.inr (congrArg vi (by rw [dnF]; first | (rw [if_pos (by unfold opP; exact decide_eq_true (by omega))]; omega) | (rw [if_neg (by unfold opP; intro g; exact absurd (of_decide_eq_true g) (by omega))])))) rfl
      · refine zi_iload_n d_md_firstOpen_29 rfl ?_
        refine zr_goto 34 d_md_firstOpen_30 (by decide) ?_
        refine zi_istore_n d_md_firstOpen_34 (by decide) rfl ?_
        refine zi_iinc d_md_firstOpen_35 (by decide) rfl rfl ?_
        refine zr_goto 9 d_md_firstOpen_38 (by decide) ?_
        exact zE4 hk (by refine ⟨?_, ?_, ?_, ?_, trivial⟩ <;> first | exact Or.inl rfl | exact Or.inr rfl | exact Or.inr (congrArg vi (by omega)) | exact Or.inr (congrArg vi (by rw [dnF]; first | (rw [if_pos (by unfold opP; exact decide_eq_true (by omega))]; omega) | (rw [if_neg (by unfold opP; intro g; exact absurd (of_decide_eq_true g) (by omega))])))) rfl
  · refine zi_iload_n d_md_firstOpen_9 rfl ?_
    refine zi_if_lt 41 d_md_firstOpen_10 (by decide) ⟨by omega, by omega⟩ (fun h10 => ?_) (fun h10 => ?_)
    · refine zi_iload_n d_md_firstOpen_41 rfl ?_
      exact zk_iret rfl d_md_firstOpen_42 (Nat.zero_le _) (Nat.zero_le _) (by first | rfl | omega | (split <;> omega) | simp_all) rfl
    · exact absurd h10 (by omega)
theorem md_haveMet {l : Launch} {d : Nat} {τ : tS} (hA : AllIn τ) {a b r : Nat} (ha : a < 20) (hb : b < 20) (hr : r < 8) : zF l (d + 1) M_md_haveMet [.ref 37, vi (a : Int), vi (b : Int), vi (r : Int)] (τ) (some (vi (b2i (anyN (hmP τ a b) (r + 1))))) (τ) := by
  refine zMet_of (ls := [.ref 37, vi (a : Int), vi (b : Int), vi (r : Int), .null, .null]) pn_md rfl (by simp [vi, Value.category]) rfl rfl ?_
  refine zi_iconst d_md_haveMet_0 ?_
  refine zi_istore d_md_haveMet_1 (by decide) rfl ?_
  refine zi_iconst d_md_haveMet_3 ?_
  refine zi_istore d_md_haveMet_4 (by decide) rfl ?_
  have key := zup (P := fun (i : Nat) => zV l (d + 1) M_md_haveMet 6 [.ref 37, vi (a : Int), vi (b : Int), vi (r : Int), vi (b2i (anyN (hmP τ a b) i)), vi (i : Int)] [] (τ) (0, 0) (.inl (some (vi (b2i (anyN (hmP τ a b) (r + 1))))), (SH, zq τ), 0, 0)) (r + 1) ?_ ?_ 0 (by omega)
  · exact zE4 key (by refine ⟨?_, ?_, ?_, ?_, ?_, ?_, trivial⟩ <;> first | exact Or.inl rfl | exact Or.inr rfl) rfl
  · intro i hi hk
    refine zi_iload d_md_haveMet_6 rfl ?_
    refine zi_iload_n d_md_haveMet_8 rfl ?_
    refine zi_icmp_gt 46 d_md_haveMet_9 (by decide) (by first | assumption | exact ⟨by omega, by omega⟩) (by first | assumption | exact ⟨by omega, by omega⟩) (fun h9 => ?_) (fun h9 => ?_)
    · exact absurd h9 (by omega)
    · refine zi_iload d_md_haveMet_12 rfl ?_
      refine zi_if_ne 33 d_md_haveMet_14 (by decide) (b2i_in _) (fun h14 => ?_) (fun h14 => ?_)
      · refine zi_iconst d_md_haveMet_33 ?_
        refine zr_goto 38 d_md_haveMet_34 (by decide) ?_
        refine zi_istore d_md_haveMet_38 (by decide) rfl ?_
        refine zi_iinc d_md_haveMet_40 (by decide) rfl rfl ?_
        refine zr_goto 6 d_md_haveMet_43 (by decide) ?_
        exact zE4 hk (by refine ⟨?_, ?_, ?_, ?_, ?_, ?_, trivial⟩ <;> first | exact Or.inl rfl | exact Or.inr rfl | exact Or.inr (congrArg vi (by refine (flg3 (fun g => ?_) (fun g => ?_)).symm; (first | rfl | exact absurd h14 g); (first | exact absurd g h14 | (clear hk; unfold b2i hmP; grind))))) rfl
      · refine zr_aload_n d_md_haveMet_17 rfl ?_
        refine zi_getr (j := 23) d_md_haveMet_18 zC8 fl_md_60 (by decide) rfl rfl ?_
        refine zi_bipush d_md_haveMet_21 (by decide) ?_
        refine zi_iload d_md_haveMet_23 rfl ?_
        refine zi_imul d_md_haveMet_25 ?_
        refine zi_iload_n d_md_haveMet_26 rfl ?_
        refine zi_iadd d_md_haveMet_27 ?_
        refine zi_ialdE (x := τ 53 (20 * i + a)) d_md_haveMet_28 rfl (by decide) (by omega) (by omega) (by rw [ixm]) ?_
        refine zi_iload_n d_md_haveMet_29 rfl ?_
        refine zi_icmp_ne 37 d_md_haveMet_30 (by decide) (hA _ _) ⟨by omega, by omega⟩ (fun h30 => ?_) (fun h30 => ?_)
        · refine zi_iconst d_md_haveMet_37 ?_
          refine zi_istore d_md_haveMet_38 (by decide) rfl ?_
          refine zi_iinc d_md_haveMet_40 (by decide) rfl rfl ?_
          refine zr_goto 6 d_md_haveMet_43 (by decide) ?_
          exact zE4 hk (by refine ⟨?_, ?_, ?_, ?_, ?_, ?_, trivial⟩ <;> first | exact Or.inl rfl | exact Or.inr rfl | exact Or.inr (congrArg vi (by refine (flg3 (fun g => ?_) (fun g => ?_)).symm; (first | rfl | exact absurd h14 g); (first | exact absurd g h14 | (clear hk; unfold b2i hmP; grind))))) rfl
        · refine zi_iconst d_md_haveMet_33 ?_
          refine zr_goto 38 d_md_haveMet_34 (by decide) ?_
          refine zi_istore d_md_haveMet_38 (by decide) rfl ?_
          refine zi_iinc d_md_haveMet_40 (by decide) rfl rfl ?_
          refine zr_goto 6 d_md_haveMet_43 (by decide) ?_
          exact zE4 hk (by refine ⟨?_, ?_, ?_, ?_, ?_, ?_, trivial⟩ <;> first | exact Or.inl rfl | exact Or.inr rfl | exact Or.inr (congrArg vi (by refine (flg3 (fun g => ?_) (fun g => ?_)).symm; (first | rfl | exact absurd h14 g); (first | exact absurd g h14 | (clear hk; unfold b2i hmP; grind))))) rfl
  · refine zi_iload d_md_haveMet_6 rfl ?_
    refine zi_iload_n d_md_haveMet_8 rfl ?_
    refine zi_icmp_gt 46 d_md_haveMet_9 (by decide) (by first | assumption | exact ⟨by omega, by omega⟩) (by first | assumption | exact ⟨by omega, by omega⟩) (fun h9 => ?_) (fun h9 => ?_)
    · refine zi_iload d_md_haveMet_46 rfl ?_
      exact zk_zret rfl d_md_haveMet_48 (Nat.zero_le _) (Nat.zero_le _) (b2i_0 _) rfl rfl
    · exact absurd h9 (by omega)
theorem md_hadBye {l : Launch} {d : Nat} {τ : tS} (hA : AllIn τ) {t r : Nat} (ht : t < 20) (hr : r < 8) : zF l (d + 1) M_md_hadBye [.ref 37, vi (t : Int), vi (r : Int)] (τ) (some (vi (b2i (anyN (hbP τ t) r)))) (τ) := by
  refine zMet_of (ls := [.ref 37, vi (t : Int), vi (r : Int), .null, .null]) pn_md rfl (by simp [vi, Value.category]) rfl rfl ?_
  refine zi_iconst d_md_hadBye_0 ?_
  refine zi_istore_n d_md_hadBye_1 (by decide) rfl ?_
  refine zi_iconst d_md_hadBye_2 ?_
  refine zi_istore d_md_hadBye_3 (by decide) rfl ?_
  have key := zup (P := fun (i : Nat) => zV l (d + 1) M_md_hadBye 5 [.ref 37, vi (t : Int), vi (r : Int), vi (b2i (anyN (hbP τ t) i)), vi (i : Int)] [] (τ) (0, 0) (.inl (some (vi (b2i (anyN (hbP τ t) r)))), (SH, zq τ), 0, 0)) (r) ?_ ?_ 0 (by omega)
  · exact zE4 key (by refine ⟨?_, ?_, ?_, ?_, ?_, trivial⟩ <;> first | exact Or.inl rfl | exact Or.inr rfl) rfl
  · intro i hi hk
    refine zi_iload d_md_hadBye_5 rfl ?_
    refine zi_iload_n d_md_hadBye_7 rfl ?_
    refine zi_icmp_ge 43 d_md_hadBye_8 (by decide) (by first | assumption | exact ⟨by omega, by omega⟩) (by first | assumption | exact ⟨by omega, by omega⟩) (fun h8 => ?_) (fun h8 => ?_)
    · exact absurd h8 (by omega)
    · refine zi_iload_n d_md_hadBye_11 rfl ?_
      refine zi_if_ne 31 d_md_hadBye_12 (by decide) (b2i_in _) (fun h12 => ?_) (fun h12 => ?_)
      · refine zi_iconst d_md_hadBye_31 ?_
        refine zr_goto 36 d_md_hadBye_32 (by decide) ?_
        refine zi_istore_n d_md_hadBye_36 (by decide) rfl ?_
        refine zi_iinc d_md_hadBye_37 (by decide) rfl rfl ?_
        refine zr_goto 5 d_md_hadBye_40 (by decide) ?_
        exact zE4 hk (by refine ⟨?_, ?_, ?_, ?_, ?_, trivial⟩ <;> first | exact Or.inl rfl | exact Or.inr rfl | exact Or.inr (congrArg vi (by refine (flg3 (fun g => ?_) (fun g => ?_)).symm; (first | rfl | exact absurd h12 g); (first | exact absurd g h12 | (clear hk; unfold b2i hbP; grind))))) rfl
      · refine zr_aload_n d_md_hadBye_15 rfl ?_
        refine zi_getr (j := 23) d_md_hadBye_16 zC8 fl_md_60 (by decide) rfl rfl ?_
        refine zi_bipush d_md_hadBye_19 (by decide) ?_
        refine zi_iload d_md_hadBye_21 rfl ?_
        refine zi_imul d_md_hadBye_23 ?_
        refine zi_iload_n d_md_hadBye_24 rfl ?_
        refine zi_iadd d_md_hadBye_25 ?_
        refine zi_ialdE (x := τ 53 (20 * i + t)) d_md_hadBye_26 rfl (by decide) (by omega) (by omega) (by rw [ixm]) ?_
        refine zi_iconst d_md_hadBye_27 ?_
        refine zi_icmp_ne 35 d_md_hadBye_28 (by decide) (hA _ _) ⟨by decide, by decide⟩ (fun h28 => ?_) (fun h28 => ?_)
        · refine zi_iconst d_md_hadBye_35 ?_
          refine zi_istore_n d_md_hadBye_36 (by decide) rfl ?_
          refine zi_iinc d_md_hadBye_37 (by decide) rfl rfl ?_
          refine zr_goto 5 d_md_hadBye_40 (by decide) ?_
          exact zE4 hk (by refine ⟨?_, ?_, ?_, ?_, ?_, trivial⟩ <;> first | exact Or.inl rfl | exact Or.inr rfl | exact Or.inr (congrArg vi (by refine (flg3 (fun g => ?_) (fun g => ?_)).symm; (first | rfl | exact absurd h12 g); (first | exact absurd g h12 | (clear hk; unfold b2i hbP; grind))))) rfl
        · refine zi_iconst d_md_hadBye_31 ?_
          refine zr_goto 36 d_md_hadBye_32 (by decide) ?_
          refine zi_istore_n d_md_hadBye_36 (by decide) rfl ?_
          refine zi_iinc d_md_hadBye_37 (by decide) rfl rfl ?_
          refine zr_goto 5 d_md_hadBye_40 (by decide) ?_
          exact zE4 hk (by refine ⟨?_, ?_, ?_, ?_, ?_, trivial⟩ <;> first | exact Or.inl rfl | exact Or.inr rfl | exact Or.inr (congrArg vi (by refine (flg3 (fun g => ?_) (fun g => ?_)).symm; (first | rfl | exact absurd h12 g); (first | exact absurd g h12 | (clear hk; unfold b2i hbP; grind))))) rfl
  · refine zi_iload d_md_hadBye_5 rfl ?_
    refine zi_iload_n d_md_hadBye_7 rfl ?_
    refine zi_icmp_ge 43 d_md_hadBye_8 (by decide) (by first | assumption | exact ⟨by omega, by omega⟩) (by first | assumption | exact ⟨by omega, by omega⟩) (fun h8 => ?_) (fun h8 => ?_)
    · refine zi_iload_n d_md_hadBye_43 rfl ?_
      exact zk_zret rfl d_md_hadBye_44 (Nat.zero_le _) (Nat.zero_le _) (b2i_0 _) rfl rfl
    · exact absurd h8 (by omega)
theorem md_awayBefore {l : Launch} {d : Nat} {τ : tS} (hA : AllIn τ) {t r : Nat} (ht : t < 20) (hr : r < 8) : zF l (d + 1) M_md_awayBefore [.ref 37, vi (t : Int), vi (r : Int)] τ (some (vi ((awr (awV τ t) r : Nat) : Int))) τ := by
  refine zMet_of (ls := [.ref 37, vi (t : Int), vi (r : Int), .null, .null]) pn_md rfl (by simp [vi, Value.category]) rfl rfl ?_
  refine zi_iconst d_md_awayBefore_0 ?_
  refine zi_istore_n d_md_awayBefore_1 (by decide) rfl ?_
  refine zi_iload_n d_md_awayBefore_2 rfl ?_
  refine zi_iconst d_md_awayBefore_3 ?_
  refine zi_isub d_md_awayBefore_4 ?_
  refine zi_istore d_md_awayBefore_5 (by decide) rfl ?_
  have key : ∀ (j m : Nat), j ≤ r → m + awr (awV τ t) j = awr (awV τ t) r → zV l (d + 1) M_md_awayBefore 7 [.ref 37, vi (t : Int), vi (r : Int), vi (m : Int), vi ((j : Int) - 1)] [] τ (0, 0) (.inl (some (vi ((awr (awV τ t) r : Nat) : Int))), (SH, zq τ), 0, 0) := by
    intro j
    induction j with
    | zero =>
      intro m hj he
      rw [awr] at he
      refine zi_iload d_md_awayBefore_7 rfl ?_
      refine zi_if_lt 51 d_md_awayBefore_9 (by decide) ⟨by omega, by omega⟩ (fun h9 => ?_) (fun h9 => ?_)
      · refine zi_iload_n d_md_awayBefore_51 rfl ?_
        exact zk_iret rfl d_md_awayBefore_52 (Nat.zero_le _) (Nat.zero_le _) (by omega) rfl
      · exact absurd h9 (by omega)
    | succ j ih =>
      intro m hj he
      have hal := awr_le (awV τ t) r
      rw [awr] at he
      refine zi_iload d_md_awayBefore_7 rfl ?_
      refine zi_if_lt 51 d_md_awayBefore_9 (by decide) ⟨by omega, by omega⟩ (fun h9 => ?_) (fun h9 => ?_)
      · exact absurd h9 (by omega)
      · refine zr_aload_n d_md_awayBefore_12 rfl ?_
        refine zi_getr (j := 23) d_md_awayBefore_13 zC8 fl_md_60 (by decide) rfl rfl ?_
        refine zi_bipush d_md_awayBefore_16 (by decide) ?_
        refine zi_iload d_md_awayBefore_18 rfl ?_
        refine zi_imul d_md_awayBefore_20 ?_
        refine zi_iload_n d_md_awayBefore_21 rfl ?_
        refine zi_iadd d_md_awayBefore_22 ?_
        refine zi_ialdE (x := τ 53 (20 * j + t)) d_md_awayBefore_23 rfl (by decide) (by omega) (by omega) (by rw [show (20 * (((j + 1 : Nat) : Int) - 1) + (t : Int)).toNat = 20 * j + t by omega]) ?_
        refine zi_if_lt 51 d_md_awayBefore_24 (by decide) (hA _ _) (fun h24 => ?_) (fun h24 => ?_)
        · have hv : ¬ awV τ t j = 0 := by unfold awV; rw [if_neg (by omega)]; decide
          rw [if_neg hv] at he
          refine zi_iload_n d_md_awayBefore_51 rfl ?_
          exact zk_iret rfl d_md_awayBefore_52 (Nat.zero_le _) (Nat.zero_le _) (by omega) rfl
        · refine zr_aload_n d_md_awayBefore_27 rfl ?_
          refine zi_getr (j := 24) d_md_awayBefore_28 zC8 fl_md_63 (by decide) rfl rfl ?_
          refine zi_bipush d_md_awayBefore_31 (by decide) ?_
          refine zi_iload d_md_awayBefore_33 rfl ?_
          refine zi_imul d_md_awayBefore_35 ?_
          refine zi_iload_n d_md_awayBefore_36 rfl ?_
          refine zi_iadd d_md_awayBefore_37 ?_
          refine zi_zaldE (x := τ 54 (20 * j + t)) d_md_awayBefore_38 rfl (by decide) (by omega) (by omega) (by rw [show (20 * (((j + 1 : Nat) : Int) - 1) + (t : Int)).toNat = 20 * j + t by omega]) ?_
          refine zi_if_ne 51 d_md_awayBefore_39 (by decide) (hA _ _) (fun h39 => ?_) (fun h39 => ?_)
          · have hv : ¬ awV τ t j = 0 := by unfold awV; rw [if_neg (by omega)]; decide
            rw [if_neg hv] at he
            refine zi_iload_n d_md_awayBefore_51 rfl ?_
            exact zk_iret rfl d_md_awayBefore_52 (Nat.zero_le _) (Nat.zero_le _) (by omega) rfl
          · have hv : awV τ t j = 0 := by unfold awV; rw [if_pos ⟨by omega, h39⟩]
            rw [if_pos hv] at he
            refine zi_iinc d_md_awayBefore_42 (by decide) rfl rfl ?_
            refine zi_iinc d_md_awayBefore_45 (by decide) rfl rfl ?_
            refine zr_goto 7 d_md_awayBefore_48 (by decide) ?_
            exact zE4 (ih (m + 1) (by omega) (by omega)) (by refine ⟨?_, ?_, ?_, ?_, ?_, trivial⟩ <;> first | exact Or.inl rfl | exact Or.inr rfl | exact Or.inr (congrArg vi (by omega))) rfl
  exact zE4 (key r 0 (Nat.le_refl _) (by omega)) (by refine ⟨?_, ?_, ?_, ?_, ?_, trivial⟩ <;> first | exact Or.inl rfl | exact Or.inr rfl | exact Or.inr (congrArg vi (by omega))) rfl
theorem md_sharesWithOne {l : Launch} {d : Nat} {τ : tS} {n R p f e : Nat} (C : Mo τ n R p f e) (hn8 : n ≤ 8) {h r : Nat} (hh : h < 20) (hr : r < 7) : zF l (d + 1) M_md_sharesWithOne [.ref 37, vi (h : Int), vi (r : Int)] (τ) (some (vi (b2i (anyN (swP τ r h) p)))) (τ) := by
  refine zMet_of (ls := [.ref 37, vi (h : Int), vi (r : Int), .null, .null, .null]) pn_md rfl (by simp [vi, Value.category]) rfl rfl ?_
  have hA := C.A
  have hn := C.n
  have hn4 := C.n4
  have hn20 := C.n20
  have hR := C.R
  have hR38 := C.R38
  have hp6 := C.p6
  refine zi_iconst d_md_sharesWithOne_0 ?_
  refine zi_istore_n d_md_sharesWithOne_1 (by decide) rfl ?_
  refine zi_iconst d_md_sharesWithOne_2 ?_
  refine zi_istore d_md_sharesWithOne_3 (by decide) rfl ?_
  have key := zup (P := fun (i : Nat) => zV l (d + 1) M_md_sharesWithOne 5 [.ref 37, vi (h : Int), vi (r : Int), vi (b2i (anyN (swP τ r h) i)), vi (i : Int), .null] [] (τ) (0, 0) (.inl (some (vi (b2i (anyN (swP τ r h) p)))), (SH, zq τ), 0, 0)) (p) ?_ ?_ 0 (by omega)
  · exact zE4 key (by refine ⟨?_, ?_, ?_, ?_, ?_, ?_, trivial⟩ <;> first | exact Or.inl rfl | exact Or.inr rfl) rfl
  · intro i hi hk
    refine zi_iload d_md_sharesWithOne_5 rfl ?_
    refine zr_aload_n d_md_sharesWithOne_7 rfl ?_
    refine zi_getiE (j := 4) (x := (p : Int)) d_md_sharesWithOne_8 zC8 fl_md_107 (by decide) rfl rfl (C.p) ?_
    refine zi_icmp_ge 110 d_md_sharesWithOne_11 (by decide) (by first | assumption | exact ⟨by omega, by omega⟩) (by first | assumption | exact ⟨by omega, by omega⟩) (fun h11 => ?_) (fun h11 => ?_)
    · exact absurd h11 (by omega)
    · refine zr_aload_n d_md_sharesWithOne_14 rfl ?_
      refine zi_getr (j := 5) d_md_sharesWithOne_15 zC8 fl_md_17 (by decide) rfl rfl ?_
      refine zi_iload d_md_sharesWithOne_18 rfl ?_
      have b1 := C.pr i hi
      refine zi_ialdE (x := τ 39 i) d_md_sharesWithOne_20 rfl (by decide) (by omega) (by omega) (by rw [Int.toNat_natCast]) ?_
      refine zi_iload_n d_md_sharesWithOne_21 rfl ?_
      refine zi_icmp_ne 35 d_md_sharesWithOne_22 (by decide) (hA _ _) ⟨by omega, by omega⟩ (fun h22 => ?_) (fun h22 => ?_)
      · refine zr_aload_n d_md_sharesWithOne_35 rfl ?_
        refine zi_getr (j := 6) d_md_sharesWithOne_36 zC8 fl_md_21 (by decide) rfl rfl ?_
        refine zi_iload d_md_sharesWithOne_39 rfl ?_
        refine zi_ialdE (x := τ 40 i) d_md_sharesWithOne_41 rfl (by decide) (by omega) (by omega) (by rw [Int.toNat_natCast]) ?_
        refine zi_iload_n d_md_sharesWithOne_42 rfl ?_
        refine zi_icmp_ne 56 d_md_sharesWithOne_43 (by decide) (hA _ _) ⟨by omega, by omega⟩ (fun h43 => ?_) (fun h43 => ?_)
        · refine zi_iconst d_md_sharesWithOne_56 ?_
          refine zi_istore d_md_sharesWithOne_57 (by decide) rfl ?_
          refine zi_iload_n d_md_sharesWithOne_59 rfl ?_
          refine zi_if_ne 98 d_md_sharesWithOne_60 (by decide) (b2i_in _) (fun h60 => ?_) (fun h60 => ?_)
          · refine zi_iconst d_md_sharesWithOne_98 ?_
            refine zr_goto 103 d_md_sharesWithOne_99 (by decide) ?_
            refine zi_istore_n d_md_sharesWithOne_103 (by decide) rfl ?_
            refine zi_iinc d_md_sharesWithOne_104 (by decide) rfl rfl ?_
            refine zr_goto 5 d_md_sharesWithOne_107 (by decide) ?_
            exact zE4 hk (by refine ⟨?_, ?_, ?_, ?_, ?_, ?_, trivial⟩ <;> first | exact Or.inl rfl | exact Or.inr rfl | exact Or.inr (congrArg vi (by refine (flg3 (fun g => ?_) (fun g => ?_)).symm; (first | rfl | exact absurd h60 g); (first | exact absurd g h60 | (clear hk; unfold b2i swP; grind))))) rfl
          · refine zi_iload d_md_sharesWithOne_63 rfl ?_
            refine zi_if_lt 102 d_md_sharesWithOne_65 (by decide) (by first | exact hA _ _ | exact ⟨by decide, by decide⟩) (fun h65 => ?_) (fun h65 => ?_)
            · refine zi_iconst d_md_sharesWithOne_102 ?_
              refine zi_istore_n d_md_sharesWithOne_103 (by decide) rfl ?_
              refine zi_iinc d_md_sharesWithOne_104 (by decide) rfl rfl ?_
              refine zr_goto 5 d_md_sharesWithOne_107 (by decide) ?_
              exact zE4 hk (by refine ⟨?_, ?_, ?_, ?_, ?_, ?_, trivial⟩ <;> first | exact Or.inl rfl | exact Or.inr rfl | exact Or.inr (congrArg vi (by refine (flg3 (fun g => ?_) (fun g => ?_)).symm; (first | rfl | exact absurd h60 g); (first | exact absurd g h60 | (clear hk; unfold b2i swP; grind))))) rfl
            · refine zr_aload_n d_md_sharesWithOne_68 rfl ?_
              refine zi_getr (j := 23) d_md_sharesWithOne_69 zC8 fl_md_60 (by decide) rfl rfl ?_
              refine zi_bipush d_md_sharesWithOne_72 (by decide) ?_
              refine zi_iload_n d_md_sharesWithOne_74 rfl ?_
              refine zi_imul d_md_sharesWithOne_75 ?_
              refine zi_iload d_md_sharesWithOne_76 rfl ?_
              refine zi_iadd d_md_sharesWithOne_78 ?_
              refine zi_iald d_md_sharesWithOne_79 rfl (by decide) (by omega) (by omega) ?_
              refine zi_if_lt 102 d_md_sharesWithOne_80 (by decide) (hA _ _) (fun h80 => ?_) (fun h80 => ?_)
              · refine zi_iconst d_md_sharesWithOne_102 ?_
                refine zi_istore_n d_md_sharesWithOne_103 (by decide) rfl ?_
                refine zi_iinc d_md_sharesWithOne_104 (by decide) rfl rfl ?_
                refine zr_goto 5 d_md_sharesWithOne_107 (by decide) ?_
                exact zE4 hk (by refine ⟨?_, ?_, ?_, ?_, ?_, ?_, trivial⟩ <;> first | exact Or.inl rfl | exact Or.inr rfl | exact Or.inr (congrArg vi (by refine (flg3 (fun g => ?_) (fun g => ?_)).symm; (first | rfl | exact absurd h60 g); (first | exact absurd g h60 | (clear hk; unfold b2i swP; grind))))) rfl
              · refine zr_aload_n d_md_sharesWithOne_83 rfl ?_
                refine zi_getr (j := 24) d_md_sharesWithOne_84 zC8 fl_md_63 (by decide) rfl rfl ?_
                refine zi_bipush d_md_sharesWithOne_87 (by decide) ?_
                refine zi_iload_n d_md_sharesWithOne_89 rfl ?_
                refine zi_imul d_md_sharesWithOne_90 ?_
                refine zi_iload d_md_sharesWithOne_91 rfl ?_
                refine zi_iadd d_md_sharesWithOne_93 ?_
                refine zi_zald d_md_sharesWithOne_94 rfl (by decide) (by omega) (by omega) ?_
                refine zi_if_eq 102 d_md_sharesWithOne_95 (by decide) (hA _ _) (fun h95 => ?_) (fun h95 => ?_)
                · refine zi_iconst d_md_sharesWithOne_102 ?_
                  refine zi_istore_n d_md_sharesWithOne_103 (by decide) rfl ?_
                  refine zi_iinc d_md_sharesWithOne_104 (by decide) rfl rfl ?_
                  refine zr_goto 5 d_md_sharesWithOne_107 (by decide) ?_
                  exact zE4 hk (by refine ⟨?_, ?_, ?_, ?_, ?_, ?_, trivial⟩ <;> first | exact Or.inl rfl | exact Or.inr rfl | exact Or.inr (congrArg vi (by refine (flg3 (fun g => ?_) (fun g => ?_)).symm; (first | rfl | exact absurd h60 g); (first | exact absurd g h60 | (clear hk; unfold b2i swP; grind))))) rfl
                · refine zi_iconst d_md_sharesWithOne_98 ?_
                  refine zr_goto 103 d_md_sharesWithOne_99 (by decide) ?_
                  refine zi_istore_n d_md_sharesWithOne_103 (by decide) rfl ?_
                  refine zi_iinc d_md_sharesWithOne_104 (by decide) rfl rfl ?_
                  refine zr_goto 5 d_md_sharesWithOne_107 (by decide) ?_
                  exact zE4 hk (by refine ⟨?_, ?_, ?_, ?_, ?_, ?_, trivial⟩ <;> first | exact Or.inl rfl | exact Or.inr rfl | exact Or.inr (congrArg vi (by refine (flg3 (fun g => ?_) (fun g => ?_)).symm; (first | rfl | exact absurd h60 g); (first | exact absurd g h60 | (clear hk; unfold b2i swP; grind))))) rfl
        · refine zr_aload_n d_md_sharesWithOne_46 rfl ?_
          refine zi_getr (j := 5) d_md_sharesWithOne_47 zC8 fl_md_17 (by decide) rfl rfl ?_
          refine zi_iload d_md_sharesWithOne_50 rfl ?_
          refine zi_ialdE (x := τ 39 i) d_md_sharesWithOne_52 rfl (by decide) (by omega) (by omega) (by rw [Int.toNat_natCast]) ?_
          refine zr_goto 57 d_md_sharesWithOne_53 (by decide) ?_
          refine zi_istore d_md_sharesWithOne_57 (by decide) rfl ?_
          refine zi_iload_n d_md_sharesWithOne_59 rfl ?_
          refine zi_if_ne 98 d_md_sharesWithOne_60 (by decide) (b2i_in _) (fun h60 => ?_) (fun h60 => ?_)
          · refine zi_iconst d_md_sharesWithOne_98 ?_
            refine zr_goto 103 d_md_sharesWithOne_99 (by decide) ?_
            refine zi_istore_n d_md_sharesWithOne_103 (by decide) rfl ?_
            refine zi_iinc d_md_sharesWithOne_104 (by decide) rfl rfl ?_
            refine zr_goto 5 d_md_sharesWithOne_107 (by decide) ?_
            exact zE4 hk (by refine ⟨?_, ?_, ?_, ?_, ?_, ?_, trivial⟩ <;> first | exact Or.inl rfl | exact Or.inr rfl | exact Or.inr (congrArg vi (by refine (flg3 (fun g => ?_) (fun g => ?_)).symm; (first | rfl | exact absurd h60 g); (first | exact absurd g h60 | (clear hk; unfold b2i swP; grind))))) rfl
          · refine zi_iload d_md_sharesWithOne_63 rfl ?_
            refine zi_if_lt 102 d_md_sharesWithOne_65 (by decide) (by first | exact hA _ _ | exact ⟨by decide, by decide⟩) (fun h65 => ?_) (fun h65 => ?_)
            · refine zi_iconst d_md_sharesWithOne_102 ?_
              refine zi_istore_n d_md_sharesWithOne_103 (by decide) rfl ?_
              refine zi_iinc d_md_sharesWithOne_104 (by decide) rfl rfl ?_
              refine zr_goto 5 d_md_sharesWithOne_107 (by decide) ?_
              exact zE4 hk (by refine ⟨?_, ?_, ?_, ?_, ?_, ?_, trivial⟩ <;> first | exact Or.inl rfl | exact Or.inr rfl | exact Or.inr (congrArg vi (by refine (flg3 (fun g => ?_) (fun g => ?_)).symm; (first | rfl | exact absurd h60 g); (first | exact absurd g h60 | (clear hk; unfold b2i swP; grind))))) rfl
            · refine zr_aload_n d_md_sharesWithOne_68 rfl ?_
              refine zi_getr (j := 23) d_md_sharesWithOne_69 zC8 fl_md_60 (by decide) rfl rfl ?_
              refine zi_bipush d_md_sharesWithOne_72 (by decide) ?_
              refine zi_iload_n d_md_sharesWithOne_74 rfl ?_
              refine zi_imul d_md_sharesWithOne_75 ?_
              refine zi_iload d_md_sharesWithOne_76 rfl ?_
              refine zi_iadd d_md_sharesWithOne_78 ?_
              refine zi_iald d_md_sharesWithOne_79 rfl (by decide) (by omega) (by omega) ?_
              refine zi_if_lt 102 d_md_sharesWithOne_80 (by decide) (hA _ _) (fun h80 => ?_) (fun h80 => ?_)
              · refine zi_iconst d_md_sharesWithOne_102 ?_
                refine zi_istore_n d_md_sharesWithOne_103 (by decide) rfl ?_
                refine zi_iinc d_md_sharesWithOne_104 (by decide) rfl rfl ?_
                refine zr_goto 5 d_md_sharesWithOne_107 (by decide) ?_
                exact zE4 hk (by refine ⟨?_, ?_, ?_, ?_, ?_, ?_, trivial⟩ <;> first | exact Or.inl rfl | exact Or.inr rfl | exact Or.inr (congrArg vi (by refine (flg3 (fun g => ?_) (fun g => ?_)).symm; (first | rfl | exact absurd h60 g); (first | exact absurd g h60 | (clear hk; unfold b2i swP; grind))))) rfl
              · refine zr_aload_n d_md_sharesWithOne_83 rfl ?_
                refine zi_getr (j := 24) d_md_sharesWithOne_84 zC8 fl_md_63 (by decide) rfl rfl ?_
                refine zi_bipush d_md_sharesWithOne_87 (by decide) ?_
                refine zi_iload_n d_md_sharesWithOne_89 rfl ?_
                refine zi_imul d_md_sharesWithOne_90 ?_
                refine zi_iload d_md_sharesWithOne_91 rfl ?_
                refine zi_iadd d_md_sharesWithOne_93 ?_
                refine zi_zald d_md_sharesWithOne_94 rfl (by decide) (by omega) (by omega) ?_
                refine zi_if_eq 102 d_md_sharesWithOne_95 (by decide) (hA _ _) (fun h95 => ?_) (fun h95 => ?_)
                · refine zi_iconst d_md_sharesWithOne_102 ?_
                  refine zi_istore_n d_md_sharesWithOne_103 (by decide) rfl ?_
                  refine zi_iinc d_md_sharesWithOne_104 (by decide) rfl rfl ?_
                  refine zr_goto 5 d_md_sharesWithOne_107 (by decide) ?_
                  exact zE4 hk (by refine ⟨?_, ?_, ?_, ?_, ?_, ?_, trivial⟩ <;> first | exact Or.inl rfl | exact Or.inr rfl | exact Or.inr (congrArg vi (by refine (flg3 (fun g => ?_) (fun g => ?_)).symm; (first | rfl | exact absurd h60 g); (first | exact absurd g h60 | (clear hk; unfold b2i swP; grind))))) rfl
                · refine zi_iconst d_md_sharesWithOne_98 ?_
                  refine zr_goto 103 d_md_sharesWithOne_99 (by decide) ?_
                  refine zi_istore_n d_md_sharesWithOne_103 (by decide) rfl ?_
                  refine zi_iinc d_md_sharesWithOne_104 (by decide) rfl rfl ?_
                  refine zr_goto 5 d_md_sharesWithOne_107 (by decide) ?_
                  exact zE4 hk (by refine ⟨?_, ?_, ?_, ?_, ?_, ?_, trivial⟩ <;> first | exact Or.inl rfl | exact Or.inr rfl | exact Or.inr (congrArg vi (by refine (flg3 (fun g => ?_) (fun g => ?_)).symm; (first | rfl | exact absurd h60 g); (first | exact absurd g h60 | (clear hk; unfold b2i swP; grind))))) rfl
      · refine zr_aload_n d_md_sharesWithOne_25 rfl ?_
        refine zi_getr (j := 6) d_md_sharesWithOne_26 zC8 fl_md_21 (by decide) rfl rfl ?_
        refine zi_iload d_md_sharesWithOne_29 rfl ?_
        refine zi_ialdE (x := τ 40 i) d_md_sharesWithOne_31 rfl (by decide) (by omega) (by omega) (by rw [Int.toNat_natCast]) ?_
        refine zr_goto 57 d_md_sharesWithOne_32 (by decide) ?_
        refine zi_istore d_md_sharesWithOne_57 (by decide) rfl ?_
        refine zi_iload_n d_md_sharesWithOne_59 rfl ?_
        refine zi_if_ne 98 d_md_sharesWithOne_60 (by decide) (b2i_in _) (fun h60 => ?_) (fun h60 => ?_)
        · refine zi_iconst d_md_sharesWithOne_98 ?_
          refine zr_goto 103 d_md_sharesWithOne_99 (by decide) ?_
          refine zi_istore_n d_md_sharesWithOne_103 (by decide) rfl ?_
          refine zi_iinc d_md_sharesWithOne_104 (by decide) rfl rfl ?_
          refine zr_goto 5 d_md_sharesWithOne_107 (by decide) ?_
          exact zE4 hk (by refine ⟨?_, ?_, ?_, ?_, ?_, ?_, trivial⟩ <;> first | exact Or.inl rfl | exact Or.inr rfl | exact Or.inr (congrArg vi (by refine (flg3 (fun g => ?_) (fun g => ?_)).symm; (first | rfl | exact absurd h60 g); (first | exact absurd g h60 | (clear hk; unfold b2i swP; grind))))) rfl
        · refine zi_iload d_md_sharesWithOne_63 rfl ?_
          refine zi_if_lt 102 d_md_sharesWithOne_65 (by decide) (by first | exact hA _ _ | exact ⟨by decide, by decide⟩) (fun h65 => ?_) (fun h65 => ?_)
          · refine zi_iconst d_md_sharesWithOne_102 ?_
            refine zi_istore_n d_md_sharesWithOne_103 (by decide) rfl ?_
            refine zi_iinc d_md_sharesWithOne_104 (by decide) rfl rfl ?_
            refine zr_goto 5 d_md_sharesWithOne_107 (by decide) ?_
            exact zE4 hk (by refine ⟨?_, ?_, ?_, ?_, ?_, ?_, trivial⟩ <;> first | exact Or.inl rfl | exact Or.inr rfl | exact Or.inr (congrArg vi (by refine (flg3 (fun g => ?_) (fun g => ?_)).symm; (first | rfl | exact absurd h60 g); (first | exact absurd g h60 | (clear hk; unfold b2i swP; grind))))) rfl
          · refine zr_aload_n d_md_sharesWithOne_68 rfl ?_
            refine zi_getr (j := 23) d_md_sharesWithOne_69 zC8 fl_md_60 (by decide) rfl rfl ?_
            refine zi_bipush d_md_sharesWithOne_72 (by decide) ?_
            refine zi_iload_n d_md_sharesWithOne_74 rfl ?_
            refine zi_imul d_md_sharesWithOne_75 ?_
            refine zi_iload d_md_sharesWithOne_76 rfl ?_
            refine zi_iadd d_md_sharesWithOne_78 ?_
            refine zi_iald d_md_sharesWithOne_79 rfl (by decide) (by omega) (by omega) ?_
            refine zi_if_lt 102 d_md_sharesWithOne_80 (by decide) (hA _ _) (fun h80 => ?_) (fun h80 => ?_)
            · refine zi_iconst d_md_sharesWithOne_102 ?_
              refine zi_istore_n d_md_sharesWithOne_103 (by decide) rfl ?_
              refine zi_iinc d_md_sharesWithOne_104 (by decide) rfl rfl ?_
              refine zr_goto 5 d_md_sharesWithOne_107 (by decide) ?_
              exact zE4 hk (by refine ⟨?_, ?_, ?_, ?_, ?_, ?_, trivial⟩ <;> first | exact Or.inl rfl | exact Or.inr rfl | exact Or.inr (congrArg vi (by refine (flg3 (fun g => ?_) (fun g => ?_)).symm; (first | rfl | exact absurd h60 g); (first | exact absurd g h60 | (clear hk; unfold b2i swP; grind))))) rfl
            · refine zr_aload_n d_md_sharesWithOne_83 rfl ?_
              refine zi_getr (j := 24) d_md_sharesWithOne_84 zC8 fl_md_63 (by decide) rfl rfl ?_
              refine zi_bipush d_md_sharesWithOne_87 (by decide) ?_
              refine zi_iload_n d_md_sharesWithOne_89 rfl ?_
              refine zi_imul d_md_sharesWithOne_90 ?_
              refine zi_iload d_md_sharesWithOne_91 rfl ?_
              refine zi_iadd d_md_sharesWithOne_93 ?_
              refine zi_zald d_md_sharesWithOne_94 rfl (by decide) (by omega) (by omega) ?_
              refine zi_if_eq 102 d_md_sharesWithOne_95 (by decide) (hA _ _) (fun h95 => ?_) (fun h95 => ?_)
              · refine zi_iconst d_md_sharesWithOne_102 ?_
                refine zi_istore_n d_md_sharesWithOne_103 (by decide) rfl ?_
                refine zi_iinc d_md_sharesWithOne_104 (by decide) rfl rfl ?_
                refine zr_goto 5 d_md_sharesWithOne_107 (by decide) ?_
                exact zE4 hk (by refine ⟨?_, ?_, ?_, ?_, ?_, ?_, trivial⟩ <;> first | exact Or.inl rfl | exact Or.inr rfl | exact Or.inr (congrArg vi (by refine (flg3 (fun g => ?_) (fun g => ?_)).symm; (first | rfl | exact absurd h60 g); (first | exact absurd g h60 | (clear hk; unfold b2i swP; grind))))) rfl
              · refine zi_iconst d_md_sharesWithOne_98 ?_
                refine zr_goto 103 d_md_sharesWithOne_99 (by decide) ?_
                refine zi_istore_n d_md_sharesWithOne_103 (by decide) rfl ?_
                refine zi_iinc d_md_sharesWithOne_104 (by decide) rfl rfl ?_
                refine zr_goto 5 d_md_sharesWithOne_107 (by decide) ?_
                exact zE4 hk (by refine ⟨?_, ?_, ?_, ?_, ?_, ?_, trivial⟩ <;> first | exact Or.inl rfl | exact Or.inr rfl | exact Or.inr (congrArg vi (by refine (flg3 (fun g => ?_) (fun g => ?_)).symm; (first | rfl | exact absurd h60 g); (first | exact absurd g h60 | (clear hk; unfold b2i swP; grind))))) rfl
  · refine zi_iload d_md_sharesWithOne_5 rfl ?_
    refine zr_aload_n d_md_sharesWithOne_7 rfl ?_
    refine zi_getiE (j := 4) (x := (p : Int)) d_md_sharesWithOne_8 zC8 fl_md_107 (by decide) rfl rfl (C.p) ?_
    refine zi_icmp_ge 110 d_md_sharesWithOne_11 (by decide) (by first | assumption | exact ⟨by omega, by omega⟩) (by first | assumption | exact ⟨by omega, by omega⟩) (fun h11 => ?_) (fun h11 => ?_)
    · refine zi_iload_n d_md_sharesWithOne_110 rfl ?_
      exact zk_zret rfl d_md_sharesWithOne_111 (Nat.zero_le _) (Nat.zero_le _) (b2i_0 _) rfl rfl
    · exact absurd h11 (by omega)
