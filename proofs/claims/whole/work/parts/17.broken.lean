/-! what a timetable breaks (written by wip/gen/t6.py) -/
def banP (τ : tS) (r t : Nat) : Bool := decide ((τ 3 ((r : Int) * 20 + (t : Int)).toNat = 1 ∧ (τ 5 r).toNat.testBit t = true) ∨ (τ 3 ((r : Int) * 20 + (t : Int)).toNat = 0 ∧ (τ 6 r).toNat.testBit t = true))
def pairP (τ : tS) (i r : Nat) : Bool := decide (τ 3 ((r : Int) * 20 + τ 7 i).toNat = 1 ∧ τ 3 ((r : Int) * 20 + τ 8 i).toNat = 1)
def fixP (τ : tS) (i : Nat) : Bool := decide (¬ τ 11 i < τ 1 4 ∨ ¬ τ 2 (τ 11 i * 20 + τ 9 i).toNat = τ 10 i ∨ ¬ τ 3 (τ 11 i * 20 + τ 9 i).toNat = 1)
def capP (τ : tS) (t r : Nat) : Bool := decide (τ 4 10 < ((awr (fun i : Nat => τ 3 ((i : Int) * 20 + (t : Int)).toNat) (r + 1) : Nat) : Int))
theorem wi_breaksBan {l : Launch} {d : Nat} {τ : tS} {n R : Nat} (hA : AllIn τ) (hw : τ 1 0 = 20) (hn : τ 1 3 = (n : Int)) (hn2 : n ≤ 20) (hR : τ 1 4 = (R : Int)) (hR2 : R ≤ 38) (hM5 : ∀ j, 0 ≤ τ 5 j) (hM6 : ∀ j, 0 ≤ τ 6 j) : zF l (d + 2) M_wi_breaksBan [.ref 4, .ref 1] τ (some (vi (if anyN (fun r => anyN (banP τ r) (n)) (R) then 1 else 0))) τ := by
  refine zMet_of (ls := [.ref 4, .ref 1, .null, .null, .null]) pn_wi rfl (by simp [vi, Value.category]) rfl rfl ?_
  refine zi_iconst d_wi_breaksBan_0 ?_
  refine zi_istore_n d_wi_breaksBan_1 (by decide) rfl ?_
  have key := zfirst (P := fun (r : Nat) => zV l (d + 2) M_wi_breaksBan 2 [.ref 4, .ref 1, vi (r : Int), .null, .null] [] τ (0, 0) (.inl (some (vi (if anyN (fun r => anyN (banP τ r) (n)) (R) then 1 else 0))), (SH, zq τ), 0, 0)) (fun r => anyN (banP τ r) (n) = true) (R) ?_ ?_ ?_
  · exact zE4 key (by refine ⟨?_, ?_, ?_, ?_, ?_, trivial⟩ <;> first | exact Or.inl rfl | exact Or.inr rfl) rfl
  · intro r hr hpr hc hk
    refine zi_iload_n d_wi_breaksBan_2 rfl ?_
    refine zr_aload_n d_wi_breaksBan_3 rfl ?_
    refine c_wi_breaksBan_4 rfl rfl (tt1_roundCount) ?_
    show zV _ _ _ _ _ (vi _ :: _) _ _ _
    rw [hR]
    refine zi_icmp_ge 79 d_wi_breaksBan_7 (by decide) (by first | assumption | exact ⟨by omega, by omega⟩) (by first | assumption | exact ⟨by omega, by omega⟩) (fun h7 => ?_) (fun h7 => ?_)
    · exact absurd h7 (by omega)
    · refine zi_iconst d_wi_breaksBan_10 ?_
      refine zi_istore_n d_wi_breaksBan_11 (by decide) rfl ?_
      have inn := zfirst (P := fun (t : Nat) => zV l (d + 2) M_wi_breaksBan 12 [.ref 4, .ref 1, vi (r : Int), vi (t : Int), .null] [] τ (0, 0) (.inl (some (vi (if anyN (fun r => anyN (banP τ r) (n)) (R) then 1 else 0))), (SH, zq τ), 0, 0)) (fun t => banP τ r t = true) (n) ?_ ?_ ?_
      · exact zE4 inn (by refine ⟨?_, ?_, ?_, ?_, ?_, trivial⟩ <;> first | exact Or.inl rfl | exact Or.inr rfl) rfl
      · intro t ht hp hct hkt
        simp only [banP, decide_eq_true_eq] at hct
        refine zi_iload_n d_wi_breaksBan_12 rfl ?_
        refine zr_aload_n d_wi_breaksBan_13 rfl ?_
        refine c_wi_breaksBan_14 rfl rfl (tt1_teamCount) ?_
        show zV _ _ _ _ _ (vi _ :: _) _ _ _
        rw [hn]
        refine zi_icmp_ge 73 d_wi_breaksBan_17 (by decide) (by first | assumption | exact ⟨by omega, by omega⟩) (by first | assumption | exact ⟨by omega, by omega⟩) (fun h17 => ?_) (fun h17 => ?_)
        · exact absurd h17 (by omega)
        · refine zr_aload_n d_wi_breaksBan_20 rfl ?_
          refine zi_iload_n d_wi_breaksBan_21 rfl ?_
          refine zi_iload_n d_wi_breaksBan_22 rfl ?_
          refine c_wi_breaksBan_23 rfl rfl (tt1_venueAt hw ⟨by omega, by omega⟩ ⟨by omega, by omega⟩) ?_
          refine zi_istore d_wi_breaksBan_26 (by decide) rfl ?_
          refine zi_iload d_wi_breaksBan_28 rfl ?_
          refine zi_iconst d_wi_breaksBan_30 ?_
          refine zi_icmp_ne 47 d_wi_breaksBan_31 (by decide) (hA _ _) (by first | assumption | exact ⟨by omega, by omega⟩) (fun h31 => ?_) (fun h31 => ?_)
          · refine zi_iload d_wi_breaksBan_47 rfl ?_
            refine zi_if_ne 67 d_wi_breaksBan_49 (by decide) (hA _ _) (fun h49 => ?_) (fun h49 => ?_)
            · refine zi_iinc d_wi_breaksBan_67 (by decide) rfl rfl ?_
              refine zr_goto 12 d_wi_breaksBan_70 (by decide) ?_
              exact zE4 hkt (by refine ⟨?_, ?_, ?_, ?_, ?_, trivial⟩ <;> first | exact Or.inl rfl | exact Or.inr rfl) rfl
            · refine zr_aload_n d_wi_breaksBan_52 rfl ?_
              refine zi_getr (j := 1) d_wi_breaksBan_53 zC6 fl_wi_15 (by decide) rfl rfl ?_
              refine zi_iload_n d_wi_breaksBan_56 rfl ?_
              refine zi_ialdE (x := (((τ 6 r).toNat : Nat) : Int)) d_wi_breaksBan_57 rfl (by decide) (by omega) (by omega) (by rw [Int.toNat_natCast]; exact (Int.toNat_of_nonneg (hM6 r)).symm) ?_
              refine zi_iload_n d_wi_breaksBan_58 rfl ?_
              refine c_wi_breaksBan_59 rfl (lr_hasBit (by have h8 := hA 6 r; have h9 := hM6 r; unfold zin at h8; omega) (by omega)) ?_
              refine zi_if_eq 67 d_wi_breaksBan_62 (by decide) (by split <;> exact ⟨by decide, by decide⟩) (fun h62 => ?_) (fun h62 => ?_)
              · refine zi_iinc d_wi_breaksBan_67 (by decide) rfl rfl ?_
                refine zr_goto 12 d_wi_breaksBan_70 (by decide) ?_
                exact zE4 hkt (by refine ⟨?_, ?_, ?_, ?_, ?_, trivial⟩ <;> first | exact Or.inl rfl | exact Or.inr rfl) rfl
              · exfalso
                grind
          · refine zr_aload_n d_wi_breaksBan_34 rfl ?_
            refine zi_getr (j := 0) d_wi_breaksBan_35 zC6 fl_wi_9 (by decide) rfl rfl ?_
            refine zi_iload_n d_wi_breaksBan_38 rfl ?_
            refine zi_ialdE (x := (((τ 5 r).toNat : Nat) : Int)) d_wi_breaksBan_39 rfl (by decide) (by omega) (by omega) (by rw [Int.toNat_natCast]; exact (Int.toNat_of_nonneg (hM5 r)).symm) ?_
            refine zi_iload_n d_wi_breaksBan_40 rfl ?_
            refine c_wi_breaksBan_41 rfl (lr_hasBit (by have h8 := hA 5 r; have h9 := hM5 r; unfold zin at h8; omega) (by omega)) ?_
            refine zi_if_ne 65 d_wi_breaksBan_44 (by decide) (by split <;> exact ⟨by decide, by decide⟩) (fun h44 => ?_) (fun h44 => ?_)
            · exfalso
              grind
            · refine zi_iload d_wi_breaksBan_47 rfl ?_
              refine zi_if_ne 67 d_wi_breaksBan_49 (by decide) (hA _ _) (fun h49 => ?_) (fun h49 => ?_)
              · refine zi_iinc d_wi_breaksBan_67 (by decide) rfl rfl ?_
                refine zr_goto 12 d_wi_breaksBan_70 (by decide) ?_
                exact zE4 hkt (by refine ⟨?_, ?_, ?_, ?_, ?_, trivial⟩ <;> first | exact Or.inl rfl | exact Or.inr rfl) rfl
              · refine zr_aload_n d_wi_breaksBan_52 rfl ?_
                refine zi_getr (j := 1) d_wi_breaksBan_53 zC6 fl_wi_15 (by decide) rfl rfl ?_
                refine zi_iload_n d_wi_breaksBan_56 rfl ?_
                refine zi_ialdE (x := (((τ 6 r).toNat : Nat) : Int)) d_wi_breaksBan_57 rfl (by decide) (by omega) (by omega) (by rw [Int.toNat_natCast]; exact (Int.toNat_of_nonneg (hM6 r)).symm) ?_
                refine zi_iload_n d_wi_breaksBan_58 rfl ?_
                refine c_wi_breaksBan_59 rfl (lr_hasBit (by have h8 := hA 6 r; have h9 := hM6 r; unfold zin at h8; omega) (by omega)) ?_
                refine zi_if_eq 67 d_wi_breaksBan_62 (by decide) (by split <;> exact ⟨by decide, by decide⟩) (fun h62 => ?_) (fun h62 => ?_)
                · refine zi_iinc d_wi_breaksBan_67 (by decide) rfl rfl ?_
                  refine zr_goto 12 d_wi_breaksBan_70 (by decide) ?_
                  exact zE4 hkt (by refine ⟨?_, ?_, ?_, ?_, ?_, trivial⟩ <;> first | exact Or.inl rfl | exact Or.inr rfl) rfl
                · exfalso
                  grind
      · intro t ht hp hct
        exact absurd ((anyN_iff _ _).mpr ⟨t, ht, hct⟩) hc
      · intro hno
        refine zi_iload_n d_wi_breaksBan_12 rfl ?_
        refine zr_aload_n d_wi_breaksBan_13 rfl ?_
        refine c_wi_breaksBan_14 rfl rfl (tt1_teamCount) ?_
        show zV _ _ _ _ _ (vi _ :: _) _ _ _
        rw [hn]
        refine zi_icmp_ge 73 d_wi_breaksBan_17 (by decide) (by first | assumption | exact ⟨by omega, by omega⟩) (by first | assumption | exact ⟨by omega, by omega⟩) (fun h17 => ?_) (fun h17 => ?_)
        · refine zi_iinc d_wi_breaksBan_73 (by decide) rfl rfl ?_
          refine zr_goto 2 d_wi_breaksBan_76 (by decide) ?_
          exact zE4 hk (by refine ⟨?_, ?_, ?_, ?_, ?_, trivial⟩ <;> first | exact Or.inl rfl | exact Or.inr rfl) rfl
        · exact absurd h17 (by omega)
  · intro r hr hpr hc
    refine zi_iload_n d_wi_breaksBan_2 rfl ?_
    refine zr_aload_n d_wi_breaksBan_3 rfl ?_
    refine c_wi_breaksBan_4 rfl rfl (tt1_roundCount) ?_
    show zV _ _ _ _ _ (vi _ :: _) _ _ _
    rw [hR]
    refine zi_icmp_ge 79 d_wi_breaksBan_7 (by decide) (by first | assumption | exact ⟨by omega, by omega⟩) (by first | assumption | exact ⟨by omega, by omega⟩) (fun h7 => ?_) (fun h7 => ?_)
    · exact absurd h7 (by omega)
    · refine zi_iconst d_wi_breaksBan_10 ?_
      refine zi_istore_n d_wi_breaksBan_11 (by decide) rfl ?_
      have inn := zfirst (P := fun (t : Nat) => zV l (d + 2) M_wi_breaksBan 12 [.ref 4, .ref 1, vi (r : Int), vi (t : Int), .null] [] τ (0, 0) (.inl (some (vi (if anyN (fun r => anyN (banP τ r) (n)) (R) then 1 else 0))), (SH, zq τ), 0, 0)) (fun t => banP τ r t = true) (n) ?_ ?_ ?_
      · exact zE4 inn (by refine ⟨?_, ?_, ?_, ?_, ?_, trivial⟩ <;> first | exact Or.inl rfl | exact Or.inr rfl) rfl
      · intro t ht hp hct hkt
        simp only [banP, decide_eq_true_eq] at hct
        refine zi_iload_n d_wi_breaksBan_12 rfl ?_
        refine zr_aload_n d_wi_breaksBan_13 rfl ?_
        refine c_wi_breaksBan_14 rfl rfl (tt1_teamCount) ?_
        show zV _ _ _ _ _ (vi _ :: _) _ _ _
        rw [hn]
        refine zi_icmp_ge 73 d_wi_breaksBan_17 (by decide) (by first | assumption | exact ⟨by omega, by omega⟩) (by first | assumption | exact ⟨by omega, by omega⟩) (fun h17 => ?_) (fun h17 => ?_)
        · exact absurd h17 (by omega)
        · refine zr_aload_n d_wi_breaksBan_20 rfl ?_
          refine zi_iload_n d_wi_breaksBan_21 rfl ?_
          refine zi_iload_n d_wi_breaksBan_22 rfl ?_
          refine c_wi_breaksBan_23 rfl rfl (tt1_venueAt hw ⟨by omega, by omega⟩ ⟨by omega, by omega⟩) ?_
          refine zi_istore d_wi_breaksBan_26 (by decide) rfl ?_
          refine zi_iload d_wi_breaksBan_28 rfl ?_
          refine zi_iconst d_wi_breaksBan_30 ?_
          refine zi_icmp_ne 47 d_wi_breaksBan_31 (by decide) (hA _ _) (by first | assumption | exact ⟨by omega, by omega⟩) (fun h31 => ?_) (fun h31 => ?_)
          · refine zi_iload d_wi_breaksBan_47 rfl ?_
            refine zi_if_ne 67 d_wi_breaksBan_49 (by decide) (hA _ _) (fun h49 => ?_) (fun h49 => ?_)
            · refine zi_iinc d_wi_breaksBan_67 (by decide) rfl rfl ?_
              refine zr_goto 12 d_wi_breaksBan_70 (by decide) ?_
              exact zE4 hkt (by refine ⟨?_, ?_, ?_, ?_, ?_, trivial⟩ <;> first | exact Or.inl rfl | exact Or.inr rfl) rfl
            · refine zr_aload_n d_wi_breaksBan_52 rfl ?_
              refine zi_getr (j := 1) d_wi_breaksBan_53 zC6 fl_wi_15 (by decide) rfl rfl ?_
              refine zi_iload_n d_wi_breaksBan_56 rfl ?_
              refine zi_ialdE (x := (((τ 6 r).toNat : Nat) : Int)) d_wi_breaksBan_57 rfl (by decide) (by omega) (by omega) (by rw [Int.toNat_natCast]; exact (Int.toNat_of_nonneg (hM6 r)).symm) ?_
              refine zi_iload_n d_wi_breaksBan_58 rfl ?_
              refine c_wi_breaksBan_59 rfl (lr_hasBit (by have h8 := hA 6 r; have h9 := hM6 r; unfold zin at h8; omega) (by omega)) ?_
              refine zi_if_eq 67 d_wi_breaksBan_62 (by decide) (by split <;> exact ⟨by decide, by decide⟩) (fun h62 => ?_) (fun h62 => ?_)
              · refine zi_iinc d_wi_breaksBan_67 (by decide) rfl rfl ?_
                refine zr_goto 12 d_wi_breaksBan_70 (by decide) ?_
                exact zE4 hkt (by refine ⟨?_, ?_, ?_, ?_, ?_, trivial⟩ <;> first | exact Or.inl rfl | exact Or.inr rfl) rfl
              · exfalso
                grind
          · refine zr_aload_n d_wi_breaksBan_34 rfl ?_
            refine zi_getr (j := 0) d_wi_breaksBan_35 zC6 fl_wi_9 (by decide) rfl rfl ?_
            refine zi_iload_n d_wi_breaksBan_38 rfl ?_
            refine zi_ialdE (x := (((τ 5 r).toNat : Nat) : Int)) d_wi_breaksBan_39 rfl (by decide) (by omega) (by omega) (by rw [Int.toNat_natCast]; exact (Int.toNat_of_nonneg (hM5 r)).symm) ?_
            refine zi_iload_n d_wi_breaksBan_40 rfl ?_
            refine c_wi_breaksBan_41 rfl (lr_hasBit (by have h8 := hA 5 r; have h9 := hM5 r; unfold zin at h8; omega) (by omega)) ?_
            refine zi_if_ne 65 d_wi_breaksBan_44 (by decide) (by split <;> exact ⟨by decide, by decide⟩) (fun h44 => ?_) (fun h44 => ?_)
            · exfalso
              grind
            · refine zi_iload d_wi_breaksBan_47 rfl ?_
              refine zi_if_ne 67 d_wi_breaksBan_49 (by decide) (hA _ _) (fun h49 => ?_) (fun h49 => ?_)
              · refine zi_iinc d_wi_breaksBan_67 (by decide) rfl rfl ?_
                refine zr_goto 12 d_wi_breaksBan_70 (by decide) ?_
                exact zE4 hkt (by refine ⟨?_, ?_, ?_, ?_, ?_, trivial⟩ <;> first | exact Or.inl rfl | exact Or.inr rfl) rfl
              · refine zr_aload_n d_wi_breaksBan_52 rfl ?_
                refine zi_getr (j := 1) d_wi_breaksBan_53 zC6 fl_wi_15 (by decide) rfl rfl ?_
                refine zi_iload_n d_wi_breaksBan_56 rfl ?_
                refine zi_ialdE (x := (((τ 6 r).toNat : Nat) : Int)) d_wi_breaksBan_57 rfl (by decide) (by omega) (by omega) (by rw [Int.toNat_natCast]; exact (Int.toNat_of_nonneg (hM6 r)).symm) ?_
                refine zi_iload_n d_wi_breaksBan_58 rfl ?_
                refine c_wi_breaksBan_59 rfl (lr_hasBit (by have h8 := hA 6 r; have h9 := hM6 r; unfold zin at h8; omega) (by omega)) ?_
                refine zi_if_eq 67 d_wi_breaksBan_62 (by decide) (by split <;> exact ⟨by decide, by decide⟩) (fun h62 => ?_) (fun h62 => ?_)
                · refine zi_iinc d_wi_breaksBan_67 (by decide) rfl rfl ?_
                  refine zr_goto 12 d_wi_breaksBan_70 (by decide) ?_
                  exact zE4 hkt (by refine ⟨?_, ?_, ?_, ?_, ?_, trivial⟩ <;> first | exact Or.inl rfl | exact Or.inr rfl) rfl
                · exfalso
                  grind
      · intro t ht hp hct
        have hany : anyN (fun r => anyN (banP τ r) (n)) (R) = true := (anyN_iff _ _).mpr ⟨r, hr, (anyN_iff _ _).mpr ⟨t, ht, hct⟩⟩
        simp only [banP, decide_eq_true_eq] at hct
        refine zi_iload_n d_wi_breaksBan_12 rfl ?_
        refine zr_aload_n d_wi_breaksBan_13 rfl ?_
        refine c_wi_breaksBan_14 rfl rfl (tt1_teamCount) ?_
        show zV _ _ _ _ _ (vi _ :: _) _ _ _
        rw [hn]
        refine zi_icmp_ge 73 d_wi_breaksBan_17 (by decide) (by first | assumption | exact ⟨by omega, by omega⟩) (by first | assumption | exact ⟨by omega, by omega⟩) (fun h17 => ?_) (fun h17 => ?_)
        · exact absurd h17 (by omega)
        · refine zr_aload_n d_wi_breaksBan_20 rfl ?_
          refine zi_iload_n d_wi_breaksBan_21 rfl ?_
          refine zi_iload_n d_wi_breaksBan_22 rfl ?_
          refine c_wi_breaksBan_23 rfl rfl (tt1_venueAt hw ⟨by omega, by omega⟩ ⟨by omega, by omega⟩) ?_
          refine zi_istore d_wi_breaksBan_26 (by decide) rfl ?_
          refine zi_iload d_wi_breaksBan_28 rfl ?_
          refine zi_iconst d_wi_breaksBan_30 ?_
          refine zi_icmp_ne 47 d_wi_breaksBan_31 (by decide) (hA _ _) (by first | assumption | exact ⟨by omega, by omega⟩) (fun h31 => ?_) (fun h31 => ?_)
          · refine zi_iload d_wi_breaksBan_47 rfl ?_
            refine zi_if_ne 67 d_wi_breaksBan_49 (by decide) (hA _ _) (fun h49 => ?_) (fun h49 => ?_)
            · refine zi_iinc d_wi_breaksBan_67 (by decide) rfl rfl ?_
              refine zr_goto 12 d_wi_breaksBan_70 (by decide) ?_
              exfalso
              grind
            · refine zr_aload_n d_wi_breaksBan_52 rfl ?_
              refine zi_getr (j := 1) d_wi_breaksBan_53 zC6 fl_wi_15 (by decide) rfl rfl ?_
              refine zi_iload_n d_wi_breaksBan_56 rfl ?_
              refine zi_ialdE (x := (((τ 6 r).toNat : Nat) : Int)) d_wi_breaksBan_57 rfl (by decide) (by omega) (by omega) (by rw [Int.toNat_natCast]; exact (Int.toNat_of_nonneg (hM6 r)).symm) ?_
              refine zi_iload_n d_wi_breaksBan_58 rfl ?_
              refine c_wi_breaksBan_59 rfl (lr_hasBit (by have h8 := hA 6 r; have h9 := hM6 r; unfold zin at h8; omega) (by omega)) ?_
              refine zi_if_eq 67 d_wi_breaksBan_62 (by decide) (by split <;> exact ⟨by decide, by decide⟩) (fun h62 => ?_) (fun h62 => ?_)
              · refine zi_iinc d_wi_breaksBan_67 (by decide) rfl rfl ?_
                refine zr_goto 12 d_wi_breaksBan_70 (by decide) ?_
                exfalso
                grind
              · refine zi_iconst d_wi_breaksBan_65 ?_
                exact zk_zret rfl d_wi_breaksBan_66 (Nat.zero_le _) (Nat.zero_le _) (by omega) (by rw [if_pos hany]) rfl
          · refine zr_aload_n d_wi_breaksBan_34 rfl ?_
            refine zi_getr (j := 0) d_wi_breaksBan_35 zC6 fl_wi_9 (by decide) rfl rfl ?_
            refine zi_iload_n d_wi_breaksBan_38 rfl ?_
            refine zi_ialdE (x := (((τ 5 r).toNat : Nat) : Int)) d_wi_breaksBan_39 rfl (by decide) (by omega) (by omega) (by rw [Int.toNat_natCast]; exact (Int.toNat_of_nonneg (hM5 r)).symm) ?_
            refine zi_iload_n d_wi_breaksBan_40 rfl ?_
            refine c_wi_breaksBan_41 rfl (lr_hasBit (by have h8 := hA 5 r; have h9 := hM5 r; unfold zin at h8; omega) (by omega)) ?_
            refine zi_if_ne 65 d_wi_breaksBan_44 (by decide) (by split <;> exact ⟨by decide, by decide⟩) (fun h44 => ?_) (fun h44 => ?_)
            · refine zi_iconst d_wi_breaksBan_65 ?_
              exact zk_zret rfl d_wi_breaksBan_66 (Nat.zero_le _) (Nat.zero_le _) (by omega) (by rw [if_pos hany]) rfl
            · refine zi_iload d_wi_breaksBan_47 rfl ?_
              refine zi_if_ne 67 d_wi_breaksBan_49 (by decide) (hA _ _) (fun h49 => ?_) (fun h49 => ?_)
              · refine zi_iinc d_wi_breaksBan_67 (by decide) rfl rfl ?_
                refine zr_goto 12 d_wi_breaksBan_70 (by decide) ?_
                exfalso
                grind
              · refine zr_aload_n d_wi_breaksBan_52 rfl ?_
                refine zi_getr (j := 1) d_wi_breaksBan_53 zC6 fl_wi_15 (by decide) rfl rfl ?_
                refine zi_iload_n d_wi_breaksBan_56 rfl ?_
                refine zi_ialdE (x := (((τ 6 r).toNat : Nat) : Int)) d_wi_breaksBan_57 rfl (by decide) (by omega) (by omega) (by rw [Int.toNat_natCast]; exact (Int.toNat_of_nonneg (hM6 r)).symm) ?_
                refine zi_iload_n d_wi_breaksBan_58 rfl ?_
                refine c_wi_breaksBan_59 rfl (lr_hasBit (by have h8 := hA 6 r; have h9 := hM6 r; unfold zin at h8; omega) (by omega)) ?_
                refine zi_if_eq 67 d_wi_breaksBan_62 (by decide) (by split <;> exact ⟨by decide, by decide⟩) (fun h62 => ?_) (fun h62 => ?_)
                · refine zi_iinc d_wi_breaksBan_67 (by decide) rfl rfl ?_
                  refine zr_goto 12 d_wi_breaksBan_70 (by decide) ?_
                  exfalso
                  grind
                · refine zi_iconst d_wi_breaksBan_65 ?_
                  exact zk_zret rfl d_wi_breaksBan_66 (Nat.zero_le _) (Nat.zero_le _) (by omega) (by rw [if_pos hany]) rfl
      · intro hno
        obtain ⟨t, ht, hct⟩ := (anyN_iff _ _).mp hc
        exact absurd hct (hno t ht)
  · intro hno
    refine zi_iload_n d_wi_breaksBan_2 rfl ?_
    refine zr_aload_n d_wi_breaksBan_3 rfl ?_
    refine c_wi_breaksBan_4 rfl rfl (tt1_roundCount) ?_
    show zV _ _ _ _ _ (vi _ :: _) _ _ _
    rw [hR]
    refine zi_icmp_ge 79 d_wi_breaksBan_7 (by decide) (by first | assumption | exact ⟨by omega, by omega⟩) (by first | assumption | exact ⟨by omega, by omega⟩) (fun h7 => ?_) (fun h7 => ?_)
    · refine zi_iconst d_wi_breaksBan_79 ?_
      exact zk_zret rfl d_wi_breaksBan_80 (Nat.zero_le _) (Nat.zero_le _) (by omega) (by rw [if_neg (fun g => by obtain ⟨r, g1, g2⟩ := (anyN_iff _ _).mp g; exact hno r g1 g2)]) rfl
    · exact absurd h7 (by omega)
