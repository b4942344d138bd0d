/-! what a timetable breaks (written by wip/gen/t6.py) -/
def banP (τ : tS) (r t : Nat) : Bool := decide ((τ 3 ((r : Int) * 20 + (t : Int)).toNat = 1 ∧ (τ 5 r).toNat.testBit t = true) ∨ (τ 3 ((r : Int) * 20 + (t : Int)).toNat = 0 ∧ (τ 6 r).toNat.testBit t = true))
def pairP (τ : tS) (i r : Nat) : Bool := decide (τ 3 ((r : Int) * 20 + τ 7 i).toNat = 1 ∧ τ 3 ((r : Int) * 20 + τ 8 i).toNat = 1)
def fixP (τ : tS) (i : Nat) : Bool := decide (¬ τ 11 i < τ 1 4 ∨ ¬ τ 2 (τ 11 i * 20 + τ 9 i).toNat = τ 10 i ∨ ¬ τ 3 (τ 11 i * 20 + τ 9 i).toNat = 1)
def capP (τ : tS) (t r : Nat) : Bool := decide (τ 4 10 < ((awr (fun i : Nat => τ 3 ((i : Int) * 20 + (t : Int)).toNat) (r + 1) : Nat) : Int))
theorem wi_breaksBan {l : Launch} {d : Nat} {τ : tS} {n R : Nat} (hA : AllIn τ) (hw : τ 1 0 = 20) (hn : τ 1 3 = (n : Int)) (hn2 : n ≤ 20) (hR : τ 1 4 = (R : Int)) (hR2 : R ≤ 38) (hM5 : ∀ j, 0 ≤ τ 5 j) (hM6 : ∀ j, 0 ≤ τ 6 j) : zF l (d + 2) M_wi_breaksBan [.ref 4, .ref 1] τ (some (vi (if anyN (fun r => anyN (banP τ r) (n)) (R) then 1 else 0))) τ := by
  refine zMet_of (ls := [.ref 4, .ref 1, .null, .null, .null]) pn_wi rfl (by simp [vi, Value.category]) rfl rfl ?_
  refine zi_iconst d_wi_breaksBan_0 ?_
  refine zi_istore_n d_wi_breaksBan_1 (by decide) rfl ?_
  have key := zfirst (P := fun (r : Nat) => zV l (d + 2) M_wi_breaksBan 2 [.ref 4, .ref 1, vi (r : Int), .null, .null] [] τ (0, 0) (.inl (some (vi (if anyN (fun r => anyN (banP τ r) (n)) (R) then 1 else 0))), (SH, zq τ), 0, 0)) (fun r => anyN (banP τ r) (n) = true) (R) ?_ ?_ ?_
  · exact zE4 key (by refine ⟨?_, ?_, ?_, ?_, ?_, trivial⟩ <;> first | exact Or.inl rfl | exact Or.inr rfl) rfl
  · intro r hr hpr hc hk
    refine zi_iload_n d_wi_breaksBan_2 rfl ?_
    refine zr_aload_n d_wi_breaksBan_3 rfl ?_
    refine c_wi_breaksBan_4 rfl rfl (tt1_roundCount) ?_
    show zV _ _ _ _ _ (vi _ :: _) _ _ _
    rw [hR]
    refine zi_icmp_ge 79 d_wi_breaksBan_7 (by decide) (by first | assumption | exact ⟨by omega, by omega⟩) (by first | assumption | exact ⟨by omega, by omega⟩) (fun h7 => ?_) (fun h7 => ?_)
    · exact absurd h7 (by omega)
    · refine zi_iconst d_wi_breaksBan_10 ?_
      refine zi_istore_n d_wi_breaksBan_11 (by decide) rfl ?_
      have inn := zfirst (P := fun (t : Nat) => zV l (d + 2) M_wi_breaksBan 12 [.ref 4, .ref 1, vi (r : Int), vi (t : Int), .null] [] τ (0, 0) (.inl (some (vi (if anyN (fun r => anyN (banP τ r) (n)) (R) then 1 else 0))), (SH, zq τ), 0, 0)) (fun t => banP τ r t = true) (n) ?_ ?_ ?_
      · exact zE4 inn (by refine ⟨?_, ?_, ?_, ?_, ?_, trivial⟩ <;> first | exact Or.inl rfl | exact Or.inr rfl) rfl
      · intro t ht hp hct hkt
        simp only [banP, decide_eq_true_eq] at hct
        refine zi_iload_n d_wi_breaksBan_12 rfl ?_
        refine zr_aload_n d_wi_breaksBan_13 rfl ?_
        refine c_wi_breaksBan_14 rfl rfl (tt1_teamCount) ?_
        show zV _ _ _ _ _ (vi _ :: _) _ _ _
        rw [hn]
        refine zi_icmp_ge 73 d_wi_breaksBan_17 (by decide) (by first | assumption | exact ⟨by omega, by omega⟩) (by first | assumption | exact ⟨by omega, by omega⟩) (fun h17 => ?_) (fun h17 => ?_)
        · exact absurd h17 (by omega)
        · refine zr_aload_n d_wi_breaksBan_20 rfl ?_
          refine zi_iload_n d_wi_breaksBan_21 rfl ?_
          refine zi_iload_n d_wi_breaksBan_22 rfl ?_
          refine c_wi_breaksBan_23 rfl rfl (tt1_venueAt hw ⟨by omega, by omega⟩ ⟨by omega, by omega⟩) ?_
          refine zi_istore d_wi_breaksBan_26 (by decide) rfl ?_
          refine zi_iload d_wi_breaksBan_28 rfl ?_
          refine zi_iconst d_wi_breaksBan_30 ?_
          refine zi_icmp_ne 47 d_wi_breaksBan_31 (by decide) (hA _ _) (by first | assumption | exact ⟨by omega, by omega⟩) (fun h31 => ?_) (fun h31 => ?_)
          · refine zi_iload d_wi_breaksBan_47 rfl ?_
            refine zi_if_ne 67 d_wi_breaksBan_49 (by decide) (hA _ _) (fun h49 => ?_) (fun h49 => ?_)
            · refine zi_iinc d_wi_breaksBan_67 (by decide) rfl rfl ?_
              refine zr_goto 12 d_wi_breaksBan_70 (by decide) ?_
              exact zE4 hkt (by refine ⟨?_, ?_, ?_, ?_, ?_, trivial⟩ <;> first | exact Or.inl rfl | exact Or.inr rfl) rfl
            · refine zr_aload_n d_wi_breaksBan_52 rfl ?_
              refine zi_getr (j := 1) d_wi_breaksBan_53 zC6 fl_wi_15 (by decide) rfl rfl ?_
              refine zi_iload_n d_wi_breaksBan_56 rfl ?_
              refine zi_ialdE (x := (((τ 6 r).toNat : Nat) : Int)) d_wi_breaksBan_57 rfl (by decide) (by omega) (by omega) (by rw [Int.toNat_natCast]; exact (Int.toNat_of_nonneg (hM6 r)).symm) ?_
              refine zi_iload_n d_wi_breaksBan_58 rfl ?_
              refine c_wi_breaksBan_59 rfl (lr_hasBit (by have h8 := hA 6 r; have h9 := hM6 r; unfold zin at h8; omega) (by omega)) ?_
              refine zi_if_eq 67 d_wi_breaksBan_62 (by decide) (by split <;> exact ⟨by decide, by decide⟩) (fun h62 => ?_) (fun h62 => ?_)
              · refine zi_iinc d_wi_breaksBan_67 (by decide) rfl rfl ?_
                refine zr_goto 12 d_wi_breaksBan_70 (by decide) ?_
                exact zE4 hkt (by refine ⟨?_, ?_, ?_, ?_, ?_, trivial⟩ <;> first | exact Or.inl rfl | exact Or.inr rfl) rfl
              · exfalso
                grind
          · refine zr_aload_n d_wi_breaksBan_34 rfl ?_
            refine zi_getr (j := 0) d_wi_breaksBan_35 zC6 fl_wi_9 (by decide) rfl rfl ?_
            refine zi_iload_n d_wi_breaksBan_38 rfl ?_
            refine zi_ialdE (x := (((τ 5 r).toNat : Nat) : Int)) d_wi_breaksBan_39 rfl (by decide) (by omega) (by omega) (by rw [Int.toNat_natCast]; exact (Int.toNat_of_nonneg (hM5 r)).symm) ?_
            refine zi_iload_n d_wi_breaksBan_40 rfl ?_
            refine c_wi_breaksBan_41 rfl (lr_hasBit (by have h8 := hA 5 r; have h9 := hM5 r; unfold zin at h8; omega) (by omega)) ?_
            refine zi_if_ne 65 d_wi_breaksBan_44 (by decide) (by split <;> exact ⟨by decide, by decide⟩) (fun h44 => ?_) (fun h44 => ?_)
            · exfalso
              grind
            · refine zi_iload d_wi_breaksBan_47 rfl ?_
              refine zi_if_ne 67 d_wi_breaksBan_49 (by decide) (hA _ _) (fun h49 => ?_) (fun h49 => ?_)
              · refine zi_iinc d_wi_breaksBan_67 (by decide) rfl rfl ?_
                refine zr_goto 12 d_wi_breaksBan_70 (by decide) ?_
                exact zE4 hkt (by refine ⟨?_, ?_, ?_, ?_, ?_, trivial⟩ <;> first | exact Or.inl rfl | exact Or.inr rfl) rfl
              · refine zr_aload_n d_wi_breaksBan_52 rfl ?_
                refine zi_getr (j := 1) d_wi_breaksBan_53 zC6 fl_wi_15 (by decide) rfl rfl ?_
                refine zi_iload_n d_wi_breaksBan_56 rfl ?_
                refine zi_ialdE (x := (((τ 6 r).toNat : Nat) : Int)) d_wi_breaksBan_57 rfl (by decide) (by omega) (by omega) (by rw [Int.toNat_natCast]; exact (Int.toNat_of_nonneg (hM6 r)).symm) ?_
                refine zi_iload_n d_wi_breaksBan_58 rfl ?_
                refine c_wi_breaksBan_59 rfl (lr_hasBit (by have h8 := hA 6 r; have h9 := hM6 r; unfold zin at h8; omega) (by omega)) ?_
                refine zi_if_eq 67 d_wi_breaksBan_62 (by decide) (by split <;> exact ⟨by decide, by decide⟩) (fun h62 => ?_) (fun h62 => ?_)
                · refine zi_iinc d_wi_breaksBan_67 (by decide) rfl rfl ?_
                  refine zr_goto 12 d_wi_breaksBan_70 (by decide) ?_
                  exact zE4 hkt (by refine ⟨?_, ?_, ?_, ?_, ?_, trivial⟩ <;> first | exact Or.inl rfl | exact Or.inr rfl) rfl
                · exfalso
                  grind
      · intro t ht hp hct
        exact absurd ((anyN_iff _ _).mpr ⟨t, ht, hct⟩) hc
      · intro hno
        refine zi_iload_n d_wi_breaksBan_12 rfl ?_
        refine zr_aload_n d_wi_breaksBan_13 rfl ?_
        refine c_wi_breaksBan_14 rfl rfl (tt1_teamCount) ?_
        show zV _ _ _ _ _ (vi _ :: _) _ _ _
        rw [hn]
        refine zi_icmp_ge 73 d_wi_breaksBan_17 (by decide) (by first | assumption | exact ⟨by omega, by omega⟩) (by first | assumption | exact ⟨by omega, by omega⟩) (fun h17 => ?_) (fun h17 => ?_)
        · refine zi_iinc d_wi_breaksBan_73 (by decide) rfl rfl ?_
          refine zr_goto 2 d_wi_breaksBan_76 (by decide) ?_
          exact zE4 hk (by refine ⟨?_, ?_, ?_, ?_, ?_, trivial⟩ <;> first | exact Or.inl rfl | exact Or.inr rfl) rfl
        · exact absurd h17 (by omega)
  · intro r hr hpr hc
    refine zi_iload_n d_wi_breaksBan_2 rfl ?_
    refine zr_aload_n d_wi_breaksBan_3 rfl ?_
    refine c_wi_breaksBan_4 rfl rfl (tt1_roundCount) ?_
    show zV _ _ _ _ _ (vi _ :: _) _ _ _
    rw [hR]
    refine zi_icmp_ge 79 d_wi_breaksBan_7 (by decide) (by first | assumption | exact ⟨by omega, by omega⟩) (by first | assumption | exact ⟨by omega, by omega⟩) (fun h7 => ?_) (fun h7 => ?_)
    · exact absurd h7 (by omega)
    · refine zi_iconst d_wi_breaksBan_10 ?_
      refine zi_istore_n d_wi_breaksBan_11 (by decide) rfl ?_
      have inn := zfirst (P := fun (t : Nat) => zV l (d + 2) M_wi_breaksBan 12 [.ref 4, .ref 1, vi (r : Int), vi (t : Int), .null] [] τ (0, 0) (.inl (some (vi (if anyN (fun r => anyN (banP τ r) (n)) (R) then 1 else 0))), (SH, zq τ), 0, 0)) (fun t => banP τ r t = true) (n) ?_ ?_ ?_
      · exact zE4 inn (by refine ⟨?_, ?_, ?_, ?_, ?_, trivial⟩ <;> first | exact Or.inl rfl | exact Or.inr rfl) rfl
      · intro t ht hp hct hkt
        simp only [banP, decide_eq_true_eq] at hct
        refine zi_iload_n d_wi_breaksBan_12 rfl ?_
        refine zr_aload_n d_wi_breaksBan_13 rfl ?_
        refine c_wi_breaksBan_14 rfl rfl (tt1_teamCount) ?_
        show zV _ _ _ _ _ (vi _ :: _) _ _ _
        rw [hn]
        refine zi_icmp_ge 73 d_wi_breaksBan_17 (by decide) (by first | assumption | exact ⟨by omega, by omega⟩) (by first | assumption | exact ⟨by omega, by omega⟩) (fun h17 => ?_) (fun h17 => ?_)
        · exact absurd h17 (by omega)
        · refine zr_aload_n d_wi_breaksBan_20 rfl ?_
          refine zi_iload_n d_wi_breaksBan_21 rfl ?_
          refine zi_iload_n d_wi_breaksBan_22 rfl ?_
          refine c_wi_breaksBan_23 rfl rfl (tt1_venueAt hw ⟨by omega, by omega⟩ ⟨by omega, by omega⟩) ?_
          refine zi_istore d_wi_breaksBan_26 (by decide) rfl ?_
          refine zi_iload d_wi_breaksBan_28 rfl ?_
          refine zi_iconst d_wi_breaksBan_30 ?_
          refine zi_icmp_ne 47 d_wi_breaksBan_31 (by decide) (hA _ _) (by first | assumption | exact ⟨by omega, by omega⟩) (fun h31 => ?_) (fun h31 => ?_)
          · refine zi_iload d_wi_breaksBan_47 rfl ?_
            refine zi_if_ne 67 d_wi_breaksBan_49 (by decide) (hA _ _) (fun h49 => ?_) (fun h49 => ?_)
            · refine zi_iinc d_wi_breaksBan_67 (by decide) rfl rfl ?_
              refine zr_goto 12 d_wi_breaksBan_70 (by decide) ?_
              exact zE4 hkt (by refine ⟨?_, ?_, ?_, ?_, ?_, trivial⟩ <;> first | exact Or.inl rfl | exact Or.inr rfl) rfl
            · refine zr_aload_n d_wi_breaksBan_52 rfl ?_
              refine zi_getr (j := 1) d_wi_breaksBan_53 zC6 fl_wi_15 (by decide) rfl rfl ?_
              refine zi_iload_n d_wi_breaksBan_56 rfl ?_
              refine zi_ialdE (x := (((τ 6 r).toNat : Nat) : Int)) d_wi_breaksBan_57 rfl (by decide) (by omega) (by omega) (by rw [Int.toNat_natCast]; exact (Int.toNat_of_nonneg (hM6 r)).symm) ?_
              refine zi_iload_n d_wi_breaksBan_58 rfl ?_
              refine c_wi_breaksBan_59 rfl (lr_hasBit (by have h8 := hA 6 r; have h9 := hM6 r; unfold zin at h8; omega) (by omega)) ?_
              refine zi_if_eq 67 d_wi_breaksBan_62 (by decide) (by split <;> exact ⟨by decide, by decide⟩) (fun h62 => ?_) (fun h62 => ?_)
              · refine zi_iinc d_wi_breaksBan_67 (by decide) rfl rfl ?_
                refine zr_goto 12 d_wi_breaksBan_70 (by decide) ?_
                exact zE4 hkt (by refine ⟨?_, ?_, ?_, ?_, ?_, trivial⟩ <;> first | exact Or.inl rfl | exact Or.inr rfl) rfl
              · exfalso
                grind
          · refine zr_aload_n d_wi_breaksBan_34 rfl ?_
            refine zi_getr (j := 0) d_wi_breaksBan_35 zC6 fl_wi_9 (by decide) rfl rfl ?_
            refine zi_iload_n d_wi_breaksBan_38 rfl ?_
            refine zi_ialdE (x := (((τ 5 r).toNat : Nat) : Int)) d_wi_breaksBan_39 rfl (by decide) (by omega) (by omega) (by rw [Int.toNat_natCast]; exact (Int.toNat_of_nonneg (hM5 r)).symm) ?_
            refine zi_iload_n d_wi_breaksBan_40 rfl ?_
            refine c_wi_breaksBan_41 rfl (lr_hasBit (by have h8 := hA 5 r; have h9 := hM5 r; unfold zin at h8; omega) (by omega)) ?_
            refine zi_if_ne 65 d_wi_breaksBan_44 (by decide) (by split <;> exact ⟨by decide, by decide⟩) (fun h44 => ?_) (fun h44 => ?_)
            · exfalso
              grind
            · refine zi_iload d_wi_breaksBan_47 rfl ?_
              refine zi_if_ne 67 d_wi_breaksBan_49 (by decide) (hA _ _) (fun h49 => ?_) (fun h49 => ?_)
              · refine zi_iinc d_wi_breaksBan_67 (by decide) rfl rfl ?_
                refine zr_goto 12 d_wi_breaksBan_70 (by decide) ?_
                exact zE4 hkt (by refine ⟨?_, ?_, ?_, ?_, ?_, trivial⟩ <;> first | exact Or.inl rfl | exact Or.inr rfl) rfl
              · refine zr_aload_n d_wi_breaksBan_52 rfl ?_
                refine zi_getr (j := 1) d_wi_breaksBan_53 zC6 fl_wi_15 (by decide) rfl rfl ?_
                refine zi_iload_n d_wi_breaksBan_56 rfl ?_
                refine zi_ialdE (x := (((τ 6 r).toNat : Nat) : Int)) d_wi_breaksBan_57 rfl (by decide) (by omega) (by omega) (by rw [Int.toNat_natCast]; exact (Int.toNat_of_nonneg (hM6 r)).symm) ?_
                refine zi_iload_n d_wi_breaksBan_58 rfl ?_
                refine c_wi_breaksBan_59 rfl (lr_hasBit (by have h8 := hA 6 r; have h9 := hM6 r; unfold zin at h8; omega) (by omega)) ?_
                refine zi_if_eq 67 d_wi_breaksBan_62 (by decide) (by split <;> exact ⟨by decide, by decide⟩) (fun h62 => ?_) (fun h62 => ?_)
                · refine zi_iinc d_wi_breaksBan_67 (by decide) rfl rfl ?_
                  refine zr_goto 12 d_wi_breaksBan_70 (by decide) ?_
                  exact zE4 hkt (by refine ⟨?_, ?_, ?_, ?_, ?_, trivial⟩ <;> first | exact Or.inl rfl | exact Or.inr rfl) rfl
                · exfalso
                  grind
      · intro t ht hp hct
        have hany : anyN (fun r => anyN (banP τ r) (n)) (R) = true := (anyN_iff _ _).mpr ⟨r, hr, (anyN_iff _ _).mpr ⟨t, ht, hct⟩⟩
        simp only [banP, decide_eq_true_eq] at hct
        refine zi_iload_n d_wi_breaksBan_12 rfl ?_
        refine zr_aload_n d_wi_breaksBan_13 rfl ?_
        refine c_wi_breaksBan_14 rfl rfl (tt1_teamCount) ?_
        show zV _ _ _ _ _ (vi _ :: _) _ _ _
        rw [hn]
        refine zi_icmp_ge 73 d_wi_breaksBan_17 (by decide) (by first | assumption | exact ⟨by omega, by omega⟩) (by first | assumption | exact ⟨by omega, by omega⟩) (fun h17 => ?_) (fun h17 => ?_)
        · exact absurd h17 (by omega)
        · refine zr_aload_n d_wi_breaksBan_20 rfl ?_
          refine zi_iload_n d_wi_breaksBan_21 rfl ?_
          refine zi_iload_n d_wi_breaksBan_22 rfl ?_
          refine c_wi_breaksBan_23 rfl rfl (tt1_venueAt hw ⟨by omega, by omega⟩ ⟨by omega, by omega⟩) ?_
          refine zi_istore d_wi_breaksBan_26 (by decide) rfl ?_
          refine zi_iload d_wi_breaksBan_28 rfl ?_
          refine zi_iconst d_wi_breaksBan_30 ?_
          refine zi_icmp_ne 47 d_wi_breaksBan_31 (by decide) (hA _ _) (by first | assumption | exact ⟨by omega, by omega⟩) (fun h31 => ?_) (fun h31 => ?_)
          · refine zi_iload d_wi_breaksBan_47 rfl ?_
            refine zi_if_ne 67 d_wi_breaksBan_49 (by decide) (hA _ _) (fun h49 => ?_) (fun h49 => ?_)
            · refine zi_iinc d_wi_breaksBan_67 (by decide) rfl rfl ?_
              refine zr_goto 12 d_wi_breaksBan_70 (by decide) ?_
              exfalso
              grind
            · refine zr_aload_n d_wi_breaksBan_52 rfl ?_
              refine zi_getr (j := 1) d_wi_breaksBan_53 zC6 fl_wi_15 (by decide) rfl rfl ?_
              refine zi_iload_n d_wi_breaksBan_56 rfl ?_
              refine zi_ialdE (x := (((τ 6 r).toNat : Nat) : Int)) d_wi_breaksBan_57 rfl (by decide) (by omega) (by omega) (by rw [Int.toNat_natCast]; exact (Int.toNat_of_nonneg (hM6 r)).symm) ?_
              refine zi_iload_n d_wi_breaksBan_58 rfl ?_
              refine c_wi_breaksBan_59 rfl (lr_hasBit (by have h8 := hA 6 r; have h9 := hM6 r; unfold zin at h8; omega) (by omega)) ?_
              refine zi_if_eq 67 d_wi_breaksBan_62 (by decide) (by split <;> exact ⟨by decide, by decide⟩) (fun h62 => ?_) (fun h62 => ?_)
              · refine zi_iinc d_wi_breaksBan_67 (by decide) rfl rfl ?_
                refine zr_goto 12 d_wi_breaksBan_70 (by decide) ?_
                exfalso
                grind
              · refine zi_iconst d_wi_breaksBan_65 ?_
                exact zk_zret rfl d_wi_breaksBan_66 (Nat.zero_le _) (Nat.zero_le _) (by omega) (by rw [if_pos hany]) rfl
          · refine zr_aload_n d_wi_breaksBan_34 rfl ?_
            refine zi_getr (j := 0) d_wi_breaksBan_35 zC6 fl_wi_9 (by decide) rfl rfl ?_
            refine zi_iload_n d_wi_breaksBan_38 rfl ?_
            refine zi_ialdE (x := (((τ 5 r).toNat : Nat) : Int)) d_wi_breaksBan_39 rfl (by decide) (by omega) (by omega) (by rw [Int.toNat_natCast]; exact (Int.toNat_of_nonneg (hM5 r)).symm) ?_
            refine zi_iload_n d_wi_breaksBan_40 rfl ?_
            refine c_wi_breaksBan_41 rfl (lr_hasBit (by have h8 := hA 5 r; have h9 := hM5 r; unfold zin at h8; omega) (by omega)) ?_
            refine zi_if_ne 65 d_wi_breaksBan_44 (by decide) (by split <;> exact ⟨by decide, by decide⟩) (fun h44 => ?_) (fun h44 => ?_)
            · refine zi_iconst d_wi_breaksBan_65 ?_
              exact zk_zret rfl d_wi_breaksBan_66 (Nat.zero_le _) (Nat.zero_le _) (by omega) (by rw [if_pos hany]) rfl
            · refine zi_iload d_wi_breaksBan_47 rfl ?_
              refine zi_if_ne 67 d_wi_breaksBan_49 (by decide) (hA _ _) (fun h49 => ?_) (fun h49 => ?_)
              · refine zi_iinc d_wi_breaksBan_67 (by decide) rfl rfl ?_
                refine zr_goto 12 d_wi_breaksBan_70 (by decide) ?_
                exfalso
                grind
              · refine zr_aload_n d_wi_breaksBan_52 rfl ?_
                refine zi_getr (j := 1) d_wi_breaksBan_53 zC6 fl_wi_15 (by decide) rfl rfl ?_
                refine zi_iload_n d_wi_breaksBan_56 rfl ?_
                refine zi_ialdE (x := (((τ 6 r).toNat : Nat) : Int)) d_wi_breaksBan_57 rfl (by decide) (by omega) (by omega) (by rw [Int.toNat_natCast]; exact (Int.toNat_of_nonneg (hM6 r)).symm) ?_
                refine zi_iload_n d_wi_breaksBan_58 rfl ?_
                refine c_wi_breaksBan_59 rfl (lr_hasBit (by have h8 := hA 6 r; have h9 := hM6 r; unfold zin at h8; omega) (by omega)) ?_
                refine zi_if_eq 67 d_wi_breaksBan_62 (by decide) (by split <;> exact ⟨by decide, by decide⟩) (fun h62 => ?_) (fun h62 => ?_)
                · refine zi_iinc d_wi_breaksBan_67 (by decide) rfl rfl ?_
                  refine zr_goto 12 d_wi_breaksBan_70 (by decide) ?_
                  exfalso
                  grind
                · refine zi_iconst d_wi_breaksBan_65 ?_
                  exact zk_zret rfl d_wi_breaksBan_66 (Nat.zero_le _) (Nat.zero_le _) (by omega) (by rw [if_pos hany]) rfl
      · intro hno
        obtain ⟨t, ht, hct⟩ := (anyN_iff _ _).mp hc
        exact absurd hct (hno t ht)
  · intro hno
    refine zi_iload_n d_wi_breaksBan_2 rfl ?_
    refine zr_aload_n d_wi_breaksBan_3 rfl ?_
    refine c_wi_breaksBan_4 rfl rfl (tt1_roundCount) ?_
    show zV _ _ _ _ _ (vi _ :: _) _ _ _
    rw [hR]
    refine zi_icmp_ge 79 d_wi_breaksBan_7 (by decide) (by first | assumption | exact ⟨by omega, by omega⟩) (by first | assumption | exact ⟨by omega, by omega⟩) (fun h7 => ?_) (fun h7 => ?_)
    · refine zi_iconst d_wi_breaksBan_79 ?_
      exact zk_zret rfl d_wi_breaksBan_80 (Nat.zero_le _) (Nat.zero_le _) (by omega) (by rw [if_neg (fun g => by obtain ⟨r, g1, g2⟩ := (anyN_iff _ _).mp g; exact hno r g1 g2)]) rfl
    · exact absurd h7 (by omega)
theorem wi_breaksPair {l : Launch} {d : Nat} {τ : tS} {n R : Nat} (hA : AllIn τ) (hw : τ 1 0 = 20) (hn : τ 1 3 = (n : Int)) (hn2 : n ≤ 20) (hR : τ 1 4 = (R : Int)) (hR2 : R ≤ 38) {p : Nat} (hp5 : τ 4 5 = (p : Int)) (hp6 : p ≤ 6) (hP : ∀ i, i < p → (0 ≤ τ 7 i ∧ τ 7 i < 20) ∧ (0 ≤ τ 8 i ∧ τ 8 i < 20)) : zF l (d + 2) M_wi_breaksPair [.ref 4, .ref 1] τ (some (vi (if anyN (fun i => anyN (pairP τ i) (R)) (p) then 1 else 0))) τ := by
  refine zMet_of (ls := [.ref 4, .ref 1, .null, .null]) pn_wi rfl (by simp [vi, Value.category]) rfl rfl ?_
  refine zi_iconst d_wi_breaksPair_0 ?_
  refine zi_istore_n d_wi_breaksPair_1 (by decide) rfl ?_
  have key := zfirst (P := fun (i : Nat) => zV l (d + 2) M_wi_breaksPair 2 [.ref 4, .ref 1, vi (i : Int), .null] [] τ (0, 0) (.inl (some (vi (if anyN (fun i => anyN (pairP τ i) (R)) (p) then 1 else 0))), (SH, zq τ), 0, 0)) (fun i => anyN (pairP τ i) (R) = true) (p) ?_ ?_ ?_
  · exact zE4 key (by refine ⟨?_, ?_, ?_, ?_, trivial⟩ <;> first | exact Or.inl rfl | exact Or.inr rfl) rfl
  · intro i hr hpr hc hk
    refine zi_iload_n d_wi_breaksPair_2 rfl ?_
    refine zr_aload_n d_wi_breaksPair_3 rfl ?_
    refine zi_getiE (j := 5) (x := (p : Int)) d_wi_breaksPair_4 zC6 fl_wi_43 (by decide) rfl rfl (hp5) ?_
    refine zi_icmp_ge 64 d_wi_breaksPair_7 (by decide) (by first | assumption | exact ⟨by omega, by omega⟩) (by first | assumption | exact ⟨by omega, by omega⟩) (fun h7 => ?_) (fun h7 => ?_)
    · exact absurd h7 (by omega)
    · refine zi_iconst d_wi_breaksPair_10 ?_
      refine zi_istore_n d_wi_breaksPair_11 (by decide) rfl ?_
      have inn := zfirst (P := fun (r : Nat) => zV l (d + 2) M_wi_breaksPair 12 [.ref 4, .ref 1, vi (i : Int), vi (r : Int)] [] τ (0, 0) (.inl (some (vi (if anyN (fun i => anyN (pairP τ i) (R)) (p) then 1 else 0))), (SH, zq τ), 0, 0)) (fun r => pairP τ i r = true) (R) ?_ ?_ ?_
      · exact zE4 inn (by refine ⟨?_, ?_, ?_, ?_, trivial⟩ <;> first | exact Or.inl rfl | exact Or.inr rfl) rfl
      · intro r ht hp hct hkt
        simp only [pairP, decide_eq_true_eq] at hct
        refine zi_iload_n d_wi_breaksPair_12 rfl ?_
        refine zr_aload_n d_wi_breaksPair_13 rfl ?_
        refine c_wi_breaksPair_14 rfl rfl (tt1_roundCount) ?_
        show zV _ _ _ _ _ (vi _ :: _) _ _ _
        rw [hR]
        refine zi_icmp_ge 58 d_wi_breaksPair_17 (by decide) (by first | assumption | exact ⟨by omega, by omega⟩) (by first | assumption | exact ⟨by omega, by omega⟩) (fun h17 => ?_) (fun h17 => ?_)
        · exact absurd h17 (by omega)
        · refine zr_aload_n d_wi_breaksPair_20 rfl ?_
          refine zi_iload_n d_wi_breaksPair_21 rfl ?_
          refine zr_aload_n d_wi_breaksPair_22 rfl ?_
          refine zi_getr (j := 3) d_wi_breaksPair_23 zC6 fl_wi_18 (by decide) rfl rfl ?_
          refine zi_iload_n d_wi_breaksPair_26 rfl ?_
          refine zi_ialdE (x := τ 7 i) d_wi_breaksPair_27 rfl (by decide) (by omega) (by omega) (by rw [Int.toNat_natCast]) ?_
          refine c_wi_breaksPair_28 rfl rfl (tt1_venueAt hw ⟨by omega, by omega⟩ (hP i hr).1) ?_
          refine zi_iconst d_wi_breaksPair_31 ?_
          refine zi_icmp_ne 52 d_wi_breaksPair_32 (by decide) (hA _ _) (by first | assumption | exact ⟨by omega, by omega⟩) (fun h32 => ?_) (fun h32 => ?_)
          · refine zi_iinc d_wi_breaksPair_52 (by decide) rfl rfl ?_
            refine zr_goto 12 d_wi_breaksPair_55 (by decide) ?_
            exact zE4 hkt (by refine ⟨?_, ?_, ?_, ?_, trivial⟩ <;> first | exact Or.inl rfl | exact Or.inr rfl) rfl
          · refine zr_aload_n d_wi_breaksPair_35 rfl ?_
            refine zi_iload_n d_wi_breaksPair_36 rfl ?_
            refine zr_aload_n d_wi_breaksPair_37 rfl ?_
            refine zi_getr (j := 4) d_wi_breaksPair_38 zC6 fl_wi_21 (by decide) rfl rfl ?_
            refine zi_iload_n d_wi_breaksPair_41 rfl ?_
            refine zi_ialdE (x := τ 8 i) d_wi_breaksPair_42 rfl (by decide) (by omega) (by omega) (by rw [Int.toNat_natCast]) ?_
            refine c_wi_breaksPair_43 rfl rfl (tt1_venueAt hw ⟨by omega, by omega⟩ (hP i hr).2) ?_
            refine zi_iconst d_wi_breaksPair_46 ?_
            refine zi_icmp_ne 52 d_wi_breaksPair_47 (by decide) (hA _ _) (by first | assumption | exact ⟨by omega, by omega⟩) (fun h47 => ?_) (fun h47 => ?_)
            · refine zi_iinc d_wi_breaksPair_52 (by decide) rfl rfl ?_
              refine zr_goto 12 d_wi_breaksPair_55 (by decide) ?_
              exact zE4 hkt (by refine ⟨?_, ?_, ?_, ?_, trivial⟩ <;> first | exact Or.inl rfl | exact Or.inr rfl) rfl
            · exfalso
              grind
      · intro r ht hp hct
        exact absurd ((anyN_iff _ _).mpr ⟨r, ht, hct⟩) hc
      · intro hno
        refine zi_iload_n d_wi_breaksPair_12 rfl ?_
        refine zr_aload_n d_wi_breaksPair_13 rfl ?_
        refine c_wi_breaksPair_14 rfl rfl (tt1_roundCount) ?_
        show zV _ _ _ _ _ (vi _ :: _) _ _ _
        rw [hR]
        refine zi_icmp_ge 58 d_wi_breaksPair_17 (by decide) (by first | assumption | exact ⟨by omega, by omega⟩) (by first | assumption | exact ⟨by omega, by omega⟩) (fun h17 => ?_) (fun h17 => ?_)
        · refine zi_iinc d_wi_breaksPair_58 (by decide) rfl rfl ?_
          refine zr_goto 2 d_wi_breaksPair_61 (by decide) ?_
          exact zE4 hk (by refine ⟨?_, ?_, ?_, ?_, trivial⟩ <;> first | exact Or.inl rfl | exact Or.inr rfl) rfl
        · exact absurd h17 (by omega)
  · intro i hr hpr hc
    refine zi_iload_n d_wi_breaksPair_2 rfl ?_
    refine zr_aload_n d_wi_breaksPair_3 rfl ?_
    refine zi_getiE (j := 5) (x := (p : Int)) d_wi_breaksPair_4 zC6 fl_wi_43 (by decide) rfl rfl (hp5) ?_
    refine zi_icmp_ge 64 d_wi_breaksPair_7 (by decide) (by first | assumption | exact ⟨by omega, by omega⟩) (by first | assumption | exact ⟨by omega, by omega⟩) (fun h7 => ?_) (fun h7 => ?_)
    · exact absurd h7 (by omega)
    · refine zi_iconst d_wi_breaksPair_10 ?_
      refine zi_istore_n d_wi_breaksPair_11 (by decide) rfl ?_
      have inn := zfirst (P := fun (r : Nat) => zV l (d + 2) M_wi_breaksPair 12 [.ref 4, .ref 1, vi (i : Int), vi (r : Int)] [] τ (0, 0) (.inl (some (vi (if anyN (fun i => anyN (pairP τ i) (R)) (p) then 1 else 0))), (SH, zq τ), 0, 0)) (fun r => pairP τ i r = true) (R) ?_ ?_ ?_
      · exact zE4 inn (by refine ⟨?_, ?_, ?_, ?_, trivial⟩ <;> first | exact Or.inl rfl | exact Or.inr rfl) rfl
      · intro r ht hp hct hkt
        simp only [pairP, decide_eq_true_eq] at hct
        refine zi_iload_n d_wi_breaksPair_12 rfl ?_
        refine zr_aload_n d_wi_breaksPair_13 rfl ?_
        refine c_wi_breaksPair_14 rfl rfl (tt1_roundCount) ?_
        show zV _ _ _ _ _ (vi _ :: _) _ _ _
        rw [hR]
        refine zi_icmp_ge 58 d_wi_breaksPair_17 (by decide) (by first | assumption | exact ⟨by omega, by omega⟩) (by first | assumption | exact ⟨by omega, by omega⟩) (fun h17 => ?_) (fun h17 => ?_)
        · exact absurd h17 (by omega)
        · refine zr_aload_n d_wi_breaksPair_20 rfl ?_
          refine zi_iload_n d_wi_breaksPair_21 rfl ?_
          refine zr_aload_n d_wi_breaksPair_22 rfl ?_
          refine zi_getr (j := 3) d_wi_breaksPair_23 zC6 fl_wi_18 (by decide) rfl rfl ?_
          refine zi_iload_n d_wi_breaksPair_26 rfl ?_
          refine zi_ialdE (x := τ 7 i) d_wi_breaksPair_27 rfl (by decide) (by omega) (by omega) (by rw [Int.toNat_natCast]) ?_
          refine c_wi_breaksPair_28 rfl rfl (tt1_venueAt hw ⟨by omega, by omega⟩ (hP i hr).1) ?_
          refine zi_iconst d_wi_breaksPair_31 ?_
          refine zi_icmp_ne 52 d_wi_breaksPair_32 (by decide) (hA _ _) (by first | assumption | exact ⟨by omega, by omega⟩) (fun h32 => ?_) (fun h32 => ?_)
          · refine zi_iinc d_wi_breaksPair_52 (by decide) rfl rfl ?_
            refine zr_goto 12 d_wi_breaksPair_55 (by decide) ?_
            exact zE4 hkt (by refine ⟨?_, ?_, ?_, ?_, trivial⟩ <;> first | exact Or.inl rfl | exact Or.inr rfl) rfl
          · refine zr_aload_n d_wi_breaksPair_35 rfl ?_
            refine zi_iload_n d_wi_breaksPair_36 rfl ?_
            refine zr_aload_n d_wi_breaksPair_37 rfl ?_
            refine zi_getr (j := 4) d_wi_breaksPair_38 zC6 fl_wi_21 (by decide) rfl rfl ?_
            refine zi_iload_n d_wi_breaksPair_41 rfl ?_
            refine zi_ialdE (x := τ 8 i) d_wi_breaksPair_42 rfl (by decide) (by omega) (by omega) (by rw [Int.toNat_natCast]) ?_
            refine c_wi_breaksPair_43 rfl rfl (tt1_venueAt hw ⟨by omega, by omega⟩ (hP i hr).2) ?_
            refine zi_iconst d_wi_breaksPair_46 ?_
            refine zi_icmp_ne 52 d_wi_breaksPair_47 (by decide) (hA _ _) (by first | assumption | exact ⟨by omega, by omega⟩) (fun h47 => ?_) (fun h47 => ?_)
            · refine zi_iinc d_wi_breaksPair_52 (by decide) rfl rfl ?_
              refine zr_goto 12 d_wi_breaksPair_55 (by decide) ?_
              exact zE4 hkt (by refine ⟨?_, ?_, ?_, ?_, trivial⟩ <;> first | exact Or.inl rfl | exact Or.inr rfl) rfl
            · exfalso
              grind
      · intro r ht hp hct
        have hany : anyN (fun i => anyN (pairP τ i) (R)) (p) = true := (anyN_iff _ _).mpr ⟨i, hr, (anyN_iff _ _).mpr ⟨r, ht, hct⟩⟩
        simp only [pairP, decide_eq_true_eq] at hct
        refine zi_iload_n d_wi_breaksPair_12 rfl ?_
        refine zr_aload_n d_wi_breaksPair_13 rfl ?_
        refine c_wi_breaksPair_14 rfl rfl (tt1_roundCount) ?_
        show zV _ _ _ _ _ (vi _ :: _) _ _ _
        rw [hR]
        refine zi_icmp_ge 58 d_wi_breaksPair_17 (by decide) (by first | assumption | exact ⟨by omega, by omega⟩) (by first | assumption | exact ⟨by omega, by omega⟩) (fun h17 => ?_) (fun h17 => ?_)
        · exact absurd h17 (by omega)
        · refine zr_aload_n d_wi_breaksPair_20 rfl ?_
          refine zi_iload_n d_wi_breaksPair_21 rfl ?_
          refine zr_aload_n d_wi_breaksPair_22 rfl ?_
          refine zi_getr (j := 3) d_wi_breaksPair_23 zC6 fl_wi_18 (by decide) rfl rfl ?_
          refine zi_iload_n d_wi_breaksPair_26 rfl ?_
          refine zi_ialdE (x := τ 7 i) d_wi_breaksPair_27 rfl (by decide) (by omega) (by omega) (by rw [Int.toNat_natCast]) ?_
          refine c_wi_breaksPair_28 rfl rfl (tt1_venueAt hw ⟨by omega, by omega⟩ (hP i hr).1) ?_
          refine zi_iconst d_wi_breaksPair_31 ?_
          refine zi_icmp_ne 52 d_wi_breaksPair_32 (by decide) (hA _ _) (by first | assumption | exact ⟨by omega, by omega⟩) (fun h32 => ?_) (fun h32 => ?_)
          · refine zi_iinc d_wi_breaksPair_52 (by decide) rfl rfl ?_
            refine zr_goto 12 d_wi_breaksPair_55 (by decide) ?_
            exfalso
            grind
          · refine zr_aload_n d_wi_breaksPair_35 rfl ?_
            refine zi_iload_n d_wi_breaksPair_36 rfl ?_
            refine zr_aload_n d_wi_breaksPair_37 rfl ?_
            refine zi_getr (j := 4) d_wi_breaksPair_38 zC6 fl_wi_21 (by decide) rfl rfl ?_
            refine zi_iload_n d_wi_breaksPair_41 rfl ?_
            refine zi_ialdE (x := τ 8 i) d_wi_breaksPair_42 rfl (by decide) (by omega) (by omega) (by rw [Int.toNat_natCast]) ?_
            refine c_wi_breaksPair_43 rfl rfl (tt1_venueAt hw ⟨by omega, by omega⟩ (hP i hr).2) ?_
            refine zi_iconst d_wi_breaksPair_46 ?_
            refine zi_icmp_ne 52 d_wi_breaksPair_47 (by decide) (hA _ _) (by first | assumption | exact ⟨by omega, by omega⟩) (fun h47 => ?_) (fun h47 => ?_)
            · refine zi_iinc d_wi_breaksPair_52 (by decide) rfl rfl ?_
              refine zr_goto 12 d_wi_breaksPair_55 (by decide) ?_
              exfalso
              grind
            · refine zi_iconst d_wi_breaksPair_50 ?_
              exact zk_zret rfl d_wi_breaksPair_51 (Nat.zero_le _) (Nat.zero_le _) (by omega) (by rw [if_pos hany]) rfl
      · intro hno
        obtain ⟨r, ht, hct⟩ := (anyN_iff _ _).mp hc
        exact absurd hct (hno r ht)
  · intro hno
    refine zi_iload_n d_wi_breaksPair_2 rfl ?_
    refine zr_aload_n d_wi_breaksPair_3 rfl ?_
    refine zi_getiE (j := 5) (x := (p : Int)) d_wi_breaksPair_4 zC6 fl_wi_43 (by decide) rfl rfl (hp5) ?_
    refine zi_icmp_ge 64 d_wi_breaksPair_7 (by decide) (by first | assumption | exact ⟨by omega, by omega⟩) (by first | assumption | exact ⟨by omega, by omega⟩) (fun h7 => ?_) (fun h7 => ?_)
    · refine zi_iconst d_wi_breaksPair_64 ?_
      exact zk_zret rfl d_wi_breaksPair_65 (Nat.zero_le _) (Nat.zero_le _) (by omega) (by rw [if_neg (fun g => by obtain ⟨i, g1, g2⟩ := (anyN_iff _ _).mp g; exact hno i g1 g2)]) rfl
    · exact absurd h7 (by omega)
theorem wi_breaksFixed {l : Launch} {d : Nat} {τ : tS} {n R : Nat} (hA : AllIn τ) (hw : τ 1 0 = 20) (hn : τ 1 3 = (n : Int)) (hn2 : n ≤ 20) (hR : τ 1 4 = (R : Int)) (hR2 : R ≤ 38) {f : Nat} (hf9 : τ 4 9 = (f : Int)) (hf6 : f ≤ 6) (hF : ∀ i, i < f → (0 ≤ τ 9 i ∧ τ 9 i < 20) ∧ (0 ≤ τ 10 i ∧ τ 10 i < 20) ∧ (0 ≤ τ 11 i ∧ τ 11 i ≤ 38)) : zF l (d + 2) M_wi_breaksFixed [.ref 4, .ref 1] τ (some (vi (if anyN (fixP τ) (f) then 1 else 0))) τ := by
  refine zMet_of (ls := [.ref 4, .ref 1, .null, .null]) pn_wi rfl (by simp [vi, Value.category]) rfl rfl ?_
  refine zi_iconst d_wi_breaksFixed_0 ?_
  refine zi_istore_n d_wi_breaksFixed_1 (by decide) rfl ?_
  have key := zfirst (P := fun (i : Nat) => zV l (d + 2) M_wi_breaksFixed 2 [.ref 4, .ref 1, vi (i : Int), .null] [] τ (0, 0) (.inl (some (vi (if anyN (fixP τ) (f) then 1 else 0))), (SH, zq τ), 0, 0)) (fun i => fixP τ i = true) (f) ?_ ?_ ?_
  · exact zE4 key (by refine ⟨?_, ?_, ?_, ?_, trivial⟩ <;> first | exact Or.inl rfl | exact Or.inr rfl) rfl
  · intro i hi hp hct hk
    simp only [fixP, decide_eq_true_eq] at hct
    refine zi_iload_n d_wi_breaksFixed_2 rfl ?_
    refine zr_aload_n d_wi_breaksFixed_3 rfl ?_
    refine zi_getiE (j := 9) (x := (f : Int)) d_wi_breaksFixed_4 zC6 fl_wi_46 (by decide) rfl rfl (hf9) ?_
    refine zi_icmp_ge 68 d_wi_breaksFixed_7 (by decide) (by first | assumption | exact ⟨by omega, by omega⟩) (by first | assumption | exact ⟨by omega, by omega⟩) (fun h7 => ?_) (fun h7 => ?_)
    · exact absurd h7 (by omega)
    · have hFi := hF i (by omega)
      refine zr_aload_n d_wi_breaksFixed_10 rfl ?_
      refine zi_getr (j := 8) d_wi_breaksFixed_11 zC6 fl_wi_30 (by decide) rfl rfl ?_
      refine zi_iload_n d_wi_breaksFixed_14 rfl ?_
      refine zi_ialdE (x := τ 11 i) d_wi_breaksFixed_15 rfl (by decide) (by omega) (by omega) (by rw [Int.toNat_natCast]) ?_
      refine zi_istore_n d_wi_breaksFixed_16 (by decide) rfl ?_
      refine zr_aload_n d_wi_breaksFixed_17 rfl ?_
      refine zi_iload_n d_wi_breaksFixed_18 rfl ?_
      refine c_wi_breaksFixed_19 rfl rfl (tt1_hasRound (hA _ _) (hA _ _)) ?_
      refine zi_if_eq 60 d_wi_breaksFixed_22 (by decide) (by split <;> exact ⟨by decide, by decide⟩) (fun h22 => ?_) (fun h22 => ?_)
      · exfalso
        grind
      · have hlt : τ 11 i < (R : Int) := by rw [hR] at h22; split at h22 <;> omega
        refine zr_aload_n d_wi_breaksFixed_25 rfl ?_
        refine zi_iload_n d_wi_breaksFixed_26 rfl ?_
        refine zr_aload_n d_wi_breaksFixed_27 rfl ?_
        refine zi_getr (j := 6) d_wi_breaksFixed_28 zC6 fl_wi_24 (by decide) rfl rfl ?_
        refine zi_iload_n d_wi_breaksFixed_31 rfl ?_
        refine zi_ialdE (x := τ 9 i) d_wi_breaksFixed_32 rfl (by decide) (by omega) (by omega) (by rw [Int.toNat_natCast]) ?_
        refine c_wi_breaksFixed_33 rfl rfl (tt1_opponentAt hw ⟨by omega, by omega⟩ hFi.1) ?_
        refine zr_aload_n d_wi_breaksFixed_36 rfl ?_
        refine zi_getr (j := 7) d_wi_breaksFixed_37 zC6 fl_wi_27 (by decide) rfl rfl ?_
        refine zi_iload_n d_wi_breaksFixed_40 rfl ?_
        refine zi_ialdE (x := τ 10 i) d_wi_breaksFixed_41 rfl (by decide) (by omega) (by omega) (by rw [Int.toNat_natCast]) ?_
        refine zi_icmp_ne 60 d_wi_breaksFixed_42 (by decide) (hA _ _) (hA _ _) (fun h42 => ?_) (fun h42 => ?_)
        · exfalso
          grind
        · refine zr_aload_n d_wi_breaksFixed_45 rfl ?_
          refine zi_iload_n d_wi_breaksFixed_46 rfl ?_
          refine zr_aload_n d_wi_breaksFixed_47 rfl ?_
          refine zi_getr (j := 6) d_wi_breaksFixed_48 zC6 fl_wi_24 (by decide) rfl rfl ?_
          refine zi_iload_n d_wi_breaksFixed_51 rfl ?_
          refine zi_ialdE (x := τ 9 i) d_wi_breaksFixed_52 rfl (by decide) (by omega) (by omega) (by rw [Int.toNat_natCast]) ?_
          refine c_wi_breaksFixed_53 rfl rfl (tt1_venueAt hw ⟨by omega, by omega⟩ hFi.1) ?_
          refine zi_iconst d_wi_breaksFixed_56 ?_
          refine zi_icmp_eq 62 d_wi_breaksFixed_57 (by decide) (hA _ _) (by first | assumption | exact ⟨by omega, by omega⟩) (fun h57 => ?_) (fun h57 => ?_)
          · refine zi_iinc d_wi_breaksFixed_62 (by decide) rfl rfl ?_
            refine zr_goto 2 d_wi_breaksFixed_65 (by decide) ?_
            exact zE4 hk (by refine ⟨?_, ?_, ?_, ?_, trivial⟩ <;> first | exact Or.inl rfl | exact Or.inr rfl) rfl
          · exfalso
            grind
  · intro i hi hp hct
    have hany : anyN (fixP τ) (f) = true := (anyN_iff _ _).mpr ⟨i, hi, hct⟩
    simp only [fixP, decide_eq_true_eq] at hct
    refine zi_iload_n d_wi_breaksFixed_2 rfl ?_
    refine zr_aload_n d_wi_breaksFixed_3 rfl ?_
    refine zi_getiE (j := 9) (x := (f : Int)) d_wi_breaksFixed_4 zC6 fl_wi_46 (by decide) rfl rfl (hf9) ?_
    refine zi_icmp_ge 68 d_wi_breaksFixed_7 (by decide) (by first | assumption | exact ⟨by omega, by omega⟩) (by first | assumption | exact ⟨by omega, by omega⟩) (fun h7 => ?_) (fun h7 => ?_)
    · exact absurd h7 (by omega)
    · have hFi := hF i (by omega)
      refine zr_aload_n d_wi_breaksFixed_10 rfl ?_
      refine zi_getr (j := 8) d_wi_breaksFixed_11 zC6 fl_wi_30 (by decide) rfl rfl ?_
      refine zi_iload_n d_wi_breaksFixed_14 rfl ?_
      refine zi_ialdE (x := τ 11 i) d_wi_breaksFixed_15 rfl (by decide) (by omega) (by omega) (by rw [Int.toNat_natCast]) ?_
      refine zi_istore_n d_wi_breaksFixed_16 (by decide) rfl ?_
      refine zr_aload_n d_wi_breaksFixed_17 rfl ?_
      refine zi_iload_n d_wi_breaksFixed_18 rfl ?_
      refine c_wi_breaksFixed_19 rfl rfl (tt1_hasRound (hA _ _) (hA _ _)) ?_
      refine zi_if_eq 60 d_wi_breaksFixed_22 (by decide) (by split <;> exact ⟨by decide, by decide⟩) (fun h22 => ?_) (fun h22 => ?_)
      · refine zi_iconst d_wi_breaksFixed_60 ?_
        exact zk_zret rfl d_wi_breaksFixed_61 (Nat.zero_le _) (Nat.zero_le _) (by omega) (by rw [if_pos hany]) rfl
      · have hlt : τ 11 i < (R : Int) := by rw [hR] at h22; split at h22 <;> omega
        refine zr_aload_n d_wi_breaksFixed_25 rfl ?_
        refine zi_iload_n d_wi_breaksFixed_26 rfl ?_
        refine zr_aload_n d_wi_breaksFixed_27 rfl ?_
        refine zi_getr (j := 6) d_wi_breaksFixed_28 zC6 fl_wi_24 (by decide) rfl rfl ?_
        refine zi_iload_n d_wi_breaksFixed_31 rfl ?_
        refine zi_ialdE (x := τ 9 i) d_wi_breaksFixed_32 rfl (by decide) (by omega) (by omega) (by rw [Int.toNat_natCast]) ?_
        refine c_wi_breaksFixed_33 rfl rfl (tt1_opponentAt hw ⟨by omega, by omega⟩ hFi.1) ?_
        refine zr_aload_n d_wi_breaksFixed_36 rfl ?_
        refine zi_getr (j := 7) d_wi_breaksFixed_37 zC6 fl_wi_27 (by decide) rfl rfl ?_
        refine zi_iload_n d_wi_breaksFixed_40 rfl ?_
        refine zi_ialdE (x := τ 10 i) d_wi_breaksFixed_41 rfl (by decide) (by omega) (by omega) (by rw [Int.toNat_natCast]) ?_
        refine zi_icmp_ne 60 d_wi_breaksFixed_42 (by decide) (hA _ _) (hA _ _) (fun h42 => ?_) (fun h42 => ?_)
        · refine zi_iconst d_wi_breaksFixed_60 ?_
          exact zk_zret rfl d_wi_breaksFixed_61 (Nat.zero_le _) (Nat.zero_le _) (by omega) (by rw [if_pos hany]) rfl
        · refine zr_aload_n d_wi_breaksFixed_45 rfl ?_
          refine zi_iload_n d_wi_breaksFixed_46 rfl ?_
          refine zr_aload_n d_wi_breaksFixed_47 rfl ?_
          refine zi_getr (j := 6) d_wi_breaksFixed_48 zC6 fl_wi_24 (by decide) rfl rfl ?_
          refine zi_iload_n d_wi_breaksFixed_51 rfl ?_
          refine zi_ialdE (x := τ 9 i) d_wi_breaksFixed_52 rfl (by decide) (by omega) (by omega) (by rw [Int.toNat_natCast]) ?_
          refine c_wi_breaksFixed_53 rfl rfl (tt1_venueAt hw ⟨by omega, by omega⟩ hFi.1) ?_
          refine zi_iconst d_wi_breaksFixed_56 ?_
          refine zi_icmp_eq 62 d_wi_breaksFixed_57 (by decide) (hA _ _) (by first | assumption | exact ⟨by omega, by omega⟩) (fun h57 => ?_) (fun h57 => ?_)
          · refine zi_iinc d_wi_breaksFixed_62 (by decide) rfl rfl ?_
            refine zr_goto 2 d_wi_breaksFixed_65 (by decide) ?_
            exfalso
            grind
          · refine zi_iconst d_wi_breaksFixed_60 ?_
            exact zk_zret rfl d_wi_breaksFixed_61 (Nat.zero_le _) (Nat.zero_le _) (by omega) (by rw [if_pos hany]) rfl
  · intro hno
    refine zi_iload_n d_wi_breaksFixed_2 rfl ?_
    refine zr_aload_n d_wi_breaksFixed_3 rfl ?_
    refine zi_getiE (j := 9) (x := (f : Int)) d_wi_breaksFixed_4 zC6 fl_wi_46 (by decide) rfl rfl (hf9) ?_
    refine zi_icmp_ge 68 d_wi_breaksFixed_7 (by decide) (by first | assumption | exact ⟨by omega, by omega⟩) (by first | assumption | exact ⟨by omega, by omega⟩) (fun h7 => ?_) (fun h7 => ?_)
    · refine zi_iconst d_wi_breaksFixed_68 ?_
      exact zk_zret rfl d_wi_breaksFixed_69 (Nat.zero_le _) (Nat.zero_le _) (by omega) (by rw [if_neg (fun g => by obtain ⟨i, g1, g2⟩ := (anyN_iff _ _).mp g; exact hno i g1 g2)]) rfl
    · exact absurd h7 (by omega)
theorem tt1_awayRunE {l : Launch} {d : Nat} {τ : tS} {t x : Int} {r : Nat} (hx : x = (r : Int) - 1) (hA : AllIn τ) (hw : τ 1 0 = 20) (ht : 0 ≤ t ∧ t < 20) (hr : r ≤ 38) : zF l (d + 2) M_tt_awayRun [.ref 1, vi x, vi t] τ (some (vi ((awr (fun i : Nat => τ 3 ((i : Int) * 20 + t).toNat) r : Nat) : Int))) τ := by
  subst hx
  exact tt1_awayRun hA hw ht hr
theorem tt13_awayRunE {l : Launch} {d : Nat} {τ : tS} {t x : Int} {r : Nat} (hx : x = (r : Int) - 1) (hA : AllIn τ) (hw : τ 13 0 = 8) (ht : 0 ≤ t ∧ t < 8) (hr : r ≤ 7) : zF l (d + 2) M_tt_awayRun [.ref 13, vi x, vi t] τ (some (vi ((awr (fun i : Nat => τ 15 ((i : Int) * 8 + t).toNat) r : Nat) : Int))) τ := by
  subst hx
  exact tt13_awayRun hA hw ht hr
theorem wi_breaksCap {l : Launch} {d : Nat} {τ : tS} {n R : Nat} (hA : AllIn τ) (hw : τ 1 0 = 20) (hn : τ 1 3 = (n : Int)) (hn2 : n ≤ 20) (hR : τ 1 4 = (R : Int)) (hR2 : R ≤ 38) (hc0 : ¬ τ 4 10 = 0) : zF l (d + 3) M_wi_breaksCap [.ref 4, .ref 1] τ (some (vi (if anyN (fun t => anyN (capP τ t) (R)) (n) then 1 else 0))) τ := by
  refine zMet_of (ls := [.ref 4, .ref 1, .null, .null]) pn_wi rfl (by simp [vi, Value.category]) rfl rfl ?_
  refine zr_aload_n d_wi_breaksCap_0 rfl ?_
  refine zi_geti (j := 10) d_wi_breaksCap_1 zC6 fl_wi_49 (by decide) rfl rfl ?_
  refine zi_if_ne 9 d_wi_breaksCap_4 (by decide) (hA _ _) (fun h4 => ?_) (fun h4 => ?_)
  · refine zi_iconst d_wi_breaksCap_9 ?_
    refine zi_istore_n d_wi_breaksCap_10 (by decide) rfl ?_
    have key := zfirst (P := fun (t : Nat) => zV l (d + 3) M_wi_breaksCap 11 [.ref 4, .ref 1, vi (t : Int), .null] [] τ (0, 0) (.inl (some (vi (if anyN (fun t => anyN (capP τ t) (R)) (n) then 1 else 0))), (SH, zq τ), 0, 0)) (fun t => anyN (capP τ t) (R) = true) (n) ?_ ?_ ?_
    · exact zE4 key (by refine ⟨?_, ?_, ?_, ?_, trivial⟩ <;> first | exact Or.inl rfl | exact Or.inr rfl) rfl
    · intro t hr hpr hc hk
      refine zi_iload_n d_wi_breaksCap_11 rfl ?_
      refine zr_aload_n d_wi_breaksCap_12 rfl ?_
      refine c_wi_breaksCap_13 rfl rfl (tt1_teamCount) ?_
      show zV _ _ _ _ _ (vi _ :: _) _ _ _
      rw [hn]
      refine zi_icmp_ge 56 d_wi_breaksCap_16 (by decide) (by first | assumption | exact ⟨by omega, by omega⟩) (by first | assumption | exact ⟨by omega, by omega⟩) (fun h16 => ?_) (fun h16 => ?_)
      · exact absurd h16 (by omega)
      · refine zi_iconst d_wi_breaksCap_19 ?_
        refine zi_istore_n d_wi_breaksCap_20 (by decide) rfl ?_
        have inn := zfirst (P := fun (r : Nat) => zV l (d + 3) M_wi_breaksCap 21 [.ref 4, .ref 1, vi (t : Int), vi (r : Int)] [] τ (0, 0) (.inl (some (vi (if anyN (fun t => anyN (capP τ t) (R)) (n) then 1 else 0))), (SH, zq τ), 0, 0)) (fun r => capP τ t r = true) (R) ?_ ?_ ?_
        · exact zE4 inn (by refine ⟨?_, ?_, ?_, ?_, trivial⟩ <;> first | exact Or.inl rfl | exact Or.inr rfl) rfl
        · intro r ht hp hct hkt
          simp only [capP, decide_eq_true_eq] at hct
          refine zi_iload_n d_wi_breaksCap_21 rfl ?_
          refine zr_aload_n d_wi_breaksCap_22 rfl ?_
          refine c_wi_breaksCap_23 rfl rfl (tt1_roundCount) ?_
          show zV _ _ _ _ _ (vi _ :: _) _ _ _
          rw [hR]
          refine zi_icmp_ge 50 d_wi_breaksCap_26 (by decide) (by first | assumption | exact ⟨by omega, by omega⟩) (by first | assumption | exact ⟨by omega, by omega⟩) (fun h26 => ?_) (fun h26 => ?_)
          · exact absurd h26 (by omega)
          · refine zr_aload_n d_wi_breaksCap_29 rfl ?_
            refine zi_iload_n d_wi_breaksCap_30 rfl ?_
            refine zi_iload_n d_wi_breaksCap_31 rfl ?_
            refine c_wi_breaksCap_32 rfl rfl (tt1_awayRunE (r := r + 1) (by omega) hA hw ⟨by omega, by omega⟩ (by omega)) ?_
            refine zr_aload_n d_wi_breaksCap_35 rfl ?_
            refine zi_geti (j := 10) d_wi_breaksCap_36 zC6 fl_wi_49 (by decide) rfl rfl ?_
            have haw := awr_le (fun i : Nat => τ 3 ((i : Int) * 20 + (t : Int)).toNat) (r + 1)
            refine zi_icmp_le 44 d_wi_breaksCap_39 (by decide) (by first | assumption | exact ⟨by omega, by omega⟩) (hA _ _) (fun h39 => ?_) (fun h39 => ?_)
            · refine zi_iinc d_wi_breaksCap_44 (by decide) rfl rfl ?_
              refine zr_goto 21 d_wi_breaksCap_47 (by decide) ?_
              exact zE4 hkt (by refine ⟨?_, ?_, ?_, ?_, trivial⟩ <;> first | exact Or.inl rfl | exact Or.inr rfl) rfl
            · exfalso
              grind
        · intro r ht hp hct
          exact absurd ((anyN_iff _ _).mpr ⟨r, ht, hct⟩) hc
        · intro hno
          refine zi_iload_n d_wi_breaksCap_21 rfl ?_
          refine zr_aload_n d_wi_breaksCap_22 rfl ?_
          refine c_wi_breaksCap_23 rfl rfl (tt1_roundCount) ?_
          show zV _ _ _ _ _ (vi _ :: _) _ _ _
          rw [hR]
          refine zi_icmp_ge 50 d_wi_breaksCap_26 (by decide) (by first | assumption | exact ⟨by omega, by omega⟩) (by first | assumption | exact ⟨by omega, by omega⟩) (fun h26 => ?_) (fun h26 => ?_)
          · refine zi_iinc d_wi_breaksCap_50 (by decide) rfl rfl ?_
            refine zr_goto 11 d_wi_breaksCap_53 (by decide) ?_
            exact zE4 hk (by refine ⟨?_, ?_, ?_, ?_, trivial⟩ <;> first | exact Or.inl rfl | exact Or.inr rfl) rfl
          · exact absurd h26 (by omega)
    · intro t hr hpr hc
      refine zi_iload_n d_wi_breaksCap_11 rfl ?_
      refine zr_aload_n d_wi_breaksCap_12 rfl ?_
      refine c_wi_breaksCap_13 rfl rfl (tt1_teamCount) ?_
      show zV _ _ _ _ _ (vi _ :: _) _ _ _
      rw [hn]
      refine zi_icmp_ge 56 d_wi_breaksCap_16 (by decide) (by first | assumption | exact ⟨by omega, by omega⟩) (by first | assumption | exact ⟨by omega, by omega⟩) (fun h16 => ?_) (fun h16 => ?_)
      · exact absurd h16 (by omega)
      · refine zi_iconst d_wi_breaksCap_19 ?_
        refine zi_istore_n d_wi_breaksCap_20 (by decide) rfl ?_
        have inn := zfirst (P := fun (r : Nat) => zV l (d + 3) M_wi_breaksCap 21 [.ref 4, .ref 1, vi (t : Int), vi (r : Int)] [] τ (0, 0) (.inl (some (vi (if anyN (fun t => anyN (capP τ t) (R)) (n) then 1 else 0))), (SH, zq τ), 0, 0)) (fun r => capP τ t r = true) (R) ?_ ?_ ?_
        · exact zE4 inn (by refine ⟨?_, ?_, ?_, ?_, trivial⟩ <;> first | exact Or.inl rfl | exact Or.inr rfl) rfl
        · intro r ht hp hct hkt
          simp only [capP, decide_eq_true_eq] at hct
          refine zi_iload_n d_wi_breaksCap_21 rfl ?_
          refine zr_aload_n d_wi_breaksCap_22 rfl ?_
          refine c_wi_breaksCap_23 rfl rfl (tt1_roundCount) ?_
          show zV _ _ _ _ _ (vi _ :: _) _ _ _
          rw [hR]
          refine zi_icmp_ge 50 d_wi_breaksCap_26 (by decide) (by first | assumption | exact ⟨by omega, by omega⟩) (by first | assumption | exact ⟨by omega, by omega⟩) (fun h26 => ?_) (fun h26 => ?_)
          · exact absurd h26 (by omega)
          · refine zr_aload_n d_wi_breaksCap_29 rfl ?_
            refine zi_iload_n d_wi_breaksCap_30 rfl ?_
            refine zi_iload_n d_wi_breaksCap_31 rfl ?_
            refine c_wi_breaksCap_32 rfl rfl (tt1_awayRunE (r := r + 1) (by omega) hA hw ⟨by omega, by omega⟩ (by omega)) ?_
            refine zr_aload_n d_wi_breaksCap_35 rfl ?_
            refine zi_geti (j := 10) d_wi_breaksCap_36 zC6 fl_wi_49 (by decide) rfl rfl ?_
            have haw := awr_le (fun i : Nat => τ 3 ((i : Int) * 20 + (t : Int)).toNat) (r + 1)
            refine zi_icmp_le 44 d_wi_breaksCap_39 (by decide) (by first | assumption | exact ⟨by omega, by omega⟩) (hA _ _) (fun h39 => ?_) (fun h39 => ?_)
            · refine zi_iinc d_wi_breaksCap_44 (by decide) rfl rfl ?_
              refine zr_goto 21 d_wi_breaksCap_47 (by decide) ?_
              exact zE4 hkt (by refine ⟨?_, ?_, ?_, ?_, trivial⟩ <;> first | exact Or.inl rfl | exact Or.inr rfl) rfl
            · exfalso
              grind
        · intro r ht hp hct
          have hany : anyN (fun t => anyN (capP τ t) (R)) (n) = true := (anyN_iff _ _).mpr ⟨t, hr, (anyN_iff _ _).mpr ⟨r, ht, hct⟩⟩
          simp only [capP, decide_eq_true_eq] at hct
          refine zi_iload_n d_wi_breaksCap_21 rfl ?_
          refine zr_aload_n d_wi_breaksCap_22 rfl ?_
          refine c_wi_breaksCap_23 rfl rfl (tt1_roundCount) ?_
          show zV _ _ _ _ _ (vi _ :: _) _ _ _
          rw [hR]
          refine zi_icmp_ge 50 d_wi_breaksCap_26 (by decide) (by first | assumption | exact ⟨by omega, by omega⟩) (by first | assumption | exact ⟨by omega, by omega⟩) (fun h26 => ?_) (fun h26 => ?_)
          · exact absurd h26 (by omega)
          · refine zr_aload_n d_wi_breaksCap_29 rfl ?_
            refine zi_iload_n d_wi_breaksCap_30 rfl ?_
            refine zi_iload_n d_wi_breaksCap_31 rfl ?_
            refine c_wi_breaksCap_32 rfl rfl (tt1_awayRunE (r := r + 1) (by omega) hA hw ⟨by omega, by omega⟩ (by omega)) ?_
            refine zr_aload_n d_wi_breaksCap_35 rfl ?_
            refine zi_geti (j := 10) d_wi_breaksCap_36 zC6 fl_wi_49 (by decide) rfl rfl ?_
            have haw := awr_le (fun i : Nat => τ 3 ((i : Int) * 20 + (t : Int)).toNat) (r + 1)
            refine zi_icmp_le 44 d_wi_breaksCap_39 (by decide) (by first | assumption | exact ⟨by omega, by omega⟩) (hA _ _) (fun h39 => ?_) (fun h39 => ?_)
            · refine zi_iinc d_wi_breaksCap_44 (by decide) rfl rfl ?_
              refine zr_goto 21 d_wi_breaksCap_47 (by decide) ?_
              exfalso
              grind
            · refine zi_iconst d_wi_breaksCap_42 ?_
              exact zk_zret rfl d_wi_breaksCap_43 (Nat.zero_le _) (Nat.zero_le _) (by omega) (by rw [if_pos hany]) rfl
        · intro hno
          obtain ⟨r, ht, hct⟩ := (anyN_iff _ _).mp hc
          exact absurd hct (hno r ht)
    · intro hno
      refine zi_iload_n d_wi_breaksCap_11 rfl ?_
      refine zr_aload_n d_wi_breaksCap_12 rfl ?_
      refine c_wi_breaksCap_13 rfl rfl (tt1_teamCount) ?_
      show zV _ _ _ _ _ (vi _ :: _) _ _ _
      rw [hn]
      refine zi_icmp_ge 56 d_wi_breaksCap_16 (by decide) (by first | assumption | exact ⟨by omega, by omega⟩) (by first | assumption | exact ⟨by omega, by omega⟩) (fun h16 => ?_) (fun h16 => ?_)
      · refine zi_iconst d_wi_breaksCap_56 ?_
        exact zk_zret rfl d_wi_breaksCap_57 (Nat.zero_le _) (Nat.zero_le _) (by omega) (by rw [if_neg (fun g => by obtain ⟨t, g1, g2⟩ := (anyN_iff _ _).mp g; exact hno t g1 g2)]) rfl
      · exact absurd h16 (by omega)
  · exact absurd h4 hc0
theorem wi_breaksCap0 {l : Launch} {d : Nat} {τ : tS} (hc0 : τ 4 10 = 0) : zF l (d + 3) M_wi_breaksCap [.ref 4, .ref 1] (τ) (some (vi 0)) (τ) := by
  refine zMet_of (ls := [.ref 4, .ref 1, .null, .null]) pn_wi rfl (by simp [vi, Value.category]) rfl rfl ?_
  refine zr_aload_n d_wi_breaksCap_0 rfl ?_
  refine zi_getiE (j := 10) (x := 0) d_wi_breaksCap_1 zC6 fl_wi_49 (by decide) rfl rfl (hc0) ?_
  refine zi_if_ne 9 d_wi_breaksCap_4 (by decide) (by first | assumption | exact ⟨by omega, by omega⟩) (fun h4 => ?_) (fun h4 => ?_)
  · exact absurd rfl h4
  · refine zi_iconst d_wi_breaksCap_7 ?_
    exact zk_zret rfl d_wi_breaksCap_8 (Nat.zero_le _) (Nat.zero_le _) (by omega) (by first | rfl | omega | (split <;> omega) | simp_all) rfl
/-- what verify says -/
def brokF (τ : tS) (n R p f : Nat) : Int := if R = 0 then 1 else if anyN (fun r => anyN (banP τ r) n) R then 2 else if anyN (fun i => anyN (pairP τ i) R) p then 3 else if anyN (fixP τ) f then 4 else if ¬ τ 4 10 = 0 ∧ anyN (fun t => anyN (capP τ t) R) n = true then 5 else 0
theorem wi_breaksCapA {l : Launch} {d : Nat} {τ : tS} {n R : Nat} (hA : AllIn τ) (hw : τ 1 0 = 20) (hn : τ 1 3 = (n : Int)) (hn2 : n ≤ 20) (hR : τ 1 4 = (R : Int)) (hR2 : R ≤ 38) : zF l (d + 3) M_wi_breaksCap [.ref 4, .ref 1] τ (some (vi (if ¬ τ 4 10 = 0 ∧ anyN (fun t => anyN (capP τ t) R) n = true then 1 else 0))) τ := by
  by_cases h : τ 4 10 = 0
  · have e : (if ¬ τ 4 10 = 0 ∧ anyN (fun t => anyN (capP τ t) R) n = true then (1 : Int) else 0) = 0 := if_neg (fun g => g.1 h)
    rw [e]
    exact wi_breaksCap0 h
  · have e : (if ¬ τ 4 10 = 0 ∧ anyN (fun t => anyN (capP τ t) R) n = true then (1 : Int) else 0) = if anyN (fun t => anyN (capP τ t) R) n then 1 else 0 := by simp [h]
    rw [e]
    exact wi_breaksCap hA hw hn hn2 hR hR2 h
theorem wi_firstBroken {l : Launch} {d : Nat} {τ : tS} {n R : Nat} (hA : AllIn τ) (hw : τ 1 0 = 20) (hn : τ 1 3 = (n : Int)) (hn2 : n ≤ 20) (hR : τ 1 4 = (R : Int)) (hR2 : R ≤ 38) {p f : Nat} (hM5 : ∀ j, 0 ≤ τ 5 j) (hM6 : ∀ j, 0 ≤ τ 6 j) (hp5 : τ 4 5 = (p : Int)) (hp6 : p ≤ 6) (hP : ∀ i, i < p → (0 ≤ τ 7 i ∧ τ 7 i < 20) ∧ (0 ≤ τ 8 i ∧ τ 8 i < 20)) (hf9 : τ 4 9 = (f : Int)) (hf6 : f ≤ 6) (hF : ∀ i, i < f → (0 ≤ τ 9 i ∧ τ 9 i < 20) ∧ (0 ≤ τ 10 i ∧ τ 10 i < 20) ∧ (0 ≤ τ 11 i ∧ τ 11 i ≤ 38)) : zF l (d + 4) M_wi_firstBroken [.ref 4, .ref 1] (τ) (some (vi (brokF τ n R p f))) (τ) := by
  refine zMet_of (ls := [.ref 4, .ref 1]) pn_wi rfl (by simp [vi, Value.category]) rfl rfl ?_
  refine zr_aload_n d_wi_firstBroken_0 rfl ?_
  refine c_wi_firstBroken_1 rfl rfl (tt1_roundCount) ?_
  show zV _ _ _ _ _ (vi _ :: _) _ _ _
  rw [hR]
  refine zi_if_ne 9 d_wi_firstBroken_4 (by decide) (by first | assumption | exact ⟨by omega, by omega⟩) (fun h4 => ?_) (fun h4 => ?_)
  · refine zr_aload_n d_wi_firstBroken_9 rfl ?_
    refine zr_aload_n d_wi_firstBroken_10 rfl ?_
    refine c_wi_firstBroken_11 rfl rfl (wi_breaksBan hA hw hn hn2 hR hR2 hM5 hM6) ?_
    refine zi_if_eq 19 d_wi_firstBroken_14 (by decide) (by split <;> exact ⟨by decide, by decide⟩) (fun h14 => ?_) (fun h14 => ?_)
    · refine zr_aload_n d_wi_firstBroken_19 rfl ?_
      refine zr_aload_n d_wi_firstBroken_20 rfl ?_
      refine c_wi_firstBroken_21 rfl rfl (wi_breaksPair hA hw hn hn2 hR hR2 hp5 hp6 hP) ?_
      refine zi_if_eq 29 d_wi_firstBroken_24 (by decide) (by split <;> exact ⟨by decide, by decide⟩) (fun h24 => ?_) (fun h24 => ?_)
      · refine zr_aload_n d_wi_firstBroken_29 rfl ?_
        refine zr_aload_n d_wi_firstBroken_30 rfl ?_
        refine c_wi_firstBroken_31 rfl rfl (wi_breaksFixed hA hw hn hn2 hR hR2 hf9 hf6 hF) ?_
        refine zi_if_eq 39 d_wi_firstBroken_34 (by decide) (by split <;> exact ⟨by decide, by decide⟩) (fun h34 => ?_) (fun h34 => ?_)
        · refine zr_aload_n d_wi_firstBroken_39 rfl ?_
          refine zr_aload_n d_wi_firstBroken_40 rfl ?_
          refine c_wi_firstBroken_41 rfl rfl (wi_breaksCapA hA hw hn hn2 hR hR2) ?_
          refine zi_if_eq 51 d_wi_firstBroken_44 (by decide) (by split <;> exact ⟨by decide, by decide⟩) (fun h44 => ?_) (fun h44 => ?_)
          · refine zi_iconst d_wi_firstBroken_51 ?_
            exact zk_iret rfl d_wi_firstBroken_52 (Nat.zero_le _) (Nat.zero_le _) (by unfold brokF; grind) rfl
          · refine zi_iconst d_wi_firstBroken_47 ?_
            refine zr_goto 52 d_wi_firstBroken_48 (by decide) ?_
            exact zk_iret rfl d_wi_firstBroken_52 (Nat.zero_le _) (Nat.zero_le _) (by unfold brokF; grind) rfl
        · refine zi_iconst d_wi_firstBroken_37 ?_
          exact zk_iret rfl d_wi_firstBroken_38 (Nat.zero_le _) (Nat.zero_le _) (by unfold brokF; grind) rfl
      · refine zi_iconst d_wi_firstBroken_27 ?_
        exact zk_iret rfl d_wi_firstBroken_28 (Nat.zero_le _) (Nat.zero_le _) (by unfold brokF; grind) rfl
    · refine zi_iconst d_wi_firstBroken_17 ?_
      exact zk_iret rfl d_wi_firstBroken_18 (Nat.zero_le _) (Nat.zero_le _) (by unfold brokF; grind) rfl
  · refine zi_iconst d_wi_firstBroken_7 ?_
    exact zk_iret rfl d_wi_firstBroken_8 (Nat.zero_le _) (Nat.zero_le _) (by unfold brokF; grind) rfl
def byeP (τ : tS) (r t : Int) (i : Nat) : Bool := decide (τ 11 i = r ∧ (τ 9 i = t ∨ τ 10 i = t))
def fixA (τ : tS) (r h a : Int) (i : Nat) : Bool := decide (if τ 11 i = r then ((τ 9 i = h ∨ τ 10 i = h) ∨ (τ 9 i = a ∨ τ 10 i = a)) ∧ (¬ τ 9 i = h ∨ ¬ τ 10 i = a) else (τ 9 i = h ∨ τ 10 i = h) ∧ (τ 9 i = a ∨ τ 10 i = a))
def grdP (τ : tS) (r h : Int) (i : Nat) : Bool := decide ((τ 7 i = h ∧ τ 15 (r * 8 + τ 8 i).toNat = 1) ∨ (τ 8 i = h ∧ τ 15 (r * 8 + τ 7 i).toNat = 1))
theorem wi_allowBye {l : Launch} {d : Nat} {τ : tS} {f : Nat} (hA : AllIn τ) (hf9 : τ 4 9 = (f : Int)) (hf6 : f ≤ 6) {r t : Int} (hr : zin r) (ht : zin t) : zF l (d + 2) M_wi_allowBye [.ref 4, vi r, vi t] τ (some (vi (if anyN (byeP τ r t) (f) then 0 else 1))) τ := by
  refine zMet_of (ls := [.ref 4, vi r, vi t, .null]) pn_wi rfl (by simp [vi, Value.category]) rfl rfl ?_
  refine zi_iconst d_wi_allowBye_0 ?_
  refine zi_istore_n d_wi_allowBye_1 (by decide) rfl ?_
  have key := zfirst (P := fun (i : Nat) => zV l (d + 2) M_wi_allowBye 2 [.ref 4, vi r, vi t, vi (i : Int)] [] τ (0, 0) (.inl (some (vi (if anyN (byeP τ r t) (f) then 0 else 1))), (SH, zq τ), 0, 0)) (fun i => byeP τ r t i = true) (f) ?_ ?_ ?_
  · exact zE4 key (by refine ⟨?_, ?_, ?_, ?_, trivial⟩ <;> first | exact Or.inl rfl | exact Or.inr rfl) rfl
  · intro i hi hp hct hk
    simp only [byeP, decide_eq_true_eq] at hct
    refine zi_iload_n d_wi_allowBye_2 rfl ?_
    refine zr_aload_n d_wi_allowBye_3 rfl ?_
    refine zi_getiE (j := 9) (x := (f : Int)) d_wi_allowBye_4 zC6 fl_wi_46 (by decide) rfl rfl (hf9) ?_
    refine zi_icmp_ge 37 d_wi_allowBye_7 (by decide) (by first | assumption | exact ⟨by omega, by omega⟩) (by first | assumption | exact ⟨by omega, by omega⟩) (fun h7 => ?_) (fun h7 => ?_)
    · exact absurd h7 (by omega)
    · refine zr_aload_n d_wi_allowBye_10 rfl ?_
      refine zi_getr (j := 8) d_wi_allowBye_11 zC6 fl_wi_30 (by decide) rfl rfl ?_
      refine zi_iload_n d_wi_allowBye_14 rfl ?_
      refine zi_ialdE (x := τ 11 i) d_wi_allowBye_15 rfl (by decide) (by omega) (by omega) (by rw [Int.toNat_natCast]) ?_
      refine zi_iload_n d_wi_allowBye_16 rfl ?_
      refine zi_icmp_ne 31 d_wi_allowBye_17 (by decide) (hA _ _) (by first | assumption | exact ⟨by omega, by omega⟩) (fun h17 => ?_) (fun h17 => ?_)
      · refine zi_iinc d_wi_allowBye_31 (by decide) rfl rfl ?_
        refine zr_goto 2 d_wi_allowBye_34 (by decide) ?_
        exact zE4 hk (by refine ⟨?_, ?_, ?_, ?_, trivial⟩ <;> first | exact Or.inl rfl | exact Or.inr rfl) rfl
      · refine zr_aload_n d_wi_allowBye_20 rfl ?_
        refine zi_iload_n d_wi_allowBye_21 rfl ?_
        refine zi_iload_n d_wi_allowBye_22 rfl ?_
        refine c_wi_allowBye_23 rfl rfl (wi_isOfFixed hA ⟨by omega, by omega⟩ ht) ?_
        show zV _ _ _ _ _ (vi _ :: _) _ _ _
        rw [Int.toNat_natCast]
        refine zi_if_eq 31 d_wi_allowBye_26 (by decide) (by split <;> exact ⟨by decide, by decide⟩) (fun h26 => ?_) (fun h26 => ?_)
        · refine zi_iinc d_wi_allowBye_31 (by decide) rfl rfl ?_
          refine zr_goto 2 d_wi_allowBye_34 (by decide) ?_
          exact zE4 hk (by refine ⟨?_, ?_, ?_, ?_, trivial⟩ <;> first | exact Or.inl rfl | exact Or.inr rfl) rfl
        · exfalso
          grind
  · intro i hi hp hct
    have hany : anyN (byeP τ r t) (f) = true := (anyN_iff _ _).mpr ⟨i, hi, hct⟩
    simp only [byeP, decide_eq_true_eq] at hct
    refine zi_iload_n d_wi_allowBye_2 rfl ?_
    refine zr_aload_n d_wi_allowBye_3 rfl ?_
    refine zi_getiE (j := 9) (x := (f : Int)) d_wi_allowBye_4 zC6 fl_wi_46 (by decide) rfl rfl (hf9) ?_
    refine zi_icmp_ge 37 d_wi_allowBye_7 (by decide) (by first | assumption | exact ⟨by omega, by omega⟩) (by first | assumption | exact ⟨by omega, by omega⟩) (fun h7 => ?_) (fun h7 => ?_)
    · exact absurd h7 (by omega)
    · refine zr_aload_n d_wi_allowBye_10 rfl ?_
      refine zi_getr (j := 8) d_wi_allowBye_11 zC6 fl_wi_30 (by decide) rfl rfl ?_
      refine zi_iload_n d_wi_allowBye_14 rfl ?_
      refine zi_ialdE (x := τ 11 i) d_wi_allowBye_15 rfl (by decide) (by omega) (by omega) (by rw [Int.toNat_natCast]) ?_
      refine zi_iload_n d_wi_allowBye_16 rfl ?_
      refine zi_icmp_ne 31 d_wi_allowBye_17 (by decide) (hA _ _) (by first | assumption | exact ⟨by omega, by omega⟩) (fun h17 => ?_) (fun h17 => ?_)
      · refine zi_iinc d_wi_allowBye_31 (by decide) rfl rfl ?_
        refine zr_goto 2 d_wi_allowBye_34 (by decide) ?_
        exfalso
        grind
      · refine zr_aload_n d_wi_allowBye_20 rfl ?_
        refine zi_iload_n d_wi_allowBye_21 rfl ?_
        refine zi_iload_n d_wi_allowBye_22 rfl ?_
        refine c_wi_allowBye_23 rfl rfl (wi_isOfFixed hA ⟨by omega, by omega⟩ ht) ?_
        show zV _ _ _ _ _ (vi _ :: _) _ _ _
        rw [Int.toNat_natCast]
        refine zi_if_eq 31 d_wi_allowBye_26 (by decide) (by split <;> exact ⟨by decide, by decide⟩) (fun h26 => ?_) (fun h26 => ?_)
        · refine zi_iinc d_wi_allowBye_31 (by decide) rfl rfl ?_
          refine zr_goto 2 d_wi_allowBye_34 (by decide) ?_
          exfalso
          grind
        · refine zi_iconst d_wi_allowBye_29 ?_
          exact zk_zret rfl d_wi_allowBye_30 (Nat.zero_le _) (Nat.zero_le _) (by omega) (by rw [if_pos hany]) rfl
  · intro hno
    refine zi_iload_n d_wi_allowBye_2 rfl ?_
    refine zr_aload_n d_wi_allowBye_3 rfl ?_
    refine zi_getiE (j := 9) (x := (f : Int)) d_wi_allowBye_4 zC6 fl_wi_46 (by decide) rfl rfl (hf9) ?_
    refine zi_icmp_ge 37 d_wi_allowBye_7 (by decide) (by first | assumption | exact ⟨by omega, by omega⟩) (by first | assumption | exact ⟨by omega, by omega⟩) (fun h7 => ?_) (fun h7 => ?_)
    · refine zi_iconst d_wi_allowBye_37 ?_
      exact zk_zret rfl d_wi_allowBye_38 (Nat.zero_le _) (Nat.zero_le _) (by omega) (by rw [if_neg (fun g => by obtain ⟨i, g1, g2⟩ := (anyN_iff _ _).mp g; exact hno i g1 g2)]) rfl
    · exact absurd h7 (by omega)
theorem wi_fixedAllowGame {l : Launch} {d : Nat} {τ : tS} {f : Nat} (hA : AllIn τ) (hf9 : τ 4 9 = (f : Int)) (hf6 : f ≤ 6) {r h a : Int} (hr : zin r) (hh : zin h) (ha : zin a) : zF l (d + 2) M_wi_fixedAllowGame [.ref 4, vi r, vi h, vi a] τ (some (vi (if anyN (fixA τ r h a) (f) then 0 else 1))) τ := by
  refine zMet_of (ls := [.ref 4, vi r, vi h, vi a, .null, .null, .null]) pn_wi rfl (by simp [vi, Value.category]) rfl rfl ?_
  refine zi_iconst d_wi_fixedAllowGame_0 ?_
  refine zi_istore d_wi_fixedAllowGame_1 (by decide) rfl ?_
  have key := zfirst (P := fun (i : Nat) => zV l (d + 2) M_wi_fixedAllowGame 3 [.ref 4, vi r, vi h, vi a, vi (i : Int), .null, .null] [] τ (0, 0) (.inl (some (vi (if anyN (fixA τ r h a) (f) then 0 else 1))), (SH, zq τ), 0, 0)) (fun i => fixA τ r h a i = true) (f) ?_ ?_ ?_
  · exact zE4 key (by refine ⟨?_, ?_, ?_, ?_, ?_, ?_, ?_, trivial⟩ <;> first | exact Or.inl rfl | exact Or.inr rfl) rfl
  · intro i hi hp hct hk
    simp only [fixA, decide_eq_true_eq] at hct
    refine zi_iload d_wi_fixedAllowGame_3 rfl ?_
    refine zr_aload_n d_wi_fixedAllowGame_5 rfl ?_
    refine zi_getiE (j := 9) (x := (f : Int)) d_wi_fixedAllowGame_6 zC6 fl_wi_46 (by decide) rfl rfl (hf9) ?_
    refine zi_icmp_ge 93 d_wi_fixedAllowGame_9 (by decide) (by first | assumption | exact ⟨by omega, by omega⟩) (by first | assumption | exact ⟨by omega, by omega⟩) (fun h9 => ?_) (fun h9 => ?_)
    · exact absurd h9 (by omega)
    · refine zr_aload_n d_wi_fixedAllowGame_12 rfl ?_
      refine zi_iload d_wi_fixedAllowGame_13 rfl ?_
      refine zi_iload_n d_wi_fixedAllowGame_15 rfl ?_
      refine c_wi_fixedAllowGame_16 rfl rfl (wi_isOfFixed hA ⟨by omega, by omega⟩ hh) ?_
      show zV _ _ _ _ _ (vi _ :: _) _ _ _
      rw [Int.toNat_natCast]
      refine zi_istore d_wi_fixedAllowGame_19 (by decide) rfl ?_
      refine zr_aload_n d_wi_fixedAllowGame_21 rfl ?_
      refine zi_iload d_wi_fixedAllowGame_22 rfl ?_
      refine zi_iload_n d_wi_fixedAllowGame_24 rfl ?_
      refine c_wi_fixedAllowGame_25 rfl rfl (wi_isOfFixed hA ⟨by omega, by omega⟩ ha) ?_
      show zV _ _ _ _ _ (vi _ :: _) _ _ _
      rw [Int.toNat_natCast]
      refine zi_istore d_wi_fixedAllowGame_28 (by decide) rfl ?_
      refine zr_aload_n d_wi_fixedAllowGame_30 rfl ?_
      refine zi_getr (j := 8) d_wi_fixedAllowGame_31 zC6 fl_wi_30 (by decide) rfl rfl ?_
      refine zi_iload d_wi_fixedAllowGame_34 rfl ?_
      refine zi_ialdE (x := τ 11 i) d_wi_fixedAllowGame_36 rfl (by decide) (by omega) (by omega) (by rw [Int.toNat_natCast]) ?_
      refine zi_iload_n d_wi_fixedAllowGame_37 rfl ?_
      refine zi_icmp_eq 53 d_wi_fixedAllowGame_38 (by decide) (hA _ _) (by first | assumption | exact ⟨by omega, by omega⟩) (fun h38 => ?_) (fun h38 => ?_)
      · refine zi_iload d_wi_fixedAllowGame_53 rfl ?_
        refine zi_if_ne 63 d_wi_fixedAllowGame_55 (by decide) (by split <;> exact ⟨by decide, by decide⟩) (fun h55 => ?_) (fun h55 => ?_)
        · refine zr_aload_n d_wi_fixedAllowGame_63 rfl ?_
          refine zi_getr (j := 6) d_wi_fixedAllowGame_64 zC6 fl_wi_24 (by decide) rfl rfl ?_
          refine zi_iload d_wi_fixedAllowGame_67 rfl ?_
          refine zi_ialdE (x := τ 9 i) d_wi_fixedAllowGame_69 rfl (by decide) (by omega) (by omega) (by rw [Int.toNat_natCast]) ?_
          refine zi_iload_n d_wi_fixedAllowGame_70 rfl ?_
          refine zi_icmp_ne 85 d_wi_fixedAllowGame_71 (by decide) (hA _ _) (by first | assumption | exact ⟨by omega, by omega⟩) (fun h71 => ?_) (fun h71 => ?_)
          · exfalso
            grind
          · refine zr_aload_n d_wi_fixedAllowGame_74 rfl ?_
            refine zi_getr (j := 7) d_wi_fixedAllowGame_75 zC6 fl_wi_27 (by decide) rfl rfl ?_
            refine zi_iload d_wi_fixedAllowGame_78 rfl ?_
            refine zi_ialdE (x := τ 10 i) d_wi_fixedAllowGame_80 rfl (by decide) (by omega) (by omega) (by rw [Int.toNat_natCast]) ?_
            refine zi_iload_n d_wi_fixedAllowGame_81 rfl ?_
            refine zi_icmp_eq 87 d_wi_fixedAllowGame_82 (by decide) (hA _ _) (by first | assumption | exact ⟨by omega, by omega⟩) (fun h82 => ?_) (fun h82 => ?_)
            · refine zi_iinc d_wi_fixedAllowGame_87 (by decide) rfl rfl ?_
              refine zr_goto 3 d_wi_fixedAllowGame_90 (by decide) ?_
              exact zE4 hk (by refine ⟨?_, ?_, ?_, ?_, ?_, ?_, ?_, trivial⟩ <;> first | exact Or.inl rfl | exact Or.inr rfl) rfl
            · exfalso
              grind
        · refine zi_iload d_wi_fixedAllowGame_58 rfl ?_
          refine zi_if_eq 87 d_wi_fixedAllowGame_60 (by decide) (by split <;> exact ⟨by decide, by decide⟩) (fun h60 => ?_) (fun h60 => ?_)
          · refine zi_iinc d_wi_fixedAllowGame_87 (by decide) rfl rfl ?_
            refine zr_goto 3 d_wi_fixedAllowGame_90 (by decide) ?_
            exact zE4 hk (by refine ⟨?_, ?_, ?_, ?_, ?_, ?_, ?_, trivial⟩ <;> first | exact Or.inl rfl | exact Or.inr rfl) rfl
          · refine zr_aload_n d_wi_fixedAllowGame_63 rfl ?_
            refine zi_getr (j := 6) d_wi_fixedAllowGame_64 zC6 fl_wi_24 (by decide) rfl rfl ?_
            refine zi_iload d_wi_fixedAllowGame_67 rfl ?_
            refine zi_ialdE (x := τ 9 i) d_wi_fixedAllowGame_69 rfl (by decide) (by omega) (by omega) (by rw [Int.toNat_natCast]) ?_
            refine zi_iload_n d_wi_fixedAllowGame_70 rfl ?_
            refine zi_icmp_ne 85 d_wi_fixedAllowGame_71 (by decide) (hA _ _) (by first | assumption | exact ⟨by omega, by omega⟩) (fun h71 => ?_) (fun h71 => ?_)
            · exfalso
              grind
            · refine zr_aload_n d_wi_fixedAllowGame_74 rfl ?_
              refine zi_getr (j := 7) d_wi_fixedAllowGame_75 zC6 fl_wi_27 (by decide) rfl rfl ?_
              refine zi_iload d_wi_fixedAllowGame_78 rfl ?_
              refine zi_ialdE (x := τ 10 i) d_wi_fixedAllowGame_80 rfl (by decide) (by omega) (by omega) (by rw [Int.toNat_natCast]) ?_
              refine zi_iload_n d_wi_fixedAllowGame_81 rfl ?_
              refine zi_icmp_eq 87 d_wi_fixedAllowGame_82 (by decide) (hA _ _) (by first | assumption | exact ⟨by omega, by omega⟩) (fun h82 => ?_) (fun h82 => ?_)
              · refine zi_iinc d_wi_fixedAllowGame_87 (by decide) rfl rfl ?_
                refine zr_goto 3 d_wi_fixedAllowGame_90 (by decide) ?_
                exact zE4 hk (by refine ⟨?_, ?_, ?_, ?_, ?_, ?_, ?_, trivial⟩ <;> first | exact Or.inl rfl | exact Or.inr rfl) rfl
              · exfalso
                grind
      · refine zi_iload d_wi_fixedAllowGame_41 rfl ?_
        refine zi_if_eq 87 d_wi_fixedAllowGame_43 (by decide) (by split <;> exact ⟨by decide, by decide⟩) (fun h43 => ?_) (fun h43 => ?_)
        · refine zi_iinc d_wi_fixedAllowGame_87 (by decide) rfl rfl ?_
          refine zr_goto 3 d_wi_fixedAllowGame_90 (by decide) ?_
          exact zE4 hk (by refine ⟨?_, ?_, ?_, ?_, ?_, ?_, ?_, trivial⟩ <;> first | exact Or.inl rfl | exact Or.inr rfl) rfl
        · refine zi_iload d_wi_fixedAllowGame_46 rfl ?_
          refine zi_if_eq 87 d_wi_fixedAllowGame_48 (by decide) (by split <;> exact ⟨by decide, by decide⟩) (fun h48 => ?_) (fun h48 => ?_)
          · refine zi_iinc d_wi_fixedAllowGame_87 (by decide) rfl rfl ?_
            refine zr_goto 3 d_wi_fixedAllowGame_90 (by decide) ?_
            exact zE4 hk (by refine ⟨?_, ?_, ?_, ?_, ?_, ?_, ?_, trivial⟩ <;> first | exact Or.inl rfl | exact Or.inr rfl) rfl
          · exfalso
            grind
  · intro i hi hp hct
    have hany : anyN (fixA τ r h a) (f) = true := (anyN_iff _ _).mpr ⟨i, hi, hct⟩
    simp only [fixA, decide_eq_true_eq] at hct
    refine zi_iload d_wi_fixedAllowGame_3 rfl ?_
    refine zr_aload_n d_wi_fixedAllowGame_5 rfl ?_
    refine zi_getiE (j := 9) (x := (f : Int)) d_wi_fixedAllowGame_6 zC6 fl_wi_46 (by decide) rfl rfl (hf9) ?_
    refine zi_icmp_ge 93 d_wi_fixedAllowGame_9 (by decide) (by first | assumption | exact ⟨by omega, by omega⟩) (by first | assumption | exact ⟨by omega, by omega⟩) (fun h9 => ?_) (fun h9 => ?_)
    · exact absurd h9 (by omega)
    · refine zr_aload_n d_wi_fixedAllowGame_12 rfl ?_
      refine zi_iload d_wi_fixedAllowGame_13 rfl ?_
      refine zi_iload_n d_wi_fixedAllowGame_15 rfl ?_
      refine c_wi_fixedAllowGame_16 rfl rfl (wi_isOfFixed hA ⟨by omega, by omega⟩ hh) ?_
      show zV _ _ _ _ _ (vi _ :: _) _ _ _
      rw [Int.toNat_natCast]
      refine zi_istore d_wi_fixedAllowGame_19 (by decide) rfl ?_
      refine zr_aload_n d_wi_fixedAllowGame_21 rfl ?_
      refine zi_iload d_wi_fixedAllowGame_22 rfl ?_
      refine zi_iload_n d_wi_fixedAllowGame_24 rfl ?_
      refine c_wi_fixedAllowGame_25 rfl rfl (wi_isOfFixed hA ⟨by omega, by omega⟩ ha) ?_
      show zV _ _ _ _ _ (vi _ :: _) _ _ _
      rw [Int.toNat_natCast]
      refine zi_istore d_wi_fixedAllowGame_28 (by decide) rfl ?_
      refine zr_aload_n d_wi_fixedAllowGame_30 rfl ?_
      refine zi_getr (j := 8) d_wi_fixedAllowGame_31 zC6 fl_wi_30 (by decide) rfl rfl ?_
      refine zi_iload d_wi_fixedAllowGame_34 rfl ?_
      refine zi_ialdE (x := τ 11 i) d_wi_fixedAllowGame_36 rfl (by decide) (by omega) (by omega) (by rw [Int.toNat_natCast]) ?_
      refine zi_iload_n d_wi_fixedAllowGame_37 rfl ?_
      refine zi_icmp_eq 53 d_wi_fixedAllowGame_38 (by decide) (hA _ _) (by first | assumption | exact ⟨by omega, by omega⟩) (fun h38 => ?_) (fun h38 => ?_)
      · refine zi_iload d_wi_fixedAllowGame_53 rfl ?_
        refine zi_if_ne 63 d_wi_fixedAllowGame_55 (by decide) (by split <;> exact ⟨by decide, by decide⟩) (fun h55 => ?_) (fun h55 => ?_)
        · refine zr_aload_n d_wi_fixedAllowGame_63 rfl ?_
          refine zi_getr (j := 6) d_wi_fixedAllowGame_64 zC6 fl_wi_24 (by decide) rfl rfl ?_
          refine zi_iload d_wi_fixedAllowGame_67 rfl ?_
          refine zi_ialdE (x := τ 9 i) d_wi_fixedAllowGame_69 rfl (by decide) (by omega) (by omega) (by rw [Int.toNat_natCast]) ?_
          refine zi_iload_n d_wi_fixedAllowGame_70 rfl ?_
          refine zi_icmp_ne 85 d_wi_fixedAllowGame_71 (by decide) (hA _ _) (by first | assumption | exact ⟨by omega, by omega⟩) (fun h71 => ?_) (fun h71 => ?_)
          · refine zi_iconst d_wi_fixedAllowGame_85 ?_
            exact zk_zret rfl d_wi_fixedAllowGame_86 (Nat.zero_le _) (Nat.zero_le _) (by omega) (by rw [if_pos hany]) rfl
          · refine zr_aload_n d_wi_fixedAllowGame_74 rfl ?_
            refine zi_getr (j := 7) d_wi_fixedAllowGame_75 zC6 fl_wi_27 (by decide) rfl rfl ?_
            refine zi_iload d_wi_fixedAllowGame_78 rfl ?_
            refine zi_ialdE (x := τ 10 i) d_wi_fixedAllowGame_80 rfl (by decide) (by omega) (by omega) (by rw [Int.toNat_natCast]) ?_
            refine zi_iload_n d_wi_fixedAllowGame_81 rfl ?_
            refine zi_icmp_eq 87 d_wi_fixedAllowGame_82 (by decide) (hA _ _) (by first | assumption | exact ⟨by omega, by omega⟩) (fun h82 => ?_) (fun h82 => ?_)
            · refine zi_iinc d_wi_fixedAllowGame_87 (by decide) rfl rfl ?_
              refine zr_goto 3 d_wi_fixedAllowGame_90 (by decide) ?_
              exfalso
              grind
            · refine zi_iconst d_wi_fixedAllowGame_85 ?_
              exact zk_zret rfl d_wi_fixedAllowGame_86 (Nat.zero_le _) (Nat.zero_le _) (by omega) (by rw [if_pos hany]) rfl
        · refine zi_iload d_wi_fixedAllowGame_58 rfl ?_
          refine zi_if_eq 87 d_wi_fixedAllowGame_60 (by decide) (by split <;> exact ⟨by decide, by decide⟩) (fun h60 => ?_) (fun h60 => ?_)
          · refine zi_iinc d_wi_fixedAllowGame_87 (by decide) rfl rfl ?_
            refine zr_goto 3 d_wi_fixedAllowGame_90 (by decide) ?_
            exfalso
            grind
          · refine zr_aload_n d_wi_fixedAllowGame_63 rfl ?_
            refine zi_getr (j := 6) d_wi_fixedAllowGame_64 zC6 fl_wi_24 (by decide) rfl rfl ?_
            refine zi_iload d_wi_fixedAllowGame_67 rfl ?_
            refine zi_ialdE (x := τ 9 i) d_wi_fixedAllowGame_69 rfl (by decide) (by omega) (by omega) (by rw [Int.toNat_natCast]) ?_
            refine zi_iload_n d_wi_fixedAllowGame_70 rfl ?_
            refine zi_icmp_ne 85 d_wi_fixedAllowGame_71 (by decide) (hA _ _) (by first | assumption | exact ⟨by omega, by omega⟩) (fun h71 => ?_) (fun h71 => ?_)
            · refine zi_iconst d_wi_fixedAllowGame_85 ?_
              exact zk_zret rfl d_wi_fixedAllowGame_86 (Nat.zero_le _) (Nat.zero_le _) (by omega) (by rw [if_pos hany]) rfl
            · refine zr_aload_n d_wi_fixedAllowGame_74 rfl ?_
              refine zi_getr (j := 7) d_wi_fixedAllowGame_75 zC6 fl_wi_27 (by decide) rfl rfl ?_
              refine zi_iload d_wi_fixedAllowGame_78 rfl ?_
              refine zi_ialdE (x := τ 10 i) d_wi_fixedAllowGame_80 rfl (by decide) (by omega) (by omega) (by rw [Int.toNat_natCast]) ?_
              refine zi_iload_n d_wi_fixedAllowGame_81 rfl ?_
              refine zi_icmp_eq 87 d_wi_fixedAllowGame_82 (by decide) (hA _ _) (by first | assumption | exact ⟨by omega, by omega⟩) (fun h82 => ?_) (fun h82 => ?_)
              · refine zi_iinc d_wi_fixedAllowGame_87 (by decide) rfl rfl ?_
                refine zr_goto 3 d_wi_fixedAllowGame_90 (by decide) ?_
                exfalso
                grind
              · refine zi_iconst d_wi_fixedAllowGame_85 ?_
                exact zk_zret rfl d_wi_fixedAllowGame_86 (Nat.zero_le _) (Nat.zero_le _) (by omega) (by rw [if_pos hany]) rfl
      · refine zi_iload d_wi_fixedAllowGame_41 rfl ?_
        refine zi_if_eq 87 d_wi_fixedAllowGame_43 (by decide) (by split <;> exact ⟨by decide, by decide⟩) (fun h43 => ?_) (fun h43 => ?_)
        · refine zi_iinc d_wi_fixedAllowGame_87 (by decide) rfl rfl ?_
          refine zr_goto 3 d_wi_fixedAllowGame_90 (by decide) ?_
          exfalso
          grind
        · refine zi_iload d_wi_fixedAllowGame_46 rfl ?_
          refine zi_if_eq 87 d_wi_fixedAllowGame_48 (by decide) (by split <;> exact ⟨by decide, by decide⟩) (fun h48 => ?_) (fun h48 => ?_)
          · refine zi_iinc d_wi_fixedAllowGame_87 (by decide) rfl rfl ?_
            refine zr_goto 3 d_wi_fixedAllowGame_90 (by decide) ?_
            exfalso
            grind
          · refine zi_iconst d_wi_fixedAllowGame_51 ?_
            exact zk_zret rfl d_wi_fixedAllowGame_52 (Nat.zero_le _) (Nat.zero_le _) (by omega) (by rw [if_pos hany]) rfl
  · intro hno
    refine zi_iload d_wi_fixedAllowGame_3 rfl ?_
    refine zr_aload_n d_wi_fixedAllowGame_5 rfl ?_
    refine zi_getiE (j := 9) (x := (f : Int)) d_wi_fixedAllowGame_6 zC6 fl_wi_46 (by decide) rfl rfl (hf9) ?_
    refine zi_icmp_ge 93 d_wi_fixedAllowGame_9 (by decide) (by first | assumption | exact ⟨by omega, by omega⟩) (by first | assumption | exact ⟨by omega, by omega⟩) (fun h9 => ?_) (fun h9 => ?_)
    · refine zi_iconst d_wi_fixedAllowGame_93 ?_
      exact zk_zret rfl d_wi_fixedAllowGame_94 (Nat.zero_le _) (Nat.zero_le _) (by omega) (by rw [if_neg (fun g => by obtain ⟨i, g1, g2⟩ := (anyN_iff _ _).mp g; exact hno i g1 g2)]) rfl
    · exact absurd h9 (by omega)
theorem wi_groundIsTaken {l : Launch} {d : Nat} {τ : tS} {p : Nat} (hA : AllIn τ) (hw : τ 13 0 = 8) (hp5 : τ 4 5 = (p : Int)) (hp6 : p ≤ 6) (hP : ∀ i, i < p → (0 ≤ τ 7 i ∧ τ 7 i < 8) ∧ (0 ≤ τ 8 i ∧ τ 8 i < 8)) {r h : Int} (hr : 0 ≤ r ∧ r < 7) (hh : zin h) : zF l (d + 2) M_wi_groundIsTaken [.ref 4, .ref 13, vi r, vi h] τ (some (vi (if anyN (grdP τ r h) (p) then 1 else 0))) τ := by
  refine zMet_of (ls := [.ref 4, .ref 13, vi r, vi h, .null]) pn_wi rfl (by simp [vi, Value.category]) rfl rfl ?_
  refine zi_iconst d_wi_groundIsTaken_0 ?_
  refine zi_istore d_wi_groundIsTaken_1 (by decide) rfl ?_
  have key := zfirst (P := fun (i : Nat) => zV l (d + 2) M_wi_groundIsTaken 3 [.ref 4, .ref 13, vi r, vi h, vi (i : Int)] [] τ (0, 0) (.inl (some (vi (if anyN (grdP τ r h) (p) then 1 else 0))), (SH, zq τ), 0, 0)) (fun i => grdP τ r h i = true) (p) ?_ ?_ ?_
  · exact zE4 key (by refine ⟨?_, ?_, ?_, ?_, ?_, trivial⟩ <;> first | exact Or.inl rfl | exact Or.inr rfl) rfl
  · intro i hi hp hct hk
    simp only [grdP, decide_eq_true_eq] at hct
    refine zi_iload d_wi_groundIsTaken_3 rfl ?_
    refine zr_aload_n d_wi_groundIsTaken_5 rfl ?_
    refine zi_getiE (j := 5) (x := (p : Int)) d_wi_groundIsTaken_6 zC6 fl_wi_43 (by decide) rfl rfl (hp5) ?_
    refine zi_icmp_ge 74 d_wi_groundIsTaken_9 (by decide) (by first | assumption | exact ⟨by omega, by omega⟩) (by first | assumption | exact ⟨by omega, by omega⟩) (fun h9 => ?_) (fun h9 => ?_)
    · exact absurd h9 (by omega)
    · have hPi := hP i (by omega)
      refine zr_aload_n d_wi_groundIsTaken_12 rfl ?_
      refine zi_getr (j := 3) d_wi_groundIsTaken_13 zC6 fl_wi_18 (by decide) rfl rfl ?_
      refine zi_iload d_wi_groundIsTaken_16 rfl ?_
      refine zi_ialdE (x := τ 7 i) d_wi_groundIsTaken_18 rfl (by decide) (by omega) (by omega) (by rw [Int.toNat_natCast]) ?_
      refine zi_iload_n d_wi_groundIsTaken_19 rfl ?_
      refine zi_icmp_ne 39 d_wi_groundIsTaken_20 (by decide) (hA _ _) (by first | assumption | exact ⟨by omega, by omega⟩) (fun h20 => ?_) (fun h20 => ?_)
      · refine zr_aload_n d_wi_groundIsTaken_39 rfl ?_
        refine zi_getr (j := 4) d_wi_groundIsTaken_40 zC6 fl_wi_21 (by decide) rfl rfl ?_
        refine zi_iload d_wi_groundIsTaken_43 rfl ?_
        refine zi_ialdE (x := τ 8 i) d_wi_groundIsTaken_45 rfl (by decide) (by omega) (by omega) (by rw [Int.toNat_natCast]) ?_
        refine zi_iload_n d_wi_groundIsTaken_46 rfl ?_
        refine zi_icmp_ne 68 d_wi_groundIsTaken_47 (by decide) (hA _ _) (by first | assumption | exact ⟨by omega, by omega⟩) (fun h47 => ?_) (fun h47 => ?_)
        · refine zi_iinc d_wi_groundIsTaken_68 (by decide) rfl rfl ?_
          refine zr_goto 3 d_wi_groundIsTaken_71 (by decide) ?_
          exact zE4 hk (by refine ⟨?_, ?_, ?_, ?_, ?_, trivial⟩ <;> first | exact Or.inl rfl | exact Or.inr rfl) rfl
        · refine zr_aload_n d_wi_groundIsTaken_50 rfl ?_
          refine zi_iload_n d_wi_groundIsTaken_51 rfl ?_
          refine zr_aload_n d_wi_groundIsTaken_52 rfl ?_
          refine zi_getr (j := 3) d_wi_groundIsTaken_53 zC6 fl_wi_18 (by decide) rfl rfl ?_
          refine zi_iload d_wi_groundIsTaken_56 rfl ?_
          refine zi_ialdE (x := τ 7 i) d_wi_groundIsTaken_58 rfl (by decide) (by omega) (by omega) (by rw [Int.toNat_natCast]) ?_
          refine c_wi_groundIsTaken_59 rfl rfl (tt13_venueAt hw hr hPi.1) ?_
          refine zi_iconst d_wi_groundIsTaken_62 ?_
          refine zi_icmp_ne 68 d_wi_groundIsTaken_63 (by decide) (hA _ _) (by first | assumption | exact ⟨by omega, by omega⟩) (fun h63 => ?_) (fun h63 => ?_)
          · refine zi_iinc d_wi_groundIsTaken_68 (by decide) rfl rfl ?_
            refine zr_goto 3 d_wi_groundIsTaken_71 (by decide) ?_
            exact zE4 hk (by refine ⟨?_, ?_, ?_, ?_, ?_, trivial⟩ <;> first | exact Or.inl rfl | exact Or.inr rfl) rfl
          · exfalso
            grind
      · refine zr_aload_n d_wi_groundIsTaken_23 rfl ?_
        refine zi_iload_n d_wi_groundIsTaken_24 rfl ?_
        refine zr_aload_n d_wi_groundIsTaken_25 rfl ?_
        refine zi_getr (j := 4) d_wi_groundIsTaken_26 zC6 fl_wi_21 (by decide) rfl rfl ?_
        refine zi_iload d_wi_groundIsTaken_29 rfl ?_
        refine zi_ialdE (x := τ 8 i) d_wi_groundIsTaken_31 rfl (by decide) (by omega) (by omega) (by rw [Int.toNat_natCast]) ?_
        refine c_wi_groundIsTaken_32 rfl rfl (tt13_venueAt hw hr hPi.2) ?_
        refine zi_iconst d_wi_groundIsTaken_35 ?_
        refine zi_icmp_eq 66 d_wi_groundIsTaken_36 (by decide) (hA _ _) (by first | assumption | exact ⟨by omega, by omega⟩) (fun h36 => ?_) (fun h36 => ?_)
        · exfalso
          grind
        · refine zr_aload_n d_wi_groundIsTaken_39 rfl ?_
          refine zi_getr (j := 4) d_wi_groundIsTaken_40 zC6 fl_wi_21 (by decide) rfl rfl ?_
          refine zi_iload d_wi_groundIsTaken_43 rfl ?_
          refine zi_ialdE (x := τ 8 i) d_wi_groundIsTaken_45 rfl (by decide) (by omega) (by omega) (by rw [Int.toNat_natCast]) ?_
          refine zi_iload_n d_wi_groundIsTaken_46 rfl ?_
          refine zi_icmp_ne 68 d_wi_groundIsTaken_47 (by decide) (hA _ _) (by first | assumption | exact ⟨by omega, by omega⟩) (fun h47 => ?_) (fun h47 => ?_)
          · refine zi_iinc d_wi_groundIsTaken_68 (by decide) rfl rfl ?_
            refine zr_goto 3 d_wi_groundIsTaken_71 (by decide) ?_
            exact zE4 hk (by refine ⟨?_, ?_, ?_, ?_, ?_, trivial⟩ <;> first | exact Or.inl rfl | exact Or.inr rfl) rfl
          · refine zr_aload_n d_wi_groundIsTaken_50 rfl ?_
            refine zi_iload_n d_wi_groundIsTaken_51 rfl ?_
            refine zr_aload_n d_wi_groundIsTaken_52 rfl ?_
            refine zi_getr (j := 3) d_wi_groundIsTaken_53 zC6 fl_wi_18 (by decide) rfl rfl ?_
            refine zi_iload d_wi_groundIsTaken_56 rfl ?_
            refine zi_ialdE (x := τ 7 i) d_wi_groundIsTaken_58 rfl (by decide) (by omega) (by omega) (by rw [Int.toNat_natCast]) ?_
            refine c_wi_groundIsTaken_59 rfl rfl (tt13_venueAt hw hr hPi.1) ?_
            refine zi_iconst d_wi_groundIsTaken_62 ?_
            refine zi_icmp_ne 68 d_wi_groundIsTaken_63 (by decide) (hA _ _) (by first | assumption | exact ⟨by omega, by omega⟩) (fun h63 => ?_) (fun h63 => ?_)
            · refine zi_iinc d_wi_groundIsTaken_68 (by decide) rfl rfl ?_
              refine zr_goto 3 d_wi_groundIsTaken_71 (by decide) ?_
              exact zE4 hk (by refine ⟨?_, ?_, ?_, ?_, ?_, trivial⟩ <;> first | exact Or.inl rfl | exact Or.inr rfl) rfl
            · exfalso
              grind
  · intro i hi hp hct
    have hany : anyN (grdP τ r h) (p) = true := (anyN_iff _ _).mpr ⟨i, hi, hct⟩
    simp only [grdP, decide_eq_true_eq] at hct
    refine zi_iload d_wi_groundIsTaken_3 rfl ?_
    refine zr_aload_n d_wi_groundIsTaken_5 rfl ?_
    refine zi_getiE (j := 5) (x := (p : Int)) d_wi_groundIsTaken_6 zC6 fl_wi_43 (by decide) rfl rfl (hp5) ?_
    refine zi_icmp_ge 74 d_wi_groundIsTaken_9 (by decide) (by first | assumption | exact ⟨by omega, by omega⟩) (by first | assumption | exact ⟨by omega, by omega⟩) (fun h9 => ?_) (fun h9 => ?_)
    · exact absurd h9 (by omega)
    · have hPi := hP i (by omega)
      refine zr_aload_n d_wi_groundIsTaken_12 rfl ?_
      refine zi_getr (j := 3) d_wi_groundIsTaken_13 zC6 fl_wi_18 (by decide) rfl rfl ?_
      refine zi_iload d_wi_groundIsTaken_16 rfl ?_
      refine zi_ialdE (x := τ 7 i) d_wi_groundIsTaken_18 rfl (by decide) (by omega) (by omega) (by rw [Int.toNat_natCast]) ?_
      refine zi_iload_n d_wi_groundIsTaken_19 rfl ?_
      refine zi_icmp_ne 39 d_wi_groundIsTaken_20 (by decide) (hA _ _) (by first | assumption | exact ⟨by omega, by omega⟩) (fun h20 => ?_) (fun h20 => ?_)
      · refine zr_aload_n d_wi_groundIsTaken_39 rfl ?_
        refine zi_getr (j := 4) d_wi_groundIsTaken_40 zC6 fl_wi_21 (by decide) rfl rfl ?_
        refine zi_iload d_wi_groundIsTaken_43 rfl ?_
        refine zi_ialdE (x := τ 8 i) d_wi_groundIsTaken_45 rfl (by decide) (by omega) (by omega) (by rw [Int.toNat_natCast]) ?_
        refine zi_iload_n d_wi_groundIsTaken_46 rfl ?_
        refine zi_icmp_ne 68 d_wi_groundIsTaken_47 (by decide) (hA _ _) (by first | assumption | exact ⟨by omega, by omega⟩) (fun h47 => ?_) (fun h47 => ?_)
        · refine zi_iinc d_wi_groundIsTaken_68 (by decide) rfl rfl ?_
          refine zr_goto 3 d_wi_groundIsTaken_71 (by decide) ?_
          exfalso
          grind
        · refine zr_aload_n d_wi_groundIsTaken_50 rfl ?_
          refine zi_iload_n d_wi_groundIsTaken_51 rfl ?_
          refine zr_aload_n d_wi_groundIsTaken_52 rfl ?_
          refine zi_getr (j := 3) d_wi_groundIsTaken_53 zC6 fl_wi_18 (by decide) rfl rfl ?_
          refine zi_iload d_wi_groundIsTaken_56 rfl ?_
          refine zi_ialdE (x := τ 7 i) d_wi_groundIsTaken_58 rfl (by decide) (by omega) (by omega) (by rw [Int.toNat_natCast]) ?_
          refine c_wi_groundIsTaken_59 rfl rfl (tt13_venueAt hw hr hPi.1) ?_
          refine zi_iconst d_wi_groundIsTaken_62 ?_
          refine zi_icmp_ne 68 d_wi_groundIsTaken_63 (by decide) (hA _ _) (by first | assumption | exact ⟨by omega, by omega⟩) (fun h63 => ?_) (fun h63 => ?_)
          · refine zi_iinc d_wi_groundIsTaken_68 (by decide) rfl rfl ?_
            refine zr_goto 3 d_wi_groundIsTaken_71 (by decide) ?_
            exfalso
            grind
          · refine zi_iconst d_wi_groundIsTaken_66 ?_
            exact zk_zret rfl d_wi_groundIsTaken_67 (Nat.zero_le _) (Nat.zero_le _) (by omega) (by rw [if_pos hany]) rfl
      · refine zr_aload_n d_wi_groundIsTaken_23 rfl ?_
        refine zi_iload_n d_wi_groundIsTaken_24 rfl ?_
        refine zr_aload_n d_wi_groundIsTaken_25 rfl ?_
        refine zi_getr (j := 4) d_wi_groundIsTaken_26 zC6 fl_wi_21 (by decide) rfl rfl ?_
        refine zi_iload d_wi_groundIsTaken_29 rfl ?_
        refine zi_ialdE (x := τ 8 i) d_wi_groundIsTaken_31 rfl (by decide) (by omega) (by omega) (by rw [Int.toNat_natCast]) ?_
        refine c_wi_groundIsTaken_32 rfl rfl (tt13_venueAt hw hr hPi.2) ?_
        refine zi_iconst d_wi_groundIsTaken_35 ?_
        refine zi_icmp_eq 66 d_wi_groundIsTaken_36 (by decide) (hA _ _) (by first | assumption | exact ⟨by omega, by omega⟩) (fun h36 => ?_) (fun h36 => ?_)
        · refine zi_iconst d_wi_groundIsTaken_66 ?_
          exact zk_zret rfl d_wi_groundIsTaken_67 (Nat.zero_le _) (Nat.zero_le _) (by omega) (by rw [if_pos hany]) rfl
        · refine zr_aload_n d_wi_groundIsTaken_39 rfl ?_
          refine zi_getr (j := 4) d_wi_groundIsTaken_40 zC6 fl_wi_21 (by decide) rfl rfl ?_
          refine zi_iload d_wi_groundIsTaken_43 rfl ?_
          refine zi_ialdE (x := τ 8 i) d_wi_groundIsTaken_45 rfl (by decide) (by omega) (by omega) (by rw [Int.toNat_natCast]) ?_
          refine zi_iload_n d_wi_groundIsTaken_46 rfl ?_
          refine zi_icmp_ne 68 d_wi_groundIsTaken_47 (by decide) (hA _ _) (by first | assumption | exact ⟨by omega, by omega⟩) (fun h47 => ?_) (fun h47 => ?_)
          · refine zi_iinc d_wi_groundIsTaken_68 (by decide) rfl rfl ?_
            refine zr_goto 3 d_wi_groundIsTaken_71 (by decide) ?_
            exfalso
            grind
          · refine zr_aload_n d_wi_groundIsTaken_50 rfl ?_
            refine zi_iload_n d_wi_groundIsTaken_51 rfl ?_
            refine zr_aload_n d_wi_groundIsTaken_52 rfl ?_
            refine zi_getr (j := 3) d_wi_groundIsTaken_53 zC6 fl_wi_18 (by decide) rfl rfl ?_
            refine zi_iload d_wi_groundIsTaken_56 rfl ?_
            refine zi_ialdE (x := τ 7 i) d_wi_groundIsTaken_58 rfl (by decide) (by omega) (by omega) (by rw [Int.toNat_natCast]) ?_
            refine c_wi_groundIsTaken_59 rfl rfl (tt13_venueAt hw hr hPi.1) ?_
            refine zi_iconst d_wi_groundIsTaken_62 ?_
            refine zi_icmp_ne 68 d_wi_groundIsTaken_63 (by decide) (hA _ _) (by first | assumption | exact ⟨by omega, by omega⟩) (fun h63 => ?_) (fun h63 => ?_)
            · refine zi_iinc d_wi_groundIsTaken_68 (by decide) rfl rfl ?_
              refine zr_goto 3 d_wi_groundIsTaken_71 (by decide) ?_
              exfalso
              grind
            · refine zi_iconst d_wi_groundIsTaken_66 ?_
              exact zk_zret rfl d_wi_groundIsTaken_67 (Nat.zero_le _) (Nat.zero_le _) (by omega) (by rw [if_pos hany]) rfl
  · intro hno
    refine zi_iload d_wi_groundIsTaken_3 rfl ?_
    refine zr_aload_n d_wi_groundIsTaken_5 rfl ?_
    refine zi_getiE (j := 5) (x := (p : Int)) d_wi_groundIsTaken_6 zC6 fl_wi_43 (by decide) rfl rfl (hp5) ?_
    refine zi_icmp_ge 74 d_wi_groundIsTaken_9 (by decide) (by first | assumption | exact ⟨by omega, by omega⟩) (by first | assumption | exact ⟨by omega, by omega⟩) (fun h9 => ?_) (fun h9 => ?_)
    · refine zi_iconst d_wi_groundIsTaken_74 ?_
      exact zk_zret rfl d_wi_groundIsTaken_75 (Nat.zero_le _) (Nat.zero_le _) (by omega) (by rw [if_neg (fun g => by obtain ⟨i, g1, g2⟩ := (anyN_iff _ _).mp g; exact hno i g1 g2)]) rfl
    · exact absurd h9 (by omega)
