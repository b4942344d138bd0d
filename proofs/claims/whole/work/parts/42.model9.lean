/-! the reference: catch-up (written by wip/gen/t31.py) -/
def gH (τ : tS) (i : Nat) : Int := τ 58 i % 20
def gA (τ : tS) (i : Nat) : Int := τ 44 (τ 58 i).toNat
def meetP (τ : tS) (g h : Nat) : Bool := decide (gH τ g = gH τ h ∨ gH τ g = gA τ h ∨ gA τ g = gH τ h ∨ gA τ g = gA τ h)
def clP (τ : tS) (g : Nat) (x : Int) (h : Nat) : Bool := decide (τ 59 h = x ∧ meetP τ g h = true)
def n2i (b : Bool) : Int := if b = true then 0 else 1
theorem n2i_in (b : Bool) : zin (n2i b) := by cases b <;> exact ⟨by decide, by decide⟩
theorem n2i_0 (b : Bool) : n2i b = 0 ∨ n2i b = 1 := by cases b <;> simp [n2i]
theorem nlg {Q : Nat → Bool} {t : Nat} {a : Int} (h : n2i (anyN Q t) = 0 → a = 0) (h2 : ¬ n2i (anyN Q t) = 0 → a = n2i (Q t)) : n2i (anyN Q (t + 1)) = a := by
  rw [anyN]
  cases e : anyN Q t <;> simp_all [n2i]
def ceOk (τ : tS) (g : Nat) : Prop := ∀ i, i < g → 0 ≤ τ 58 i ∧ τ 58 i < 800
theorem md_meet {l : Launch} {d : Nat} {τ : tS} (hA : AllIn τ) {N : Nat} (hc : ceOk τ N) (hN : N ≤ 400) {g h : Nat} (hg : g < N) (hh : h < N) : zF l (d + 1) M_md_meet [.ref 37, vi (g : Int), vi (h : Int)] (τ) (some (vi (if meetP τ g h = true then 1 else 0))) (τ) := by
  refine zMet_of (ls := [.ref 37, vi (g : Int), vi (h : Int), .null, .null, .null, .null]) pn_md rfl (by simp [vi, Value.category]) rfl rfl ?_
  have c1 := hc g hg
  have c2 := hc h hh
  refine zr_aload_n d_md_meet_0 rfl ?_
  refine zi_getr (j := 29) d_md_meet_1 zC8 fl_md_75 (by decide) rfl rfl ?_
  refine zi_iload_n d_md_meet_4 rfl ?_
  refine zi_ialdE (x := τ 58 g) d_md_meet_5 rfl (by decide) (by omega) (by omega) (by rw [Int.toNat_natCast]) ?_
  refine zi_bipush d_md_meet_6 (by decide) ?_
  refine zi_irem d_md_meet_8 ⟨by omega, by omega⟩ ⟨by decide, by decide⟩ ?_
  refine zi_istore_n d_md_meet_9 (by decide) rfl ?_
  refine zr_aload_n d_md_meet_10 rfl ?_
  refine zi_getr (j := 13) d_md_meet_11 zC8 fl_md_33 (by decide) rfl rfl ?_
  refine zr_aload_n d_md_meet_14 rfl ?_
  refine zi_getr (j := 29) d_md_meet_15 zC8 fl_md_75 (by decide) rfl rfl ?_
  refine zi_iload_n d_md_meet_18 rfl ?_
  refine zi_ialdE (x := τ 58 g) d_md_meet_19 rfl (by decide) (by omega) (by omega) (by rw [Int.toNat_natCast]) ?_
  refine zi_iald d_md_meet_20 rfl (by decide) (by omega) (by omega) ?_
  refine zi_istore d_md_meet_21 (by decide) rfl ?_
  refine zr_aload_n d_md_meet_23 rfl ?_
  refine zi_getr (j := 29) d_md_meet_24 zC8 fl_md_75 (by decide) rfl rfl ?_
  refine zi_iload_n d_md_meet_27 rfl ?_
  refine zi_ialdE (x := τ 58 h) d_md_meet_28 rfl (by decide) (by omega) (by omega) (by rw [Int.toNat_natCast]) ?_
  refine zi_bipush d_md_meet_29 (by decide) ?_
  refine zi_irem d_md_meet_31 ⟨by omega, by omega⟩ ⟨by decide, by decide⟩ ?_
  refine zi_istore d_md_meet_32 (by decide) rfl ?_
  refine zr_aload_n d_md_meet_34 rfl ?_
  refine zi_getr (j := 13) d_md_meet_35 zC8 fl_md_33 (by decide) rfl rfl ?_
  refine zr_aload_n d_md_meet_38 rfl ?_
  refine zi_getr (j := 29) d_md_meet_39 zC8 fl_md_75 (by decide) rfl rfl ?_
  refine zi_iload_n d_md_meet_42 rfl ?_
  refine zi_ialdE (x := τ 58 h) d_md_meet_43 rfl (by decide) (by omega) (by omega) (by rw [Int.toNat_natCast]) ?_
  refine zi_iald d_md_meet_44 rfl (by decide) (by omega) (by omega) ?_
  refine zi_istore d_md_meet_45 (by decide) rfl ?_
  refine zi_iload_n d_md_meet_47 rfl ?_
  refine zi_iload d_md_meet_48 rfl ?_
  refine zi_icmp_eq 73 d_md_meet_50 (by decide) ⟨by omega, by omega⟩ ⟨by omega, by omega⟩ (fun h50 => ?_) (fun h50 => ?_)
  · refine zi_iconst d_md_meet_73 ?_
    refine zr_goto 78 d_md_meet_74 (by decide) ?_
    exact zk_zret rfl d_md_meet_78 (Nat.zero_le _) (Nat.zero_le _) (by omega) (by unfold meetP gH gA; grind) rfl
  · refine zi_iload_n d_md_meet_53 rfl ?_
    refine zi_iload d_md_meet_54 rfl ?_
    refine zi_icmp_eq 73 d_md_meet_56 (by decide) ⟨by omega, by omega⟩ (hA _ _) (fun h56 => ?_) (fun h56 => ?_)
    · refine zi_iconst d_md_meet_73 ?_
      refine zr_goto 78 d_md_meet_74 (by decide) ?_
      exact zk_zret rfl d_md_meet_78 (Nat.zero_le _) (Nat.zero_le _) (by omega) (by unfold meetP gH gA; grind) rfl
    · refine zi_iload d_md_meet_59 rfl ?_
      refine zi_iload d_md_meet_61 rfl ?_
      refine zi_icmp_eq 73 d_md_meet_63 (by decide) (hA _ _) ⟨by omega, by omega⟩ (fun h63 => ?_) (fun h63 => ?_)
      · refine zi_iconst d_md_meet_73 ?_
        refine zr_goto 78 d_md_meet_74 (by decide) ?_
        exact zk_zret rfl d_md_meet_78 (Nat.zero_le _) (Nat.zero_le _) (by omega) (by unfold meetP gH gA; grind) rfl
      · refine zi_iload d_md_meet_66 rfl ?_
        refine zi_iload d_md_meet_68 rfl ?_
        refine zi_icmp_ne 77 d_md_meet_70 (by decide) (hA _ _) (hA _ _) (fun h70 => ?_) (fun h70 => ?_)
        · refine zi_iconst d_md_meet_77 ?_
          exact zk_zret rfl d_md_meet_78 (Nat.zero_le _) (Nat.zero_le _) (by omega) (by unfold meetP gH gA; grind) rfl
        · refine zi_iconst d_md_meet_73 ?_
          refine zr_goto 78 d_md_meet_74 (by decide) ?_
          exact zk_zret rfl d_md_meet_78 (Nat.zero_le _) (Nat.zero_le _) (by omega) (by unfold meetP gH gA; grind) rfl
theorem md_isClear {l : Launch} {d : Nat} {τ : tS} (hA : AllIn τ) {N : Nat} (hc : ceOk τ N) (hN : N ≤ 400) {gm : Nat} (hg : gm < N) {x : Int} (zx : zin x) : zF l (d + 2) M_md_isClear [.ref 37, vi (gm : Int), vi x] (τ) (some (vi (n2i (anyN (clP τ gm x) gm)))) (τ) := by
  refine zMet_of (ls := [.ref 37, vi (gm : Int), vi x, .null, .null]) pn_md rfl (by simp [vi, Value.category]) rfl rfl ?_
  refine zi_iconst d_md_isClear_0 ?_
  refine zi_istore_n d_md_isClear_1 (by decide) rfl ?_
  refine zi_iconst d_md_isClear_2 ?_
  refine zi_istore d_md_isClear_3 (by decide) rfl ?_
  have key := zup (P := fun (i : Nat) => zV l (d + 2) M_md_isClear 5 [.ref 37, vi (gm : Int), vi x, vi (n2i (anyN (clP τ gm x) i)), vi (i : Int)] [] (τ) (0, 0) (.inl (some (vi (n2i (anyN (clP τ gm x) gm)))), (SH, zq τ), 0, 0)) (gm) ?_ ?_ 0 (by omega)
  · exact zE4 key (by refine ⟨?_, ?_, ?_, ?_, ?_, trivial⟩ <;> first | exact Or.inl rfl | exact Or.inr rfl) rfl
  · intro i hi hk
    refine zi_iload d_md_isClear_5 rfl ?_
    refine zi_iload_n d_md_isClear_7 rfl ?_
    refine zi_icmp_ge 48 d_md_isClear_8 (by decide) (by first | assumption | exact ⟨by omega, by omega⟩) (by first | assumption | exact ⟨by omega, by omega⟩) (fun h8 => ?_) (fun h8 => ?_)
    · exact absurd h8 (by omega)
    · refine zi_iload_n d_md_isClear_11 rfl ?_
      refine zi_if_eq 40 d_md_isClear_12 (by decide) (n2i_in _) (fun h12 => ?_) (fun h12 => ?_)
      · refine zi_iconst d_md_isClear_40 ?_
        refine zi_istore_n d_md_isClear_41 (by decide) rfl ?_
        refine zi_iinc d_md_isClear_42 (by decide) rfl rfl ?_
        refine zr_goto 5 d_md_isClear_45 (by decide) ?_
        exact zE4 hk (by refine ⟨?_, ?_, ?_, ?_, ?_, trivial⟩ <;> first | exact Or.inl rfl | exact Or.inr rfl | exact Or.inr (congrArg vi (by refine nlg (fun g => ?_) (fun g => ?_); (first | rfl | exact absurd g h12); (first | exact absurd h12 g | (clear hk; unfold n2i clP; grind))))) rfl
      · refine zr_aload_n d_md_isClear_15 rfl ?_
        refine zi_getr (j := 30) d_md_isClear_16 zC8 fl_md_78 (by decide) rfl rfl ?_
        refine zi_iload d_md_isClear_19 rfl ?_
        refine zi_ialdE (x := τ 59 i) d_md_isClear_21 rfl (by decide) (by omega) (by omega) (by rw [Int.toNat_natCast]) ?_
        refine zi_iload_n d_md_isClear_22 rfl ?_
        refine zi_icmp_ne 36 d_md_isClear_23 (by decide) (hA _ _) zx (fun h23 => ?_) (fun h23 => ?_)
        · refine zi_iconst d_md_isClear_36 ?_
          refine zr_goto 41 d_md_isClear_37 (by decide) ?_
          refine zi_istore_n d_md_isClear_41 (by decide) rfl ?_
          refine zi_iinc d_md_isClear_42 (by decide) rfl rfl ?_
          refine zr_goto 5 d_md_isClear_45 (by decide) ?_
          exact zE4 hk (by refine ⟨?_, ?_, ?_, ?_, ?_, trivial⟩ <;> first | exact Or.inl rfl | exact Or.inr rfl | exact Or.inr (congrArg vi (by refine nlg (fun g => ?_) (fun g => ?_); (first | rfl | exact absurd g h12); (first | exact absurd h12 g | (clear hk; unfold n2i clP; grind))))) rfl
        · refine zr_aload_n d_md_isClear_26 rfl ?_
          refine zi_iload_n d_md_isClear_27 rfl ?_
          refine zi_iload d_md_isClear_28 rfl ?_
          refine c_md_isClear_30 rfl rfl (md_meet hA hc hN hg (by omega)) ?_
          refine zi_if_ne 40 d_md_isClear_33 (by decide) (by split <;> exact ⟨by decide, by decide⟩) (fun h33 => ?_) (fun h33 => ?_)
          · refine zi_iconst d_md_isClear_40 ?_
            refine zi_istore_n d_md_isClear_41 (by decide) rfl ?_
            refine zi_iinc d_md_isClear_42 (by decide) rfl rfl ?_
            refine zr_goto 5 d_md_isClear_45 (by decide) ?_
            exact zE4 hk (by refine ⟨?_, ?_, ?_, ?_, ?_, trivial⟩ <;> first | exact Or.inl rfl | exact Or.inr rfl | exact Or.inr (congrArg vi (by refine nlg (fun g => ?_) (fun g => ?_); (first | rfl | exact absurd g h12); (first | exact absurd h12 g | (clear hk; unfold n2i clP; grind))))) rfl
          · refine zi_iconst d_md_isClear_36 ?_
            refine zr_goto 41 d_md_isClear_37 (by decide) ?_
            refine zi_istore_n d_md_isClear_41 (by decide) rfl ?_
            refine zi_iinc d_md_isClear_42 (by decide) rfl rfl ?_
            refine zr_goto 5 d_md_isClear_45 (by decide) ?_
            exact zE4 hk (by refine ⟨?_, ?_, ?_, ?_, ?_, trivial⟩ <;> first | exact Or.inl rfl | exact Or.inr rfl | exact Or.inr (congrArg vi (by refine nlg (fun g => ?_) (fun g => ?_); (first | rfl | exact absurd g h12); (first | exact absurd h12 g | (clear hk; unfold n2i clP; grind))))) rfl
  · refine zi_iload d_md_isClear_5 rfl ?_
    refine zi_iload_n d_md_isClear_7 rfl ?_
    refine zi_icmp_ge 48 d_md_isClear_8 (by decide) (by first | assumption | exact ⟨by omega, by omega⟩) (by first | assumption | exact ⟨by omega, by omega⟩) (fun h8 => ?_) (fun h8 => ?_)
    · refine zi_iload_n d_md_isClear_48 rfl ?_
      exact zk_zret rfl d_md_isClear_49 (Nat.zero_le _) (Nat.zero_le _) (n2i_0 _) rfl rfl
    · exact absurd h8 (by omega)
def mmgP (τ : tS) (t i : Nat) : Bool := decide (gH τ i = (t : Int) ∨ gA τ i = (t : Int))
theorem md_busiest {l : Launch} {d : Nat} {τ : tS} (hA : AllIn τ) {g n : Nat} (hc : ceOk τ g) (hg4 : g ≤ 400) (hgm : τ 37 28 = (g : Int)) (hn : τ 37 1 = (n : Int)) (hn20 : n ≤ 20) : zF l (d + 1) M_md_busiest [.ref 37] (τ) (some (vi ((mxN (fun t => cnt (mmgP τ t) g) n : Nat) : Int))) (τ) := by
  refine zMet_of (ls := [.ref 37, .null, .null, .null, .null]) pn_md rfl (by simp [vi, Value.category]) rfl rfl ?_
  refine zi_iconst d_md_busiest_0 ?_
  refine zi_istore_n d_md_busiest_1 (by decide) rfl ?_
  refine zi_iconst d_md_busiest_2 ?_
  refine zi_istore_n d_md_busiest_3 (by decide) rfl ?_
  have key := zup (P := fun (i : Nat) => zV l (d + 1) M_md_busiest 4 [.ref 37, vi ((mxN (fun t => cnt (mmgP τ t) g) i : Nat) : Int), vi (i : Int), .null, .null] [] τ (0, 0) (.inl (some (vi ((mxN (fun t => cnt (mmgP τ t) g) n : Nat) : Int))), (SH, zq τ), 0, 0)) n ?_ ?_ 0 (by omega)
  · exact zE4 key (by refine ⟨?_, ?_, ?_, ?_, ?_, trivial⟩ <;> first | exact Or.inl rfl | exact Or.inr rfl) rfl
  · intro i hi hk
    refine zi_iload_n d_md_busiest_4 rfl ?_
    refine zr_aload_n d_md_busiest_5 rfl ?_
    refine zi_getiE (j := 1) (x := (n : Int)) d_md_busiest_6 zC8 fl_md_7 (by decide) rfl rfl (hn) ?_
    refine zi_icmp_ge 87 d_md_busiest_9 (by decide) (by first | assumption | exact ⟨by omega, by omega⟩) (by first | assumption | exact ⟨by omega, by omega⟩) (fun h9 => ?_) (fun h9 => ?_)
    · exact absurd h9 (by omega)
    · refine zi_iconst d_md_busiest_12 ?_
      refine zi_istore_n d_md_busiest_13 (by decide) rfl ?_
      refine zi_iconst d_md_busiest_14 ?_
      refine zi_istore d_md_busiest_15 (by decide) rfl ?_
      have inn := zup (P := fun (u : Nat) => zV l (d + 1) M_md_busiest 17 [.ref 37, vi ((mxN (fun t => cnt (mmgP τ t) g) i : Nat) : Int), vi (i : Int), vi ((cnt (mmgP τ i) u : Nat) : Int), vi (u : Int)] [] τ (0, 0) (.inl (some (vi ((mxN (fun t => cnt (mmgP τ t) g) n : Nat) : Int))), (SH, zq τ), 0, 0)) g ?_ ?_ 0 (by omega)
      · exact zE4 inn (by refine ⟨?_, ?_, ?_, ?_, ?_, trivial⟩ <;> first | exact Or.inl rfl | exact Or.inr rfl) rfl
      · intro u hu hku
        have hcl := cnt_le (mmgP τ i) u
        refine zi_iload d_md_busiest_17 rfl ?_
        refine zr_aload_n d_md_busiest_19 rfl ?_
        refine zi_getiE (j := 28) (x := (g : Int)) d_md_busiest_20 zC8 fl_md_226 (by decide) rfl rfl (hgm) ?_
        refine zi_icmp_ge 70 d_md_busiest_23 (by decide) (by first | assumption | exact ⟨by omega, by omega⟩) (by first | assumption | exact ⟨by omega, by omega⟩) (fun h23 => ?_) (fun h23 => ?_)
        · exact absurd h23 (by omega)
        · refine zr_aload_n d_md_busiest_26 rfl ?_
          refine zi_getr (j := 29) d_md_busiest_27 zC8 fl_md_75 (by decide) rfl rfl ?_
          refine zi_iload d_md_busiest_30 rfl ?_
          have c1 := hc u (by omega)
          refine zi_ialdE (x := τ 58 u) d_md_busiest_32 rfl (by decide) (by omega) (by omega) (by rw [Int.toNat_natCast]) ?_
          refine zi_bipush d_md_busiest_33 (by decide) ?_
          refine zi_irem d_md_busiest_35 ⟨by omega, by omega⟩ ⟨by decide, by decide⟩ ?_
          refine zi_iload_n d_md_busiest_36 rfl ?_
          refine zi_icmp_eq 56 d_md_busiest_37 (by decide) ⟨by omega, by omega⟩ ⟨by omega, by omega⟩ (fun h37 => ?_) (fun h37 => ?_)
          · refine zi_iload_n d_md_busiest_56 rfl ?_
            refine zi_iconst d_md_busiest_57 ?_
            refine zi_iadd d_md_busiest_58 ?_
            refine zr_goto 63 d_md_busiest_59 (by decide) ?_
            refine zi_istore_n d_md_busiest_63 (by decide) rfl ?_
            refine zi_iinc d_md_busiest_64 (by decide) rfl rfl ?_
            refine zr_goto 17 d_md_busiest_67 (by decide) ?_
            exact zE4 hku (by refine ⟨?_, ?_, ?_, ?_, ?_, trivial⟩ <;> first | exact Or.inl rfl | exact Or.inr rfl | exact Or.inr (congrArg vi (by rw [cnt]; unfold mmgP gH gA; grind))) rfl
          · refine zr_aload_n d_md_busiest_40 rfl ?_
            refine zi_getr (j := 13) d_md_busiest_41 zC8 fl_md_33 (by decide) rfl rfl ?_
            refine zr_aload_n d_md_busiest_44 rfl ?_
            refine zi_getr (j := 29) d_md_busiest_45 zC8 fl_md_75 (by decide) rfl rfl ?_
            refine zi_iload d_md_busiest_48 rfl ?_
            refine zi_ialdE (x := τ 58 u) d_md_busiest_50 rfl (by decide) (by omega) (by omega) (by rw [Int.toNat_natCast]) ?_
            refine zi_iald d_md_busiest_51 rfl (by decide) (by omega) (by omega) ?_
            refine zi_iload_n d_md_busiest_52 rfl ?_
            refine zi_icmp_ne 62 d_md_busiest_53 (by decide) (hA _ _) ⟨by omega, by omega⟩ (fun h53 => ?_) (fun h53 => ?_)
            · refine zi_iload_n d_md_busiest_62 rfl ?_
              refine zi_istore_n d_md_busiest_63 (by decide) rfl ?_
              refine zi_iinc d_md_busiest_64 (by decide) rfl rfl ?_
              refine zr_goto 17 d_md_busiest_67 (by decide) ?_
              exact zE4 hku (by refine ⟨?_, ?_, ?_, ?_, ?_, trivial⟩ <;> first | exact Or.inl rfl | exact Or.inr rfl | exact Or.inr (congrArg vi (by rw [cnt]; unfold mmgP gH gA; grind))) rfl
            · refine zi_iload_n d_md_busiest_56 rfl ?_
              refine zi_iconst d_md_busiest_57 ?_
              refine zi_iadd d_md_busiest_58 ?_
              refine zr_goto 63 d_md_busiest_59 (by decide) ?_
              refine zi_istore_n d_md_busiest_63 (by decide) rfl ?_
              refine zi_iinc d_md_busiest_64 (by decide) rfl rfl ?_
              refine zr_goto 17 d_md_busiest_67 (by decide) ?_
              exact zE4 hku (by refine ⟨?_, ?_, ?_, ?_, ?_, trivial⟩ <;> first | exact Or.inl rfl | exact Or.inr rfl | exact Or.inr (congrArg vi (by rw [cnt]; unfold mmgP gH gA; grind))) rfl
      · refine zi_iload d_md_busiest_17 rfl ?_
        refine zr_aload_n d_md_busiest_19 rfl ?_
        refine zi_getiE (j := 28) (x := (g : Int)) d_md_busiest_20 zC8 fl_md_226 (by decide) rfl rfl (hgm) ?_
        refine zi_icmp_ge 70 d_md_busiest_23 (by decide) (by first | assumption | exact ⟨by omega, by omega⟩) (by first | assumption | exact ⟨by omega, by omega⟩) (fun h23 => ?_) (fun h23 => ?_)
        · have hcl := cnt_le (mmgP τ i) g
          have hmx := mxN_le (fun t => cnt (mmgP τ t) g) g (fun t => cnt_le _ _) i
          refine zi_iload_n d_md_busiest_70 rfl ?_
          refine zi_iload_n d_md_busiest_71 rfl ?_
          refine zi_icmp_le 79 d_md_busiest_72 (by decide) ⟨by omega, by omega⟩ ⟨by omega, by omega⟩ (fun h72 => ?_) (fun h72 => ?_)
          · refine zi_iload_n d_md_busiest_79 rfl ?_
            refine zi_istore_n d_md_busiest_80 (by decide) rfl ?_
            refine zi_iinc d_md_busiest_81 (by decide) rfl rfl ?_
            refine zr_goto 4 d_md_busiest_84 (by decide) ?_
            exact zE4 hk (by refine ⟨?_, ?_, ?_, ?_, ?_, trivial⟩ <;> first | exact Or.inl rfl | exact Or.inr rfl | exact Or.inr (congrArg vi (by rw [mxN]; grind))) rfl
          · refine zi_iload_n d_md_busiest_75 rfl ?_
            refine zr_goto 80 d_md_busiest_76 (by decide) ?_
            refine zi_istore_n d_md_busiest_80 (by decide) rfl ?_
            refine zi_iinc d_md_busiest_81 (by decide) rfl rfl ?_
            refine zr_goto 4 d_md_busiest_84 (by decide) ?_
            exact zE4 hk (by refine ⟨?_, ?_, ?_, ?_, ?_, trivial⟩ <;> first | exact Or.inl rfl | exact Or.inr rfl | exact Or.inr (congrArg vi (by rw [mxN]; grind))) rfl
        · exact absurd h23 (by omega)
  · refine zi_iload_n d_md_busiest_4 rfl ?_
    refine zr_aload_n d_md_busiest_5 rfl ?_
    refine zi_getiE (j := 1) (x := (n : Int)) d_md_busiest_6 zC8 fl_md_7 (by decide) rfl rfl (hn) ?_
    refine zi_icmp_ge 87 d_md_busiest_9 (by decide) (by first | assumption | exact ⟨by omega, by omega⟩) (by first | assumption | exact ⟨by omega, by omega⟩) (fun h9 => ?_) (fun h9 => ?_)
    · refine zi_iload_n d_md_busiest_87 rfl ?_
      exact zk_iret rfl d_md_busiest_88 (Nat.zero_le _) (Nat.zero_le _) (by first | rfl | omega | (split <;> omega) | simp_all) rfl
    · exact absurd h9 (by omega)
