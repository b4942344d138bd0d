/-! the reference: can (written by wip/gen/t35.py) -/
theorem md_keepsFixed {l : Launch} {d : Nat} {τ : tS} {n R p f e : Nat} (C : Mo τ n R p f e) (hn8 : n ≤ 8) {h a r : Nat} (hh : h < 20) (ha : a < 20) (hr : r < 8) : zF l (d + 2) M_md_keepsFixed [.ref 37, vi (h : Int), vi (a : Int), vi (r : Int)] (τ) (some (vi (n2i (anyN (kfP τ r h a) f)))) (τ) := by
  refine zMet_of (ls := [.ref 37, vi (h : Int), vi (a : Int), vi (r : Int), .null, .null, .null, .null, .null]) pn_md rfl (by simp [vi, Value.category]) rfl rfl ?_
  have hA := C.A
  have hn := C.n
  have hn4 := C.n4
  have hn20 := C.n20
  have hR := C.R
  have hR38 := C.R38
  have hf6 := C.f6
  refine zi_iconst d_md_keepsFixed_0 ?_
  refine zi_istore d_md_keepsFixed_1 (by decide) rfl ?_
  refine zi_iconst d_md_keepsFixed_3 ?_
  refine zi_istore d_md_keepsFixed_4 (by decide) rfl ?_
  have key := zup (P := fun (i : Nat) => zV l (d + 2) M_md_keepsFixed 6 [.ref 37, vi (h : Int), vi (a : Int), vi (r : Int), vi (n2i (anyN (kfP τ r h a) i)), vi (i : Int), .null, .null, .null] [] τ (0, 0) (.inl (some (vi (n2i (anyN (kfP τ r h a) f)))), (SH, zq τ), 0, 0)) f ?_ ?_ 0 (by omega)
  · exact zE4 key (by refine ⟨?_, ?_, ?_, ?_, ?_, ?_, ?_, ?_, ?_, trivial⟩ <;> first | exact Or.inl rfl | exact Or.inr rfl) rfl
  · intro i hi hk
    have k98 : zV l (d + 2) M_md_keepsFixed 98 [.ref 37, vi (h : Int), vi (a : Int), vi (r : Int), vi (n2i (anyN (kfP τ r h a) i)), vi (i : Int), vi (b2i (decide (τ 41 i = (h : Int) ∧ τ 42 i = (a : Int)))), vi (b2i (decide (τ 41 i = (a : Int) ∧ τ 42 i = (h : Int)))), .null] [vi (b2i (decide ((τ 41 i = (h : Int) ∨ τ 42 i = (h : Int)) ∨ (τ 41 i = (a : Int) ∨ τ 42 i = (a : Int)))))] τ (0, 0) (.inl (some (vi (n2i (anyN (kfP τ r h a) f)))), (SH, zq τ), 0, 0) := by
      refine zi_istore d_md_keepsFixed_98 (by decide) rfl ?_
      refine zi_iload d_md_keepsFixed_100 rfl ?_
      refine zi_if_eq 143 d_md_keepsFixed_102 (by decide) (n2i_in _) (fun h102 => ?_) (fun h102 => ?_)
      · refine zi_iconst d_md_keepsFixed_143 ?_
        refine zi_istore d_md_keepsFixed_144 (by decide) rfl ?_
        refine zi_iinc d_md_keepsFixed_146 (by decide) rfl rfl ?_
        refine zr_goto 6 d_md_keepsFixed_149 (by decide) ?_
        exact zE4 hk (by refine ⟨?_, ?_, ?_, ?_, ?_, ?_, ?_, ?_, ?_, trivial⟩ <;> first | exact Or.inl rfl | exact Or.inr rfl | exact Or.inr (congrArg vi (by refine nlg (fun g => ?_) (fun g => ?_); (first | rfl | exact absurd g h102); (first | exact absurd h102 g | (clear hk; unfold n2i kfP; (try simp only [b2i, decide_eq_true_eq] at *); grind))))) rfl
      · refine zr_aload_n d_md_keepsFixed_105 rfl ?_
        refine zi_getr (j := 10) d_md_keepsFixed_106 zC8 fl_md_30 (by decide) rfl rfl ?_
        refine zi_iload d_md_keepsFixed_109 rfl ?_
        refine zi_ialdE (x := τ 43 i) d_md_keepsFixed_111 rfl (by decide) (by omega) (by omega) (by rw [Int.toNat_natCast]) ?_
        refine zi_iload_n d_md_keepsFixed_112 rfl ?_
        refine zi_icmp_ne 129 d_md_keepsFixed_113 (by decide) (hA _ _) ⟨by omega, by omega⟩ (fun h113 => ?_) (fun h113 => ?_)
        · refine zi_iload d_md_keepsFixed_129 rfl ?_
          refine zi_if_ne 143 d_md_keepsFixed_131 (by decide) (b2i_in _) (fun h131 => ?_) (fun h131 => ?_)
          · refine zi_iconst d_md_keepsFixed_143 ?_
            refine zi_istore d_md_keepsFixed_144 (by decide) rfl ?_
            refine zi_iinc d_md_keepsFixed_146 (by decide) rfl rfl ?_
            refine zr_goto 6 d_md_keepsFixed_149 (by decide) ?_
            exact zE4 hk (by refine ⟨?_, ?_, ?_, ?_, ?_, ?_, ?_, ?_, ?_, trivial⟩ <;> first | exact Or.inl rfl | exact Or.inr rfl | exact Or.inr (congrArg vi (by refine nlg (fun g => ?_) (fun g => ?_); (first | rfl | exact absurd g h102); (first | exact absurd h102 g | (clear hk; unfold n2i kfP; (try simp only [b2i, decide_eq_true_eq] at *); grind))))) rfl
          · refine zi_iload d_md_keepsFixed_134 rfl ?_
            refine zi_if_ne 143 d_md_keepsFixed_136 (by decide) (b2i_in _) (fun h136 => ?_) (fun h136 => ?_)
            · refine zi_iconst d_md_keepsFixed_143 ?_
              refine zi_istore d_md_keepsFixed_144 (by decide) rfl ?_
              refine zi_iinc d_md_keepsFixed_146 (by decide) rfl rfl ?_
              refine zr_goto 6 d_md_keepsFixed_149 (by decide) ?_
              exact zE4 hk (by refine ⟨?_, ?_, ?_, ?_, ?_, ?_, ?_, ?_, ?_, trivial⟩ <;> first | exact Or.inl rfl | exact Or.inr rfl | exact Or.inr (congrArg vi (by refine nlg (fun g => ?_) (fun g => ?_); (first | rfl | exact absurd g h102); (first | exact absurd h102 g | (clear hk; unfold n2i kfP; (try simp only [b2i, decide_eq_true_eq] at *); grind))))) rfl
            · refine zi_iconst d_md_keepsFixed_139 ?_
              refine zr_goto 144 d_md_keepsFixed_140 (by decide) ?_
              refine zi_istore d_md_keepsFixed_144 (by decide) rfl ?_
              refine zi_iinc d_md_keepsFixed_146 (by decide) rfl rfl ?_
              refine zr_goto 6 d_md_keepsFixed_149 (by decide) ?_
              exact zE4 hk (by refine ⟨?_, ?_, ?_, ?_, ?_, ?_, ?_, ?_, ?_, trivial⟩ <;> first | exact Or.inl rfl | exact Or.inr rfl | exact Or.inr (congrArg vi (by refine nlg (fun g => ?_) (fun g => ?_); (first | rfl | exact absurd g h102); (first | exact absurd h102 g | (clear hk; unfold n2i kfP; (try simp only [b2i, decide_eq_true_eq] at *); grind))))) rfl
        · refine zi_iload d_md_keepsFixed_116 rfl ?_
          refine zi_if_eq 139 d_md_keepsFixed_118 (by decide) (b2i_in _) (fun h118 => ?_) (fun h118 => ?_)
          · refine zi_iconst d_md_keepsFixed_139 ?_
            refine zr_goto 144 d_md_keepsFixed_140 (by decide) ?_
            refine zi_istore d_md_keepsFixed_144 (by decide) rfl ?_
            refine zi_iinc d_md_keepsFixed_146 (by decide) rfl rfl ?_
            refine zr_goto 6 d_md_keepsFixed_149 (by decide) ?_
            exact zE4 hk (by refine ⟨?_, ?_, ?_, ?_, ?_, ?_, ?_, ?_, ?_, trivial⟩ <;> first | exact Or.inl rfl | exact Or.inr rfl | exact Or.inr (congrArg vi (by refine nlg (fun g => ?_) (fun g => ?_); (first | rfl | exact absurd g h102); (first | exact absurd h102 g | (clear hk; unfold n2i kfP; (try simp only [b2i, decide_eq_true_eq] at *); grind))))) rfl
          · refine zi_iload d_md_keepsFixed_121 rfl ?_
            refine zi_if_eq 143 d_md_keepsFixed_123 (by decide) (b2i_in _) (fun h123 => ?_) (fun h123 => ?_)
            · refine zi_iconst d_md_keepsFixed_143 ?_
              refine zi_istore d_md_keepsFixed_144 (by decide) rfl ?_
              refine zi_iinc d_md_keepsFixed_146 (by decide) rfl rfl ?_
              refine zr_goto 6 d_md_keepsFixed_149 (by decide) ?_
              exact zE4 hk (by refine ⟨?_, ?_, ?_, ?_, ?_, ?_, ?_, ?_, ?_, trivial⟩ <;> first | exact Or.inl rfl | exact Or.inr rfl | exact Or.inr (congrArg vi (by refine nlg (fun g => ?_) (fun g => ?_); (first | rfl | exact absurd g h102); (first | exact absurd h102 g | (clear hk; unfold n2i kfP; (try simp only [b2i, decide_eq_true_eq] at *); grind))))) rfl
            · refine zr_goto 139 d_md_keepsFixed_126 (by decide) ?_
              refine zi_iconst d_md_keepsFixed_139 ?_
              refine zr_goto 144 d_md_keepsFixed_140 (by decide) ?_
              refine zi_istore d_md_keepsFixed_144 (by decide) rfl ?_
              refine zi_iinc d_md_keepsFixed_146 (by decide) rfl rfl ?_
              refine zr_goto 6 d_md_keepsFixed_149 (by decide) ?_
              exact zE4 hk (by refine ⟨?_, ?_, ?_, ?_, ?_, ?_, ?_, ?_, ?_, trivial⟩ <;> first | exact Or.inl rfl | exact Or.inr rfl | exact Or.inr (congrArg vi (by refine nlg (fun g => ?_) (fun g => ?_); (first | rfl | exact absurd g h102); (first | exact absurd h102 g | (clear hk; unfold n2i kfP; (try simp only [b2i, decide_eq_true_eq] at *); grind))))) rfl
    have k71 : zV l (d + 2) M_md_keepsFixed 71 [.ref 37, vi (h : Int), vi (a : Int), vi (r : Int), vi (n2i (anyN (kfP τ r h a) i)), vi (i : Int), vi (b2i (decide (τ 41 i = (h : Int) ∧ τ 42 i = (a : Int)))), .null, .null] [vi (b2i (decide (τ 41 i = (a : Int) ∧ τ 42 i = (h : Int))))] τ (0, 0) (.inl (some (vi (n2i (anyN (kfP τ r h a) f)))), (SH, zq τ), 0, 0) := by
      refine zi_istore d_md_keepsFixed_71 (by decide) rfl ?_
      refine zr_aload_n d_md_keepsFixed_73 rfl ?_
      refine zi_iload d_md_keepsFixed_74 rfl ?_
      refine zi_iload_n d_md_keepsFixed_76 rfl ?_
      refine c_md_keepsFixed_77 rfl rfl (md_isOf hA (by omega) ⟨by omega, by omega⟩) ?_
      refine zi_if_ne 93 d_md_keepsFixed_80 (by decide) (by split <;> exact ⟨by decide, by decide⟩) (fun h80 => ?_) (fun h80 => ?_)
      · refine zi_iconst d_md_keepsFixed_93 ?_
        refine zr_goto 98 d_md_keepsFixed_94 (by decide) ?_
        exact zE4 (zE5 k98 (by unfold b2i; first | (rw [if_pos (decide_eq_true (by clear hk; grind))]; (first | done | rfl)) | (rw [if_neg (fun g => absurd (of_decide_eq_true g) (by clear hk; grind))]; (first | done | rfl)))) (by refine ⟨?_, ?_, ?_, ?_, ?_, ?_, ?_, ?_, ?_, trivial⟩ <;> first | exact Or.inl rfl | exact Or.inr rfl) rfl
      · refine zr_aload_n d_md_keepsFixed_83 rfl ?_
        refine zi_iload d_md_keepsFixed_84 rfl ?_
        refine zi_iload_n d_md_keepsFixed_86 rfl ?_
        refine c_md_keepsFixed_87 rfl rfl (md_isOf hA (by omega) ⟨by omega, by omega⟩) ?_
        refine zi_if_eq 97 d_md_keepsFixed_90 (by decide) (by split <;> exact ⟨by decide, by decide⟩) (fun h90 => ?_) (fun h90 => ?_)
        · refine zi_iconst d_md_keepsFixed_97 ?_
          exact zE4 (zE5 k98 (by unfold b2i; first | (rw [if_pos (decide_eq_true (by clear hk; grind))]; (first | done | rfl)) | (rw [if_neg (fun g => absurd (of_decide_eq_true g) (by clear hk; grind))]; (first | done | rfl)))) (by refine ⟨?_, ?_, ?_, ?_, ?_, ?_, ?_, ?_, ?_, trivial⟩ <;> first | exact Or.inl rfl | exact Or.inr rfl) rfl
        · refine zi_iconst d_md_keepsFixed_93 ?_
          refine zr_goto 98 d_md_keepsFixed_94 (by decide) ?_
          exact zE4 (zE5 k98 (by unfold b2i; first | (rw [if_pos (decide_eq_true (by clear hk; grind))]; (first | done | rfl)) | (rw [if_neg (fun g => absurd (of_decide_eq_true g) (by clear hk; grind))]; (first | done | rfl)))) (by refine ⟨?_, ?_, ?_, ?_, ?_, ?_, ?_, ?_, ?_, trivial⟩ <;> first | exact Or.inl rfl | exact Or.inr rfl) rfl
    have k42 : zV l (d + 2) M_md_keepsFixed 42 [.ref 37, vi (h : Int), vi (a : Int), vi (r : Int), vi (n2i (anyN (kfP τ r h a) i)), vi (i : Int), .null, .null, .null] [vi (b2i (decide (τ 41 i = (h : Int) ∧ τ 42 i = (a : Int))))] τ (0, 0) (.inl (some (vi (n2i (anyN (kfP τ r h a) f)))), (SH, zq τ), 0, 0) := by
      refine zi_istore d_md_keepsFixed_42 (by decide) rfl ?_
      refine zr_aload_n d_md_keepsFixed_44 rfl ?_
      refine zi_getr (j := 8) d_md_keepsFixed_45 zC8 fl_md_24 (by decide) rfl rfl ?_
      refine zi_iload d_md_keepsFixed_48 rfl ?_
      refine zi_ialdE (x := τ 41 i) d_md_keepsFixed_50 rfl (by decide) (by omega) (by omega) (by rw [Int.toNat_natCast]) ?_
      refine zi_iload_n d_md_keepsFixed_51 rfl ?_
      refine zi_icmp_ne 70 d_md_keepsFixed_52 (by decide) (hA _ _) ⟨by omega, by omega⟩ (fun h52 => ?_) (fun h52 => ?_)
      · refine zi_iconst d_md_keepsFixed_70 ?_
        exact zE4 (zE5 k71 (by unfold b2i; first | (rw [if_pos (decide_eq_true (by clear hk; grind))]; (first | done | rfl)) | (rw [if_neg (fun g => absurd (of_decide_eq_true g) (by clear hk; grind))]; (first | done | rfl)))) (by refine ⟨?_, ?_, ?_, ?_, ?_, ?_, ?_, ?_, ?_, trivial⟩ <;> first | exact Or.inl rfl | exact Or.inr rfl) rfl
      · refine zr_aload_n d_md_keepsFixed_55 rfl ?_
        refine zi_getr (j := 9) d_md_keepsFixed_56 zC8 fl_md_27 (by decide) rfl rfl ?_
        refine zi_iload d_md_keepsFixed_59 rfl ?_
        refine zi_ialdE (x := τ 42 i) d_md_keepsFixed_61 rfl (by decide) (by omega) (by omega) (by rw [Int.toNat_natCast]) ?_
        refine zi_iload_n d_md_keepsFixed_62 rfl ?_
        refine zi_icmp_ne 70 d_md_keepsFixed_63 (by decide) (hA _ _) ⟨by omega, by omega⟩ (fun h63 => ?_) (fun h63 => ?_)
        · refine zi_iconst d_md_keepsFixed_70 ?_
          exact zE4 (zE5 k71 (by unfold b2i; first | (rw [if_pos (decide_eq_true (by clear hk; grind))]; (first | done | rfl)) | (rw [if_neg (fun g => absurd (of_decide_eq_true g) (by clear hk; grind))]; (first | done | rfl)))) (by refine ⟨?_, ?_, ?_, ?_, ?_, ?_, ?_, ?_, ?_, trivial⟩ <;> first | exact Or.inl rfl | exact Or.inr rfl) rfl
        · refine zi_iconst d_md_keepsFixed_66 ?_
          refine zr_goto 71 d_md_keepsFixed_67 (by decide) ?_
          exact zE4 (zE5 k71 (by unfold b2i; first | (rw [if_pos (decide_eq_true (by clear hk; grind))]; (first | done | rfl)) | (rw [if_neg (fun g => absurd (of_decide_eq_true g) (by clear hk; grind))]; (first | done | rfl)))) (by refine ⟨?_, ?_, ?_, ?_, ?_, ?_, ?_, ?_, ?_, trivial⟩ <;> first | exact Or.inl rfl | exact Or.inr rfl) rfl
    refine zi_iload d_md_keepsFixed_6 rfl ?_
    refine zr_aload_n d_md_keepsFixed_8 rfl ?_
    refine zi_getiE (j := 7) (x := (f : Int)) d_md_keepsFixed_9 zC8 fl_md_110 (by decide) rfl rfl (C.f) ?_
    refine zi_icmp_ge 152 d_md_keepsFixed_12 (by decide) (by first | assumption | exact ⟨by omega, by omega⟩) (by first | assumption | exact ⟨by omega, by omega⟩) (fun h12 => ?_) (fun h12 => ?_)
    · exact absurd h12 (by omega)
    · refine zr_aload_n d_md_keepsFixed_15 rfl ?_
      refine zi_getr (j := 8) d_md_keepsFixed_16 zC8 fl_md_24 (by decide) rfl rfl ?_
      refine zi_iload d_md_keepsFixed_19 rfl ?_
      refine zi_ialdE (x := τ 41 i) d_md_keepsFixed_21 rfl (by decide) (by omega) (by omega) (by rw [Int.toNat_natCast]) ?_
      refine zi_iload_n d_md_keepsFixed_22 rfl ?_
      refine zi_icmp_ne 41 d_md_keepsFixed_23 (by decide) (hA _ _) ⟨by omega, by omega⟩ (fun h23 => ?_) (fun h23 => ?_)
      · refine zi_iconst d_md_keepsFixed_41 ?_
        exact zE4 (zE5 k42 (by unfold b2i; first | (rw [if_pos (decide_eq_true (by clear hk; grind))]; (first | done | rfl)) | (rw [if_neg (fun g => absurd (of_decide_eq_true g) (by clear hk; grind))]; (first | done | rfl)))) (by refine ⟨?_, ?_, ?_, ?_, ?_, ?_, ?_, ?_, ?_, trivial⟩ <;> first | exact Or.inl rfl | exact Or.inr rfl) rfl
      · refine zr_aload_n d_md_keepsFixed_26 rfl ?_
        refine zi_getr (j := 9) d_md_keepsFixed_27 zC8 fl_md_27 (by decide) rfl rfl ?_
        refine zi_iload d_md_keepsFixed_30 rfl ?_
        refine zi_ialdE (x := τ 42 i) d_md_keepsFixed_32 rfl (by decide) (by omega) (by omega) (by rw [Int.toNat_natCast]) ?_
        refine zi_iload_n d_md_keepsFixed_33 rfl ?_
        refine zi_icmp_ne 41 d_md_keepsFixed_34 (by decide) (hA _ _) ⟨by omega, by omega⟩ (fun h34 => ?_) (fun h34 => ?_)
        · refine zi_iconst d_md_keepsFixed_41 ?_
          exact zE4 (zE5 k42 (by unfold b2i; first | (rw [if_pos (decide_eq_true (by clear hk; grind))]; (first | done | rfl)) | (rw [if_neg (fun g => absurd (of_decide_eq_true g) (by clear hk; grind))]; (first | done | rfl)))) (by refine ⟨?_, ?_, ?_, ?_, ?_, ?_, ?_, ?_, ?_, trivial⟩ <;> first | exact Or.inl rfl | exact Or.inr rfl) rfl
        · refine zi_iconst d_md_keepsFixed_37 ?_
          refine zr_goto 42 d_md_keepsFixed_38 (by decide) ?_
          exact zE4 (zE5 k42 (by unfold b2i; first | (rw [if_pos (decide_eq_true (by clear hk; grind))]; (first | done | rfl)) | (rw [if_neg (fun g => absurd (of_decide_eq_true g) (by clear hk; grind))]; (first | done | rfl)))) (by refine ⟨?_, ?_, ?_, ?_, ?_, ?_, ?_, ?_, ?_, trivial⟩ <;> first | exact Or.inl rfl | exact Or.inr rfl) rfl
  · refine zi_iload d_md_keepsFixed_6 rfl ?_
    refine zr_aload_n d_md_keepsFixed_8 rfl ?_
    refine zi_getiE (j := 7) (x := (f : Int)) d_md_keepsFixed_9 zC8 fl_md_110 (by decide) rfl rfl (C.f) ?_
    refine zi_icmp_ge 152 d_md_keepsFixed_12 (by decide) (by first | assumption | exact ⟨by omega, by omega⟩) (by first | assumption | exact ⟨by omega, by omega⟩) (fun h12 => ?_) (fun h12 => ?_)
    · refine zi_iload d_md_keepsFixed_152 rfl ?_
      exact zk_zret rfl d_md_keepsFixed_154 (Nat.zero_le _) (Nat.zero_le _) (n2i_0 _) rfl rfl
    · exact absurd h12 (by omega)
theorem md_mayPlay {l : Launch} {d : Nat} {τ : tS} {n R p f e : Nat} (C : Mo τ n R p f e) (hn8 : n ≤ 8) {h a r : Nat} (hh : h < 20) (ha : a < 20) (hr : r < 7) : zF l (d + 3) M_md_mayPlay [.ref 37, vi (h : Int), vi (a : Int), vi (r : Int)] (τ) (some (vi (if mayF τ p f r h a = true then 1 else 0))) (τ) := by
  refine zMet_of (ls := [.ref 37, vi (h : Int), vi (a : Int), vi (r : Int), .null]) pn_md rfl (by simp [vi, Value.category]) rfl rfl ?_
  have hA := C.A
  have hn := C.n
  have hn4 := C.n4
  have hn20 := C.n20
  have hR := C.R
  have hR38 := C.R38
  have hal := awr_le (awV τ a) r
  refine zr_aload_n d_md_mayPlay_0 rfl ?_
  refine zi_iload_n d_md_mayPlay_1 rfl ?_
  refine zi_iload_n d_md_mayPlay_2 rfl ?_
  refine zi_iconst d_md_mayPlay_3 ?_
  refine c_md_mayPlay_4 rfl rfl (md_isBanned C.z38 ⟨by omega, by omega⟩ ⟨by omega, by omega⟩ (Or.inl rfl)) ?_
  show zV _ _ _ _ _ (vi _ :: _) _ _ _
  rw [show (2 * (39 * (h : Int) + (r : Int)) + 0).toNat = 2 * (39 * h + r) by omega]
  refine zi_if_ne 33 d_md_mayPlay_7 (by decide) (hA _ _) (fun h7 => ?_) (fun h7 => ?_)
  · refine zi_iconst d_md_mayPlay_33 ?_
    refine zi_istore d_md_mayPlay_34 (by decide) rfl ?_
    refine zi_iload d_md_mayPlay_36 rfl ?_
    refine zi_if_eq 75 d_md_mayPlay_38 (by decide) ⟨by decide, by decide⟩ (fun h38 => ?_) (fun h38 => ?_)
    · refine zi_iconst d_md_mayPlay_75 ?_
      exact zk_zret rfl d_md_mayPlay_76 (Nat.zero_le _) (Nat.zero_le _) (by omega) (by unfold mayF; (try simp only [b2i, n2i] at *); grind) rfl
    · refine zr_aload_n d_md_mayPlay_41 rfl ?_
      refine zi_iload_n d_md_mayPlay_42 rfl ?_
      refine zi_iload_n d_md_mayPlay_43 rfl ?_
      refine zi_iload_n d_md_mayPlay_44 rfl ?_
      refine c_md_mayPlay_45 rfl rfl (md_keepsFixed C hn8 hh ha (by omega)) ?_
      refine zi_if_eq 75 d_md_mayPlay_48 (by decide) (n2i_in _) (fun h48 => ?_) (fun h48 => ?_)
      · refine zi_iconst d_md_mayPlay_75 ?_
        exact zk_zret rfl d_md_mayPlay_76 (Nat.zero_le _) (Nat.zero_le _) (by omega) (by unfold mayF; (try simp only [b2i, n2i] at *); grind) rfl
      · refine zr_aload_n d_md_mayPlay_51 rfl ?_
        refine zi_getiE (j := 11) (x := τ 37 11) d_md_mayPlay_52 zC8 fl_md_113 (by decide) rfl rfl (rfl) ?_
        refine zi_if_eq 71 d_md_mayPlay_55 (by decide) (hA _ _) (fun h55 => ?_) (fun h55 => ?_)
        · refine zi_iconst d_md_mayPlay_71 ?_
          refine zr_goto 76 d_md_mayPlay_72 (by decide) ?_
          exact zk_zret rfl d_md_mayPlay_76 (Nat.zero_le _) (Nat.zero_le _) (by omega) (by unfold mayF; (try simp only [b2i, n2i] at *); grind) rfl
        · refine zr_aload_n d_md_mayPlay_58 rfl ?_
          refine zi_iload_n d_md_mayPlay_59 rfl ?_
          refine zi_iload_n d_md_mayPlay_60 rfl ?_
          refine c_md_mayPlay_61 rfl rfl (md_awayBefore hA ha (by omega)) ?_
          refine zr_aload_n d_md_mayPlay_64 rfl ?_
          refine zi_getiE (j := 11) (x := τ 37 11) d_md_mayPlay_65 zC8 fl_md_113 (by decide) rfl rfl (rfl) ?_
          refine zi_icmp_ge 75 d_md_mayPlay_68 (by decide) ⟨by omega, by omega⟩ (hA _ _) (fun h68 => ?_) (fun h68 => ?_)
          · refine zi_iconst d_md_mayPlay_75 ?_
            exact zk_zret rfl d_md_mayPlay_76 (Nat.zero_le _) (Nat.zero_le _) (by omega) (by unfold mayF; (try simp only [b2i, n2i] at *); grind) rfl
          · refine zi_iconst d_md_mayPlay_71 ?_
            refine zr_goto 76 d_md_mayPlay_72 (by decide) ?_
            exact zk_zret rfl d_md_mayPlay_76 (Nat.zero_le _) (Nat.zero_le _) (by omega) (by unfold mayF; (try simp only [b2i, n2i] at *); grind) rfl
  · refine zr_aload_n d_md_mayPlay_10 rfl ?_
    refine zi_iload_n d_md_mayPlay_11 rfl ?_
    refine zi_iload_n d_md_mayPlay_12 rfl ?_
    refine zi_iconst d_md_mayPlay_13 ?_
    refine c_md_mayPlay_14 rfl rfl (md_isBanned C.z38 ⟨by omega, by omega⟩ ⟨by omega, by omega⟩ (Or.inr rfl)) ?_
    show zV _ _ _ _ _ (vi _ :: _) _ _ _
    rw [show (2 * (39 * (a : Int) + (r : Int)) + 1).toNat = 2 * (39 * a + r) + 1 by omega]
    refine zi_if_ne 33 d_md_mayPlay_17 (by decide) (hA _ _) (fun h17 => ?_) (fun h17 => ?_)
    · refine zi_iconst d_md_mayPlay_33 ?_
      refine zi_istore d_md_mayPlay_34 (by decide) rfl ?_
      refine zi_iload d_md_mayPlay_36 rfl ?_
      refine zi_if_eq 75 d_md_mayPlay_38 (by decide) ⟨by decide, by decide⟩ (fun h38 => ?_) (fun h38 => ?_)
      · refine zi_iconst d_md_mayPlay_75 ?_
        exact zk_zret rfl d_md_mayPlay_76 (Nat.zero_le _) (Nat.zero_le _) (by omega) (by unfold mayF; (try simp only [b2i, n2i] at *); grind) rfl
      · refine zr_aload_n d_md_mayPlay_41 rfl ?_
        refine zi_iload_n d_md_mayPlay_42 rfl ?_
        refine zi_iload_n d_md_mayPlay_43 rfl ?_
        refine zi_iload_n d_md_mayPlay_44 rfl ?_
        refine c_md_mayPlay_45 rfl rfl (md_keepsFixed C hn8 hh ha (by omega)) ?_
        refine zi_if_eq 75 d_md_mayPlay_48 (by decide) (n2i_in _) (fun h48 => ?_) (fun h48 => ?_)
        · refine zi_iconst d_md_mayPlay_75 ?_
          exact zk_zret rfl d_md_mayPlay_76 (Nat.zero_le _) (Nat.zero_le _) (by omega) (by unfold mayF; (try simp only [b2i, n2i] at *); grind) rfl
        · refine zr_aload_n d_md_mayPlay_51 rfl ?_
          refine zi_getiE (j := 11) (x := τ 37 11) d_md_mayPlay_52 zC8 fl_md_113 (by decide) rfl rfl (rfl) ?_
          refine zi_if_eq 71 d_md_mayPlay_55 (by decide) (hA _ _) (fun h55 => ?_) (fun h55 => ?_)
          · refine zi_iconst d_md_mayPlay_71 ?_
            refine zr_goto 76 d_md_mayPlay_72 (by decide) ?_
            exact zk_zret rfl d_md_mayPlay_76 (Nat.zero_le _) (Nat.zero_le _) (by omega) (by unfold mayF; (try simp only [b2i, n2i] at *); grind) rfl
          · refine zr_aload_n d_md_mayPlay_58 rfl ?_
            refine zi_iload_n d_md_mayPlay_59 rfl ?_
            refine zi_iload_n d_md_mayPlay_60 rfl ?_
            refine c_md_mayPlay_61 rfl rfl (md_awayBefore hA ha (by omega)) ?_
            refine zr_aload_n d_md_mayPlay_64 rfl ?_
            refine zi_getiE (j := 11) (x := τ 37 11) d_md_mayPlay_65 zC8 fl_md_113 (by decide) rfl rfl (rfl) ?_
            refine zi_icmp_ge 75 d_md_mayPlay_68 (by decide) ⟨by omega, by omega⟩ (hA _ _) (fun h68 => ?_) (fun h68 => ?_)
            · refine zi_iconst d_md_mayPlay_75 ?_
              exact zk_zret rfl d_md_mayPlay_76 (Nat.zero_le _) (Nat.zero_le _) (by omega) (by unfold mayF; (try simp only [b2i, n2i] at *); grind) rfl
            · refine zi_iconst d_md_mayPlay_71 ?_
              refine zr_goto 76 d_md_mayPlay_72 (by decide) ?_
              exact zk_zret rfl d_md_mayPlay_76 (Nat.zero_le _) (Nat.zero_le _) (by omega) (by unfold mayF; (try simp only [b2i, n2i] at *); grind) rfl
    · refine zr_aload_n d_md_mayPlay_20 rfl ?_
      refine zi_iload_n d_md_mayPlay_21 rfl ?_
      refine zi_iload_n d_md_mayPlay_22 rfl ?_
      refine c_md_mayPlay_23 rfl rfl (md_sharesWithOne C hn8 hh (by omega)) ?_
      refine zi_if_ne 33 d_md_mayPlay_26 (by decide) (b2i_in _) (fun h26 => ?_) (fun h26 => ?_)
      · refine zi_iconst d_md_mayPlay_33 ?_
        refine zi_istore d_md_mayPlay_34 (by decide) rfl ?_
        refine zi_iload d_md_mayPlay_36 rfl ?_
        refine zi_if_eq 75 d_md_mayPlay_38 (by decide) ⟨by decide, by decide⟩ (fun h38 => ?_) (fun h38 => ?_)
        · refine zi_iconst d_md_mayPlay_75 ?_
          exact zk_zret rfl d_md_mayPlay_76 (Nat.zero_le _) (Nat.zero_le _) (by omega) (by unfold mayF; (try simp only [b2i, n2i] at *); grind) rfl
        · refine zr_aload_n d_md_mayPlay_41 rfl ?_
          refine zi_iload_n d_md_mayPlay_42 rfl ?_
          refine zi_iload_n d_md_mayPlay_43 rfl ?_
          refine zi_iload_n d_md_mayPlay_44 rfl ?_
          refine c_md_mayPlay_45 rfl rfl (md_keepsFixed C hn8 hh ha (by omega)) ?_
          refine zi_if_eq 75 d_md_mayPlay_48 (by decide) (n2i_in _) (fun h48 => ?_) (fun h48 => ?_)
          · refine zi_iconst d_md_mayPlay_75 ?_
            exact zk_zret rfl d_md_mayPlay_76 (Nat.zero_le _) (Nat.zero_le _) (by omega) (by unfold mayF; (try simp only [b2i, n2i] at *); grind) rfl
          · refine zr_aload_n d_md_mayPlay_51 rfl ?_
            refine zi_getiE (j := 11) (x := τ 37 11) d_md_mayPlay_52 zC8 fl_md_113 (by decide) rfl rfl (rfl) ?_
            refine zi_if_eq 71 d_md_mayPlay_55 (by decide) (hA _ _) (fun h55 => ?_) (fun h55 => ?_)
            · refine zi_iconst d_md_mayPlay_71 ?_
              refine zr_goto 76 d_md_mayPlay_72 (by decide) ?_
              exact zk_zret rfl d_md_mayPlay_76 (Nat.zero_le _) (Nat.zero_le _) (by omega) (by unfold mayF; (try simp only [b2i, n2i] at *); grind) rfl
            · refine zr_aload_n d_md_mayPlay_58 rfl ?_
              refine zi_iload_n d_md_mayPlay_59 rfl ?_
              refine zi_iload_n d_md_mayPlay_60 rfl ?_
              refine c_md_mayPlay_61 rfl rfl (md_awayBefore hA ha (by omega)) ?_
              refine zr_aload_n d_md_mayPlay_64 rfl ?_
              refine zi_getiE (j := 11) (x := τ 37 11) d_md_mayPlay_65 zC8 fl_md_113 (by decide) rfl rfl (rfl) ?_
              refine zi_icmp_ge 75 d_md_mayPlay_68 (by decide) ⟨by omega, by omega⟩ (hA _ _) (fun h68 => ?_) (fun h68 => ?_)
              · refine zi_iconst d_md_mayPlay_75 ?_
                exact zk_zret rfl d_md_mayPlay_76 (Nat.zero_le _) (Nat.zero_le _) (by omega) (by unfold mayF; (try simp only [b2i, n2i] at *); grind) rfl
              · refine zi_iconst d_md_mayPlay_71 ?_
                refine zr_goto 76 d_md_mayPlay_72 (by decide) ?_
                exact zk_zret rfl d_md_mayPlay_76 (Nat.zero_le _) (Nat.zero_le _) (by omega) (by unfold mayF; (try simp only [b2i, n2i] at *); grind) rfl
      · refine zi_iconst d_md_mayPlay_29 ?_
        refine zr_goto 34 d_md_mayPlay_30 (by decide) ?_
        refine zi_istore d_md_mayPlay_34 (by decide) rfl ?_
        refine zi_iload d_md_mayPlay_36 rfl ?_
        refine zi_if_eq 75 d_md_mayPlay_38 (by decide) ⟨by decide, by decide⟩ (fun h38 => ?_) (fun h38 => ?_)
        · refine zi_iconst d_md_mayPlay_75 ?_
          exact zk_zret rfl d_md_mayPlay_76 (Nat.zero_le _) (Nat.zero_le _) (by omega) (by unfold mayF; (try simp only [b2i, n2i] at *); grind) rfl
        · refine zr_aload_n d_md_mayPlay_41 rfl ?_
          refine zi_iload_n d_md_mayPlay_42 rfl ?_
          refine zi_iload_n d_md_mayPlay_43 rfl ?_
          refine zi_iload_n d_md_mayPlay_44 rfl ?_
          refine c_md_mayPlay_45 rfl rfl (md_keepsFixed C hn8 hh ha (by omega)) ?_
          refine zi_if_eq 75 d_md_mayPlay_48 (by decide) (n2i_in _) (fun h48 => ?_) (fun h48 => ?_)
          · refine zi_iconst d_md_mayPlay_75 ?_
            exact zk_zret rfl d_md_mayPlay_76 (Nat.zero_le _) (Nat.zero_le _) (by omega) (by unfold mayF; (try simp only [b2i, n2i] at *); grind) rfl
          · refine zr_aload_n d_md_mayPlay_51 rfl ?_
            refine zi_getiE (j := 11) (x := τ 37 11) d_md_mayPlay_52 zC8 fl_md_113 (by decide) rfl rfl (rfl) ?_
            refine zi_if_eq 71 d_md_mayPlay_55 (by decide) (hA _ _) (fun h55 => ?_) (fun h55 => ?_)
            · refine zi_iconst d_md_mayPlay_71 ?_
              refine zr_goto 76 d_md_mayPlay_72 (by decide) ?_
              exact zk_zret rfl d_md_mayPlay_76 (Nat.zero_le _) (Nat.zero_le _) (by omega) (by unfold mayF; (try simp only [b2i, n2i] at *); grind) rfl
            · refine zr_aload_n d_md_mayPlay_58 rfl ?_
              refine zi_iload_n d_md_mayPlay_59 rfl ?_
              refine zi_iload_n d_md_mayPlay_60 rfl ?_
              refine c_md_mayPlay_61 rfl rfl (md_awayBefore hA ha (by omega)) ?_
              refine zr_aload_n d_md_mayPlay_64 rfl ?_
              refine zi_getiE (j := 11) (x := τ 37 11) d_md_mayPlay_65 zC8 fl_md_113 (by decide) rfl rfl (rfl) ?_
              refine zi_icmp_ge 75 d_md_mayPlay_68 (by decide) ⟨by omega, by omega⟩ (hA _ _) (fun h68 => ?_) (fun h68 => ?_)
              · refine zi_iconst d_md_mayPlay_75 ?_
                exact zk_zret rfl d_md_mayPlay_76 (Nat.zero_le _) (Nat.zero_le _) (by omega) (by unfold mayF; (try simp only [b2i, n2i] at *); grind) rfl
              · refine zi_iconst d_md_mayPlay_71 ?_
                refine zr_goto 76 d_md_mayPlay_72 (by decide) ?_
                exact zk_zret rfl d_md_mayPlay_76 (Nat.zero_le _) (Nat.zero_le _) (by omega) (by unfold mayF; (try simp only [b2i, n2i] at *); grind) rfl
def n3i (X : Bool) (b : Bool) : Int := if X = true ∧ b = false then 1 else 0
theorem n3i_in (X b : Bool) : zin (n3i X b) := by cases X <;> cases b <;> exact ⟨by decide, by decide⟩
theorem n3i_0 (X b : Bool) : n3i X b = 0 ∨ n3i X b = 1 := by cases X <;> cases b <;> simp [n3i]
theorem nlg3 {X : Bool} {Q : Nat → Bool} {t : Nat} {a : Int} (h : n3i X (anyN Q t) = 0 → a = 0) (h2 : ¬ n3i X (anyN Q t) = 0 → a = n2i (Q t)) : n3i X (anyN Q (t + 1)) = a := by
  rw [anyN]
  cases e : anyN Q t <;> cases X <;> cases e2 : Q t <;> simp_all [n3i, n2i]
theorem md_mayRest {l : Launch} {d : Nat} {τ : tS} {n R p f e : Nat} (C : Mo τ n R p f e) (hn8 : n ≤ 8) {t r : Nat} (ht : t < 20) (hr : r < 7) : zF l (d + 2) M_md_mayRest [.ref 37, vi (t : Int), vi (r : Int)] (τ) (some (vi (n3i (decide (n % 2 = 1 ∧ anyN (hbP τ t) r = false)) (anyN (mrP τ r t) f)))) (τ) := by
  refine zMet_of (ls := [.ref 37, vi (t : Int), vi (r : Int), .null, .null]) pn_md rfl (by simp [vi, Value.category]) rfl rfl ?_
  have hA := C.A
  have hn := C.n
  have hn4 := C.n4
  have hn20 := C.n20
  have hR := C.R
  have hR38 := C.R38
  have hf6 := C.f6
  refine zr_aload_n d_md_mayRest_0 rfl ?_
  refine zi_getiE (j := 1) (x := (n : Int)) d_md_mayRest_1 zC8 fl_md_7 (by decide) rfl rfl (hn) ?_
  refine zi_iconst d_md_mayRest_4 ?_
  refine zi_irem d_md_mayRest_5 ⟨by omega, by omega⟩ ⟨by decide, by decide⟩ ?_
  refine zi_iconst d_md_mayRest_6 ?_
  refine zi_icmp_ne 23 d_md_mayRest_7 (by decide) ⟨by omega, by omega⟩ ⟨by decide, by decide⟩ (fun h7 => ?_) (fun h7 => ?_)
  · refine zi_iconst d_md_mayRest_23 ?_
    refine zi_istore_n d_md_mayRest_24 (by decide) rfl ?_
    refine zi_iconst d_md_mayRest_25 ?_
    refine zi_istore d_md_mayRest_26 (by decide) rfl ?_
    have key := zup (P := fun (i : Nat) => zV l (d + 2) M_md_mayRest 28 [.ref 37, vi (t : Int), vi (r : Int), vi (n3i (decide (n % 2 = 1 ∧ anyN (hbP τ t) r = false)) (anyN (mrP τ r t) i)), vi (i : Int)] [] (τ) (0, 0) (.inl (some (vi (n3i (decide (n % 2 = 1 ∧ anyN (hbP τ t) r = false)) (anyN (mrP τ r t) f)))), (SH, zq τ), 0, 0)) (f) ?_ ?_ 0 (by omega)
    · exact zE4 key (by refine ⟨?_, ?_, ?_, ?_, ?_, trivial⟩ <;> first | exact Or.inl rfl | exact Or.inr rfl | exact Or.inr (congrArg vi (by rw [anyN]; unfold n3i; (try simp only [b2i] at *); grind))) rfl
    · intro i hi hk
      refine zi_iload d_md_mayRest_28 rfl ?_
      refine zr_aload_n d_md_mayRest_30 rfl ?_
      refine zi_getiE (j := 7) (x := (f : Int)) d_md_mayRest_31 zC8 fl_md_110 (by decide) rfl rfl (C.f) ?_
      refine zi_icmp_ge 74 d_md_mayRest_34 (by decide) (by first | assumption | exact ⟨by omega, by omega⟩) (by first | assumption | exact ⟨by omega, by omega⟩) (fun h34 => ?_) (fun h34 => ?_)
      · exact absurd h34 (by omega)
      · refine zi_iload_n d_md_mayRest_37 rfl ?_
        refine zi_if_eq 66 d_md_mayRest_38 (by decide) (n3i_in _ _) (fun h38 => ?_) (fun h38 => ?_)
        · refine zi_iconst d_md_mayRest_66 ?_
          refine zi_istore_n d_md_mayRest_67 (by decide) rfl ?_
          refine zi_iinc d_md_mayRest_68 (by decide) rfl rfl ?_
          refine zr_goto 28 d_md_mayRest_71 (by decide) ?_
          exact zE4 hk (by refine ⟨?_, ?_, ?_, ?_, ?_, trivial⟩ <;> first | exact Or.inl rfl | exact Or.inr rfl | exact Or.inr (congrArg vi (by refine nlg3 (fun g => ?_) (fun g => ?_); (first | rfl | exact absurd g h38); (first | exact absurd h38 g | (clear hk; unfold n2i mrP; grind))))) rfl
        · refine zr_aload_n d_md_mayRest_41 rfl ?_
          refine zi_getr (j := 10) d_md_mayRest_42 zC8 fl_md_30 (by decide) rfl rfl ?_
          refine zi_iload d_md_mayRest_45 rfl ?_
          refine zi_ialdE (x := τ 43 i) d_md_mayRest_47 rfl (by decide) (by omega) (by omega) (by rw [Int.toNat_natCast]) ?_
          refine zi_iload_n d_md_mayRest_48 rfl ?_
          refine zi_icmp_ne 62 d_md_mayRest_49 (by decide) (hA _ _) ⟨by omega, by omega⟩ (fun h49 => ?_) (fun h49 => ?_)
          · refine zi_iconst d_md_mayRest_62 ?_
            refine zr_goto 67 d_md_mayRest_63 (by decide) ?_
            refine zi_istore_n d_md_mayRest_67 (by decide) rfl ?_
            refine zi_iinc d_md_mayRest_68 (by decide) rfl rfl ?_
            refine zr_goto 28 d_md_mayRest_71 (by decide) ?_
            exact zE4 hk (by refine ⟨?_, ?_, ?_, ?_, ?_, trivial⟩ <;> first | exact Or.inl rfl | exact Or.inr rfl | exact Or.inr (congrArg vi (by refine nlg3 (fun g => ?_) (fun g => ?_); (first | rfl | exact absurd g h38); (first | exact absurd h38 g | (clear hk; unfold n2i mrP; grind))))) rfl
          · refine zr_aload_n d_md_mayRest_52 rfl ?_
            refine zi_iload d_md_mayRest_53 rfl ?_
            refine zi_iload_n d_md_mayRest_55 rfl ?_
            refine c_md_mayRest_56 rfl rfl (md_isOf hA (by omega) ⟨by omega, by omega⟩) ?_
            refine zi_if_ne 66 d_md_mayRest_59 (by decide) (by split <;> exact ⟨by decide, by decide⟩) (fun h59 => ?_) (fun h59 => ?_)
            · refine zi_iconst d_md_mayRest_66 ?_
              refine zi_istore_n d_md_mayRest_67 (by decide) rfl ?_
              refine zi_iinc d_md_mayRest_68 (by decide) rfl rfl ?_
              refine zr_goto 28 d_md_mayRest_71 (by decide) ?_
              exact zE4 hk (by refine ⟨?_, ?_, ?_, ?_, ?_, trivial⟩ <;> first | exact Or.inl rfl | exact Or.inr rfl | exact Or.inr (congrArg vi (by refine nlg3 (fun g => ?_) (fun g => ?_); (first | rfl | exact absurd g h38); (first | exact absurd h38 g | (clear hk; unfold n2i mrP; grind))))) rfl
            · refine zi_iconst d_md_mayRest_62 ?_
              refine zr_goto 67 d_md_mayRest_63 (by decide) ?_
              refine zi_istore_n d_md_mayRest_67 (by decide) rfl ?_
              refine zi_iinc d_md_mayRest_68 (by decide) rfl rfl ?_
              refine zr_goto 28 d_md_mayRest_71 (by decide) ?_
              exact zE4 hk (by refine ⟨?_, ?_, ?_, ?_, ?_, trivial⟩ <;> first | exact Or.inl rfl | exact Or.inr rfl | exact Or.inr (congrArg vi (by refine nlg3 (fun g => ?_) (fun g => ?_); (first | rfl | exact absurd g h38); (first | exact absurd h38 g | (clear hk; unfold n2i mrP; grind))))) rfl
    · refine zi_iload d_md_mayRest_28 rfl ?_
      refine zr_aload_n d_md_mayRest_30 rfl ?_
      refine zi_getiE (j := 7) (x := (f : Int)) d_md_mayRest_31 zC8 fl_md_110 (by decide) rfl rfl (C.f) ?_
      refine zi_icmp_ge 74 d_md_mayRest_34 (by decide) (by first | assumption | exact ⟨by omega, by omega⟩) (by first | assumption | exact ⟨by omega, by omega⟩) (fun h34 => ?_) (fun h34 => ?_)
      · refine zi_iload_n d_md_mayRest_74 rfl ?_
        exact zk_zret rfl d_md_mayRest_75 (Nat.zero_le _) (Nat.zero_le _) (n3i_0 _ _) rfl rfl
      · exact absurd h34 (by omega)
  · refine zr_aload_n d_md_mayRest_10 rfl ?_
    refine zi_iload_n d_md_mayRest_11 rfl ?_
    refine zi_iload_n d_md_mayRest_12 rfl ?_
    refine c_md_mayRest_13 rfl rfl (md_hadBye hA ht (by omega)) ?_
    refine zi_if_ne 23 d_md_mayRest_16 (by decide) (b2i_in _) (fun h16 => ?_) (fun h16 => ?_)
    · refine zi_iconst d_md_mayRest_23 ?_
      refine zi_istore_n d_md_mayRest_24 (by decide) rfl ?_
      refine zi_iconst d_md_mayRest_25 ?_
      refine zi_istore d_md_mayRest_26 (by decide) rfl ?_
      have key := zup (P := fun (i : Nat) => zV l (d + 2) M_md_mayRest 28 [.ref 37, vi (t : Int), vi (r : Int), vi (n3i (decide (n % 2 = 1 ∧ anyN (hbP τ t) r = false)) (anyN (mrP τ r t) i)), vi (i : Int)] [] (τ) (0, 0) (.inl (some (vi (n3i (decide (n % 2 = 1 ∧ anyN (hbP τ t) r = false)) (anyN (mrP τ r t) f)))), (SH, zq τ), 0, 0)) (f) ?_ ?_ 0 (by omega)
      · exact zE4 key (by refine ⟨?_, ?_, ?_, ?_, ?_, trivial⟩ <;> first | exact Or.inl rfl | exact Or.inr rfl | exact Or.inr (congrArg vi (by rw [anyN]; unfold n3i; (try simp only [b2i] at *); grind))) rfl
      · intro i hi hk
        refine zi_iload d_md_mayRest_28 rfl ?_
        refine zr_aload_n d_md_mayRest_30 rfl ?_
        refine zi_getiE (j := 7) (x := (f : Int)) d_md_mayRest_31 zC8 fl_md_110 (by decide) rfl rfl (C.f) ?_
        refine zi_icmp_ge 74 d_md_mayRest_34 (by decide) (by first | assumption | exact ⟨by omega, by omega⟩) (by first | assumption | exact ⟨by omega, by omega⟩) (fun h34 => ?_) (fun h34 => ?_)
        · exact absurd h34 (by omega)
        · refine zi_iload_n d_md_mayRest_37 rfl ?_
          refine zi_if_eq 66 d_md_mayRest_38 (by decide) (n3i_in _ _) (fun h38 => ?_) (fun h38 => ?_)
          · refine zi_iconst d_md_mayRest_66 ?_
            refine zi_istore_n d_md_mayRest_67 (by decide) rfl ?_
            refine zi_iinc d_md_mayRest_68 (by decide) rfl rfl ?_
            refine zr_goto 28 d_md_mayRest_71 (by decide) ?_
            exact zE4 hk (by refine ⟨?_, ?_, ?_, ?_, ?_, trivial⟩ <;> first | exact Or.inl rfl | exact Or.inr rfl | exact Or.inr (congrArg vi (by refine nlg3 (fun g => ?_) (fun g => ?_); (first | rfl | exact absurd g h38); (first | exact absurd h38 g | (clear hk; unfold n2i mrP; grind))))) rfl
          · refine zr_aload_n d_md_mayRest_41 rfl ?_
            refine zi_getr (j := 10) d_md_mayRest_42 zC8 fl_md_30 (by decide) rfl rfl ?_
            refine zi_iload d_md_mayRest_45 rfl ?_
            refine zi_ialdE (x := τ 43 i) d_md_mayRest_47 rfl (by decide) (by omega) (by omega) (by rw [Int.toNat_natCast]) ?_
            refine zi_iload_n d_md_mayRest_48 rfl ?_
            refine zi_icmp_ne 62 d_md_mayRest_49 (by decide) (hA _ _) ⟨by omega, by omega⟩ (fun h49 => ?_) (fun h49 => ?_)
            · refine zi_iconst d_md_mayRest_62 ?_
              refine zr_goto 67 d_md_mayRest_63 (by decide) ?_
              refine zi_istore_n d_md_mayRest_67 (by decide) rfl ?_
              refine zi_iinc d_md_mayRest_68 (by decide) rfl rfl ?_
              refine zr_goto 28 d_md_mayRest_71 (by decide) ?_
              exact zE4 hk (by refine ⟨?_, ?_, ?_, ?_, ?_, trivial⟩ <;> first | exact Or.inl rfl | exact Or.inr rfl | exact Or.inr (congrArg vi (by refine nlg3 (fun g => ?_) (fun g => ?_); (first | rfl | exact absurd g h38); (first | exact absurd h38 g | (clear hk; unfold n2i mrP; grind))))) rfl
            · refine zr_aload_n d_md_mayRest_52 rfl ?_
              refine zi_iload d_md_mayRest_53 rfl ?_
              refine zi_iload_n d_md_mayRest_55 rfl ?_
              refine c_md_mayRest_56 rfl rfl (md_isOf hA (by omega) ⟨by omega, by omega⟩) ?_
              refine zi_if_ne 66 d_md_mayRest_59 (by decide) (by split <;> exact ⟨by decide, by decide⟩) (fun h59 => ?_) (fun h59 => ?_)
              · refine zi_iconst d_md_mayRest_66 ?_
                refine zi_istore_n d_md_mayRest_67 (by decide) rfl ?_
                refine zi_iinc d_md_mayRest_68 (by decide) rfl rfl ?_
                refine zr_goto 28 d_md_mayRest_71 (by decide) ?_
                exact zE4 hk (by refine ⟨?_, ?_, ?_, ?_, ?_, trivial⟩ <;> first | exact Or.inl rfl | exact Or.inr rfl | exact Or.inr (congrArg vi (by refine nlg3 (fun g => ?_) (fun g => ?_); (first | rfl | exact absurd g h38); (first | exact absurd h38 g | (clear hk; unfold n2i mrP; grind))))) rfl
              · refine zi_iconst d_md_mayRest_62 ?_
                refine zr_goto 67 d_md_mayRest_63 (by decide) ?_
                refine zi_istore_n d_md_mayRest_67 (by decide) rfl ?_
                refine zi_iinc d_md_mayRest_68 (by decide) rfl rfl ?_
                refine zr_goto 28 d_md_mayRest_71 (by decide) ?_
                exact zE4 hk (by refine ⟨?_, ?_, ?_, ?_, ?_, trivial⟩ <;> first | exact Or.inl rfl | exact Or.inr rfl | exact Or.inr (congrArg vi (by refine nlg3 (fun g => ?_) (fun g => ?_); (first | rfl | exact absurd g h38); (first | exact absurd h38 g | (clear hk; unfold n2i mrP; grind))))) rfl
      · refine zi_iload d_md_mayRest_28 rfl ?_
        refine zr_aload_n d_md_mayRest_30 rfl ?_
        refine zi_getiE (j := 7) (x := (f : Int)) d_md_mayRest_31 zC8 fl_md_110 (by decide) rfl rfl (C.f) ?_
        refine zi_icmp_ge 74 d_md_mayRest_34 (by decide) (by first | assumption | exact ⟨by omega, by omega⟩) (by first | assumption | exact ⟨by omega, by omega⟩) (fun h34 => ?_) (fun h34 => ?_)
        · refine zi_iload_n d_md_mayRest_74 rfl ?_
          exact zk_zret rfl d_md_mayRest_75 (Nat.zero_le _) (Nat.zero_le _) (n3i_0 _ _) rfl rfl
        · exact absurd h34 (by omega)
    · refine zi_iconst d_md_mayRest_19 ?_
      refine zr_goto 24 d_md_mayRest_20 (by decide) ?_
      refine zi_istore_n d_md_mayRest_24 (by decide) rfl ?_
      refine zi_iconst d_md_mayRest_25 ?_
      refine zi_istore d_md_mayRest_26 (by decide) rfl ?_
      have key := zup (P := fun (i : Nat) => zV l (d + 2) M_md_mayRest 28 [.ref 37, vi (t : Int), vi (r : Int), vi (n3i (decide (n % 2 = 1 ∧ anyN (hbP τ t) r = false)) (anyN (mrP τ r t) i)), vi (i : Int)] [] (τ) (0, 0) (.inl (some (vi (n3i (decide (n % 2 = 1 ∧ anyN (hbP τ t) r = false)) (anyN (mrP τ r t) f)))), (SH, zq τ), 0, 0)) (f) ?_ ?_ 0 (by omega)
      · exact zE4 key (by refine ⟨?_, ?_, ?_, ?_, ?_, trivial⟩ <;> first | exact Or.inl rfl | exact Or.inr rfl | exact Or.inr (congrArg vi (by rw [anyN]; unfold n3i; (try simp only [b2i] at *); grind))) rfl
      · intro i hi hk
        refine zi_iload d_md_mayRest_28 rfl ?_
        refine zr_aload_n d_md_mayRest_30 rfl ?_
        refine zi_getiE (j := 7) (x := (f : Int)) d_md_mayRest_31 zC8 fl_md_110 (by decide) rfl rfl (C.f) ?_
        refine zi_icmp_ge 74 d_md_mayRest_34 (by decide) (by first | assumption | exact ⟨by omega, by omega⟩) (by first | assumption | exact ⟨by omega, by omega⟩) (fun h34 => ?_) (fun h34 => ?_)
        · exact absurd h34 (by omega)
        · refine zi_iload_n d_md_mayRest_37 rfl ?_
          refine zi_if_eq 66 d_md_mayRest_38 (by decide) (n3i_in _ _) (fun h38 => ?_) (fun h38 => ?_)
          · refine zi_iconst d_md_mayRest_66 ?_
            refine zi_istore_n d_md_mayRest_67 (by decide) rfl ?_
            refine zi_iinc d_md_mayRest_68 (by decide) rfl rfl ?_
            refine zr_goto 28 d_md_mayRest_71 (by decide) ?_
            exact zE4 hk (by refine ⟨?_, ?_, ?_, ?_, ?_, trivial⟩ <;> first | exact Or.inl rfl | exact Or.inr rfl | exact Or.inr (congrArg vi (by refine nlg3 (fun g => ?_) (fun g => ?_); (first | rfl | exact absurd g h38); (first | exact absurd h38 g | (clear hk; unfold n2i mrP; grind))))) rfl
          · refine zr_aload_n d_md_mayRest_41 rfl ?_
            refine zi_getr (j := 10) d_md_mayRest_42 zC8 fl_md_30 (by decide) rfl rfl ?_
            refine zi_iload d_md_mayRest_45 rfl ?_
            refine zi_ialdE (x := τ 43 i) d_md_mayRest_47 rfl (by decide) (by omega) (by omega) (by rw [Int.toNat_natCast]) ?_
            refine zi_iload_n d_md_mayRest_48 rfl ?_
            refine zi_icmp_ne 62 d_md_mayRest_49 (by decide) (hA _ _) ⟨by omega, by omega⟩ (fun h49 => ?_) (fun h49 => ?_)
            · refine zi_iconst d_md_mayRest_62 ?_
              refine zr_goto 67 d_md_mayRest_63 (by decide) ?_
              refine zi_istore_n d_md_mayRest_67 (by decide) rfl ?_
              refine zi_iinc d_md_mayRest_68 (by decide) rfl rfl ?_
              refine zr_goto 28 d_md_mayRest_71 (by decide) ?_
              exact zE4 hk (by refine ⟨?_, ?_, ?_, ?_, ?_, trivial⟩ <;> first | exact Or.inl rfl | exact Or.inr rfl | exact Or.inr (congrArg vi (by refine nlg3 (fun g => ?_) (fun g => ?_); (first | rfl | exact absurd g h38); (first | exact absurd h38 g | (clear hk; unfold n2i mrP; grind))))) rfl
            · refine zr_aload_n d_md_mayRest_52 rfl ?_
              refine zi_iload d_md_mayRest_53 rfl ?_
              refine zi_iload_n d_md_mayRest_55 rfl ?_
              refine c_md_mayRest_56 rfl rfl (md_isOf hA (by omega) ⟨by omega, by omega⟩) ?_
              refine zi_if_ne 66 d_md_mayRest_59 (by decide) (by split <;> exact ⟨by decide, by decide⟩) (fun h59 => ?_) (fun h59 => ?_)
              · refine zi_iconst d_md_mayRest_66 ?_
                refine zi_istore_n d_md_mayRest_67 (by decide) rfl ?_
                refine zi_iinc d_md_mayRest_68 (by decide) rfl rfl ?_
                refine zr_goto 28 d_md_mayRest_71 (by decide) ?_
                exact zE4 hk (by refine ⟨?_, ?_, ?_, ?_, ?_, trivial⟩ <;> first | exact Or.inl rfl | exact Or.inr rfl | exact Or.inr (congrArg vi (by refine nlg3 (fun g => ?_) (fun g => ?_); (first | rfl | exact absurd g h38); (first | exact absurd h38 g | (clear hk; unfold n2i mrP; grind))))) rfl
              · refine zi_iconst d_md_mayRest_62 ?_
                refine zr_goto 67 d_md_mayRest_63 (by decide) ?_
                refine zi_istore_n d_md_mayRest_67 (by decide) rfl ?_
                refine zi_iinc d_md_mayRest_68 (by decide) rfl rfl ?_
                refine zr_goto 28 d_md_mayRest_71 (by decide) ?_
                exact zE4 hk (by refine ⟨?_, ?_, ?_, ?_, ?_, trivial⟩ <;> first | exact Or.inl rfl | exact Or.inr rfl | exact Or.inr (congrArg vi (by refine nlg3 (fun g => ?_) (fun g => ?_); (first | rfl | exact absurd g h38); (first | exact absurd h38 g | (clear hk; unfold n2i mrP; grind))))) rfl
      · refine zi_iload d_md_mayRest_28 rfl ?_
        refine zr_aload_n d_md_mayRest_30 rfl ?_
        refine zi_getiE (j := 7) (x := (f : Int)) d_md_mayRest_31 zC8 fl_md_110 (by decide) rfl rfl (C.f) ?_
        refine zi_icmp_ge 74 d_md_mayRest_34 (by decide) (by first | assumption | exact ⟨by omega, by omega⟩) (by first | assumption | exact ⟨by omega, by omega⟩) (fun h34 => ?_) (fun h34 => ?_)
        · refine zi_iload_n d_md_mayRest_74 rfl ?_
          exact zk_zret rfl d_md_mayRest_75 (Nat.zero_le _) (Nat.zero_le _) (n3i_0 _ _) rfl rfl
        · exact absurd h34 (by omega)
theorem rest_eq (τ : tS) (n f r t : Nat) : n3i (decide (n % 2 = 1 ∧ anyN (hbP τ t) r = false)) (anyN (mrP τ r t) f) = b2i (restF τ n f r t) := by
  unfold n3i b2i restF
  by_cases h1 : n % 2 = 1 <;> cases h2 : anyN (hbP τ t) r <;> cases h3 : anyN (mrP τ r t) f <;> simp [h1]
theorem md_can {l : Launch} {d : Nat} {τ : tS} {n R p f e : Nat} (C : Mo τ n R p f e) (hn8 : n ≤ 8) {t r c : Nat} (ht : t < n) (hr : r < 7) (hc : c ≤ 2 * n) : zF l (d + 4) M_md_can [.ref 37, vi (t : Int), vi (r : Int), vi (c : Int)] (τ) (some (vi (b2i (canF τ n p f r t c)))) (τ) := by
  refine zMet_of (ls := [.ref 37, vi (t : Int), vi (r : Int), vi (c : Int), .null]) pn_md rfl (by simp [vi, Value.category]) rfl rfl ?_
  have hA := C.A
  have hn := C.n
  have hn4 := C.n4
  have hn20 := C.n20
  have hR := C.R
  have hR38 := C.R38
  refine zi_iload_n d_md_can_0 rfl ?_
  refine zi_iconst d_md_can_1 ?_
  refine zi_idiv d_md_can_2 ⟨by omega, by omega⟩ ⟨by decide, by decide⟩ ?_
  rw [show (c : Int) / 2 = ((c / 2 : Nat) : Int) by omega]
  refine zi_istore d_md_can_3 (by decide) rfl ?_
  refine zi_iload d_md_can_5 rfl ?_
  refine zr_aload_n d_md_can_7 rfl ?_
  refine zi_getiE (j := 1) (x := (n : Int)) d_md_can_8 zC8 fl_md_7 (by decide) rfl rfl (hn) ?_
  refine zi_icmp_ne 21 d_md_can_11 (by decide) (by first | assumption | exact ⟨by omega, by omega⟩) (by first | assumption | exact ⟨by omega, by omega⟩) (fun h11 => ?_) (fun h11 => ?_)
  · refine zi_iload d_md_can_21 rfl ?_
    refine zi_iload_n d_md_can_23 rfl ?_
    refine zi_icmp_eq 55 d_md_can_24 (by decide) ⟨by omega, by omega⟩ ⟨by omega, by omega⟩ (fun h24 => ?_) (fun h24 => ?_)
    · refine zi_iconst d_md_can_55 ?_
      exact zk_zret rfl d_md_can_56 (Nat.zero_le _) (Nat.zero_le _) (by omega) (by rw [canF, if_neg (by omega)]; unfold b2i at *; grind) rfl
    · refine zr_aload_n d_md_can_27 rfl ?_
      refine zi_getr (j := 23) d_md_can_28 zC8 fl_md_60 (by decide) rfl rfl ?_
      refine zi_bipush d_md_can_31 (by decide) ?_
      refine zi_iload_n d_md_can_33 rfl ?_
      refine zi_imul d_md_can_34 ?_
      refine zi_iload d_md_can_35 rfl ?_
      refine zi_iadd d_md_can_37 ?_
      refine zi_ialdE (x := τ 53 (20 * r + c / 2)) d_md_can_38 rfl (by decide) (by omega) (by omega) (by rw [ixm]) ?_
      refine zi_bipush d_md_can_39 (by decide) ?_
      refine zi_icmp_ne 55 d_md_can_41 (by decide) (hA _ _) ⟨by decide, by decide⟩ (fun h41 => ?_) (fun h41 => ?_)
      · refine zi_iconst d_md_can_55 ?_
        exact zk_zret rfl d_md_can_56 (Nat.zero_le _) (Nat.zero_le _) (by omega) (by rw [canF, if_neg (by omega)]; unfold b2i at *; grind) rfl
      · refine zr_aload_n d_md_can_44 rfl ?_
        refine zi_iload_n d_md_can_45 rfl ?_
        refine zi_iload d_md_can_46 rfl ?_
        refine zi_iload_n d_md_can_48 rfl ?_
        refine c_md_can_49 rfl rfl (md_haveMet hA (by omega) (by omega) (by omega)) ?_
        refine zi_if_eq 57 d_md_can_52 (by decide) (b2i_in _) (fun h52 => ?_) (fun h52 => ?_)
        · refine zi_iload_n d_md_can_57 rfl ?_
          refine zi_iconst d_md_can_58 ?_
          refine zi_irem d_md_can_59 ⟨by omega, by omega⟩ ⟨by decide, by decide⟩ ?_
          refine zi_if_ne 74 d_md_can_60 (by decide) ⟨by omega, by omega⟩ (fun h60 => ?_) (fun h60 => ?_)
          · have e24 : ¬ c / 2 = t := by omega
            have e52 : anyN (hmP τ t (c / 2)) (r + 1) = false := by cases e9 : anyN (hmP τ t (c / 2)) (r + 1); rfl; (rw [e9] at h52; exact absurd h52 (by decide))
            have hcan : canF τ n p f r t c = mayF τ p f r (c / 2) t := by unfold canF; rw [if_neg (show ¬ c / 2 = n by omega), if_neg (show ¬ c % 2 = 0 by omega), if_neg (show ¬ c % 2 = 0 by omega)]; simp [e24, h41, e52]
            refine zr_aload_n d_md_can_74 rfl ?_
            refine zi_iload d_md_can_75 rfl ?_
            refine zi_iload_n d_md_can_77 rfl ?_
            refine zi_iload_n d_md_can_78 rfl ?_
            refine c_md_can_79 rfl rfl (md_mayPlay C hn8 (by omega) (by omega) hr) ?_
            exact zk_zret rfl d_md_can_82 (Nat.zero_le _) (Nat.zero_le _) (by split <;> simp) (by rw [hcan]; rfl) rfl
          · have e24 : ¬ c / 2 = t := by omega
            have e52 : anyN (hmP τ t (c / 2)) (r + 1) = false := by cases e9 : anyN (hmP τ t (c / 2)) (r + 1); rfl; (rw [e9] at h52; exact absurd h52 (by decide))
            have hcan : canF τ n p f r t c = mayF τ p f r t (c / 2) := by unfold canF; rw [if_neg (show ¬ c / 2 = n by omega), if_pos (show c % 2 = 0 by omega), if_pos (show c % 2 = 0 by omega)]; simp [e24, h41, e52]
            refine zr_aload_n d_md_can_63 rfl ?_
            refine zi_iload_n d_md_can_64 rfl ?_
            refine zi_iload d_md_can_65 rfl ?_
            refine zi_iload_n d_md_can_67 rfl ?_
            refine c_md_can_68 rfl rfl (md_mayPlay C hn8 (by omega) (by omega) hr) ?_
            refine zr_goto 82 d_md_can_71 (by decide) ?_
            exact zk_zret rfl d_md_can_82 (Nat.zero_le _) (Nat.zero_le _) (by split <;> simp) (by rw [hcan]; rfl) rfl
        · refine zi_iconst d_md_can_55 ?_
          exact zk_zret rfl d_md_can_56 (Nat.zero_le _) (Nat.zero_le _) (by omega) (by rw [canF, if_neg (by omega)]; unfold b2i at *; grind) rfl
  · refine zr_aload_n d_md_can_14 rfl ?_
    refine zi_iload_n d_md_can_15 rfl ?_
    refine zi_iload_n d_md_can_16 rfl ?_
    refine c_md_can_17 rfl rfl (md_mayRest C hn8 (by omega) hr) ?_
    exact zk_zret rfl d_md_can_20 (Nat.zero_le _) (Nat.zero_le _) (n3i_0 _ _) (by rw [rest_eq, canF, if_pos (by omega)]) rfl
