/-! the reference: the table (written by wip/gen/t29.py) -/
def ctR (f : Nat → Int) (t : Nat) (s g : Int) : Nat → Int := fun j =>
  if j = 8 * t + 1 then f (8 * t + 1) + 1
  else if j = 8 * t + 2 then f (8 * t + 2) + (if g < s then 1 else 0)
  else if j = 8 * t + 3 then f (8 * t + 3) + (if s = g then 1 else 0)
  else if j = 8 * t + 4 then f (8 * t + 4) + (if s < g then 1 else 0)
  else if j = 8 * t + 5 then f (8 * t + 5) + s
  else if j = 8 * t + 6 then f (8 * t + 6) + g
  else if j = 8 * t + 7 then 3 * (f (8 * t + 2) + (if g < s then 1 else 0)) + (f (8 * t + 3) + (if s = g then 1 else 0))
  else f j
theorem ct_end (τ : tS) (t : Nat) (s g a b c x : Int) (h1 : a = if g < s then 1 else 0) (h2 : b = if s = g then 1 else 0) (h3 : c = if s < g then 1 else 0) : tU (tU (tU (tU (tU (tU (tU τ 60 (8 * t + 1) (τ 60 (8 * t + 1) + 1)) 60 (8 * t + 2) (τ 60 (8 * t + 2) + a)) 60 (8 * t + 3) (τ 60 (8 * t + 3) + b)) 60 (8 * t + 4) (τ 60 (8 * t + 4) + c)) 60 (8 * t + 5) (τ 60 (8 * t + 5) + s)) 60 (8 * t + 6) (τ 60 (8 * t + 6) + g)) 60 (8 * t + 7) (3 * (τ 60 (8 * t + 2) + a) + (τ 60 (8 * t + 3) + b)) = tR τ 60 (ctR (τ 60) t s g) := by
  funext q j
  by_cases hq : q = 60
  · subst hq
    simp only [tR, if_true, ctR, tU, true_and, ← h1, ← h2, ← h3]
    by_cases e1 : j = 8 * t + 1
    · subst e1; simp
    · by_cases e2 : j = 8 * t + 2
      · subst e2; simp
      · by_cases e3 : j = 8 * t + 3
        · subst e3; simp
        · by_cases e4 : j = 8 * t + 4
          · subst e4; simp
          · by_cases e5 : j = 8 * t + 5
            · subst e5; simp
            · by_cases e6 : j = 8 * t + 6
              · subst e6; simp
              · by_cases e7 : j = 8 * t + 7
                · subst e7; simp
                · simp [e1, e2, e3, e4, e5, e6, e7]
  · simp [tR, tU, hq]
theorem md_count {l : Launch} {d : Nat} {τ : tS} {t : Nat} {s g : Int} (ht : t < 20) (zs : zin s) (zg : zin g) : zF l (d + 1) M_md_count [.ref 37, vi (t : Int), vi s, vi g] τ none (tR τ 60 (ctR (τ 60) t s g)) := by
  refine zMet_of (ls := [.ref 37, vi (t : Int), vi s, vi g, .null]) pn_md rfl (by simp [vi, Value.category]) rfl rfl ?_
  have e1 : (8 * (t : Int) + 1).toNat = 8 * t + 1 := by omega
  have e2 : (8 * (t : Int) + 2).toNat = 8 * t + 2 := by omega
  have e3 : (8 * (t : Int) + 3).toNat = 8 * t + 3 := by omega
  have e4 : (8 * (t : Int) + 4).toNat = 8 * t + 4 := by omega
  have e5 : (8 * (t : Int) + 5).toNat = 8 * t + 5 := by omega
  have e6 : (8 * (t : Int) + 6).toNat = 8 * t + 6 := by omega
  have e7 : (8 * (t : Int) + 7).toNat = 8 * t + 7 := by omega
  by_cases c1 : g < s
  · refine zi_bipush d_md_count_0 (by decide) ?_
    refine zi_iload_n d_md_count_2 rfl ?_
    refine zi_imul d_md_count_3 ?_
    refine zi_istore d_md_count_4 (by decide) rfl ?_
    refine zr_aload_n d_md_count_6 rfl ?_
    refine zi_getr (j := 31) d_md_count_7 zC8 fl_md_81 (by decide) rfl rfl ?_
    refine zi_iload d_md_count_10 rfl ?_
    refine zi_iconst d_md_count_12 ?_
    refine zi_iadd d_md_count_13 ?_
    refine zr_dup2 d_md_count_14 rfl rfl ?_
    refine zi_ialdE (x := τ 60 (8 * t + 1)) d_md_count_15 rfl (by decide) (by omega) (by omega) (by simp [tU, e1, e2, e3, e4, e5, e6, e7]) ?_
    refine zi_iconst d_md_count_16 ?_
    refine zi_iadd d_md_count_17 ?_
    refine zi_iast d_md_count_18 rfl (by decide) (by omega) (by omega) ?_
    refine zr_aload_n d_md_count_19 rfl ?_
    refine zi_getr (j := 31) d_md_count_20 zC8 fl_md_81 (by decide) rfl rfl ?_
    refine zi_iload d_md_count_23 rfl ?_
    refine zi_iconst d_md_count_25 ?_
    refine zi_iadd d_md_count_26 ?_
    refine zi_iload_n d_md_count_27 rfl ?_
    refine zi_iload_n d_md_count_28 rfl ?_
    refine zi_icmp_le 46 d_md_count_29 (by decide) zs zg (fun h29 => ?_) (fun h29 => ?_)
    · exact absurd h29 (by omega)
    · refine zr_aload_n d_md_count_32 rfl ?_
      refine zi_getr (j := 31) d_md_count_33 zC8 fl_md_81 (by decide) rfl rfl ?_
      refine zi_iload d_md_count_36 rfl ?_
      refine zi_iconst d_md_count_38 ?_
      refine zi_iadd d_md_count_39 ?_
      refine zi_ialdE (x := τ 60 (8 * t + 2)) d_md_count_40 rfl (by decide) (by omega) (by omega) (by simp [tU, e1, e2, e3, e4, e5, e6, e7]) ?_
      refine zi_iconst d_md_count_41 ?_
      refine zi_iadd d_md_count_42 ?_
      refine zr_goto 55 d_md_count_43 (by decide) ?_
      refine zi_iast d_md_count_55 rfl (by decide) (by omega) (by omega) ?_
      refine zr_aload_n d_md_count_56 rfl ?_
      refine zi_getr (j := 31) d_md_count_57 zC8 fl_md_81 (by decide) rfl rfl ?_
      refine zi_iload d_md_count_60 rfl ?_
      refine zi_iconst d_md_count_62 ?_
      refine zi_iadd d_md_count_63 ?_
      refine zi_iload_n d_md_count_64 rfl ?_
      refine zi_iload_n d_md_count_65 rfl ?_
      refine zi_icmp_ne 83 d_md_count_66 (by decide) zs zg (fun h66 => ?_) (fun h66 => ?_)
      · refine zr_aload_n d_md_count_83 rfl ?_
        refine zi_getr (j := 31) d_md_count_84 zC8 fl_md_81 (by decide) rfl rfl ?_
        refine zi_iload d_md_count_87 rfl ?_
        refine zi_iconst d_md_count_89 ?_
        refine zi_iadd d_md_count_90 ?_
        refine zi_ialdE (x := τ 60 (8 * t + 3)) d_md_count_91 rfl (by decide) (by omega) (by omega) (by simp [tU, e1, e2, e3, e4, e5, e6, e7]) ?_
        refine zi_iast d_md_count_92 rfl (by decide) (by omega) (by omega) ?_
        refine zr_aload_n d_md_count_93 rfl ?_
        refine zi_getr (j := 31) d_md_count_94 zC8 fl_md_81 (by decide) rfl rfl ?_
        refine zi_iload d_md_count_97 rfl ?_
        refine zi_iconst d_md_count_99 ?_
        refine zi_iadd d_md_count_100 ?_
        refine zi_iload_n d_md_count_101 rfl ?_
        refine zi_iload_n d_md_count_102 rfl ?_
        refine zi_icmp_ge 120 d_md_count_103 (by decide) zs zg (fun h103 => ?_) (fun h103 => ?_)
        · refine zr_aload_n d_md_count_120 rfl ?_
          refine zi_getr (j := 31) d_md_count_121 zC8 fl_md_81 (by decide) rfl rfl ?_
          refine zi_iload d_md_count_124 rfl ?_
          refine zi_iconst d_md_count_126 ?_
          refine zi_iadd d_md_count_127 ?_
          refine zi_ialdE (x := τ 60 (8 * t + 4)) d_md_count_128 rfl (by decide) (by omega) (by omega) (by simp [tU, e1, e2, e3, e4, e5, e6, e7]) ?_
          refine zi_iast d_md_count_129 rfl (by decide) (by omega) (by omega) ?_
          refine zr_aload_n d_md_count_130 rfl ?_
          refine zi_getr (j := 31) d_md_count_131 zC8 fl_md_81 (by decide) rfl rfl ?_
          refine zi_iload d_md_count_134 rfl ?_
          refine zi_iconst d_md_count_136 ?_
          refine zi_iadd d_md_count_137 ?_
          refine zr_dup2 d_md_count_138 rfl rfl ?_
          refine zi_ialdE (x := τ 60 (8 * t + 5)) d_md_count_139 rfl (by decide) (by omega) (by omega) (by simp [tU, e1, e2, e3, e4, e5, e6, e7]) ?_
          refine zi_iload_n d_md_count_140 rfl ?_
          refine zi_iadd d_md_count_141 ?_
          refine zi_iast d_md_count_142 rfl (by decide) (by omega) (by omega) ?_
          refine zr_aload_n d_md_count_143 rfl ?_
          refine zi_getr (j := 31) d_md_count_144 zC8 fl_md_81 (by decide) rfl rfl ?_
          refine zi_iload d_md_count_147 rfl ?_
          refine zi_bipush d_md_count_149 (by decide) ?_
          refine zi_iadd d_md_count_151 ?_
          refine zr_dup2 d_md_count_152 rfl rfl ?_
          refine zi_ialdE (x := τ 60 (8 * t + 6)) d_md_count_153 rfl (by decide) (by omega) (by omega) (by simp [tU, e1, e2, e3, e4, e5, e6, e7]) ?_
          refine zi_iload_n d_md_count_154 rfl ?_
          refine zi_iadd d_md_count_155 ?_
          refine zi_iast d_md_count_156 rfl (by decide) (by omega) (by omega) ?_
          refine zr_aload_n d_md_count_157 rfl ?_
          refine zi_getr (j := 31) d_md_count_158 zC8 fl_md_81 (by decide) rfl rfl ?_
          refine zi_iload d_md_count_161 rfl ?_
          refine zi_bipush d_md_count_163 (by decide) ?_
          refine zi_iadd d_md_count_165 ?_
          refine zi_iconst d_md_count_166 ?_
          refine zr_aload_n d_md_count_167 rfl ?_
          refine zi_getr (j := 31) d_md_count_168 zC8 fl_md_81 (by decide) rfl rfl ?_
          refine zi_iload d_md_count_171 rfl ?_
          refine zi_iconst d_md_count_173 ?_
          refine zi_iadd d_md_count_174 ?_
          refine zi_ialdE (x := τ 60 (8 * t + 2) + 1) d_md_count_175 rfl (by decide) (by omega) (by omega) (by simp [tU, e1, e2, e3, e4, e5, e6, e7]) ?_
          refine zi_imul d_md_count_176 ?_
          refine zr_aload_n d_md_count_177 rfl ?_
          refine zi_getr (j := 31) d_md_count_178 zC8 fl_md_81 (by decide) rfl rfl ?_
          refine zi_iload d_md_count_181 rfl ?_
          refine zi_iconst d_md_count_183 ?_
          refine zi_iadd d_md_count_184 ?_
          refine zi_ialdE (x := τ 60 (8 * t + 3) + 0) d_md_count_185 rfl (by decide) (by omega) (by omega) (by simp [tU, e1, e2, e3, e4, e5, e6, e7]) ?_
          refine zi_iadd d_md_count_186 ?_
          refine zi_iast d_md_count_187 rfl (by decide) (by omega) (by omega) ?_
          exact zk_vret rfl d_md_count_188 (Nat.zero_le _) (Nat.zero_le _) (by simp only [e1, e2, e3, e4, e5, e6, e7]; have hh := ct_end τ t s g 1 0 0 0 (by grind) (by grind) (by grind); simp only [Int.add_zero] at hh ⊢; exact hh)
        · exact absurd h103 (by omega)
      · exact absurd h66 (by omega)
  · by_cases c2 : s = g
    · refine zi_bipush d_md_count_0 (by decide) ?_
      refine zi_iload_n d_md_count_2 rfl ?_
      refine zi_imul d_md_count_3 ?_
      refine zi_istore d_md_count_4 (by decide) rfl ?_
      refine zr_aload_n d_md_count_6 rfl ?_
      refine zi_getr (j := 31) d_md_count_7 zC8 fl_md_81 (by decide) rfl rfl ?_
      refine zi_iload d_md_count_10 rfl ?_
      refine zi_iconst d_md_count_12 ?_
      refine zi_iadd d_md_count_13 ?_
      refine zr_dup2 d_md_count_14 rfl rfl ?_
      refine zi_ialdE (x := τ 60 (8 * t + 1)) d_md_count_15 rfl (by decide) (by omega) (by omega) (by simp [tU, e1, e2, e3, e4, e5, e6, e7]) ?_
      refine zi_iconst d_md_count_16 ?_
      refine zi_iadd d_md_count_17 ?_
      refine zi_iast d_md_count_18 rfl (by decide) (by omega) (by omega) ?_
      refine zr_aload_n d_md_count_19 rfl ?_
      refine zi_getr (j := 31) d_md_count_20 zC8 fl_md_81 (by decide) rfl rfl ?_
      refine zi_iload d_md_count_23 rfl ?_
      refine zi_iconst d_md_count_25 ?_
      refine zi_iadd d_md_count_26 ?_
      refine zi_iload_n d_md_count_27 rfl ?_
      refine zi_iload_n d_md_count_28 rfl ?_
      refine zi_icmp_le 46 d_md_count_29 (by decide) zs zg (fun h29 => ?_) (fun h29 => ?_)
      · refine zr_aload_n d_md_count_46 rfl ?_
        refine zi_getr (j := 31) d_md_count_47 zC8 fl_md_81 (by decide) rfl rfl ?_
        refine zi_iload d_md_count_50 rfl ?_
        refine zi_iconst d_md_count_52 ?_
        refine zi_iadd d_md_count_53 ?_
        refine zi_ialdE (x := τ 60 (8 * t + 2)) d_md_count_54 rfl (by decide) (by omega) (by omega) (by simp [tU, e1, e2, e3, e4, e5, e6, e7]) ?_
        refine zi_iast d_md_count_55 rfl (by decide) (by omega) (by omega) ?_
        refine zr_aload_n d_md_count_56 rfl ?_
        refine zi_getr (j := 31) d_md_count_57 zC8 fl_md_81 (by decide) rfl rfl ?_
        refine zi_iload d_md_count_60 rfl ?_
        refine zi_iconst d_md_count_62 ?_
        refine zi_iadd d_md_count_63 ?_
        refine zi_iload_n d_md_count_64 rfl ?_
        refine zi_iload_n d_md_count_65 rfl ?_
        refine zi_icmp_ne 83 d_md_count_66 (by decide) zs zg (fun h66 => ?_) (fun h66 => ?_)
        · exact absurd h66 (by omega)
        · refine zr_aload_n d_md_count_69 rfl ?_
          refine zi_getr (j := 31) d_md_count_70 zC8 fl_md_81 (by decide) rfl rfl ?_
          refine zi_iload d_md_count_73 rfl ?_
          refine zi_iconst d_md_count_75 ?_
          refine zi_iadd d_md_count_76 ?_
          refine zi_ialdE (x := τ 60 (8 * t + 3)) d_md_count_77 rfl (by decide) (by omega) (by omega) (by simp [tU, e1, e2, e3, e4, e5, e6, e7]) ?_
          refine zi_iconst d_md_count_78 ?_
          refine zi_iadd d_md_count_79 ?_
          refine zr_goto 92 d_md_count_80 (by decide) ?_
          refine zi_iast d_md_count_92 rfl (by decide) (by omega) (by omega) ?_
          refine zr_aload_n d_md_count_93 rfl ?_
          refine zi_getr (j := 31) d_md_count_94 zC8 fl_md_81 (by decide) rfl rfl ?_
          refine zi_iload d_md_count_97 rfl ?_
          refine zi_iconst d_md_count_99 ?_
          refine zi_iadd d_md_count_100 ?_
          refine zi_iload_n d_md_count_101 rfl ?_
          refine zi_iload_n d_md_count_102 rfl ?_
          refine zi_icmp_ge 120 d_md_count_103 (by decide) zs zg (fun h103 => ?_) (fun h103 => ?_)
          · refine zr_aload_n d_md_count_120 rfl ?_
            refine zi_getr (j := 31) d_md_count_121 zC8 fl_md_81 (by decide) rfl rfl ?_
            refine zi_iload d_md_count_124 rfl ?_
            refine zi_iconst d_md_count_126 ?_
            refine zi_iadd d_md_count_127 ?_
            refine zi_ialdE (x := τ 60 (8 * t + 4)) d_md_count_128 rfl (by decide) (by omega) (by omega) (by simp [tU, e1, e2, e3, e4, e5, e6, e7]) ?_
            refine zi_iast d_md_count_129 rfl (by decide) (by omega) (by omega) ?_
            refine zr_aload_n d_md_count_130 rfl ?_
            refine zi_getr (j := 31) d_md_count_131 zC8 fl_md_81 (by decide) rfl rfl ?_
            refine zi_iload d_md_count_134 rfl ?_
            refine zi_iconst d_md_count_136 ?_
            refine zi_iadd d_md_count_137 ?_
            refine zr_dup2 d_md_count_138 rfl rfl ?_
            refine zi_ialdE (x := τ 60 (8 * t + 5)) d_md_count_139 rfl (by decide) (by omega) (by omega) (by simp [tU, e1, e2, e3, e4, e5, e6, e7]) ?_
            refine zi_iload_n d_md_count_140 rfl ?_
            refine zi_iadd d_md_count_141 ?_
            refine zi_iast d_md_count_142 rfl (by decide) (by omega) (by omega) ?_
            refine zr_aload_n d_md_count_143 rfl ?_
            refine zi_getr (j := 31) d_md_count_144 zC8 fl_md_81 (by decide) rfl rfl ?_
            refine zi_iload d_md_count_147 rfl ?_
            refine zi_bipush d_md_count_149 (by decide) ?_
            refine zi_iadd d_md_count_151 ?_
            refine zr_dup2 d_md_count_152 rfl rfl ?_
            refine zi_ialdE (x := τ 60 (8 * t + 6)) d_md_count_153 rfl (by decide) (by omega) (by omega) (by simp [tU, e1, e2, e3, e4, e5, e6, e7]) ?_
            refine zi_iload_n d_md_count_154 rfl ?_
            refine zi_iadd d_md_count_155 ?_
            refine zi_iast d_md_count_156 rfl (by decide) (by omega) (by omega) ?_
            refine zr_aload_n d_md_count_157 rfl ?_
            refine zi_getr (j := 31) d_md_count_158 zC8 fl_md_81 (by decide) rfl rfl ?_
            refine zi_iload d_md_count_161 rfl ?_
            refine zi_bipush d_md_count_163 (by decide) ?_
            refine zi_iadd d_md_count_165 ?_
            refine zi_iconst d_md_count_166 ?_
            refine zr_aload_n d_md_count_167 rfl ?_
            refine zi_getr (j := 31) d_md_count_168 zC8 fl_md_81 (by decide) rfl rfl ?_
            refine zi_iload d_md_count_171 rfl ?_
            refine zi_iconst d_md_count_173 ?_
            refine zi_iadd d_md_count_174 ?_
            refine zi_ialdE (x := τ 60 (8 * t + 2) + 0) d_md_count_175 rfl (by decide) (by omega) (by omega) (by simp [tU, e1, e2, e3, e4, e5, e6, e7]) ?_
            refine zi_imul d_md_count_176 ?_
            refine zr_aload_n d_md_count_177 rfl ?_
            refine zi_getr (j := 31) d_md_count_178 zC8 fl_md_81 (by decide) rfl rfl ?_
            refine zi_iload d_md_count_181 rfl ?_
            refine zi_iconst d_md_count_183 ?_
            refine zi_iadd d_md_count_184 ?_
            refine zi_ialdE (x := τ 60 (8 * t + 3) + 1) d_md_count_185 rfl (by decide) (by omega) (by omega) (by simp [tU, e1, e2, e3, e4, e5, e6, e7]) ?_
            refine zi_iadd d_md_count_186 ?_
            refine zi_iast d_md_count_187 rfl (by decide) (by omega) (by omega) ?_
            exact zk_vret rfl d_md_count_188 (Nat.zero_le _) (Nat.zero_le _) (by simp only [e1, e2, e3, e4, e5, e6, e7]; have hh := ct_end τ t s g 0 1 0 0 (by grind) (by grind) (by grind); simp only [Int.add_zero] at hh ⊢; exact hh)
          · exact absurd h103 (by omega)
      · exact absurd h29 (by omega)
    · refine zi_bipush d_md_count_0 (by decide) ?_
      refine zi_iload_n d_md_count_2 rfl ?_
      refine zi_imul d_md_count_3 ?_
      refine zi_istore d_md_count_4 (by decide) rfl ?_
      refine zr_aload_n d_md_count_6 rfl ?_
      refine zi_getr (j := 31) d_md_count_7 zC8 fl_md_81 (by decide) rfl rfl ?_
      refine zi_iload d_md_count_10 rfl ?_
      refine zi_iconst d_md_count_12 ?_
      refine zi_iadd d_md_count_13 ?_
      refine zr_dup2 d_md_count_14 rfl rfl ?_
      refine zi_ialdE (x := τ 60 (8 * t + 1)) d_md_count_15 rfl (by decide) (by omega) (by omega) (by simp [tU, e1, e2, e3, e4, e5, e6, e7]) ?_
      refine zi_iconst d_md_count_16 ?_
      refine zi_iadd d_md_count_17 ?_
      refine zi_iast d_md_count_18 rfl (by decide) (by omega) (by omega) ?_
      refine zr_aload_n d_md_count_19 rfl ?_
      refine zi_getr (j := 31) d_md_count_20 zC8 fl_md_81 (by decide) rfl rfl ?_
      refine zi_iload d_md_count_23 rfl ?_
      refine zi_iconst d_md_count_25 ?_
      refine zi_iadd d_md_count_26 ?_
      refine zi_iload_n d_md_count_27 rfl ?_
      refine zi_iload_n d_md_count_28 rfl ?_
      refine zi_icmp_le 46 d_md_count_29 (by decide) zs zg (fun h29 => ?_) (fun h29 => ?_)
      · refine zr_aload_n d_md_count_46 rfl ?_
        refine zi_getr (j := 31) d_md_count_47 zC8 fl_md_81 (by decide) rfl rfl ?_
        refine zi_iload d_md_count_50 rfl ?_
        refine zi_iconst d_md_count_52 ?_
        refine zi_iadd d_md_count_53 ?_
        refine zi_ialdE (x := τ 60 (8 * t + 2)) d_md_count_54 rfl (by decide) (by omega) (by omega) (by simp [tU, e1, e2, e3, e4, e5, e6, e7]) ?_
        refine zi_iast d_md_count_55 rfl (by decide) (by omega) (by omega) ?_
        refine zr_aload_n d_md_count_56 rfl ?_
        refine zi_getr (j := 31) d_md_count_57 zC8 fl_md_81 (by decide) rfl rfl ?_
        refine zi_iload d_md_count_60 rfl ?_
        refine zi_iconst d_md_count_62 ?_
        refine zi_iadd d_md_count_63 ?_
        refine zi_iload_n d_md_count_64 rfl ?_
        refine zi_iload_n d_md_count_65 rfl ?_
        refine zi_icmp_ne 83 d_md_count_66 (by decide) zs zg (fun h66 => ?_) (fun h66 => ?_)
        · refine zr_aload_n d_md_count_83 rfl ?_
          refine zi_getr (j := 31) d_md_count_84 zC8 fl_md_81 (by decide) rfl rfl ?_
          refine zi_iload d_md_count_87 rfl ?_
          refine zi_iconst d_md_count_89 ?_
          refine zi_iadd d_md_count_90 ?_
          refine zi_ialdE (x := τ 60 (8 * t + 3)) d_md_count_91 rfl (by decide) (by omega) (by omega) (by simp [tU, e1, e2, e3, e4, e5, e6, e7]) ?_
          refine zi_iast d_md_count_92 rfl (by decide) (by omega) (by omega) ?_
          refine zr_aload_n d_md_count_93 rfl ?_
          refine zi_getr (j := 31) d_md_count_94 zC8 fl_md_81 (by decide) rfl rfl ?_
          refine zi_iload d_md_count_97 rfl ?_
          refine zi_iconst d_md_count_99 ?_
          refine zi_iadd d_md_count_100 ?_
          refine zi_iload_n d_md_count_101 rfl ?_
          refine zi_iload_n d_md_count_102 rfl ?_
          refine zi_icmp_ge 120 d_md_count_103 (by decide) zs zg (fun h103 => ?_) (fun h103 => ?_)
          · exact absurd h103 (by omega)
          · refine zr_aload_n d_md_count_106 rfl ?_
            refine zi_getr (j := 31) d_md_count_107 zC8 fl_md_81 (by decide) rfl rfl ?_
            refine zi_iload d_md_count_110 rfl ?_
            refine zi_iconst d_md_count_112 ?_
            refine zi_iadd d_md_count_113 ?_
            refine zi_ialdE (x := τ 60 (8 * t + 4)) d_md_count_114 rfl (by decide) (by omega) (by omega) (by simp [tU, e1, e2, e3, e4, e5, e6, e7]) ?_
            refine zi_iconst d_md_count_115 ?_
            refine zi_iadd d_md_count_116 ?_
            refine zr_goto 129 d_md_count_117 (by decide) ?_
            refine zi_iast d_md_count_129 rfl (by decide) (by omega) (by omega) ?_
            refine zr_aload_n d_md_count_130 rfl ?_
            refine zi_getr (j := 31) d_md_count_131 zC8 fl_md_81 (by decide) rfl rfl ?_
            refine zi_iload d_md_count_134 rfl ?_
            refine zi_iconst d_md_count_136 ?_
            refine zi_iadd d_md_count_137 ?_
            refine zr_dup2 d_md_count_138 rfl rfl ?_
            refine zi_ialdE (x := τ 60 (8 * t + 5)) d_md_count_139 rfl (by decide) (by omega) (by omega) (by simp [tU, e1, e2, e3, e4, e5, e6, e7]) ?_
            refine zi_iload_n d_md_count_140 rfl ?_
            refine zi_iadd d_md_count_141 ?_
            refine zi_iast d_md_count_142 rfl (by decide) (by omega) (by omega) ?_
            refine zr_aload_n d_md_count_143 rfl ?_
            refine zi_getr (j := 31) d_md_count_144 zC8 fl_md_81 (by decide) rfl rfl ?_
            refine zi_iload d_md_count_147 rfl ?_
            refine zi_bipush d_md_count_149 (by decide) ?_
            refine zi_iadd d_md_count_151 ?_
            refine zr_dup2 d_md_count_152 rfl rfl ?_
            refine zi_ialdE (x := τ 60 (8 * t + 6)) d_md_count_153 rfl (by decide) (by omega) (by omega) (by simp [tU, e1, e2, e3, e4, e5, e6, e7]) ?_
            refine zi_iload_n d_md_count_154 rfl ?_
            refine zi_iadd d_md_count_155 ?_
            refine zi_iast d_md_count_156 rfl (by decide) (by omega) (by omega) ?_
            refine zr_aload_n d_md_count_157 rfl ?_
            refine zi_getr (j := 31) d_md_count_158 zC8 fl_md_81 (by decide) rfl rfl ?_
            refine zi_iload d_md_count_161 rfl ?_
            refine zi_bipush d_md_count_163 (by decide) ?_
            refine zi_iadd d_md_count_165 ?_
            refine zi_iconst d_md_count_166 ?_
            refine zr_aload_n d_md_count_167 rfl ?_
            refine zi_getr (j := 31) d_md_count_168 zC8 fl_md_81 (by decide) rfl rfl ?_
            refine zi_iload d_md_count_171 rfl ?_
            refine zi_iconst d_md_count_173 ?_
            refine zi_iadd d_md_count_174 ?_
            refine zi_ialdE (x := τ 60 (8 * t + 2) + 0) d_md_count_175 rfl (by decide) (by omega) (by omega) (by simp [tU, e1, e2, e3, e4, e5, e6, e7]) ?_
            refine zi_imul d_md_count_176 ?_
            refine zr_aload_n d_md_count_177 rfl ?_
            refine zi_getr (j := 31) d_md_count_178 zC8 fl_md_81 (by decide) rfl rfl ?_
            refine zi_iload d_md_count_181 rfl ?_
            refine zi_iconst d_md_count_183 ?_
            refine zi_iadd d_md_count_184 ?_
            refine zi_ialdE (x := τ 60 (8 * t + 3) + 0) d_md_count_185 rfl (by decide) (by omega) (by omega) (by simp [tU, e1, e2, e3, e4, e5, e6, e7]) ?_
            refine zi_iadd d_md_count_186 ?_
            refine zi_iast d_md_count_187 rfl (by decide) (by omega) (by omega) ?_
            exact zk_vret rfl d_md_count_188 (Nat.zero_le _) (Nat.zero_le _) (by simp only [e1, e2, e3, e4, e5, e6, e7]; have hh := ct_end τ t s g 0 0 1 0 (by grind) (by grind) (by grind); simp only [Int.add_zero] at hh ⊢; exact hh)
        · exact absurd h66 (by omega)
      · exact absurd h29 (by omega)
def mbefP (f : Nat → Int) (a b : Nat) : Bool := decide (if ¬ f (8 * a + 7) - f (8 * b + 7) = 0 then 0 < f (8 * a + 7) - f (8 * b + 7) else if ¬ f (8 * a + 5) - f (8 * a + 6) - f (8 * b + 5) + f (8 * b + 6) = 0 then 0 < f (8 * a + 5) - f (8 * a + 6) - f (8 * b + 5) + f (8 * b + 6) else if ¬ f (8 * a + 5) - f (8 * b + 5) = 0 then 0 < f (8 * a + 5) - f (8 * b + 5) else a < b)
theorem md_isBefore {l : Launch} {d : Nat} {τ : tS} (hB : ∀ j, -1000000 ≤ τ 60 j ∧ τ 60 j ≤ 1000000) {a b : Nat} (ha : a < 20) (hb : b < 20) : zF l (d + 1) M_md_isBefore [.ref 37, vi (a : Int), vi (b : Int)] (τ) (some (vi (if mbefP (τ 60) a b then 1 else 0))) (τ) := by
  refine zMet_of (ls := [.ref 37, vi (a : Int), vi (b : Int), .null, .null, .null]) pn_md rfl (by simp [vi, Value.category]) rfl rfl ?_
  have Ba5 := hB (8 * a + 5)
  have Ba6 := hB (8 * a + 6)
  have Ba7 := hB (8 * a + 7)
  have Bb5 := hB (8 * b + 5)
  have Bb6 := hB (8 * b + 6)
  have Bb7 := hB (8 * b + 7)
  refine zr_aload_n d_md_isBefore_0 rfl ?_
  refine zi_getr (j := 31) d_md_isBefore_1 zC8 fl_md_81 (by decide) rfl rfl ?_
  refine zi_bipush d_md_isBefore_4 (by decide) ?_
  refine zi_iload_n d_md_isBefore_6 rfl ?_
  refine zi_imul d_md_isBefore_7 ?_
  refine zi_bipush d_md_isBefore_8 (by decide) ?_
  refine zi_iadd d_md_isBefore_10 ?_
  refine zi_ialdE (x := τ 60 (8 * a + 7)) d_md_isBefore_11 rfl (by decide) (by omega) (by omega) (by rw [show (8 * (a : Int) + 7).toNat = 8 * a + 7 by omega]) ?_
  refine zr_aload_n d_md_isBefore_12 rfl ?_
  refine zi_getr (j := 31) d_md_isBefore_13 zC8 fl_md_81 (by decide) rfl rfl ?_
  refine zi_bipush d_md_isBefore_16 (by decide) ?_
  refine zi_iload_n d_md_isBefore_18 rfl ?_
  refine zi_imul d_md_isBefore_19 ?_
  refine zi_bipush d_md_isBefore_20 (by decide) ?_
  refine zi_iadd d_md_isBefore_22 ?_
  refine zi_ialdE (x := τ 60 (8 * b + 7)) d_md_isBefore_23 rfl (by decide) (by omega) (by omega) (by rw [show (8 * (b : Int) + 7).toNat = 8 * b + 7 by omega]) ?_
  refine zi_isub d_md_isBefore_24 ?_
  refine zi_istore_n d_md_isBefore_25 (by decide) rfl ?_
  refine zr_aload_n d_md_isBefore_26 rfl ?_
  refine zi_getr (j := 31) d_md_isBefore_27 zC8 fl_md_81 (by decide) rfl rfl ?_
  refine zi_bipush d_md_isBefore_30 (by decide) ?_
  refine zi_iload_n d_md_isBefore_32 rfl ?_
  refine zi_imul d_md_isBefore_33 ?_
  refine zi_iconst d_md_isBefore_34 ?_
  refine zi_iadd d_md_isBefore_35 ?_
  refine zi_ialdE (x := τ 60 (8 * a + 5)) d_md_isBefore_36 rfl (by decide) (by omega) (by omega) (by rw [show (8 * (a : Int) + 5).toNat = 8 * a + 5 by omega]) ?_
  refine zr_aload_n d_md_isBefore_37 rfl ?_
  refine zi_getr (j := 31) d_md_isBefore_38 zC8 fl_md_81 (by decide) rfl rfl ?_
  refine zi_bipush d_md_isBefore_41 (by decide) ?_
  refine zi_iload_n d_md_isBefore_43 rfl ?_
  refine zi_imul d_md_isBefore_44 ?_
  refine zi_bipush d_md_isBefore_45 (by decide) ?_
  refine zi_iadd d_md_isBefore_47 ?_
  refine zi_ialdE (x := τ 60 (8 * a + 6)) d_md_isBefore_48 rfl (by decide) (by omega) (by omega) (by rw [show (8 * (a : Int) + 6).toNat = 8 * a + 6 by omega]) ?_
  refine zi_isub d_md_isBefore_49 ?_
  refine zr_aload_n d_md_isBefore_50 rfl ?_
  refine zi_getr (j := 31) d_md_isBefore_51 zC8 fl_md_81 (by decide) rfl rfl ?_
  refine zi_bipush d_md_isBefore_54 (by decide) ?_
  refine zi_iload_n d_md_isBefore_56 rfl ?_
  refine zi_imul d_md_isBefore_57 ?_
  refine zi_iconst d_md_isBefore_58 ?_
  refine zi_iadd d_md_isBefore_59 ?_
  refine zi_ialdE (x := τ 60 (8 * b + 5)) d_md_isBefore_60 rfl (by decide) (by omega) (by omega) (by rw [show (8 * (b : Int) + 5).toNat = 8 * b + 5 by omega]) ?_
  refine zi_isub d_md_isBefore_61 ?_
  refine zr_aload_n d_md_isBefore_62 rfl ?_
  refine zi_getr (j := 31) d_md_isBefore_63 zC8 fl_md_81 (by decide) rfl rfl ?_
  refine zi_bipush d_md_isBefore_66 (by decide) ?_
  refine zi_iload_n d_md_isBefore_68 rfl ?_
  refine zi_imul d_md_isBefore_69 ?_
  refine zi_bipush d_md_isBefore_70 (by decide) ?_
  refine zi_iadd d_md_isBefore_72 ?_
  refine zi_ialdE (x := τ 60 (8 * b + 6)) d_md_isBefore_73 rfl (by decide) (by omega) (by omega) (by rw [show (8 * (b : Int) + 6).toNat = 8 * b + 6 by omega]) ?_
  refine zi_iadd d_md_isBefore_74 ?_
  refine zi_istore d_md_isBefore_75 (by decide) rfl ?_
  refine zr_aload_n d_md_isBefore_77 rfl ?_
  refine zi_getr (j := 31) d_md_isBefore_78 zC8 fl_md_81 (by decide) rfl rfl ?_
  refine zi_bipush d_md_isBefore_81 (by decide) ?_
  refine zi_iload_n d_md_isBefore_83 rfl ?_
  refine zi_imul d_md_isBefore_84 ?_
  refine zi_iconst d_md_isBefore_85 ?_
  refine zi_iadd d_md_isBefore_86 ?_
  refine zi_ialdE (x := τ 60 (8 * a + 5)) d_md_isBefore_87 rfl (by decide) (by omega) (by omega) (by rw [show (8 * (a : Int) + 5).toNat = 8 * a + 5 by omega]) ?_
  refine zr_aload_n d_md_isBefore_88 rfl ?_
  refine zi_getr (j := 31) d_md_isBefore_89 zC8 fl_md_81 (by decide) rfl rfl ?_
  refine zi_bipush d_md_isBefore_92 (by decide) ?_
  refine zi_iload_n d_md_isBefore_94 rfl ?_
  refine zi_imul d_md_isBefore_95 ?_
  refine zi_iconst d_md_isBefore_96 ?_
  refine zi_iadd d_md_isBefore_97 ?_
  refine zi_ialdE (x := τ 60 (8 * b + 5)) d_md_isBefore_98 rfl (by decide) (by omega) (by omega) (by rw [show (8 * (b : Int) + 5).toNat = 8 * b + 5 by omega]) ?_
  refine zi_isub d_md_isBefore_99 ?_
  refine zi_istore d_md_isBefore_100 (by decide) rfl ?_
  refine zi_iload_n d_md_isBefore_102 rfl ?_
  refine zi_if_eq 118 d_md_isBefore_103 (by decide) ⟨by omega, by omega⟩ (fun h103 => ?_) (fun h103 => ?_)
  · refine zi_iload d_md_isBefore_118 rfl ?_
    refine zi_if_eq 136 d_md_isBefore_120 (by decide) ⟨by omega, by omega⟩ (fun h120 => ?_) (fun h120 => ?_)
    · refine zi_iload d_md_isBefore_136 rfl ?_
      refine zi_if_eq 154 d_md_isBefore_138 (by decide) ⟨by omega, by omega⟩ (fun h138 => ?_) (fun h138 => ?_)
      · refine zi_iload_n d_md_isBefore_154 rfl ?_
        refine zi_iload_n d_md_isBefore_155 rfl ?_
        refine zi_icmp_ge 163 d_md_isBefore_156 (by decide) (by first | assumption | exact ⟨by omega, by omega⟩) (by first | assumption | exact ⟨by omega, by omega⟩) (fun h156 => ?_) (fun h156 => ?_)
        · refine zi_iconst d_md_isBefore_163 ?_
          exact zk_zret rfl d_md_isBefore_164 (Nat.zero_le _) (Nat.zero_le _) (by omega) (by unfold mbefP; grind) rfl
        · refine zi_iconst d_md_isBefore_159 ?_
          refine zr_goto 164 d_md_isBefore_160 (by decide) ?_
          exact zk_zret rfl d_md_isBefore_164 (Nat.zero_le _) (Nat.zero_le _) (by omega) (by unfold mbefP; grind) rfl
      · refine zi_iload d_md_isBefore_141 rfl ?_
        refine zi_if_le 150 d_md_isBefore_143 (by decide) ⟨by omega, by omega⟩ (fun h143 => ?_) (fun h143 => ?_)
        · refine zi_iconst d_md_isBefore_150 ?_
          refine zr_goto 164 d_md_isBefore_151 (by decide) ?_
          exact zk_zret rfl d_md_isBefore_164 (Nat.zero_le _) (Nat.zero_le _) (by omega) (by unfold mbefP; grind) rfl
        · refine zi_iconst d_md_isBefore_146 ?_
          refine zr_goto 164 d_md_isBefore_147 (by decide) ?_
          exact zk_zret rfl d_md_isBefore_164 (Nat.zero_le _) (Nat.zero_le _) (by omega) (by unfold mbefP; grind) rfl
    · refine zi_iload d_md_isBefore_123 rfl ?_
      refine zi_if_le 132 d_md_isBefore_125 (by decide) ⟨by omega, by omega⟩ (fun h125 => ?_) (fun h125 => ?_)
      · refine zi_iconst d_md_isBefore_132 ?_
        refine zr_goto 164 d_md_isBefore_133 (by decide) ?_
        exact zk_zret rfl d_md_isBefore_164 (Nat.zero_le _) (Nat.zero_le _) (by omega) (by unfold mbefP; grind) rfl
      · refine zi_iconst d_md_isBefore_128 ?_
        refine zr_goto 164 d_md_isBefore_129 (by decide) ?_
        exact zk_zret rfl d_md_isBefore_164 (Nat.zero_le _) (Nat.zero_le _) (by omega) (by unfold mbefP; grind) rfl
  · refine zi_iload_n d_md_isBefore_106 rfl ?_
    refine zi_if_le 114 d_md_isBefore_107 (by decide) ⟨by omega, by omega⟩ (fun h107 => ?_) (fun h107 => ?_)
    · refine zi_iconst d_md_isBefore_114 ?_
      refine zr_goto 164 d_md_isBefore_115 (by decide) ?_
      exact zk_zret rfl d_md_isBefore_164 (Nat.zero_le _) (Nat.zero_le _) (by omega) (by unfold mbefP; grind) rfl
    · refine zi_iconst d_md_isBefore_110 ?_
      refine zr_goto 164 d_md_isBefore_111 (by decide) ?_
      exact zk_zret rfl d_md_isBefore_164 (Nat.zero_le _) (Nat.zero_le _) (by omega) (by unfold mbefP; grind) rfl
