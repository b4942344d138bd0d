/-! the reference: result, washOut, missing, catchDate, reserve (written by wip/gen/t28.py) -/
def mrsT (τ : tS) (i : Nat) (x y : Int) : tS := tU (tU (tU (tU (tU (tU τ 37 0 0) 46 i 1) 47 i x) 48 i y) 49 i 0) 50 i (-1)
theorem mrsT_in {τ : tS} {i : Nat} {x y : Int} (h : AllIn τ) (hx : zin x) (hy : zin y) : AllIn (mrsT τ i x y) := in_U (in_U (in_U (in_U (in_U (in_U h ⟨by decide, by decide⟩) ⟨by decide, by decide⟩) hx) hy) ⟨by decide, by decide⟩) ⟨by decide, by decide⟩
theorem md_result {l : Launch} {d : Nat} {τ : tS} {n R p f e : Nat} (C : Mo τ n R p f e) {r t x y : Int} (zr : zin r) (zt : zin t) (zx : zin x) (zy : zin y) (h : (0 ≤ r ∧ r < R) ∧ (0 ≤ t ∧ t < n)) (hg : (0 ≤ x ∧ x ≤ 99) ∧ (0 ≤ y ∧ y ≤ 99)) (hv : veM τ (20 * r + t).toNat = 1) (hd : ¬ (¬ τ 49 (20 * r + t).toNat = 0 ∧ τ 50 (20 * r + t).toNat < 0)) : zF l (d + 4) M_md_result [.ref 37, vi r, vi t, vi x, vi y] (τ) (some (vi ((cnt (playedGamesP (mrsT τ (20 * r + t).toNat x y)) 800 : Nat) : Int))) (mrsT τ (20 * r + t).toNat x y) := by
  refine zMet_of (ls := [.ref 37, vi r, vi t, vi x, vi y, .null, .null, .null, .null]) pn_md rfl (by simp [vi, Value.category]) rfl rfl ?_
  have hA := C.A
  have hn := C.n
  have hn4 := C.n4
  have hn20 := C.n20
  have hR := C.R
  have hR38 := C.R38
  refine zr_aload_n d_md_result_0 rfl ?_
  refine zi_iload_n d_md_result_1 rfl ?_
  refine c_md_result_2 rfl rfl (md_isRound C zr) ?_
  refine zi_if_eq 20 d_md_result_5 (by decide) (by split <;> exact ⟨by decide, by decide⟩) (fun h5 => ?_) (fun h5 => ?_)
  · exfalso
    grind
  · refine zr_aload_n d_md_result_8 rfl ?_
    refine zi_iload_n d_md_result_9 rfl ?_
    refine c_md_result_10 rfl rfl (md_isTeam C zt) ?_
    refine zi_if_eq 20 d_md_result_13 (by decide) (by split <;> exact ⟨by decide, by decide⟩) (fun h13 => ?_) (fun h13 => ?_)
    · exfalso
      grind
    · refine zi_iconst d_md_result_16 ?_
      refine zr_goto 21 d_md_result_17 (by decide) ?_
      refine zi_istore d_md_result_21 (by decide) rfl ?_
      refine zi_iload_n d_md_result_23 rfl ?_
      refine zi_iconst d_md_result_24 ?_
      refine zi_bipush d_md_result_25 (by decide) ?_
      refine c_md_result_27 rfl (md_in zx ⟨by decide, by decide⟩ ⟨by decide, by decide⟩) ?_
      refine zi_if_eq 48 d_md_result_30 (by decide) (by split <;> exact ⟨by decide, by decide⟩) (fun h30 => ?_) (fun h30 => ?_)
      · exfalso
        grind
      · refine zi_iload d_md_result_33 rfl ?_
        refine zi_iconst d_md_result_35 ?_
        refine zi_bipush d_md_result_36 (by decide) ?_
        refine c_md_result_38 rfl (md_in zy ⟨by decide, by decide⟩ ⟨by decide, by decide⟩) ?_
        refine zi_if_eq 48 d_md_result_41 (by decide) (by split <;> exact ⟨by decide, by decide⟩) (fun h41 => ?_) (fun h41 => ?_)
        · exfalso
          grind
        · refine zi_iconst d_md_result_44 ?_
          refine zr_goto 49 d_md_result_45 (by decide) ?_
          refine zi_istore d_md_result_49 (by decide) rfl ?_
          refine zi_iload d_md_result_51 rfl ?_
          refine zi_if_eq 70 d_md_result_53 (by decide) (by first | assumption | exact ⟨by omega, by omega⟩) (fun h53 => ?_) (fun h53 => ?_)
          · exfalso
            grind
          · refine zr_aload_n d_md_result_56 rfl ?_
            refine zi_iload_n d_md_result_57 rfl ?_
            refine zi_iload_n d_md_result_58 rfl ?_
            refine c_md_result_59 rfl rfl (md_venueOf hA ⟨by omega, by omega⟩ ⟨by omega, by omega⟩) ?_
            refine zi_iconst d_md_result_62 ?_
            refine zi_icmp_ne 70 d_md_result_63 (by decide) (veM_in _ _) ⟨by decide, by decide⟩ (fun h63 => ?_) (fun h63 => ?_)
            · exfalso
              grind
            · refine zi_iconst d_md_result_66 ?_
              refine zr_goto 71 d_md_result_67 (by decide) ?_
              refine zi_istore d_md_result_71 (by decide) rfl ?_
              refine zi_iload d_md_result_73 rfl ?_
              refine zi_if_eq 87 d_md_result_75 (by decide) (by first | assumption | exact ⟨by omega, by omega⟩) (fun h75 => ?_) (fun h75 => ?_)
              · exfalso
                grind
              · refine zi_bipush d_md_result_78 (by decide) ?_
                refine zi_iload_n d_md_result_80 rfl ?_
                refine zi_imul d_md_result_81 ?_
                refine zi_iload_n d_md_result_82 rfl ?_
                refine zi_iadd d_md_result_83 ?_
                refine zr_goto 88 d_md_result_84 (by decide) ?_
                refine zi_istore d_md_result_88 (by decide) rfl ?_
                refine zr_aload_n d_md_result_90 rfl ?_
                refine zi_iload d_md_result_91 rfl ?_
                refine zi_if_ne 100 d_md_result_93 (by decide) (by first | assumption | exact ⟨by omega, by omega⟩) (fun h93 => ?_) (fun h93 => ?_)
                · refine zi_iconst d_md_result_100 ?_
                  refine zi_iload d_md_result_101 rfl ?_
                  refine zi_if_ne 110 d_md_result_103 (by decide) (by first | assumption | exact ⟨by omega, by omega⟩) (fun h103 => ?_) (fun h103 => ?_)
                  · refine zi_iconst d_md_result_110 ?_
                    refine zi_iload d_md_result_111 rfl ?_
                    refine zi_if_ne 120 d_md_result_113 (by decide) (by first | assumption | exact ⟨by omega, by omega⟩) (fun h113 => ?_) (fun h113 => ?_)
                    · refine zi_iconst d_md_result_120 ?_
                      refine zi_iload d_md_result_121 rfl ?_
                      refine zi_if_eq 150 d_md_result_123 (by decide) (by first | assumption | exact ⟨by omega, by omega⟩) (fun h123 => ?_) (fun h123 => ?_)
                      · refine zi_iconst d_md_result_150 ?_
                        refine c_md_result_151 rfl rfl (md_refused ⟨by decide, by decide⟩ ⟨by decide, by decide⟩ ⟨by decide, by decide⟩ ⟨by decide, by decide⟩) ?_
                        show zV _ _ _ _ _ (vi 0 :: _) (tU τ 37 0 0) _ _
                        refine zi_if_eq 159 d_md_result_154 (by decide) (by first | assumption | exact ⟨by omega, by omega⟩) (fun h154 => ?_) (fun h154 => ?_)
                        · refine zr_aload_n d_md_result_159 rfl ?_
                          refine zi_getr (j := 15) d_md_result_160 zC8 fl_md_39 (by decide) rfl rfl ?_
                          refine zi_iload d_md_result_163 rfl ?_
                          refine zi_iconst d_md_result_165 ?_
                          refine zi_zast d_md_result_166 rfl (by decide) (by omega) (by omega) (Or.inr rfl) ?_
                          refine zr_aload_n d_md_result_167 rfl ?_
                          refine zi_getr (j := 16) d_md_result_168 zC8 fl_md_42 (by decide) rfl rfl ?_
                          refine zi_iload d_md_result_171 rfl ?_
                          refine zi_iload_n d_md_result_173 rfl ?_
                          refine zi_iast d_md_result_174 rfl (by decide) (by omega) (by omega) ?_
                          refine zr_aload_n d_md_result_175 rfl ?_
                          refine zi_getr (j := 17) d_md_result_176 zC8 fl_md_45 (by decide) rfl rfl ?_
                          refine zi_iload d_md_result_179 rfl ?_
                          refine zi_iload d_md_result_181 rfl ?_
                          refine zi_iast d_md_result_183 rfl (by decide) (by omega) (by omega) ?_
                          refine zr_aload_n d_md_result_184 rfl ?_
                          refine zi_getr (j := 18) d_md_result_185 zC8 fl_md_48 (by decide) rfl rfl ?_
                          refine zi_iload d_md_result_188 rfl ?_
                          refine zi_iconst d_md_result_190 ?_
                          refine zi_zast d_md_result_191 rfl (by decide) (by omega) (by omega) (Or.inl rfl) ?_
                          refine zr_aload_n d_md_result_192 rfl ?_
                          refine zi_getr (j := 19) d_md_result_193 zC8 fl_md_51 (by decide) rfl rfl ?_
                          refine zi_iload d_md_result_196 rfl ?_
                          refine zi_iconst d_md_result_198 ?_
                          refine zi_iast d_md_result_199 rfl (by decide) (by omega) (by omega) ?_
                          refine zr_aload_n d_md_result_200 rfl ?_
                          refine c_md_result_201 rfl rfl (md_playedGames (mrsT_in hA zx zy)) ?_
                          exact zk_iret rfl d_md_result_204 (Nat.zero_le _) (Nat.zero_le _) rfl rfl
                        · exact absurd h154 (by decide)
                      · refine zr_aload_n d_md_result_126 rfl ?_
                        refine zi_getr (j := 18) d_md_result_127 zC8 fl_md_48 (by decide) rfl rfl ?_
                        refine zi_iload d_md_result_130 rfl ?_
                        refine zi_zald d_md_result_132 rfl (by decide) (by omega) (by omega) ?_
                        refine zi_if_eq 150 d_md_result_133 (by decide) (hA _ _) (fun h133 => ?_) (fun h133 => ?_)
                        · refine zi_iconst d_md_result_150 ?_
                          refine c_md_result_151 rfl rfl (md_refused ⟨by decide, by decide⟩ ⟨by decide, by decide⟩ ⟨by decide, by decide⟩ ⟨by decide, by decide⟩) ?_
                          show zV _ _ _ _ _ (vi 0 :: _) (tU τ 37 0 0) _ _
                          refine zi_if_eq 159 d_md_result_154 (by decide) (by first | assumption | exact ⟨by omega, by omega⟩) (fun h154 => ?_) (fun h154 => ?_)
                          · refine zr_aload_n d_md_result_159 rfl ?_
                            refine zi_getr (j := 15) d_md_result_160 zC8 fl_md_39 (by decide) rfl rfl ?_
                            refine zi_iload d_md_result_163 rfl ?_
                            refine zi_iconst d_md_result_165 ?_
                            refine zi_zast d_md_result_166 rfl (by decide) (by omega) (by omega) (Or.inr rfl) ?_
                            refine zr_aload_n d_md_result_167 rfl ?_
                            refine zi_getr (j := 16) d_md_result_168 zC8 fl_md_42 (by decide) rfl rfl ?_
                            refine zi_iload d_md_result_171 rfl ?_
                            refine zi_iload_n d_md_result_173 rfl ?_
                            refine zi_iast d_md_result_174 rfl (by decide) (by omega) (by omega) ?_
                            refine zr_aload_n d_md_result_175 rfl ?_
                            refine zi_getr (j := 17) d_md_result_176 zC8 fl_md_45 (by decide) rfl rfl ?_
                            refine zi_iload d_md_result_179 rfl ?_
                            refine zi_iload d_md_result_181 rfl ?_
                            refine zi_iast d_md_result_183 rfl (by decide) (by omega) (by omega) ?_
                            refine zr_aload_n d_md_result_184 rfl ?_
                            refine zi_getr (j := 18) d_md_result_185 zC8 fl_md_48 (by decide) rfl rfl ?_
                            refine zi_iload d_md_result_188 rfl ?_
                            refine zi_iconst d_md_result_190 ?_
                            refine zi_zast d_md_result_191 rfl (by decide) (by omega) (by omega) (Or.inl rfl) ?_
                            refine zr_aload_n d_md_result_192 rfl ?_
                            refine zi_getr (j := 19) d_md_result_193 zC8 fl_md_51 (by decide) rfl rfl ?_
                            refine zi_iload d_md_result_196 rfl ?_
                            refine zi_iconst d_md_result_198 ?_
                            refine zi_iast d_md_result_199 rfl (by decide) (by omega) (by omega) ?_
                            refine zr_aload_n d_md_result_200 rfl ?_
                            refine c_md_result_201 rfl rfl (md_playedGames (mrsT_in hA zx zy)) ?_
                            exact zk_iret rfl d_md_result_204 (Nat.zero_le _) (Nat.zero_le _) rfl rfl
                          · exact absurd h154 (by decide)
                        · refine zr_aload_n d_md_result_136 rfl ?_
                          refine zi_getr (j := 19) d_md_result_137 zC8 fl_md_51 (by decide) rfl rfl ?_
                          refine zi_iload d_md_result_140 rfl ?_
                          refine zi_iald d_md_result_142 rfl (by decide) (by omega) (by omega) ?_
                          refine zi_if_ge 150 d_md_result_143 (by decide) (hA _ _) (fun h143 => ?_) (fun h143 => ?_)
                          · refine zi_iconst d_md_result_150 ?_
                            refine c_md_result_151 rfl rfl (md_refused ⟨by decide, by decide⟩ ⟨by decide, by decide⟩ ⟨by decide, by decide⟩ ⟨by decide, by decide⟩) ?_
                            show zV _ _ _ _ _ (vi 0 :: _) (tU τ 37 0 0) _ _
                            refine zi_if_eq 159 d_md_result_154 (by decide) (by first | assumption | exact ⟨by omega, by omega⟩) (fun h154 => ?_) (fun h154 => ?_)
                            · refine zr_aload_n d_md_result_159 rfl ?_
                              refine zi_getr (j := 15) d_md_result_160 zC8 fl_md_39 (by decide) rfl rfl ?_
                              refine zi_iload d_md_result_163 rfl ?_
                              refine zi_iconst d_md_result_165 ?_
                              refine zi_zast d_md_result_166 rfl (by decide) (by omega) (by omega) (Or.inr rfl) ?_
                              refine zr_aload_n d_md_result_167 rfl ?_
                              refine zi_getr (j := 16) d_md_result_168 zC8 fl_md_42 (by decide) rfl rfl ?_
                              refine zi_iload d_md_result_171 rfl ?_
                              refine zi_iload_n d_md_result_173 rfl ?_
                              refine zi_iast d_md_result_174 rfl (by decide) (by omega) (by omega) ?_
                              refine zr_aload_n d_md_result_175 rfl ?_
                              refine zi_getr (j := 17) d_md_result_176 zC8 fl_md_45 (by decide) rfl rfl ?_
                              refine zi_iload d_md_result_179 rfl ?_
                              refine zi_iload d_md_result_181 rfl ?_
                              refine zi_iast d_md_result_183 rfl (by decide) (by omega) (by omega) ?_
                              refine zr_aload_n d_md_result_184 rfl ?_
                              refine zi_getr (j := 18) d_md_result_185 zC8 fl_md_48 (by decide) rfl rfl ?_
                              refine zi_iload d_md_result_188 rfl ?_
                              refine zi_iconst d_md_result_190 ?_
                              refine zi_zast d_md_result_191 rfl (by decide) (by omega) (by omega) (Or.inl rfl) ?_
                              refine zr_aload_n d_md_result_192 rfl ?_
                              refine zi_getr (j := 19) d_md_result_193 zC8 fl_md_51 (by decide) rfl rfl ?_
                              refine zi_iload d_md_result_196 rfl ?_
                              refine zi_iconst d_md_result_198 ?_
                              refine zi_iast d_md_result_199 rfl (by decide) (by omega) (by omega) ?_
                              refine zr_aload_n d_md_result_200 rfl ?_
                              refine c_md_result_201 rfl rfl (md_playedGames (mrsT_in hA zx zy)) ?_
                              exact zk_iret rfl d_md_result_204 (Nat.zero_le _) (Nat.zero_le _) rfl rfl
                            · exact absurd h154 (by decide)
                          · exfalso
                            grind
                    · exfalso
                      grind
                  · exfalso
                    grind
                · exfalso
                  grind
theorem md_resultX1 {l : Launch} {d : Nat} {τ : tS} {n R p f e : Nat} (C : Mo τ n R p f e) {r t x y : Int} (zr : zin r) (zt : zin t) (zx : zin x) (zy : zin y) (h : ¬ ((0 ≤ r ∧ r < R) ∧ (0 ≤ t ∧ t < n))) : zF l (d + 4) M_md_result [.ref 37, vi r, vi t, vi x, vi y] (τ) (some (vi 0)) (tU τ 37 0 1) := by
  refine zMet_of (ls := [.ref 37, vi r, vi t, vi x, vi y, .null, .null, .null, .null]) pn_md rfl (by simp [vi, Value.category]) rfl rfl ?_
  have hA := C.A
  have hn := C.n
  have hn4 := C.n4
  have hn20 := C.n20
  have hR := C.R
  have hR38 := C.R38
  refine zr_aload_n d_md_result_0 rfl ?_
  refine zi_iload_n d_md_result_1 rfl ?_
  refine c_md_result_2 rfl rfl (md_isRound C zr) ?_
  refine zi_if_eq 20 d_md_result_5 (by decide) (by split <;> exact ⟨by decide, by decide⟩) (fun h5 => ?_) (fun h5 => ?_)
  · refine zi_iconst d_md_result_20 ?_
    refine zi_istore d_md_result_21 (by decide) rfl ?_
    refine zi_iload_n d_md_result_23 rfl ?_
    refine zi_iconst d_md_result_24 ?_
    refine zi_bipush d_md_result_25 (by decide) ?_
    refine c_md_result_27 rfl (md_in zx ⟨by decide, by decide⟩ ⟨by decide, by decide⟩) ?_
    refine zi_if_eq 48 d_md_result_30 (by decide) (by split <;> exact ⟨by decide, by decide⟩) (fun h30 => ?_) (fun h30 => ?_)
    · refine zi_iconst d_md_result_48 ?_
      refine zi_istore d_md_result_49 (by decide) rfl ?_
      refine zi_iload d_md_result_51 rfl ?_
      refine zi_if_eq 70 d_md_result_53 (by decide) (by first | assumption | exact ⟨by omega, by omega⟩) (fun h53 => ?_) (fun h53 => ?_)
      · refine zi_iconst d_md_result_70 ?_
        refine zi_istore d_md_result_71 (by decide) rfl ?_
        refine zi_iload d_md_result_73 rfl ?_
        refine zi_if_eq 87 d_md_result_75 (by decide) (by first | assumption | exact ⟨by omega, by omega⟩) (fun h75 => ?_) (fun h75 => ?_)
        · refine zi_iconst d_md_result_87 ?_
          refine zi_istore d_md_result_88 (by decide) rfl ?_
          refine zr_aload_n d_md_result_90 rfl ?_
          refine zi_iload d_md_result_91 rfl ?_
          refine zi_if_ne 100 d_md_result_93 (by decide) (by first | assumption | exact ⟨by omega, by omega⟩) (fun h93 => ?_) (fun h93 => ?_)
          · exfalso
            grind
          · refine zi_iconst d_md_result_96 ?_
            refine zr_goto 101 d_md_result_97 (by decide) ?_
            refine zi_iload d_md_result_101 rfl ?_
            refine zi_if_ne 110 d_md_result_103 (by decide) (by first | assumption | exact ⟨by omega, by omega⟩) (fun h103 => ?_) (fun h103 => ?_)
            · refine zi_iconst d_md_result_110 ?_
              refine zi_iload d_md_result_111 rfl ?_
              refine zi_if_ne 120 d_md_result_113 (by decide) (by first | assumption | exact ⟨by omega, by omega⟩) (fun h113 => ?_) (fun h113 => ?_)
              · refine zi_iconst d_md_result_120 ?_
                refine zi_iload d_md_result_121 rfl ?_
                refine zi_if_eq 150 d_md_result_123 (by decide) (by first | assumption | exact ⟨by omega, by omega⟩) (fun h123 => ?_) (fun h123 => ?_)
                · refine zi_iconst d_md_result_150 ?_
                  refine c_md_result_151 rfl rfl (md_refused ⟨by decide, by decide⟩ ⟨by decide, by decide⟩ ⟨by decide, by decide⟩ ⟨by decide, by decide⟩) ?_
                  show zV _ _ _ _ _ (vi 1 :: _) (tU τ 37 0 1) _ _
                  refine zi_if_eq 159 d_md_result_154 (by decide) (by first | assumption | exact ⟨by omega, by omega⟩) (fun h154 => ?_) (fun h154 => ?_)
                  · exact absurd h154 (by decide)
                  · refine zi_iconst d_md_result_157 ?_
                    exact zk_iret rfl d_md_result_158 (Nat.zero_le _) (Nat.zero_le _) (by first | rfl | omega | (split <;> omega) | simp_all) rfl
                · exfalso
                  grind
              · refine zi_iconst d_md_result_116 ?_
                refine zr_goto 121 d_md_result_117 (by decide) ?_
                refine zi_iload d_md_result_121 rfl ?_
                refine zi_if_eq 150 d_md_result_123 (by decide) (by first | assumption | exact ⟨by omega, by omega⟩) (fun h123 => ?_) (fun h123 => ?_)
                · refine zi_iconst d_md_result_150 ?_
                  refine c_md_result_151 rfl rfl (md_refused ⟨by decide, by decide⟩ ⟨by decide, by decide⟩ ⟨by decide, by decide⟩ ⟨by decide, by decide⟩) ?_
                  show zV _ _ _ _ _ (vi 1 :: _) (tU τ 37 0 1) _ _
                  refine zi_if_eq 159 d_md_result_154 (by decide) (by first | assumption | exact ⟨by omega, by omega⟩) (fun h154 => ?_) (fun h154 => ?_)
                  · exact absurd h154 (by decide)
                  · refine zi_iconst d_md_result_157 ?_
                    exact zk_iret rfl d_md_result_158 (Nat.zero_le _) (Nat.zero_le _) (by first | rfl | omega | (split <;> omega) | simp_all) rfl
                · exfalso
                  grind
            · refine zi_iconst d_md_result_106 ?_
              refine zr_goto 111 d_md_result_107 (by decide) ?_
              refine zi_iload d_md_result_111 rfl ?_
              refine zi_if_ne 120 d_md_result_113 (by decide) (by first | assumption | exact ⟨by omega, by omega⟩) (fun h113 => ?_) (fun h113 => ?_)
              · refine zi_iconst d_md_result_120 ?_
                refine zi_iload d_md_result_121 rfl ?_
                refine zi_if_eq 150 d_md_result_123 (by decide) (by first | assumption | exact ⟨by omega, by omega⟩) (fun h123 => ?_) (fun h123 => ?_)
                · refine zi_iconst d_md_result_150 ?_
                  refine c_md_result_151 rfl rfl (md_refused ⟨by decide, by decide⟩ ⟨by decide, by decide⟩ ⟨by decide, by decide⟩ ⟨by decide, by decide⟩) ?_
                  show zV _ _ _ _ _ (vi 1 :: _) (tU τ 37 0 1) _ _
                  refine zi_if_eq 159 d_md_result_154 (by decide) (by first | assumption | exact ⟨by omega, by omega⟩) (fun h154 => ?_) (fun h154 => ?_)
                  · exact absurd h154 (by decide)
                  · refine zi_iconst d_md_result_157 ?_
                    exact zk_iret rfl d_md_result_158 (Nat.zero_le _) (Nat.zero_le _) (by first | rfl | omega | (split <;> omega) | simp_all) rfl
                · exfalso
                  grind
              · refine zi_iconst d_md_result_116 ?_
                refine zr_goto 121 d_md_result_117 (by decide) ?_
                refine zi_iload d_md_result_121 rfl ?_
                refine zi_if_eq 150 d_md_result_123 (by decide) (by first | assumption | exact ⟨by omega, by omega⟩) (fun h123 => ?_) (fun h123 => ?_)
                · refine zi_iconst d_md_result_150 ?_
                  refine c_md_result_151 rfl rfl (md_refused ⟨by decide, by decide⟩ ⟨by decide, by decide⟩ ⟨by decide, by decide⟩ ⟨by decide, by decide⟩) ?_
                  show zV _ _ _ _ _ (vi 1 :: _) (tU τ 37 0 1) _ _
                  refine zi_if_eq 159 d_md_result_154 (by decide) (by first | assumption | exact ⟨by omega, by omega⟩) (fun h154 => ?_) (fun h154 => ?_)
                  · exact absurd h154 (by decide)
                  · refine zi_iconst d_md_result_157 ?_
                    exact zk_iret rfl d_md_result_158 (Nat.zero_le _) (Nat.zero_le _) (by first | rfl | omega | (split <;> omega) | simp_all) rfl
                · exfalso
                  grind
        · exfalso
          grind
      · exfalso
        grind
    · refine zi_iload d_md_result_33 rfl ?_
      refine zi_iconst d_md_result_35 ?_
      refine zi_bipush d_md_result_36 (by decide) ?_
      refine c_md_result_38 rfl (md_in zy ⟨by decide, by decide⟩ ⟨by decide, by decide⟩) ?_
      refine zi_if_eq 48 d_md_result_41 (by decide) (by split <;> exact ⟨by decide, by decide⟩) (fun h41 => ?_) (fun h41 => ?_)
      · refine zi_iconst d_md_result_48 ?_
        refine zi_istore d_md_result_49 (by decide) rfl ?_
        refine zi_iload d_md_result_51 rfl ?_
        refine zi_if_eq 70 d_md_result_53 (by decide) (by first | assumption | exact ⟨by omega, by omega⟩) (fun h53 => ?_) (fun h53 => ?_)
        · refine zi_iconst d_md_result_70 ?_
          refine zi_istore d_md_result_71 (by decide) rfl ?_
          refine zi_iload d_md_result_73 rfl ?_
          refine zi_if_eq 87 d_md_result_75 (by decide) (by first | assumption | exact ⟨by omega, by omega⟩) (fun h75 => ?_) (fun h75 => ?_)
          · refine zi_iconst d_md_result_87 ?_
            refine zi_istore d_md_result_88 (by decide) rfl ?_
            refine zr_aload_n d_md_result_90 rfl ?_
            refine zi_iload d_md_result_91 rfl ?_
            refine zi_if_ne 100 d_md_result_93 (by decide) (by first | assumption | exact ⟨by omega, by omega⟩) (fun h93 => ?_) (fun h93 => ?_)
            · exfalso
              grind
            · refine zi_iconst d_md_result_96 ?_
              refine zr_goto 101 d_md_result_97 (by decide) ?_
              refine zi_iload d_md_result_101 rfl ?_
              refine zi_if_ne 110 d_md_result_103 (by decide) (by first | assumption | exact ⟨by omega, by omega⟩) (fun h103 => ?_) (fun h103 => ?_)
              · refine zi_iconst d_md_result_110 ?_
                refine zi_iload d_md_result_111 rfl ?_
                refine zi_if_ne 120 d_md_result_113 (by decide) (by first | assumption | exact ⟨by omega, by omega⟩) (fun h113 => ?_) (fun h113 => ?_)
                · refine zi_iconst d_md_result_120 ?_
                  refine zi_iload d_md_result_121 rfl ?_
                  refine zi_if_eq 150 d_md_result_123 (by decide) (by first | assumption | exact ⟨by omega, by omega⟩) (fun h123 => ?_) (fun h123 => ?_)
                  · refine zi_iconst d_md_result_150 ?_
                    refine c_md_result_151 rfl rfl (md_refused ⟨by decide, by decide⟩ ⟨by decide, by decide⟩ ⟨by decide, by decide⟩ ⟨by decide, by decide⟩) ?_
                    show zV _ _ _ _ _ (vi 1 :: _) (tU τ 37 0 1) _ _
                    refine zi_if_eq 159 d_md_result_154 (by decide) (by first | assumption | exact ⟨by omega, by omega⟩) (fun h154 => ?_) (fun h154 => ?_)
                    · exact absurd h154 (by decide)
                    · refine zi_iconst d_md_result_157 ?_
                      exact zk_iret rfl d_md_result_158 (Nat.zero_le _) (Nat.zero_le _) (by first | rfl | omega | (split <;> omega) | simp_all) rfl
                  · exfalso
                    grind
                · refine zi_iconst d_md_result_116 ?_
                  refine zr_goto 121 d_md_result_117 (by decide) ?_
                  refine zi_iload d_md_result_121 rfl ?_
                  refine zi_if_eq 150 d_md_result_123 (by decide) (by first | assumption | exact ⟨by omega, by omega⟩) (fun h123 => ?_) (fun h123 => ?_)
                  · refine zi_iconst d_md_result_150 ?_
                    refine c_md_result_151 rfl rfl (md_refused ⟨by decide, by decide⟩ ⟨by decide, by decide⟩ ⟨by decide, by decide⟩ ⟨by decide, by decide⟩) ?_
                    show zV _ _ _ _ _ (vi 1 :: _) (tU τ 37 0 1) _ _
                    refine zi_if_eq 159 d_md_result_154 (by decide) (by first | assumption | exact ⟨by omega, by omega⟩) (fun h154 => ?_) (fun h154 => ?_)
                    · exact absurd h154 (by decide)
                    · refine zi_iconst d_md_result_157 ?_
                      exact zk_iret rfl d_md_result_158 (Nat.zero_le _) (Nat.zero_le _) (by first | rfl | omega | (split <;> omega) | simp_all) rfl
                  · exfalso
                    grind
              · refine zi_iconst d_md_result_106 ?_
                refine zr_goto 111 d_md_result_107 (by decide) ?_
                refine zi_iload d_md_result_111 rfl ?_
                refine zi_if_ne 120 d_md_result_113 (by decide) (by first | assumption | exact ⟨by omega, by omega⟩) (fun h113 => ?_) (fun h113 => ?_)
                · refine zi_iconst d_md_result_120 ?_
                  refine zi_iload d_md_result_121 rfl ?_
                  refine zi_if_eq 150 d_md_result_123 (by decide) (by first | assumption | exact ⟨by omega, by omega⟩) (fun h123 => ?_) (fun h123 => ?_)
                  · refine zi_iconst d_md_result_150 ?_
                    refine c_md_result_151 rfl rfl (md_refused ⟨by decide, by decide⟩ ⟨by decide, by decide⟩ ⟨by decide, by decide⟩ ⟨by decide, by decide⟩) ?_
                    show zV _ _ _ _ _ (vi 1 :: _) (tU τ 37 0 1) _ _
                    refine zi_if_eq 159 d_md_result_154 (by decide) (by first | assumption | exact ⟨by omega, by omega⟩) (fun h154 => ?_) (fun h154 => ?_)
                    · exact absurd h154 (by decide)
                    · refine zi_iconst d_md_result_157 ?_
                      exact zk_iret rfl d_md_result_158 (Nat.zero_le _) (Nat.zero_le _) (by first | rfl | omega | (split <;> omega) | simp_all) rfl
                  · exfalso
                    grind
                · refine zi_iconst d_md_result_116 ?_
                  refine zr_goto 121 d_md_result_117 (by decide) ?_
                  refine zi_iload d_md_result_121 rfl ?_
                  refine zi_if_eq 150 d_md_result_123 (by decide) (by first | assumption | exact ⟨by omega, by omega⟩) (fun h123 => ?_) (fun h123 => ?_)
                  · refine zi_iconst d_md_result_150 ?_
                    refine c_md_result_151 rfl rfl (md_refused ⟨by decide, by decide⟩ ⟨by decide, by decide⟩ ⟨by decide, by decide⟩ ⟨by decide, by decide⟩) ?_
                    show zV _ _ _ _ _ (vi 1 :: _) (tU τ 37 0 1) _ _
                    refine zi_if_eq 159 d_md_result_154 (by decide) (by first | assumption | exact ⟨by omega, by omega⟩) (fun h154 => ?_) (fun h154 => ?_)
                    · exact absurd h154 (by decide)
                    · refine zi_iconst d_md_result_157 ?_
                      exact zk_iret rfl d_md_result_158 (Nat.zero_le _) (Nat.zero_le _) (by first | rfl | omega | (split <;> omega) | simp_all) rfl
                  · exfalso
                    grind
          · exfalso
            grind
        · exfalso
          grind
      · refine zi_iconst d_md_result_44 ?_
        refine zr_goto 49 d_md_result_45 (by decide) ?_
        refine zi_istore d_md_result_49 (by decide) rfl ?_
        refine zi_iload d_md_result_51 rfl ?_
        refine zi_if_eq 70 d_md_result_53 (by decide) (by first | assumption | exact ⟨by omega, by omega⟩) (fun h53 => ?_) (fun h53 => ?_)
        · refine zi_iconst d_md_result_70 ?_
          refine zi_istore d_md_result_71 (by decide) rfl ?_
          refine zi_iload d_md_result_73 rfl ?_
          refine zi_if_eq 87 d_md_result_75 (by decide) (by first | assumption | exact ⟨by omega, by omega⟩) (fun h75 => ?_) (fun h75 => ?_)
          · refine zi_iconst d_md_result_87 ?_
            refine zi_istore d_md_result_88 (by decide) rfl ?_
            refine zr_aload_n d_md_result_90 rfl ?_
            refine zi_iload d_md_result_91 rfl ?_
            refine zi_if_ne 100 d_md_result_93 (by decide) (by first | assumption | exact ⟨by omega, by omega⟩) (fun h93 => ?_) (fun h93 => ?_)
            · exfalso
              grind
            · refine zi_iconst d_md_result_96 ?_
              refine zr_goto 101 d_md_result_97 (by decide) ?_
              refine zi_iload d_md_result_101 rfl ?_
              refine zi_if_ne 110 d_md_result_103 (by decide) (by first | assumption | exact ⟨by omega, by omega⟩) (fun h103 => ?_) (fun h103 => ?_)
              · refine zi_iconst d_md_result_110 ?_
                refine zi_iload d_md_result_111 rfl ?_
                refine zi_if_ne 120 d_md_result_113 (by decide) (by first | assumption | exact ⟨by omega, by omega⟩) (fun h113 => ?_) (fun h113 => ?_)
                · refine zi_iconst d_md_result_120 ?_
                  refine zi_iload d_md_result_121 rfl ?_
                  refine zi_if_eq 150 d_md_result_123 (by decide) (by first | assumption | exact ⟨by omega, by omega⟩) (fun h123 => ?_) (fun h123 => ?_)
                  · refine zi_iconst d_md_result_150 ?_
                    refine c_md_result_151 rfl rfl (md_refused ⟨by decide, by decide⟩ ⟨by decide, by decide⟩ ⟨by decide, by decide⟩ ⟨by decide, by decide⟩) ?_
                    show zV _ _ _ _ _ (vi 1 :: _) (tU τ 37 0 1) _ _
                    refine zi_if_eq 159 d_md_result_154 (by decide) (by first | assumption | exact ⟨by omega, by omega⟩) (fun h154 => ?_) (fun h154 => ?_)
                    · exact absurd h154 (by decide)
                    · refine zi_iconst d_md_result_157 ?_
                      exact zk_iret rfl d_md_result_158 (Nat.zero_le _) (Nat.zero_le _) (by first | rfl | omega | (split <;> omega) | simp_all) rfl
                  · exfalso
                    grind
                · refine zi_iconst d_md_result_116 ?_
                  refine zr_goto 121 d_md_result_117 (by decide) ?_
                  refine zi_iload d_md_result_121 rfl ?_
                  refine zi_if_eq 150 d_md_result_123 (by decide) (by first | assumption | exact ⟨by omega, by omega⟩) (fun h123 => ?_) (fun h123 => ?_)
                  · refine zi_iconst d_md_result_150 ?_
                    refine c_md_result_151 rfl rfl (md_refused ⟨by decide, by decide⟩ ⟨by decide, by decide⟩ ⟨by decide, by decide⟩ ⟨by decide, by decide⟩) ?_
                    show zV _ _ _ _ _ (vi 1 :: _) (tU τ 37 0 1) _ _
                    refine zi_if_eq 159 d_md_result_154 (by decide) (by first | assumption | exact ⟨by omega, by omega⟩) (fun h154 => ?_) (fun h154 => ?_)
                    · exact absurd h154 (by decide)
                    · refine zi_iconst d_md_result_157 ?_
                      exact zk_iret rfl d_md_result_158 (Nat.zero_le _) (Nat.zero_le _) (by first | rfl | omega | (split <;> omega) | simp_all) rfl
                  · exfalso
                    grind
              · refine zi_iconst d_md_result_106 ?_
                refine zr_goto 111 d_md_result_107 (by decide) ?_
                refine zi_iload d_md_result_111 rfl ?_
                refine zi_if_ne 120 d_md_result_113 (by decide) (by first | assumption | exact ⟨by omega, by omega⟩) (fun h113 => ?_) (fun h113 => ?_)
                · refine zi_iconst d_md_result_120 ?_
                  refine zi_iload d_md_result_121 rfl ?_
                  refine zi_if_eq 150 d_md_result_123 (by decide) (by first | assumption | exact ⟨by omega, by omega⟩) (fun h123 => ?_) (fun h123 => ?_)
                  · refine zi_iconst d_md_result_150 ?_
                    refine c_md_result_151 rfl rfl (md_refused ⟨by decide, by decide⟩ ⟨by decide, by decide⟩ ⟨by decide, by decide⟩ ⟨by decide, by decide⟩) ?_
                    show zV _ _ _ _ _ (vi 1 :: _) (tU τ 37 0 1) _ _
                    refine zi_if_eq 159 d_md_result_154 (by decide) (by first | assumption | exact ⟨by omega, by omega⟩) (fun h154 => ?_) (fun h154 => ?_)
                    · exact absurd h154 (by decide)
                    · refine zi_iconst d_md_result_157 ?_
                      exact zk_iret rfl d_md_result_158 (Nat.zero_le _) (Nat.zero_le _) (by first | rfl | omega | (split <;> omega) | simp_all) rfl
                  · exfalso
                    grind
                · refine zi_iconst d_md_result_116 ?_
                  refine zr_goto 121 d_md_result_117 (by decide) ?_
                  refine zi_iload d_md_result_121 rfl ?_
                  refine zi_if_eq 150 d_md_result_123 (by decide) (by first | assumption | exact ⟨by omega, by omega⟩) (fun h123 => ?_) (fun h123 => ?_)
                  · refine zi_iconst d_md_result_150 ?_
                    refine c_md_result_151 rfl rfl (md_refused ⟨by decide, by decide⟩ ⟨by decide, by decide⟩ ⟨by decide, by decide⟩ ⟨by decide, by decide⟩) ?_
                    show zV _ _ _ _ _ (vi 1 :: _) (tU τ 37 0 1) _ _
                    refine zi_if_eq 159 d_md_result_154 (by decide) (by first | assumption | exact ⟨by omega, by omega⟩) (fun h154 => ?_) (fun h154 => ?_)
                    · exact absurd h154 (by decide)
                    · refine zi_iconst d_md_result_157 ?_
                      exact zk_iret rfl d_md_result_158 (Nat.zero_le _) (Nat.zero_le _) (by first | rfl | omega | (split <;> omega) | simp_all) rfl
                  · exfalso
                    grind
          · exfalso
            grind
        · exfalso
          grind
  · refine zr_aload_n d_md_result_8 rfl ?_
    refine zi_iload_n d_md_result_9 rfl ?_
    refine c_md_result_10 rfl rfl (md_isTeam C zt) ?_
    refine zi_if_eq 20 d_md_result_13 (by decide) (by split <;> exact ⟨by decide, by decide⟩) (fun h13 => ?_) (fun h13 => ?_)
    · refine zi_iconst d_md_result_20 ?_
      refine zi_istore d_md_result_21 (by decide) rfl ?_
      refine zi_iload_n d_md_result_23 rfl ?_
      refine zi_iconst d_md_result_24 ?_
      refine zi_bipush d_md_result_25 (by decide) ?_
      refine c_md_result_27 rfl (md_in zx ⟨by decide, by decide⟩ ⟨by decide, by decide⟩) ?_
      refine zi_if_eq 48 d_md_result_30 (by decide) (by split <;> exact ⟨by decide, by decide⟩) (fun h30 => ?_) (fun h30 => ?_)
      · refine zi_iconst d_md_result_48 ?_
        refine zi_istore d_md_result_49 (by decide) rfl ?_
        refine zi_iload d_md_result_51 rfl ?_
        refine zi_if_eq 70 d_md_result_53 (by decide) (by first | assumption | exact ⟨by omega, by omega⟩) (fun h53 => ?_) (fun h53 => ?_)
        · refine zi_iconst d_md_result_70 ?_
          refine zi_istore d_md_result_71 (by decide) rfl ?_
          refine zi_iload d_md_result_73 rfl ?_
          refine zi_if_eq 87 d_md_result_75 (by decide) (by first | assumption | exact ⟨by omega, by omega⟩) (fun h75 => ?_) (fun h75 => ?_)
          · refine zi_iconst d_md_result_87 ?_
            refine zi_istore d_md_result_88 (by decide) rfl ?_
            refine zr_aload_n d_md_result_90 rfl ?_
            refine zi_iload d_md_result_91 rfl ?_
            refine zi_if_ne 100 d_md_result_93 (by decide) (by first | assumption | exact ⟨by omega, by omega⟩) (fun h93 => ?_) (fun h93 => ?_)
            · exfalso
              grind
            · refine zi_iconst d_md_result_96 ?_
              refine zr_goto 101 d_md_result_97 (by decide) ?_
              refine zi_iload d_md_result_101 rfl ?_
              refine zi_if_ne 110 d_md_result_103 (by decide) (by first | assumption | exact ⟨by omega, by omega⟩) (fun h103 => ?_) (fun h103 => ?_)
              · refine zi_iconst d_md_result_110 ?_
                refine zi_iload d_md_result_111 rfl ?_
                refine zi_if_ne 120 d_md_result_113 (by decide) (by first | assumption | exact ⟨by omega, by omega⟩) (fun h113 => ?_) (fun h113 => ?_)
                · refine zi_iconst d_md_result_120 ?_
                  refine zi_iload d_md_result_121 rfl ?_
                  refine zi_if_eq 150 d_md_result_123 (by decide) (by first | assumption | exact ⟨by omega, by omega⟩) (fun h123 => ?_) (fun h123 => ?_)
                  · refine zi_iconst d_md_result_150 ?_
                    refine c_md_result_151 rfl rfl (md_refused ⟨by decide, by decide⟩ ⟨by decide, by decide⟩ ⟨by decide, by decide⟩ ⟨by decide, by decide⟩) ?_
                    show zV _ _ _ _ _ (vi 1 :: _) (tU τ 37 0 1) _ _
                    refine zi_if_eq 159 d_md_result_154 (by decide) (by first | assumption | exact ⟨by omega, by omega⟩) (fun h154 => ?_) (fun h154 => ?_)
                    · exact absurd h154 (by decide)
                    · refine zi_iconst d_md_result_157 ?_
                      exact zk_iret rfl d_md_result_158 (Nat.zero_le _) (Nat.zero_le _) (by first | rfl | omega | (split <;> omega) | simp_all) rfl
                  · exfalso
                    grind
                · refine zi_iconst d_md_result_116 ?_
                  refine zr_goto 121 d_md_result_117 (by decide) ?_
                  refine zi_iload d_md_result_121 rfl ?_
                  refine zi_if_eq 150 d_md_result_123 (by decide) (by first | assumption | exact ⟨by omega, by omega⟩) (fun h123 => ?_) (fun h123 => ?_)
                  · refine zi_iconst d_md_result_150 ?_
                    refine c_md_result_151 rfl rfl (md_refused ⟨by decide, by decide⟩ ⟨by decide, by decide⟩ ⟨by decide, by decide⟩ ⟨by decide, by decide⟩) ?_
                    show zV _ _ _ _ _ (vi 1 :: _) (tU τ 37 0 1) _ _
                    refine zi_if_eq 159 d_md_result_154 (by decide) (by first | assumption | exact ⟨by omega, by omega⟩) (fun h154 => ?_) (fun h154 => ?_)
                    · exact absurd h154 (by decide)
                    · refine zi_iconst d_md_result_157 ?_
                      exact zk_iret rfl d_md_result_158 (Nat.zero_le _) (Nat.zero_le _) (by first | rfl | omega | (split <;> omega) | simp_all) rfl
                  · exfalso
                    grind
              · refine zi_iconst d_md_result_106 ?_
                refine zr_goto 111 d_md_result_107 (by decide) ?_
                refine zi_iload d_md_result_111 rfl ?_
                refine zi_if_ne 120 d_md_result_113 (by decide) (by first | assumption | exact ⟨by omega, by omega⟩) (fun h113 => ?_) (fun h113 => ?_)
                · refine zi_iconst d_md_result_120 ?_
                  refine zi_iload d_md_result_121 rfl ?_
                  refine zi_if_eq 150 d_md_result_123 (by decide) (by first | assumption | exact ⟨by omega, by omega⟩) (fun h123 => ?_) (fun h123 => ?_)
                  · refine zi_iconst d_md_result_150 ?_
                    refine c_md_result_151 rfl rfl (md_refused ⟨by decide, by decide⟩ ⟨by decide, by decide⟩ ⟨by decide, by decide⟩ ⟨by decide, by decide⟩) ?_
                    show zV _ _ _ _ _ (vi 1 :: _) (tU τ 37 0 1) _ _
                    refine zi_if_eq 159 d_md_result_154 (by decide) (by first | assumption | exact ⟨by omega, by omega⟩) (fun h154 => ?_) (fun h154 => ?_)
                    · exact absurd h154 (by decide)
                    · refine zi_iconst d_md_result_157 ?_
                      exact zk_iret rfl d_md_result_158 (Nat.zero_le _) (Nat.zero_le _) (by first | rfl | omega | (split <;> omega) | simp_all) rfl
                  · exfalso
                    grind
                · refine zi_iconst d_md_result_116 ?_
                  refine zr_goto 121 d_md_result_117 (by decide) ?_
                  refine zi_iload d_md_result_121 rfl ?_
                  refine zi_if_eq 150 d_md_result_123 (by decide) (by first | assumption | exact ⟨by omega, by omega⟩) (fun h123 => ?_) (fun h123 => ?_)
                  · refine zi_iconst d_md_result_150 ?_
                    refine c_md_result_151 rfl rfl (md_refused ⟨by decide, by decide⟩ ⟨by decide, by decide⟩ ⟨by decide, by decide⟩ ⟨by decide, by decide⟩) ?_
                    show zV _ _ _ _ _ (vi 1 :: _) (tU τ 37 0 1) _ _
                    refine zi_if_eq 159 d_md_result_154 (by decide) (by first | assumption | exact ⟨by omega, by omega⟩) (fun h154 => ?_) (fun h154 => ?_)
                    · exact absurd h154 (by decide)
                    · refine zi_iconst d_md_result_157 ?_
                      exact zk_iret rfl d_md_result_158 (Nat.zero_le _) (Nat.zero_le _) (by first | rfl | omega | (split <;> omega) | simp_all) rfl
                  · exfalso
                    grind
          · exfalso
            grind
        · exfalso
          grind
      · refine zi_iload d_md_result_33 rfl ?_
        refine zi_iconst d_md_result_35 ?_
        refine zi_bipush d_md_result_36 (by decide) ?_
        refine c_md_result_38 rfl (md_in zy ⟨by decide, by decide⟩ ⟨by decide, by decide⟩) ?_
        refine zi_if_eq 48 d_md_result_41 (by decide) (by split <;> exact ⟨by decide, by decide⟩) (fun h41 => ?_) (fun h41 => ?_)
        · refine zi_iconst d_md_result_48 ?_
          refine zi_istore d_md_result_49 (by decide) rfl ?_
          refine zi_iload d_md_result_51 rfl ?_
          refine zi_if_eq 70 d_md_result_53 (by decide) (by first | assumption | exact ⟨by omega, by omega⟩) (fun h53 => ?_) (fun h53 => ?_)
          · refine zi_iconst d_md_result_70 ?_
            refine zi_istore d_md_result_71 (by decide) rfl ?_
            refine zi_iload d_md_result_73 rfl ?_
            refine zi_if_eq 87 d_md_result_75 (by decide) (by first | assumption | exact ⟨by omega, by omega⟩) (fun h75 => ?_) (fun h75 => ?_)
            · refine zi_iconst d_md_result_87 ?_
              refine zi_istore d_md_result_88 (by decide) rfl ?_
              refine zr_aload_n d_md_result_90 rfl ?_
              refine zi_iload d_md_result_91 rfl ?_
              refine zi_if_ne 100 d_md_result_93 (by decide) (by first | assumption | exact ⟨by omega, by omega⟩) (fun h93 => ?_) (fun h93 => ?_)
              · exfalso
                grind
              · refine zi_iconst d_md_result_96 ?_
                refine zr_goto 101 d_md_result_97 (by decide) ?_
                refine zi_iload d_md_result_101 rfl ?_
                refine zi_if_ne 110 d_md_result_103 (by decide) (by first | assumption | exact ⟨by omega, by omega⟩) (fun h103 => ?_) (fun h103 => ?_)
                · refine zi_iconst d_md_result_110 ?_
                  refine zi_iload d_md_result_111 rfl ?_
                  refine zi_if_ne 120 d_md_result_113 (by decide) (by first | assumption | exact ⟨by omega, by omega⟩) (fun h113 => ?_) (fun h113 => ?_)
                  · refine zi_iconst d_md_result_120 ?_
                    refine zi_iload d_md_result_121 rfl ?_
                    refine zi_if_eq 150 d_md_result_123 (by decide) (by first | assumption | exact ⟨by omega, by omega⟩) (fun h123 => ?_) (fun h123 => ?_)
                    · refine zi_iconst d_md_result_150 ?_
                      refine c_md_result_151 rfl rfl (md_refused ⟨by decide, by decide⟩ ⟨by decide, by decide⟩ ⟨by decide, by decide⟩ ⟨by decide, by decide⟩) ?_
                      show zV _ _ _ _ _ (vi 1 :: _) (tU τ 37 0 1) _ _
                      refine zi_if_eq 159 d_md_result_154 (by decide) (by first | assumption | exact ⟨by omega, by omega⟩) (fun h154 => ?_) (fun h154 => ?_)
                      · exact absurd h154 (by decide)
                      · refine zi_iconst d_md_result_157 ?_
                        exact zk_iret rfl d_md_result_158 (Nat.zero_le _) (Nat.zero_le _) (by first | rfl | omega | (split <;> omega) | simp_all) rfl
                    · exfalso
                      grind
                  · refine zi_iconst d_md_result_116 ?_
                    refine zr_goto 121 d_md_result_117 (by decide) ?_
                    refine zi_iload d_md_result_121 rfl ?_
                    refine zi_if_eq 150 d_md_result_123 (by decide) (by first | assumption | exact ⟨by omega, by omega⟩) (fun h123 => ?_) (fun h123 => ?_)
                    · refine zi_iconst d_md_result_150 ?_
                      refine c_md_result_151 rfl rfl (md_refused ⟨by decide, by decide⟩ ⟨by decide, by decide⟩ ⟨by decide, by decide⟩ ⟨by decide, by decide⟩) ?_
                      show zV _ _ _ _ _ (vi 1 :: _) (tU τ 37 0 1) _ _
                      refine zi_if_eq 159 d_md_result_154 (by decide) (by first | assumption | exact ⟨by omega, by omega⟩) (fun h154 => ?_) (fun h154 => ?_)
                      · exact absurd h154 (by decide)
                      · refine zi_iconst d_md_result_157 ?_
                        exact zk_iret rfl d_md_result_158 (Nat.zero_le _) (Nat.zero_le _) (by first | rfl | omega | (split <;> omega) | simp_all) rfl
                    · exfalso
                      grind
                · refine zi_iconst d_md_result_106 ?_
                  refine zr_goto 111 d_md_result_107 (by decide) ?_
                  refine zi_iload d_md_result_111 rfl ?_
                  refine zi_if_ne 120 d_md_result_113 (by decide) (by first | assumption | exact ⟨by omega, by omega⟩) (fun h113 => ?_) (fun h113 => ?_)
                  · refine zi_iconst d_md_result_120 ?_
                    refine zi_iload d_md_result_121 rfl ?_
                    refine zi_if_eq 150 d_md_result_123 (by decide) (by first | assumption | exact ⟨by omega, by omega⟩) (fun h123 => ?_) (fun h123 => ?_)
                    · refine zi_iconst d_md_result_150 ?_
                      refine c_md_result_151 rfl rfl (md_refused ⟨by decide, by decide⟩ ⟨by decide, by decide⟩ ⟨by decide, by decide⟩ ⟨by decide, by decide⟩) ?_
                      show zV _ _ _ _ _ (vi 1 :: _) (tU τ 37 0 1) _ _
                      refine zi_if_eq 159 d_md_result_154 (by decide) (by first | assumption | exact ⟨by omega, by omega⟩) (fun h154 => ?_) (fun h154 => ?_)
                      · exact absurd h154 (by decide)
                      · refine zi_iconst d_md_result_157 ?_
                        exact zk_iret rfl d_md_result_158 (Nat.zero_le _) (Nat.zero_le _) (by first | rfl | omega | (split <;> omega) | simp_all) rfl
                    · exfalso
                      grind
                  · refine zi_iconst d_md_result_116 ?_
                    refine zr_goto 121 d_md_result_117 (by decide) ?_
                    refine zi_iload d_md_result_121 rfl ?_
                    refine zi_if_eq 150 d_md_result_123 (by decide) (by first | assumption | exact ⟨by omega, by omega⟩) (fun h123 => ?_) (fun h123 => ?_)
                    · refine zi_iconst d_md_result_150 ?_
                      refine c_md_result_151 rfl rfl (md_refused ⟨by decide, by decide⟩ ⟨by decide, by decide⟩ ⟨by decide, by decide⟩ ⟨by decide, by decide⟩) ?_
                      show zV _ _ _ _ _ (vi 1 :: _) (tU τ 37 0 1) _ _
                      refine zi_if_eq 159 d_md_result_154 (by decide) (by first | assumption | exact ⟨by omega, by omega⟩) (fun h154 => ?_) (fun h154 => ?_)
                      · exact absurd h154 (by decide)
                      · refine zi_iconst d_md_result_157 ?_
                        exact zk_iret rfl d_md_result_158 (Nat.zero_le _) (Nat.zero_le _) (by first | rfl | omega | (split <;> omega) | simp_all) rfl
                    · exfalso
                      grind
            · exfalso
              grind
          · exfalso
            grind
        · refine zi_iconst d_md_result_44 ?_
          refine zr_goto 49 d_md_result_45 (by decide) ?_
          refine zi_istore d_md_result_49 (by decide) rfl ?_
          refine zi_iload d_md_result_51 rfl ?_
          refine zi_if_eq 70 d_md_result_53 (by decide) (by first | assumption | exact ⟨by omega, by omega⟩) (fun h53 => ?_) (fun h53 => ?_)
          · refine zi_iconst d_md_result_70 ?_
            refine zi_istore d_md_result_71 (by decide) rfl ?_
            refine zi_iload d_md_result_73 rfl ?_
            refine zi_if_eq 87 d_md_result_75 (by decide) (by first | assumption | exact ⟨by omega, by omega⟩) (fun h75 => ?_) (fun h75 => ?_)
            · refine zi_iconst d_md_result_87 ?_
              refine zi_istore d_md_result_88 (by decide) rfl ?_
              refine zr_aload_n d_md_result_90 rfl ?_
              refine zi_iload d_md_result_91 rfl ?_
              refine zi_if_ne 100 d_md_result_93 (by decide) (by first | assumption | exact ⟨by omega, by omega⟩) (fun h93 => ?_) (fun h93 => ?_)
              · exfalso
                grind
              · refine zi_iconst d_md_result_96 ?_
                refine zr_goto 101 d_md_result_97 (by decide) ?_
                refine zi_iload d_md_result_101 rfl ?_
                refine zi_if_ne 110 d_md_result_103 (by decide) (by first | assumption | exact ⟨by omega, by omega⟩) (fun h103 => ?_) (fun h103 => ?_)
                · refine zi_iconst d_md_result_110 ?_
                  refine zi_iload d_md_result_111 rfl ?_
                  refine zi_if_ne 120 d_md_result_113 (by decide) (by first | assumption | exact ⟨by omega, by omega⟩) (fun h113 => ?_) (fun h113 => ?_)
                  · refine zi_iconst d_md_result_120 ?_
                    refine zi_iload d_md_result_121 rfl ?_
                    refine zi_if_eq 150 d_md_result_123 (by decide) (by first | assumption | exact ⟨by omega, by omega⟩) (fun h123 => ?_) (fun h123 => ?_)
                    · refine zi_iconst d_md_result_150 ?_
                      refine c_md_result_151 rfl rfl (md_refused ⟨by decide, by decide⟩ ⟨by decide, by decide⟩ ⟨by decide, by decide⟩ ⟨by decide, by decide⟩) ?_
                      show zV _ _ _ _ _ (vi 1 :: _) (tU τ 37 0 1) _ _
                      refine zi_if_eq 159 d_md_result_154 (by decide) (by first | assumption | exact ⟨by omega, by omega⟩) (fun h154 => ?_) (fun h154 => ?_)
                      · exact absurd h154 (by decide)
                      · refine zi_iconst d_md_result_157 ?_
                        exact zk_iret rfl d_md_result_158 (Nat.zero_le _) (Nat.zero_le _) (by first | rfl | omega | (split <;> omega) | simp_all) rfl
                    · exfalso
                      grind
                  · refine zi_iconst d_md_result_116 ?_
                    refine zr_goto 121 d_md_result_117 (by decide) ?_
                    refine zi_iload d_md_result_121 rfl ?_
                    refine zi_if_eq 150 d_md_result_123 (by decide) (by first | assumption | exact ⟨by omega, by omega⟩) (fun h123 => ?_) (fun h123 => ?_)
                    · refine zi_iconst d_md_result_150 ?_
                      refine c_md_result_151 rfl rfl (md_refused ⟨by decide, by decide⟩ ⟨by decide, by decide⟩ ⟨by decide, by decide⟩ ⟨by decide, by decide⟩) ?_
                      show zV _ _ _ _ _ (vi 1 :: _) (tU τ 37 0 1) _ _
                      refine zi_if_eq 159 d_md_result_154 (by decide) (by first | assumption | exact ⟨by omega, by omega⟩) (fun h154 => ?_) (fun h154 => ?_)
                      · exact absurd h154 (by decide)
                      · refine zi_iconst d_md_result_157 ?_
                        exact zk_iret rfl d_md_result_158 (Nat.zero_le _) (Nat.zero_le _) (by first | rfl | omega | (split <;> omega) | simp_all) rfl
                    · exfalso
                      grind
                · refine zi_iconst d_md_result_106 ?_
                  refine zr_goto 111 d_md_result_107 (by decide) ?_
                  refine zi_iload d_md_result_111 rfl ?_
                  refine zi_if_ne 120 d_md_result_113 (by decide) (by first | assumption | exact ⟨by omega, by omega⟩) (fun h113 => ?_) (fun h113 => ?_)
                  · refine zi_iconst d_md_result_120 ?_
                    refine zi_iload d_md_result_121 rfl ?_
                    refine zi_if_eq 150 d_md_result_123 (by decide) (by first | assumption | exact ⟨by omega, by omega⟩) (fun h123 => ?_) (fun h123 => ?_)
                    · refine zi_iconst d_md_result_150 ?_
                      refine c_md_result_151 rfl rfl (md_refused ⟨by decide, by decide⟩ ⟨by decide, by decide⟩ ⟨by decide, by decide⟩ ⟨by decide, by decide⟩) ?_
                      show zV _ _ _ _ _ (vi 1 :: _) (tU τ 37 0 1) _ _
                      refine zi_if_eq 159 d_md_result_154 (by decide) (by first | assumption | exact ⟨by omega, by omega⟩) (fun h154 => ?_) (fun h154 => ?_)
                      · exact absurd h154 (by decide)
                      · refine zi_iconst d_md_result_157 ?_
                        exact zk_iret rfl d_md_result_158 (Nat.zero_le _) (Nat.zero_le _) (by first | rfl | omega | (split <;> omega) | simp_all) rfl
                    · exfalso
                      grind
                  · refine zi_iconst d_md_result_116 ?_
                    refine zr_goto 121 d_md_result_117 (by decide) ?_
                    refine zi_iload d_md_result_121 rfl ?_
                    refine zi_if_eq 150 d_md_result_123 (by decide) (by first | assumption | exact ⟨by omega, by omega⟩) (fun h123 => ?_) (fun h123 => ?_)
                    · refine zi_iconst d_md_result_150 ?_
                      refine c_md_result_151 rfl rfl (md_refused ⟨by decide, by decide⟩ ⟨by decide, by decide⟩ ⟨by decide, by decide⟩ ⟨by decide, by decide⟩) ?_
                      show zV _ _ _ _ _ (vi 1 :: _) (tU τ 37 0 1) _ _
                      refine zi_if_eq 159 d_md_result_154 (by decide) (by first | assumption | exact ⟨by omega, by omega⟩) (fun h154 => ?_) (fun h154 => ?_)
                      · exact absurd h154 (by decide)
                      · refine zi_iconst d_md_result_157 ?_
                        exact zk_iret rfl d_md_result_158 (Nat.zero_le _) (Nat.zero_le _) (by first | rfl | omega | (split <;> omega) | simp_all) rfl
                    · exfalso
                      grind
            · exfalso
              grind
          · exfalso
            grind
    · exfalso
      grind
theorem md_resultX2 {l : Launch} {d : Nat} {τ : tS} {n R p f e : Nat} (C : Mo τ n R p f e) {r t x y : Int} (zr : zin r) (zt : zin t) (zx : zin x) (zy : zin y) (h : (0 ≤ r ∧ r < R) ∧ (0 ≤ t ∧ t < n)) (hg : ¬ ((0 ≤ x ∧ x ≤ 99) ∧ (0 ≤ y ∧ y ≤ 99))) : zF l (d + 4) M_md_result [.ref 37, vi r, vi t, vi x, vi y] (τ) (some (vi 0)) (tU τ 37 0 2) := by
  refine zMet_of (ls := [.ref 37, vi r, vi t, vi x, vi y, .null, .null, .null, .null]) pn_md rfl (by simp [vi, Value.category]) rfl rfl ?_
  have hA := C.A
  have hn := C.n
  have hn4 := C.n4
  have hn20 := C.n20
  have hR := C.R
  have hR38 := C.R38
  refine zr_aload_n d_md_result_0 rfl ?_
  refine zi_iload_n d_md_result_1 rfl ?_
  refine c_md_result_2 rfl rfl (md_isRound C zr) ?_
  refine zi_if_eq 20 d_md_result_5 (by decide) (by split <;> exact ⟨by decide, by decide⟩) (fun h5 => ?_) (fun h5 => ?_)
  · exfalso
    grind
  · refine zr_aload_n d_md_result_8 rfl ?_
    refine zi_iload_n d_md_result_9 rfl ?_
    refine c_md_result_10 rfl rfl (md_isTeam C zt) ?_
    refine zi_if_eq 20 d_md_result_13 (by decide) (by split <;> exact ⟨by decide, by decide⟩) (fun h13 => ?_) (fun h13 => ?_)
    · exfalso
      grind
    · refine zi_iconst d_md_result_16 ?_
      refine zr_goto 21 d_md_result_17 (by decide) ?_
      refine zi_istore d_md_result_21 (by decide) rfl ?_
      refine zi_iload_n d_md_result_23 rfl ?_
      refine zi_iconst d_md_result_24 ?_
      refine zi_bipush d_md_result_25 (by decide) ?_
      refine c_md_result_27 rfl (md_in zx ⟨by decide, by decide⟩ ⟨by decide, by decide⟩) ?_
      refine zi_if_eq 48 d_md_result_30 (by decide) (by split <;> exact ⟨by decide, by decide⟩) (fun h30 => ?_) (fun h30 => ?_)
      · refine zi_iconst d_md_result_48 ?_
        refine zi_istore d_md_result_49 (by decide) rfl ?_
        refine zi_iload d_md_result_51 rfl ?_
        refine zi_if_eq 70 d_md_result_53 (by decide) (by first | assumption | exact ⟨by omega, by omega⟩) (fun h53 => ?_) (fun h53 => ?_)
        · refine zi_iconst d_md_result_70 ?_
          refine zi_istore d_md_result_71 (by decide) rfl ?_
          refine zi_iload d_md_result_73 rfl ?_
          refine zi_if_eq 87 d_md_result_75 (by decide) (by first | assumption | exact ⟨by omega, by omega⟩) (fun h75 => ?_) (fun h75 => ?_)
          · exfalso
            grind
          · refine zi_bipush d_md_result_78 (by decide) ?_
            refine zi_iload_n d_md_result_80 rfl ?_
            refine zi_imul d_md_result_81 ?_
            refine zi_iload_n d_md_result_82 rfl ?_
            refine zi_iadd d_md_result_83 ?_
            refine zr_goto 88 d_md_result_84 (by decide) ?_
            refine zi_istore d_md_result_88 (by decide) rfl ?_
            refine zr_aload_n d_md_result_90 rfl ?_
            refine zi_iload d_md_result_91 rfl ?_
            refine zi_if_ne 100 d_md_result_93 (by decide) (by first | assumption | exact ⟨by omega, by omega⟩) (fun h93 => ?_) (fun h93 => ?_)
            · refine zi_iconst d_md_result_100 ?_
              refine zi_iload d_md_result_101 rfl ?_
              refine zi_if_ne 110 d_md_result_103 (by decide) (by first | assumption | exact ⟨by omega, by omega⟩) (fun h103 => ?_) (fun h103 => ?_)
              · exfalso
                grind
              · refine zi_iconst d_md_result_106 ?_
                refine zr_goto 111 d_md_result_107 (by decide) ?_
                refine zi_iload d_md_result_111 rfl ?_
                refine zi_if_ne 120 d_md_result_113 (by decide) (by first | assumption | exact ⟨by omega, by omega⟩) (fun h113 => ?_) (fun h113 => ?_)
                · refine zi_iconst d_md_result_120 ?_
                  refine zi_iload d_md_result_121 rfl ?_
                  refine zi_if_eq 150 d_md_result_123 (by decide) (by first | assumption | exact ⟨by omega, by omega⟩) (fun h123 => ?_) (fun h123 => ?_)
                  · refine zi_iconst d_md_result_150 ?_
                    refine c_md_result_151 rfl rfl (md_refused ⟨by decide, by decide⟩ ⟨by decide, by decide⟩ ⟨by decide, by decide⟩ ⟨by decide, by decide⟩) ?_
                    show zV _ _ _ _ _ (vi 1 :: _) (tU τ 37 0 2) _ _
                    refine zi_if_eq 159 d_md_result_154 (by decide) (by first | assumption | exact ⟨by omega, by omega⟩) (fun h154 => ?_) (fun h154 => ?_)
                    · exact absurd h154 (by decide)
                    · refine zi_iconst d_md_result_157 ?_
                      exact zk_iret rfl d_md_result_158 (Nat.zero_le _) (Nat.zero_le _) (by first | rfl | omega | (split <;> omega) | simp_all) rfl
                  · refine zr_aload_n d_md_result_126 rfl ?_
                    refine zi_getr (j := 18) d_md_result_127 zC8 fl_md_48 (by decide) rfl rfl ?_
                    refine zi_iload d_md_result_130 rfl ?_
                    refine zi_zald d_md_result_132 rfl (by decide) (by omega) (by omega) ?_
                    refine zi_if_eq 150 d_md_result_133 (by decide) (hA _ _) (fun h133 => ?_) (fun h133 => ?_)
                    · refine zi_iconst d_md_result_150 ?_
                      refine c_md_result_151 rfl rfl (md_refused ⟨by decide, by decide⟩ ⟨by decide, by decide⟩ ⟨by decide, by decide⟩ ⟨by decide, by decide⟩) ?_
                      show zV _ _ _ _ _ (vi 1 :: _) (tU τ 37 0 2) _ _
                      refine zi_if_eq 159 d_md_result_154 (by decide) (by first | assumption | exact ⟨by omega, by omega⟩) (fun h154 => ?_) (fun h154 => ?_)
                      · exact absurd h154 (by decide)
                      · refine zi_iconst d_md_result_157 ?_
                        exact zk_iret rfl d_md_result_158 (Nat.zero_le _) (Nat.zero_le _) (by first | rfl | omega | (split <;> omega) | simp_all) rfl
                    · refine zr_aload_n d_md_result_136 rfl ?_
                      refine zi_getr (j := 19) d_md_result_137 zC8 fl_md_51 (by decide) rfl rfl ?_
                      refine zi_iload d_md_result_140 rfl ?_
                      refine zi_iald d_md_result_142 rfl (by decide) (by omega) (by omega) ?_
                      refine zi_if_ge 150 d_md_result_143 (by decide) (hA _ _) (fun h143 => ?_) (fun h143 => ?_)
                      · refine zi_iconst d_md_result_150 ?_
                        refine c_md_result_151 rfl rfl (md_refused ⟨by decide, by decide⟩ ⟨by decide, by decide⟩ ⟨by decide, by decide⟩ ⟨by decide, by decide⟩) ?_
                        show zV _ _ _ _ _ (vi 1 :: _) (tU τ 37 0 2) _ _
                        refine zi_if_eq 159 d_md_result_154 (by decide) (by first | assumption | exact ⟨by omega, by omega⟩) (fun h154 => ?_) (fun h154 => ?_)
                        · exact absurd h154 (by decide)
                        · refine zi_iconst d_md_result_157 ?_
                          exact zk_iret rfl d_md_result_158 (Nat.zero_le _) (Nat.zero_le _) (by first | rfl | omega | (split <;> omega) | simp_all) rfl
                      · refine zi_iconst d_md_result_146 ?_
                        refine zr_goto 151 d_md_result_147 (by decide) ?_
                        refine c_md_result_151 rfl rfl (md_refused ⟨by decide, by decide⟩ ⟨by decide, by decide⟩ ⟨by decide, by decide⟩ ⟨by decide, by decide⟩) ?_
                        show zV _ _ _ _ _ (vi 1 :: _) (tU τ 37 0 2) _ _
                        refine zi_if_eq 159 d_md_result_154 (by decide) (by first | assumption | exact ⟨by omega, by omega⟩) (fun h154 => ?_) (fun h154 => ?_)
                        · exact absurd h154 (by decide)
                        · refine zi_iconst d_md_result_157 ?_
                          exact zk_iret rfl d_md_result_158 (Nat.zero_le _) (Nat.zero_le _) (by first | rfl | omega | (split <;> omega) | simp_all) rfl
                · refine zi_iconst d_md_result_116 ?_
                  refine zr_goto 121 d_md_result_117 (by decide) ?_
                  refine zi_iload d_md_result_121 rfl ?_
                  refine zi_if_eq 150 d_md_result_123 (by decide) (by first | assumption | exact ⟨by omega, by omega⟩) (fun h123 => ?_) (fun h123 => ?_)
                  · refine zi_iconst d_md_result_150 ?_
                    refine c_md_result_151 rfl rfl (md_refused ⟨by decide, by decide⟩ ⟨by decide, by decide⟩ ⟨by decide, by decide⟩ ⟨by decide, by decide⟩) ?_
                    show zV _ _ _ _ _ (vi 1 :: _) (tU τ 37 0 2) _ _
                    refine zi_if_eq 159 d_md_result_154 (by decide) (by first | assumption | exact ⟨by omega, by omega⟩) (fun h154 => ?_) (fun h154 => ?_)
                    · exact absurd h154 (by decide)
                    · refine zi_iconst d_md_result_157 ?_
                      exact zk_iret rfl d_md_result_158 (Nat.zero_le _) (Nat.zero_le _) (by first | rfl | omega | (split <;> omega) | simp_all) rfl
                  · refine zr_aload_n d_md_result_126 rfl ?_
                    refine zi_getr (j := 18) d_md_result_127 zC8 fl_md_48 (by decide) rfl rfl ?_
                    refine zi_iload d_md_result_130 rfl ?_
                    refine zi_zald d_md_result_132 rfl (by decide) (by omega) (by omega) ?_
                    refine zi_if_eq 150 d_md_result_133 (by decide) (hA _ _) (fun h133 => ?_) (fun h133 => ?_)
                    · refine zi_iconst d_md_result_150 ?_
                      refine c_md_result_151 rfl rfl (md_refused ⟨by decide, by decide⟩ ⟨by decide, by decide⟩ ⟨by decide, by decide⟩ ⟨by decide, by decide⟩) ?_
                      show zV _ _ _ _ _ (vi 1 :: _) (tU τ 37 0 2) _ _
                      refine zi_if_eq 159 d_md_result_154 (by decide) (by first | assumption | exact ⟨by omega, by omega⟩) (fun h154 => ?_) (fun h154 => ?_)
                      · exact absurd h154 (by decide)
                      · refine zi_iconst d_md_result_157 ?_
                        exact zk_iret rfl d_md_result_158 (Nat.zero_le _) (Nat.zero_le _) (by first | rfl | omega | (split <;> omega) | simp_all) rfl
                    · refine zr_aload_n d_md_result_136 rfl ?_
                      refine zi_getr (j := 19) d_md_result_137 zC8 fl_md_51 (by decide) rfl rfl ?_
                      refine zi_iload d_md_result_140 rfl ?_
                      refine zi_iald d_md_result_142 rfl (by decide) (by omega) (by omega) ?_
                      refine zi_if_ge 150 d_md_result_143 (by decide) (hA _ _) (fun h143 => ?_) (fun h143 => ?_)
                      · refine zi_iconst d_md_result_150 ?_
                        refine c_md_result_151 rfl rfl (md_refused ⟨by decide, by decide⟩ ⟨by decide, by decide⟩ ⟨by decide, by decide⟩ ⟨by decide, by decide⟩) ?_
                        show zV _ _ _ _ _ (vi 1 :: _) (tU τ 37 0 2) _ _
                        refine zi_if_eq 159 d_md_result_154 (by decide) (by first | assumption | exact ⟨by omega, by omega⟩) (fun h154 => ?_) (fun h154 => ?_)
                        · exact absurd h154 (by decide)
                        · refine zi_iconst d_md_result_157 ?_
                          exact zk_iret rfl d_md_result_158 (Nat.zero_le _) (Nat.zero_le _) (by first | rfl | omega | (split <;> omega) | simp_all) rfl
                      · refine zi_iconst d_md_result_146 ?_
                        refine zr_goto 151 d_md_result_147 (by decide) ?_
                        refine c_md_result_151 rfl rfl (md_refused ⟨by decide, by decide⟩ ⟨by decide, by decide⟩ ⟨by decide, by decide⟩ ⟨by decide, by decide⟩) ?_
                        show zV _ _ _ _ _ (vi 1 :: _) (tU τ 37 0 2) _ _
                        refine zi_if_eq 159 d_md_result_154 (by decide) (by first | assumption | exact ⟨by omega, by omega⟩) (fun h154 => ?_) (fun h154 => ?_)
                        · exact absurd h154 (by decide)
                        · refine zi_iconst d_md_result_157 ?_
                          exact zk_iret rfl d_md_result_158 (Nat.zero_le _) (Nat.zero_le _) (by first | rfl | omega | (split <;> omega) | simp_all) rfl
            · exfalso
              grind
        · refine zr_aload_n d_md_result_56 rfl ?_
          refine zi_iload_n d_md_result_57 rfl ?_
          refine zi_iload_n d_md_result_58 rfl ?_
          refine c_md_result_59 rfl rfl (md_venueOf hA ⟨by omega, by omega⟩ ⟨by omega, by omega⟩) ?_
          refine zi_iconst d_md_result_62 ?_
          refine zi_icmp_ne 70 d_md_result_63 (by decide) (veM_in _ _) ⟨by decide, by decide⟩ (fun h63 => ?_) (fun h63 => ?_)
          · refine zi_iconst d_md_result_70 ?_
            refine zi_istore d_md_result_71 (by decide) rfl ?_
            refine zi_iload d_md_result_73 rfl ?_
            refine zi_if_eq 87 d_md_result_75 (by decide) (by first | assumption | exact ⟨by omega, by omega⟩) (fun h75 => ?_) (fun h75 => ?_)
            · exfalso
              grind
            · refine zi_bipush d_md_result_78 (by decide) ?_
              refine zi_iload_n d_md_result_80 rfl ?_
              refine zi_imul d_md_result_81 ?_
              refine zi_iload_n d_md_result_82 rfl ?_
              refine zi_iadd d_md_result_83 ?_
              refine zr_goto 88 d_md_result_84 (by decide) ?_
              refine zi_istore d_md_result_88 (by decide) rfl ?_
              refine zr_aload_n d_md_result_90 rfl ?_
              refine zi_iload d_md_result_91 rfl ?_
              refine zi_if_ne 100 d_md_result_93 (by decide) (by first | assumption | exact ⟨by omega, by omega⟩) (fun h93 => ?_) (fun h93 => ?_)
              · refine zi_iconst d_md_result_100 ?_
                refine zi_iload d_md_result_101 rfl ?_
                refine zi_if_ne 110 d_md_result_103 (by decide) (by first | assumption | exact ⟨by omega, by omega⟩) (fun h103 => ?_) (fun h103 => ?_)
                · exfalso
                  grind
                · refine zi_iconst d_md_result_106 ?_
                  refine zr_goto 111 d_md_result_107 (by decide) ?_
                  refine zi_iload d_md_result_111 rfl ?_
                  refine zi_if_ne 120 d_md_result_113 (by decide) (by first | assumption | exact ⟨by omega, by omega⟩) (fun h113 => ?_) (fun h113 => ?_)
                  · refine zi_iconst d_md_result_120 ?_
                    refine zi_iload d_md_result_121 rfl ?_
                    refine zi_if_eq 150 d_md_result_123 (by decide) (by first | assumption | exact ⟨by omega, by omega⟩) (fun h123 => ?_) (fun h123 => ?_)
                    · refine zi_iconst d_md_result_150 ?_
                      refine c_md_result_151 rfl rfl (md_refused ⟨by decide, by decide⟩ ⟨by decide, by decide⟩ ⟨by decide, by decide⟩ ⟨by decide, by decide⟩) ?_
                      show zV _ _ _ _ _ (vi 1 :: _) (tU τ 37 0 2) _ _
                      refine zi_if_eq 159 d_md_result_154 (by decide) (by first | assumption | exact ⟨by omega, by omega⟩) (fun h154 => ?_) (fun h154 => ?_)
                      · exact absurd h154 (by decide)
                      · refine zi_iconst d_md_result_157 ?_
                        exact zk_iret rfl d_md_result_158 (Nat.zero_le _) (Nat.zero_le _) (by first | rfl | omega | (split <;> omega) | simp_all) rfl
                    · refine zr_aload_n d_md_result_126 rfl ?_
                      refine zi_getr (j := 18) d_md_result_127 zC8 fl_md_48 (by decide) rfl rfl ?_
                      refine zi_iload d_md_result_130 rfl ?_
                      refine zi_zald d_md_result_132 rfl (by decide) (by omega) (by omega) ?_
                      refine zi_if_eq 150 d_md_result_133 (by decide) (hA _ _) (fun h133 => ?_) (fun h133 => ?_)
                      · refine zi_iconst d_md_result_150 ?_
                        refine c_md_result_151 rfl rfl (md_refused ⟨by decide, by decide⟩ ⟨by decide, by decide⟩ ⟨by decide, by decide⟩ ⟨by decide, by decide⟩) ?_
                        show zV _ _ _ _ _ (vi 1 :: _) (tU τ 37 0 2) _ _
                        refine zi_if_eq 159 d_md_result_154 (by decide) (by first | assumption | exact ⟨by omega, by omega⟩) (fun h154 => ?_) (fun h154 => ?_)
                        · exact absurd h154 (by decide)
                        · refine zi_iconst d_md_result_157 ?_
                          exact zk_iret rfl d_md_result_158 (Nat.zero_le _) (Nat.zero_le _) (by first | rfl | omega | (split <;> omega) | simp_all) rfl
                      · refine zr_aload_n d_md_result_136 rfl ?_
                        refine zi_getr (j := 19) d_md_result_137 zC8 fl_md_51 (by decide) rfl rfl ?_
                        refine zi_iload d_md_result_140 rfl ?_
                        refine zi_iald d_md_result_142 rfl (by decide) (by omega) (by omega) ?_
                        refine zi_if_ge 150 d_md_result_143 (by decide) (hA _ _) (fun h143 => ?_) (fun h143 => ?_)
                        · refine zi_iconst d_md_result_150 ?_
                          refine c_md_result_151 rfl rfl (md_refused ⟨by decide, by decide⟩ ⟨by decide, by decide⟩ ⟨by decide, by decide⟩ ⟨by decide, by decide⟩) ?_
                          show zV _ _ _ _ _ (vi 1 :: _) (tU τ 37 0 2) _ _
                          refine zi_if_eq 159 d_md_result_154 (by decide) (by first | assumption | exact ⟨by omega, by omega⟩) (fun h154 => ?_) (fun h154 => ?_)
                          · exact absurd h154 (by decide)
                          · refine zi_iconst d_md_result_157 ?_
                            exact zk_iret rfl d_md_result_158 (Nat.zero_le _) (Nat.zero_le _) (by first | rfl | omega | (split <;> omega) | simp_all) rfl
                        · refine zi_iconst d_md_result_146 ?_
                          refine zr_goto 151 d_md_result_147 (by decide) ?_
                          refine c_md_result_151 rfl rfl (md_refused ⟨by decide, by decide⟩ ⟨by decide, by decide⟩ ⟨by decide, by decide⟩ ⟨by decide, by decide⟩) ?_
                          show zV _ _ _ _ _ (vi 1 :: _) (tU τ 37 0 2) _ _
                          refine zi_if_eq 159 d_md_result_154 (by decide) (by first | assumption | exact ⟨by omega, by omega⟩) (fun h154 => ?_) (fun h154 => ?_)
                          · exact absurd h154 (by decide)
                          · refine zi_iconst d_md_result_157 ?_
                            exact zk_iret rfl d_md_result_158 (Nat.zero_le _) (Nat.zero_le _) (by first | rfl | omega | (split <;> omega) | simp_all) rfl
                  · refine zi_iconst d_md_result_116 ?_
                    refine zr_goto 121 d_md_result_117 (by decide) ?_
                    refine zi_iload d_md_result_121 rfl ?_
                    refine zi_if_eq 150 d_md_result_123 (by decide) (by first | assumption | exact ⟨by omega, by omega⟩) (fun h123 => ?_) (fun h123 => ?_)
                    · refine zi_iconst d_md_result_150 ?_
                      refine c_md_result_151 rfl rfl (md_refused ⟨by decide, by decide⟩ ⟨by decide, by decide⟩ ⟨by decide, by decide⟩ ⟨by decide, by decide⟩) ?_
                      show zV _ _ _ _ _ (vi 1 :: _) (tU τ 37 0 2) _ _
                      refine zi_if_eq 159 d_md_result_154 (by decide) (by first | assumption | exact ⟨by omega, by omega⟩) (fun h154 => ?_) (fun h154 => ?_)
                      · exact absurd h154 (by decide)
                      · refine zi_iconst d_md_result_157 ?_
                        exact zk_iret rfl d_md_result_158 (Nat.zero_le _) (Nat.zero_le _) (by first | rfl | omega | (split <;> omega) | simp_all) rfl
                    · refine zr_aload_n d_md_result_126 rfl ?_
                      refine zi_getr (j := 18) d_md_result_127 zC8 fl_md_48 (by decide) rfl rfl ?_
                      refine zi_iload d_md_result_130 rfl ?_
                      refine zi_zald d_md_result_132 rfl (by decide) (by omega) (by omega) ?_
                      refine zi_if_eq 150 d_md_result_133 (by decide) (hA _ _) (fun h133 => ?_) (fun h133 => ?_)
                      · refine zi_iconst d_md_result_150 ?_
                        refine c_md_result_151 rfl rfl (md_refused ⟨by decide, by decide⟩ ⟨by decide, by decide⟩ ⟨by decide, by decide⟩ ⟨by decide, by decide⟩) ?_
                        show zV _ _ _ _ _ (vi 1 :: _) (tU τ 37 0 2) _ _
                        refine zi_if_eq 159 d_md_result_154 (by decide) (by first | assumption | exact ⟨by omega, by omega⟩) (fun h154 => ?_) (fun h154 => ?_)
                        · exact absurd h154 (by decide)
                        · refine zi_iconst d_md_result_157 ?_
                          exact zk_iret rfl d_md_result_158 (Nat.zero_le _) (Nat.zero_le _) (by first | rfl | omega | (split <;> omega) | simp_all) rfl
                      · refine zr_aload_n d_md_result_136 rfl ?_
                        refine zi_getr (j := 19) d_md_result_137 zC8 fl_md_51 (by decide) rfl rfl ?_
                        refine zi_iload d_md_result_140 rfl ?_
                        refine zi_iald d_md_result_142 rfl (by decide) (by omega) (by omega) ?_
                        refine zi_if_ge 150 d_md_result_143 (by decide) (hA _ _) (fun h143 => ?_) (fun h143 => ?_)
                        · refine zi_iconst d_md_result_150 ?_
                          refine c_md_result_151 rfl rfl (md_refused ⟨by decide, by decide⟩ ⟨by decide, by decide⟩ ⟨by decide, by decide⟩ ⟨by decide, by decide⟩) ?_
                          show zV _ _ _ _ _ (vi 1 :: _) (tU τ 37 0 2) _ _
                          refine zi_if_eq 159 d_md_result_154 (by decide) (by first | assumption | exact ⟨by omega, by omega⟩) (fun h154 => ?_) (fun h154 => ?_)
                          · exact absurd h154 (by decide)
                          · refine zi_iconst d_md_result_157 ?_
                            exact zk_iret rfl d_md_result_158 (Nat.zero_le _) (Nat.zero_le _) (by first | rfl | omega | (split <;> omega) | simp_all) rfl
                        · refine zi_iconst d_md_result_146 ?_
                          refine zr_goto 151 d_md_result_147 (by decide) ?_
                          refine c_md_result_151 rfl rfl (md_refused ⟨by decide, by decide⟩ ⟨by decide, by decide⟩ ⟨by decide, by decide⟩ ⟨by decide, by decide⟩) ?_
                          show zV _ _ _ _ _ (vi 1 :: _) (tU τ 37 0 2) _ _
                          refine zi_if_eq 159 d_md_result_154 (by decide) (by first | assumption | exact ⟨by omega, by omega⟩) (fun h154 => ?_) (fun h154 => ?_)
                          · exact absurd h154 (by decide)
                          · refine zi_iconst d_md_result_157 ?_
                            exact zk_iret rfl d_md_result_158 (Nat.zero_le _) (Nat.zero_le _) (by first | rfl | omega | (split <;> omega) | simp_all) rfl
              · exfalso
                grind
          · refine zi_iconst d_md_result_66 ?_
            refine zr_goto 71 d_md_result_67 (by decide) ?_
            refine zi_istore d_md_result_71 (by decide) rfl ?_
            refine zi_iload d_md_result_73 rfl ?_
            refine zi_if_eq 87 d_md_result_75 (by decide) (by first | assumption | exact ⟨by omega, by omega⟩) (fun h75 => ?_) (fun h75 => ?_)
            · exfalso
              grind
            · refine zi_bipush d_md_result_78 (by decide) ?_
              refine zi_iload_n d_md_result_80 rfl ?_
              refine zi_imul d_md_result_81 ?_
              refine zi_iload_n d_md_result_82 rfl ?_
              refine zi_iadd d_md_result_83 ?_
              refine zr_goto 88 d_md_result_84 (by decide) ?_
              refine zi_istore d_md_result_88 (by decide) rfl ?_
              refine zr_aload_n d_md_result_90 rfl ?_
              refine zi_iload d_md_result_91 rfl ?_
              refine zi_if_ne 100 d_md_result_93 (by decide) (by first | assumption | exact ⟨by omega, by omega⟩) (fun h93 => ?_) (fun h93 => ?_)
              · refine zi_iconst d_md_result_100 ?_
                refine zi_iload d_md_result_101 rfl ?_
                refine zi_if_ne 110 d_md_result_103 (by decide) (by first | assumption | exact ⟨by omega, by omega⟩) (fun h103 => ?_) (fun h103 => ?_)
                · exfalso
                  grind
                · refine zi_iconst d_md_result_106 ?_
                  refine zr_goto 111 d_md_result_107 (by decide) ?_
                  refine zi_iload d_md_result_111 rfl ?_
                  refine zi_if_ne 120 d_md_result_113 (by decide) (by first | assumption | exact ⟨by omega, by omega⟩) (fun h113 => ?_) (fun h113 => ?_)
                  · refine zi_iconst d_md_result_120 ?_
                    refine zi_iload d_md_result_121 rfl ?_
                    refine zi_if_eq 150 d_md_result_123 (by decide) (by first | assumption | exact ⟨by omega, by omega⟩) (fun h123 => ?_) (fun h123 => ?_)
                    · refine zi_iconst d_md_result_150 ?_
                      refine c_md_result_151 rfl rfl (md_refused ⟨by decide, by decide⟩ ⟨by decide, by decide⟩ ⟨by decide, by decide⟩ ⟨by decide, by decide⟩) ?_
                      show zV _ _ _ _ _ (vi 1 :: _) (tU τ 37 0 2) _ _
                      refine zi_if_eq 159 d_md_result_154 (by decide) (by first | assumption | exact ⟨by omega, by omega⟩) (fun h154 => ?_) (fun h154 => ?_)
                      · exact absurd h154 (by decide)
                      · refine zi_iconst d_md_result_157 ?_
                        exact zk_iret rfl d_md_result_158 (Nat.zero_le _) (Nat.zero_le _) (by first | rfl | omega | (split <;> omega) | simp_all) rfl
                    · refine zr_aload_n d_md_result_126 rfl ?_
                      refine zi_getr (j := 18) d_md_result_127 zC8 fl_md_48 (by decide) rfl rfl ?_
                      refine zi_iload d_md_result_130 rfl ?_
                      refine zi_zald d_md_result_132 rfl (by decide) (by omega) (by omega) ?_
                      refine zi_if_eq 150 d_md_result_133 (by decide) (hA _ _) (fun h133 => ?_) (fun h133 => ?_)
                      · refine zi_iconst d_md_result_150 ?_
                        refine c_md_result_151 rfl rfl (md_refused ⟨by decide, by decide⟩ ⟨by decide, by decide⟩ ⟨by decide, by decide⟩ ⟨by decide, by decide⟩) ?_
                        show zV _ _ _ _ _ (vi 1 :: _) (tU τ 37 0 2) _ _
                        refine zi_if_eq 159 d_md_result_154 (by decide) (by first | assumption | exact ⟨by omega, by omega⟩) (fun h154 => ?_) (fun h154 => ?_)
                        · exact absurd h154 (by decide)
                        · refine zi_iconst d_md_result_157 ?_
                          exact zk_iret rfl d_md_result_158 (Nat.zero_le _) (Nat.zero_le _) (by first | rfl | omega | (split <;> omega) | simp_all) rfl
                      · refine zr_aload_n d_md_result_136 rfl ?_
                        refine zi_getr (j := 19) d_md_result_137 zC8 fl_md_51 (by decide) rfl rfl ?_
                        refine zi_iload d_md_result_140 rfl ?_
                        refine zi_iald d_md_result_142 rfl (by decide) (by omega) (by omega) ?_
                        refine zi_if_ge 150 d_md_result_143 (by decide) (hA _ _) (fun h143 => ?_) (fun h143 => ?_)
                        · refine zi_iconst d_md_result_150 ?_
                          refine c_md_result_151 rfl rfl (md_refused ⟨by decide, by decide⟩ ⟨by decide, by decide⟩ ⟨by decide, by decide⟩ ⟨by decide, by decide⟩) ?_
                          show zV _ _ _ _ _ (vi 1 :: _) (tU τ 37 0 2) _ _
                          refine zi_if_eq 159 d_md_result_154 (by decide) (by first | assumption | exact ⟨by omega, by omega⟩) (fun h154 => ?_) (fun h154 => ?_)
                          · exact absurd h154 (by decide)
                          · refine zi_iconst d_md_result_157 ?_
                            exact zk_iret rfl d_md_result_158 (Nat.zero_le _) (Nat.zero_le _) (by first | rfl | omega | (split <;> omega) | simp_all) rfl
                        · refine zi_iconst d_md_result_146 ?_
                          refine zr_goto 151 d_md_result_147 (by decide) ?_
                          refine c_md_result_151 rfl rfl (md_refused ⟨by decide, by decide⟩ ⟨by decide, by decide⟩ ⟨by decide, by decide⟩ ⟨by decide, by decide⟩) ?_
                          show zV _ _ _ _ _ (vi 1 :: _) (tU τ 37 0 2) _ _
                          refine zi_if_eq 159 d_md_result_154 (by decide) (by first | assumption | exact ⟨by omega, by omega⟩) (fun h154 => ?_) (fun h154 => ?_)
                          · exact absurd h154 (by decide)
                          · refine zi_iconst d_md_result_157 ?_
                            exact zk_iret rfl d_md_result_158 (Nat.zero_le _) (Nat.zero_le _) (by first | rfl | omega | (split <;> omega) | simp_all) rfl
                  · refine zi_iconst d_md_result_116 ?_
                    refine zr_goto 121 d_md_result_117 (by decide) ?_
                    refine zi_iload d_md_result_121 rfl ?_
                    refine zi_if_eq 150 d_md_result_123 (by decide) (by first | assumption | exact ⟨by omega, by omega⟩) (fun h123 => ?_) (fun h123 => ?_)
                    · refine zi_iconst d_md_result_150 ?_
                      refine c_md_result_151 rfl rfl (md_refused ⟨by decide, by decide⟩ ⟨by decide, by decide⟩ ⟨by decide, by decide⟩ ⟨by decide, by decide⟩) ?_
                      show zV _ _ _ _ _ (vi 1 :: _) (tU τ 37 0 2) _ _
                      refine zi_if_eq 159 d_md_result_154 (by decide) (by first | assumption | exact ⟨by omega, by omega⟩) (fun h154 => ?_) (fun h154 => ?_)
                      · exact absurd h154 (by decide)
                      · refine zi_iconst d_md_result_157 ?_
                        exact zk_iret rfl d_md_result_158 (Nat.zero_le _) (Nat.zero_le _) (by first | rfl | omega | (split <;> omega) | simp_all) rfl
                    · refine zr_aload_n d_md_result_126 rfl ?_
                      refine zi_getr (j := 18) d_md_result_127 zC8 fl_md_48 (by decide) rfl rfl ?_
                      refine zi_iload d_md_result_130 rfl ?_
                      refine zi_zald d_md_result_132 rfl (by decide) (by omega) (by omega) ?_
                      refine zi_if_eq 150 d_md_result_133 (by decide) (hA _ _) (fun h133 => ?_) (fun h133 => ?_)
                      · refine zi_iconst d_md_result_150 ?_
                        refine c_md_result_151 rfl rfl (md_refused ⟨by decide, by decide⟩ ⟨by decide, by decide⟩ ⟨by decide, by decide⟩ ⟨by decide, by decide⟩) ?_
                        show zV _ _ _ _ _ (vi 1 :: _) (tU τ 37 0 2) _ _
                        refine zi_if_eq 159 d_md_result_154 (by decide) (by first | assumption | exact ⟨by omega, by omega⟩) (fun h154 => ?_) (fun h154 => ?_)
                        · exact absurd h154 (by decide)
                        · refine zi_iconst d_md_result_157 ?_
                          exact zk_iret rfl d_md_result_158 (Nat.zero_le _) (Nat.zero_le _) (by first | rfl | omega | (split <;> omega) | simp_all) rfl
                      · refine zr_aload_n d_md_result_136 rfl ?_
                        refine zi_getr (j := 19) d_md_result_137 zC8 fl_md_51 (by decide) rfl rfl ?_
                        refine zi_iload d_md_result_140 rfl ?_
                        refine zi_iald d_md_result_142 rfl (by decide) (by omega) (by omega) ?_
                        refine zi_if_ge 150 d_md_result_143 (by decide) (hA _ _) (fun h143 => ?_) (fun h143 => ?_)
                        · refine zi_iconst d_md_result_150 ?_
                          refine c_md_result_151 rfl rfl (md_refused ⟨by decide, by decide⟩ ⟨by decide, by decide⟩ ⟨by decide, by decide⟩ ⟨by decide, by decide⟩) ?_
                          show zV _ _ _ _ _ (vi 1 :: _) (tU τ 37 0 2) _ _
                          refine zi_if_eq 159 d_md_result_154 (by decide) (by first | assumption | exact ⟨by omega, by omega⟩) (fun h154 => ?_) (fun h154 => ?_)
                          · exact absurd h154 (by decide)
                          · refine zi_iconst d_md_result_157 ?_
                            exact zk_iret rfl d_md_result_158 (Nat.zero_le _) (Nat.zero_le _) (by first | rfl | omega | (split <;> omega) | simp_all) rfl
                        · refine zi_iconst d_md_result_146 ?_
                          refine zr_goto 151 d_md_result_147 (by decide) ?_
                          refine c_md_result_151 rfl rfl (md_refused ⟨by decide, by decide⟩ ⟨by decide, by decide⟩ ⟨by decide, by decide⟩ ⟨by decide, by decide⟩) ?_
                          show zV _ _ _ _ _ (vi 1 :: _) (tU τ 37 0 2) _ _
                          refine zi_if_eq 159 d_md_result_154 (by decide) (by first | assumption | exact ⟨by omega, by omega⟩) (fun h154 => ?_) (fun h154 => ?_)
                          · exact absurd h154 (by decide)
                          · refine zi_iconst d_md_result_157 ?_
                            exact zk_iret rfl d_md_result_158 (Nat.zero_le _) (Nat.zero_le _) (by first | rfl | omega | (split <;> omega) | simp_all) rfl
              · exfalso
                grind
      · refine zi_iload d_md_result_33 rfl ?_
        refine zi_iconst d_md_result_35 ?_
        refine zi_bipush d_md_result_36 (by decide) ?_
        refine c_md_result_38 rfl (md_in zy ⟨by decide, by decide⟩ ⟨by decide, by decide⟩) ?_
        refine zi_if_eq 48 d_md_result_41 (by decide) (by split <;> exact ⟨by decide, by decide⟩) (fun h41 => ?_) (fun h41 => ?_)
        · refine zi_iconst d_md_result_48 ?_
          refine zi_istore d_md_result_49 (by decide) rfl ?_
          refine zi_iload d_md_result_51 rfl ?_
          refine zi_if_eq 70 d_md_result_53 (by decide) (by first | assumption | exact ⟨by omega, by omega⟩) (fun h53 => ?_) (fun h53 => ?_)
          · refine zi_iconst d_md_result_70 ?_
            refine zi_istore d_md_result_71 (by decide) rfl ?_
            refine zi_iload d_md_result_73 rfl ?_
            refine zi_if_eq 87 d_md_result_75 (by decide) (by first | assumption | exact ⟨by omega, by omega⟩) (fun h75 => ?_) (fun h75 => ?_)
            · exfalso
              grind
            · refine zi_bipush d_md_result_78 (by decide) ?_
              refine zi_iload_n d_md_result_80 rfl ?_
              refine zi_imul d_md_result_81 ?_
              refine zi_iload_n d_md_result_82 rfl ?_
              refine zi_iadd d_md_result_83 ?_
              refine zr_goto 88 d_md_result_84 (by decide) ?_
              refine zi_istore d_md_result_88 (by decide) rfl ?_
              refine zr_aload_n d_md_result_90 rfl ?_
              refine zi_iload d_md_result_91 rfl ?_
              refine zi_if_ne 100 d_md_result_93 (by decide) (by first | assumption | exact ⟨by omega, by omega⟩) (fun h93 => ?_) (fun h93 => ?_)
              · refine zi_iconst d_md_result_100 ?_
                refine zi_iload d_md_result_101 rfl ?_
                refine zi_if_ne 110 d_md_result_103 (by decide) (by first | assumption | exact ⟨by omega, by omega⟩) (fun h103 => ?_) (fun h103 => ?_)
                · exfalso
                  grind
                · refine zi_iconst d_md_result_106 ?_
                  refine zr_goto 111 d_md_result_107 (by decide) ?_
                  refine zi_iload d_md_result_111 rfl ?_
                  refine zi_if_ne 120 d_md_result_113 (by decide) (by first | assumption | exact ⟨by omega, by omega⟩) (fun h113 => ?_) (fun h113 => ?_)
                  · refine zi_iconst d_md_result_120 ?_
                    refine zi_iload d_md_result_121 rfl ?_
                    refine zi_if_eq 150 d_md_result_123 (by decide) (by first | assumption | exact ⟨by omega, by omega⟩) (fun h123 => ?_) (fun h123 => ?_)
                    · refine zi_iconst d_md_result_150 ?_
                      refine c_md_result_151 rfl rfl (md_refused ⟨by decide, by decide⟩ ⟨by decide, by decide⟩ ⟨by decide, by decide⟩ ⟨by decide, by decide⟩) ?_
                      show zV _ _ _ _ _ (vi 1 :: _) (tU τ 37 0 2) _ _
                      refine zi_if_eq 159 d_md_result_154 (by decide) (by first | assumption | exact ⟨by omega, by omega⟩) (fun h154 => ?_) (fun h154 => ?_)
                      · exact absurd h154 (by decide)
                      · refine zi_iconst d_md_result_157 ?_
                        exact zk_iret rfl d_md_result_158 (Nat.zero_le _) (Nat.zero_le _) (by first | rfl | omega | (split <;> omega) | simp_all) rfl
                    · refine zr_aload_n d_md_result_126 rfl ?_
                      refine zi_getr (j := 18) d_md_result_127 zC8 fl_md_48 (by decide) rfl rfl ?_
                      refine zi_iload d_md_result_130 rfl ?_
                      refine zi_zald d_md_result_132 rfl (by decide) (by omega) (by omega) ?_
                      refine zi_if_eq 150 d_md_result_133 (by decide) (hA _ _) (fun h133 => ?_) (fun h133 => ?_)
                      · refine zi_iconst d_md_result_150 ?_
                        refine c_md_result_151 rfl rfl (md_refused ⟨by decide, by decide⟩ ⟨by decide, by decide⟩ ⟨by decide, by decide⟩ ⟨by decide, by decide⟩) ?_
                        show zV _ _ _ _ _ (vi 1 :: _) (tU τ 37 0 2) _ _
                        refine zi_if_eq 159 d_md_result_154 (by decide) (by first | assumption | exact ⟨by omega, by omega⟩) (fun h154 => ?_) (fun h154 => ?_)
                        · exact absurd h154 (by decide)
                        · refine zi_iconst d_md_result_157 ?_
                          exact zk_iret rfl d_md_result_158 (Nat.zero_le _) (Nat.zero_le _) (by first | rfl | omega | (split <;> omega) | simp_all) rfl
                      · refine zr_aload_n d_md_result_136 rfl ?_
                        refine zi_getr (j := 19) d_md_result_137 zC8 fl_md_51 (by decide) rfl rfl ?_
                        refine zi_iload d_md_result_140 rfl ?_
                        refine zi_iald d_md_result_142 rfl (by decide) (by omega) (by omega) ?_
                        refine zi_if_ge 150 d_md_result_143 (by decide) (hA _ _) (fun h143 => ?_) (fun h143 => ?_)
                        · refine zi_iconst d_md_result_150 ?_
                          refine c_md_result_151 rfl rfl (md_refused ⟨by decide, by decide⟩ ⟨by decide, by decide⟩ ⟨by decide, by decide⟩ ⟨by decide, by decide⟩) ?_
                          show zV _ _ _ _ _ (vi 1 :: _) (tU τ 37 0 2) _ _
                          refine zi_if_eq 159 d_md_result_154 (by decide) (by first | assumption | exact ⟨by omega, by omega⟩) (fun h154 => ?_) (fun h154 => ?_)
                          · exact absurd h154 (by decide)
                          · refine zi_iconst d_md_result_157 ?_
                            exact zk_iret rfl d_md_result_158 (Nat.zero_le _) (Nat.zero_le _) (by first | rfl | omega | (split <;> omega) | simp_all) rfl
                        · refine zi_iconst d_md_result_146 ?_
                          refine zr_goto 151 d_md_result_147 (by decide) ?_
                          refine c_md_result_151 rfl rfl (md_refused ⟨by decide, by decide⟩ ⟨by decide, by decide⟩ ⟨by decide, by decide⟩ ⟨by decide, by decide⟩) ?_
                          show zV _ _ _ _ _ (vi 1 :: _) (tU τ 37 0 2) _ _
                          refine zi_if_eq 159 d_md_result_154 (by decide) (by first | assumption | exact ⟨by omega, by omega⟩) (fun h154 => ?_) (fun h154 => ?_)
                          · exact absurd h154 (by decide)
                          · refine zi_iconst d_md_result_157 ?_
                            exact zk_iret rfl d_md_result_158 (Nat.zero_le _) (Nat.zero_le _) (by first | rfl | omega | (split <;> omega) | simp_all) rfl
                  · refine zi_iconst d_md_result_116 ?_
                    refine zr_goto 121 d_md_result_117 (by decide) ?_
                    refine zi_iload d_md_result_121 rfl ?_
                    refine zi_if_eq 150 d_md_result_123 (by decide) (by first | assumption | exact ⟨by omega, by omega⟩) (fun h123 => ?_) (fun h123 => ?_)
                    · refine zi_iconst d_md_result_150 ?_
                      refine c_md_result_151 rfl rfl (md_refused ⟨by decide, by decide⟩ ⟨by decide, by decide⟩ ⟨by decide, by decide⟩ ⟨by decide, by decide⟩) ?_
                      show zV _ _ _ _ _ (vi 1 :: _) (tU τ 37 0 2) _ _
                      refine zi_if_eq 159 d_md_result_154 (by decide) (by first | assumption | exact ⟨by omega, by omega⟩) (fun h154 => ?_) (fun h154 => ?_)
                      · exact absurd h154 (by decide)
                      · refine zi_iconst d_md_result_157 ?_
                        exact zk_iret rfl d_md_result_158 (Nat.zero_le _) (Nat.zero_le _) (by first | rfl | omega | (split <;> omega) | simp_all) rfl
                    · refine zr_aload_n d_md_result_126 rfl ?_
                      refine zi_getr (j := 18) d_md_result_127 zC8 fl_md_48 (by decide) rfl rfl ?_
                      refine zi_iload d_md_result_130 rfl ?_
                      refine zi_zald d_md_result_132 rfl (by decide) (by omega) (by omega) ?_
                      refine zi_if_eq 150 d_md_result_133 (by decide) (hA _ _) (fun h133 => ?_) (fun h133 => ?_)
                      · refine zi_iconst d_md_result_150 ?_
                        refine c_md_result_151 rfl rfl (md_refused ⟨by decide, by decide⟩ ⟨by decide, by decide⟩ ⟨by decide, by decide⟩ ⟨by decide, by decide⟩) ?_
                        show zV _ _ _ _ _ (vi 1 :: _) (tU τ 37 0 2) _ _
                        refine zi_if_eq 159 d_md_result_154 (by decide) (by first | assumption | exact ⟨by omega, by omega⟩) (fun h154 => ?_) (fun h154 => ?_)
                        · exact absurd h154 (by decide)
                        · refine zi_iconst d_md_result_157 ?_
                          exact zk_iret rfl d_md_result_158 (Nat.zero_le _) (Nat.zero_le _) (by first | rfl | omega | (split <;> omega) | simp_all) rfl
                      · refine zr_aload_n d_md_result_136 rfl ?_
                        refine zi_getr (j := 19) d_md_result_137 zC8 fl_md_51 (by decide) rfl rfl ?_
                        refine zi_iload d_md_result_140 rfl ?_
                        refine zi_iald d_md_result_142 rfl (by decide) (by omega) (by omega) ?_
                        refine zi_if_ge 150 d_md_result_143 (by decide) (hA _ _) (fun h143 => ?_) (fun h143 => ?_)
                        · refine zi_iconst d_md_result_150 ?_
                          refine c_md_result_151 rfl rfl (md_refused ⟨by decide, by decide⟩ ⟨by decide, by decide⟩ ⟨by decide, by decide⟩ ⟨by decide, by decide⟩) ?_
                          show zV _ _ _ _ _ (vi 1 :: _) (tU τ 37 0 2) _ _
                          refine zi_if_eq 159 d_md_result_154 (by decide) (by first | assumption | exact ⟨by omega, by omega⟩) (fun h154 => ?_) (fun h154 => ?_)
                          · exact absurd h154 (by decide)
                          · refine zi_iconst d_md_result_157 ?_
                            exact zk_iret rfl d_md_result_158 (Nat.zero_le _) (Nat.zero_le _) (by first | rfl | omega | (split <;> omega) | simp_all) rfl
                        · refine zi_iconst d_md_result_146 ?_
                          refine zr_goto 151 d_md_result_147 (by decide) ?_
                          refine c_md_result_151 rfl rfl (md_refused ⟨by decide, by decide⟩ ⟨by decide, by decide⟩ ⟨by decide, by decide⟩ ⟨by decide, by decide⟩) ?_
                          show zV _ _ _ _ _ (vi 1 :: _) (tU τ 37 0 2) _ _
                          refine zi_if_eq 159 d_md_result_154 (by decide) (by first | assumption | exact ⟨by omega, by omega⟩) (fun h154 => ?_) (fun h154 => ?_)
                          · exact absurd h154 (by decide)
                          · refine zi_iconst d_md_result_157 ?_
                            exact zk_iret rfl d_md_result_158 (Nat.zero_le _) (Nat.zero_le _) (by first | rfl | omega | (split <;> omega) | simp_all) rfl
              · exfalso
                grind
          · refine zr_aload_n d_md_result_56 rfl ?_
            refine zi_iload_n d_md_result_57 rfl ?_
            refine zi_iload_n d_md_result_58 rfl ?_
            refine c_md_result_59 rfl rfl (md_venueOf hA ⟨by omega, by omega⟩ ⟨by omega, by omega⟩) ?_
            refine zi_iconst d_md_result_62 ?_
            refine zi_icmp_ne 70 d_md_result_63 (by decide) (veM_in _ _) ⟨by decide, by decide⟩ (fun h63 => ?_) (fun h63 => ?_)
            · refine zi_iconst d_md_result_70 ?_
              refine zi_istore d_md_result_71 (by decide) rfl ?_
              refine zi_iload d_md_result_73 rfl ?_
              refine zi_if_eq 87 d_md_result_75 (by decide) (by first | assumption | exact ⟨by omega, by omega⟩) (fun h75 => ?_) (fun h75 => ?_)
              · exfalso
                grind
              · refine zi_bipush d_md_result_78 (by decide) ?_
                refine zi_iload_n d_md_result_80 rfl ?_
                refine zi_imul d_md_result_81 ?_
                refine zi_iload_n d_md_result_82 rfl ?_
                refine zi_iadd d_md_result_83 ?_
                refine zr_goto 88 d_md_result_84 (by decide) ?_
                refine zi_istore d_md_result_88 (by decide) rfl ?_
                refine zr_aload_n d_md_result_90 rfl ?_
                refine zi_iload d_md_result_91 rfl ?_
                refine zi_if_ne 100 d_md_result_93 (by decide) (by first | assumption | exact ⟨by omega, by omega⟩) (fun h93 => ?_) (fun h93 => ?_)
                · refine zi_iconst d_md_result_100 ?_
                  refine zi_iload d_md_result_101 rfl ?_
                  refine zi_if_ne 110 d_md_result_103 (by decide) (by first | assumption | exact ⟨by omega, by omega⟩) (fun h103 => ?_) (fun h103 => ?_)
                  · exfalso
                    grind
                  · refine zi_iconst d_md_result_106 ?_
                    refine zr_goto 111 d_md_result_107 (by decide) ?_
                    refine zi_iload d_md_result_111 rfl ?_
                    refine zi_if_ne 120 d_md_result_113 (by decide) (by first | assumption | exact ⟨by omega, by omega⟩) (fun h113 => ?_) (fun h113 => ?_)
                    · refine zi_iconst d_md_result_120 ?_
                      refine zi_iload d_md_result_121 rfl ?_
                      refine zi_if_eq 150 d_md_result_123 (by decide) (by first | assumption | exact ⟨by omega, by omega⟩) (fun h123 => ?_) (fun h123 => ?_)
                      · refine zi_iconst d_md_result_150 ?_
                        refine c_md_result_151 rfl rfl (md_refused ⟨by decide, by decide⟩ ⟨by decide, by decide⟩ ⟨by decide, by decide⟩ ⟨by decide, by decide⟩) ?_
                        show zV _ _ _ _ _ (vi 1 :: _) (tU τ 37 0 2) _ _
                        refine zi_if_eq 159 d_md_result_154 (by decide) (by first | assumption | exact ⟨by omega, by omega⟩) (fun h154 => ?_) (fun h154 => ?_)
                        · exact absurd h154 (by decide)
                        · refine zi_iconst d_md_result_157 ?_
                          exact zk_iret rfl d_md_result_158 (Nat.zero_le _) (Nat.zero_le _) (by first | rfl | omega | (split <;> omega) | simp_all) rfl
                      · refine zr_aload_n d_md_result_126 rfl ?_
                        refine zi_getr (j := 18) d_md_result_127 zC8 fl_md_48 (by decide) rfl rfl ?_
                        refine zi_iload d_md_result_130 rfl ?_
                        refine zi_zald d_md_result_132 rfl (by decide) (by omega) (by omega) ?_
                        refine zi_if_eq 150 d_md_result_133 (by decide) (hA _ _) (fun h133 => ?_) (fun h133 => ?_)
                        · refine zi_iconst d_md_result_150 ?_
                          refine c_md_result_151 rfl rfl (md_refused ⟨by decide, by decide⟩ ⟨by decide, by decide⟩ ⟨by decide, by decide⟩ ⟨by decide, by decide⟩) ?_
                          show zV _ _ _ _ _ (vi 1 :: _) (tU τ 37 0 2) _ _
                          refine zi_if_eq 159 d_md_result_154 (by decide) (by first | assumption | exact ⟨by omega, by omega⟩) (fun h154 => ?_) (fun h154 => ?_)
                          · exact absurd h154 (by decide)
                          · refine zi_iconst d_md_result_157 ?_
                            exact zk_iret rfl d_md_result_158 (Nat.zero_le _) (Nat.zero_le _) (by first | rfl | omega | (split <;> omega) | simp_all) rfl
                        · refine zr_aload_n d_md_result_136 rfl ?_
                          refine zi_getr (j := 19) d_md_result_137 zC8 fl_md_51 (by decide) rfl rfl ?_
                          refine zi_iload d_md_result_140 rfl ?_
                          refine zi_iald d_md_result_142 rfl (by decide) (by omega) (by omega) ?_
                          refine zi_if_ge 150 d_md_result_143 (by decide) (hA _ _) (fun h143 => ?_) (fun h143 => ?_)
                          · refine zi_iconst d_md_result_150 ?_
                            refine c_md_result_151 rfl rfl (md_refused ⟨by decide, by decide⟩ ⟨by decide, by decide⟩ ⟨by decide, by decide⟩ ⟨by decide, by decide⟩) ?_
                            show zV _ _ _ _ _ (vi 1 :: _) (tU τ 37 0 2) _ _
                            refine zi_if_eq 159 d_md_result_154 (by decide) (by first | assumption | exact ⟨by omega, by omega⟩) (fun h154 => ?_) (fun h154 => ?_)
                            · exact absurd h154 (by decide)
                            · refine zi_iconst d_md_result_157 ?_
                              exact zk_iret rfl d_md_result_158 (Nat.zero_le _) (Nat.zero_le _) (by first | rfl | omega | (split <;> omega) | simp_all) rfl
                          · refine zi_iconst d_md_result_146 ?_
                            refine zr_goto 151 d_md_result_147 (by decide) ?_
                            refine c_md_result_151 rfl rfl (md_refused ⟨by decide, by decide⟩ ⟨by decide, by decide⟩ ⟨by decide, by decide⟩ ⟨by decide, by decide⟩) ?_
                            show zV _ _ _ _ _ (vi 1 :: _) (tU τ 37 0 2) _ _
                            refine zi_if_eq 159 d_md_result_154 (by decide) (by first | assumption | exact ⟨by omega, by omega⟩) (fun h154 => ?_) (fun h154 => ?_)
                            · exact absurd h154 (by decide)
                            · refine zi_iconst d_md_result_157 ?_
                              exact zk_iret rfl d_md_result_158 (Nat.zero_le _) (Nat.zero_le _) (by first | rfl | omega | (split <;> omega) | simp_all) rfl
                    · refine zi_iconst d_md_result_116 ?_
                      refine zr_goto 121 d_md_result_117 (by decide) ?_
                      refine zi_iload d_md_result_121 rfl ?_
                      refine zi_if_eq 150 d_md_result_123 (by decide) (by first | assumption | exact ⟨by omega, by omega⟩) (fun h123 => ?_) (fun h123 => ?_)
                      · refine zi_iconst d_md_result_150 ?_
                        refine c_md_result_151 rfl rfl (md_refused ⟨by decide, by decide⟩ ⟨by decide, by decide⟩ ⟨by decide, by decide⟩ ⟨by decide, by decide⟩) ?_
                        show zV _ _ _ _ _ (vi 1 :: _) (tU τ 37 0 2) _ _
                        refine zi_if_eq 159 d_md_result_154 (by decide) (by first | assumption | exact ⟨by omega, by omega⟩) (fun h154 => ?_) (fun h154 => ?_)
                        · exact absurd h154 (by decide)
                        · refine zi_iconst d_md_result_157 ?_
                          exact zk_iret rfl d_md_result_158 (Nat.zero_le _) (Nat.zero_le _) (by first | rfl | omega | (split <;> omega) | simp_all) rfl
                      · refine zr_aload_n d_md_result_126 rfl ?_
                        refine zi_getr (j := 18) d_md_result_127 zC8 fl_md_48 (by decide) rfl rfl ?_
                        refine zi_iload d_md_result_130 rfl ?_
                        refine zi_zald d_md_result_132 rfl (by decide) (by omega) (by omega) ?_
                        refine zi_if_eq 150 d_md_result_133 (by decide) (hA _ _) (fun h133 => ?_) (fun h133 => ?_)
                        · refine zi_iconst d_md_result_150 ?_
                          refine c_md_result_151 rfl rfl (md_refused ⟨by decide, by decide⟩ ⟨by decide, by decide⟩ ⟨by decide, by decide⟩ ⟨by decide, by decide⟩) ?_
                          show zV _ _ _ _ _ (vi 1 :: _) (tU τ 37 0 2) _ _
                          refine zi_if_eq 159 d_md_result_154 (by decide) (by first | assumption | exact ⟨by omega, by omega⟩) (fun h154 => ?_) (fun h154 => ?_)
                          · exact absurd h154 (by decide)
                          · refine zi_iconst d_md_result_157 ?_
                            exact zk_iret rfl d_md_result_158 (Nat.zero_le _) (Nat.zero_le _) (by first | rfl | omega | (split <;> omega) | simp_all) rfl
                        · refine zr_aload_n d_md_result_136 rfl ?_
                          refine zi_getr (j := 19) d_md_result_137 zC8 fl_md_51 (by decide) rfl rfl ?_
                          refine zi_iload d_md_result_140 rfl ?_
                          refine zi_iald d_md_result_142 rfl (by decide) (by omega) (by omega) ?_
                          refine zi_if_ge 150 d_md_result_143 (by decide) (hA _ _) (fun h143 => ?_) (fun h143 => ?_)
                          · refine zi_iconst d_md_result_150 ?_
                            refine c_md_result_151 rfl rfl (md_refused ⟨by decide, by decide⟩ ⟨by decide, by decide⟩ ⟨by decide, by decide⟩ ⟨by decide, by decide⟩) ?_
                            show zV _ _ _ _ _ (vi 1 :: _) (tU τ 37 0 2) _ _
                            refine zi_if_eq 159 d_md_result_154 (by decide) (by first | assumption | exact ⟨by omega, by omega⟩) (fun h154 => ?_) (fun h154 => ?_)
                            · exact absurd h154 (by decide)
                            · refine zi_iconst d_md_result_157 ?_
                              exact zk_iret rfl d_md_result_158 (Nat.zero_le _) (Nat.zero_le _) (by first | rfl | omega | (split <;> omega) | simp_all) rfl
                          · refine zi_iconst d_md_result_146 ?_
                            refine zr_goto 151 d_md_result_147 (by decide) ?_
                            refine c_md_result_151 rfl rfl (md_refused ⟨by decide, by decide⟩ ⟨by decide, by decide⟩ ⟨by decide, by decide⟩ ⟨by decide, by decide⟩) ?_
                            show zV _ _ _ _ _ (vi 1 :: _) (tU τ 37 0 2) _ _
                            refine zi_if_eq 159 d_md_result_154 (by decide) (by first | assumption | exact ⟨by omega, by omega⟩) (fun h154 => ?_) (fun h154 => ?_)
                            · exact absurd h154 (by decide)
                            · refine zi_iconst d_md_result_157 ?_
                              exact zk_iret rfl d_md_result_158 (Nat.zero_le _) (Nat.zero_le _) (by first | rfl | omega | (split <;> omega) | simp_all) rfl
                · exfalso
                  grind
            · refine zi_iconst d_md_result_66 ?_
              refine zr_goto 71 d_md_result_67 (by decide) ?_
              refine zi_istore d_md_result_71 (by decide) rfl ?_
              refine zi_iload d_md_result_73 rfl ?_
              refine zi_if_eq 87 d_md_result_75 (by decide) (by first | assumption | exact ⟨by omega, by omega⟩) (fun h75 => ?_) (fun h75 => ?_)
              · exfalso
                grind
              · refine zi_bipush d_md_result_78 (by decide) ?_
                refine zi_iload_n d_md_result_80 rfl ?_
                refine zi_imul d_md_result_81 ?_
                refine zi_iload_n d_md_result_82 rfl ?_
                refine zi_iadd d_md_result_83 ?_
                refine zr_goto 88 d_md_result_84 (by decide) ?_
                refine zi_istore d_md_result_88 (by decide) rfl ?_
                refine zr_aload_n d_md_result_90 rfl ?_
                refine zi_iload d_md_result_91 rfl ?_
                refine zi_if_ne 100 d_md_result_93 (by decide) (by first | assumption | exact ⟨by omega, by omega⟩) (fun h93 => ?_) (fun h93 => ?_)
                · refine zi_iconst d_md_result_100 ?_
                  refine zi_iload d_md_result_101 rfl ?_
                  refine zi_if_ne 110 d_md_result_103 (by decide) (by first | assumption | exact ⟨by omega, by omega⟩) (fun h103 => ?_) (fun h103 => ?_)
                  · exfalso
                    grind
                  · refine zi_iconst d_md_result_106 ?_
                    refine zr_goto 111 d_md_result_107 (by decide) ?_
                    refine zi_iload d_md_result_111 rfl ?_
                    refine zi_if_ne 120 d_md_result_113 (by decide) (by first | assumption | exact ⟨by omega, by omega⟩) (fun h113 => ?_) (fun h113 => ?_)
                    · refine zi_iconst d_md_result_120 ?_
                      refine zi_iload d_md_result_121 rfl ?_
                      refine zi_if_eq 150 d_md_result_123 (by decide) (by first | assumption | exact ⟨by omega, by omega⟩) (fun h123 => ?_) (fun h123 => ?_)
                      · refine zi_iconst d_md_result_150 ?_
                        refine c_md_result_151 rfl rfl (md_refused ⟨by decide, by decide⟩ ⟨by decide, by decide⟩ ⟨by decide, by decide⟩ ⟨by decide, by decide⟩) ?_
                        show zV _ _ _ _ _ (vi 1 :: _) (tU τ 37 0 2) _ _
                        refine zi_if_eq 159 d_md_result_154 (by decide) (by first | assumption | exact ⟨by omega, by omega⟩) (fun h154 => ?_) (fun h154 => ?_)
                        · exact absurd h154 (by decide)
                        · refine zi_iconst d_md_result_157 ?_
                          exact zk_iret rfl d_md_result_158 (Nat.zero_le _) (Nat.zero_le _) (by first | rfl | omega | (split <;> omega) | simp_all) rfl
                      · refine zr_aload_n d_md_result_126 rfl ?_
                        refine zi_getr (j := 18) d_md_result_127 zC8 fl_md_48 (by decide) rfl rfl ?_
                        refine zi_iload d_md_result_130 rfl ?_
                        refine zi_zald d_md_result_132 rfl (by decide) (by omega) (by omega) ?_
                        refine zi_if_eq 150 d_md_result_133 (by decide) (hA _ _) (fun h133 => ?_) (fun h133 => ?_)
                        · refine zi_iconst d_md_result_150 ?_
                          refine c_md_result_151 rfl rfl (md_refused ⟨by decide, by decide⟩ ⟨by decide, by decide⟩ ⟨by decide, by decide⟩ ⟨by decide, by decide⟩) ?_
                          show zV _ _ _ _ _ (vi 1 :: _) (tU τ 37 0 2) _ _
                          refine zi_if_eq 159 d_md_result_154 (by decide) (by first | assumption | exact ⟨by omega, by omega⟩) (fun h154 => ?_) (fun h154 => ?_)
                          · exact absurd h154 (by decide)
                          · refine zi_iconst d_md_result_157 ?_
                            exact zk_iret rfl d_md_result_158 (Nat.zero_le _) (Nat.zero_le _) (by first | rfl | omega | (split <;> omega) | simp_all) rfl
                        · refine zr_aload_n d_md_result_136 rfl ?_
                          refine zi_getr (j := 19) d_md_result_137 zC8 fl_md_51 (by decide) rfl rfl ?_
                          refine zi_iload d_md_result_140 rfl ?_
                          refine zi_iald d_md_result_142 rfl (by decide) (by omega) (by omega) ?_
                          refine zi_if_ge 150 d_md_result_143 (by decide) (hA _ _) (fun h143 => ?_) (fun h143 => ?_)
                          · refine zi_iconst d_md_result_150 ?_
                            refine c_md_result_151 rfl rfl (md_refused ⟨by decide, by decide⟩ ⟨by decide, by decide⟩ ⟨by decide, by decide⟩ ⟨by decide, by decide⟩) ?_
                            show zV _ _ _ _ _ (vi 1 :: _) (tU τ 37 0 2) _ _
                            refine zi_if_eq 159 d_md_result_154 (by decide) (by first | assumption | exact ⟨by omega, by omega⟩) (fun h154 => ?_) (fun h154 => ?_)
                            · exact absurd h154 (by decide)
                            · refine zi_iconst d_md_result_157 ?_
                              exact zk_iret rfl d_md_result_158 (Nat.zero_le _) (Nat.zero_le _) (by first | rfl | omega | (split <;> omega) | simp_all) rfl
                          · refine zi_iconst d_md_result_146 ?_
                            refine zr_goto 151 d_md_result_147 (by decide) ?_
                            refine c_md_result_151 rfl rfl (md_refused ⟨by decide, by decide⟩ ⟨by decide, by decide⟩ ⟨by decide, by decide⟩ ⟨by decide, by decide⟩) ?_
                            show zV _ _ _ _ _ (vi 1 :: _) (tU τ 37 0 2) _ _
                            refine zi_if_eq 159 d_md_result_154 (by decide) (by first | assumption | exact ⟨by omega, by omega⟩) (fun h154 => ?_) (fun h154 => ?_)
                            · exact absurd h154 (by decide)
                            · refine zi_iconst d_md_result_157 ?_
                              exact zk_iret rfl d_md_result_158 (Nat.zero_le _) (Nat.zero_le _) (by first | rfl | omega | (split <;> omega) | simp_all) rfl
                    · refine zi_iconst d_md_result_116 ?_
                      refine zr_goto 121 d_md_result_117 (by decide) ?_
                      refine zi_iload d_md_result_121 rfl ?_
                      refine zi_if_eq 150 d_md_result_123 (by decide) (by first | assumption | exact ⟨by omega, by omega⟩) (fun h123 => ?_) (fun h123 => ?_)
                      · refine zi_iconst d_md_result_150 ?_
                        refine c_md_result_151 rfl rfl (md_refused ⟨by decide, by decide⟩ ⟨by decide, by decide⟩ ⟨by decide, by decide⟩ ⟨by decide, by decide⟩) ?_
                        show zV _ _ _ _ _ (vi 1 :: _) (tU τ 37 0 2) _ _
                        refine zi_if_eq 159 d_md_result_154 (by decide) (by first | assumption | exact ⟨by omega, by omega⟩) (fun h154 => ?_) (fun h154 => ?_)
                        · exact absurd h154 (by decide)
                        · refine zi_iconst d_md_result_157 ?_
                          exact zk_iret rfl d_md_result_158 (Nat.zero_le _) (Nat.zero_le _) (by first | rfl | omega | (split <;> omega) | simp_all) rfl
                      · refine zr_aload_n d_md_result_126 rfl ?_
                        refine zi_getr (j := 18) d_md_result_127 zC8 fl_md_48 (by decide) rfl rfl ?_
                        refine zi_iload d_md_result_130 rfl ?_
                        refine zi_zald d_md_result_132 rfl (by decide) (by omega) (by omega) ?_
                        refine zi_if_eq 150 d_md_result_133 (by decide) (hA _ _) (fun h133 => ?_) (fun h133 => ?_)
                        · refine zi_iconst d_md_result_150 ?_
                          refine c_md_result_151 rfl rfl (md_refused ⟨by decide, by decide⟩ ⟨by decide, by decide⟩ ⟨by decide, by decide⟩ ⟨by decide, by decide⟩) ?_
                          show zV _ _ _ _ _ (vi 1 :: _) (tU τ 37 0 2) _ _
                          refine zi_if_eq 159 d_md_result_154 (by decide) (by first | assumption | exact ⟨by omega, by omega⟩) (fun h154 => ?_) (fun h154 => ?_)
                          · exact absurd h154 (by decide)
                          · refine zi_iconst d_md_result_157 ?_
                            exact zk_iret rfl d_md_result_158 (Nat.zero_le _) (Nat.zero_le _) (by first | rfl | omega | (split <;> omega) | simp_all) rfl
                        · refine zr_aload_n d_md_result_136 rfl ?_
                          refine zi_getr (j := 19) d_md_result_137 zC8 fl_md_51 (by decide) rfl rfl ?_
                          refine zi_iload d_md_result_140 rfl ?_
                          refine zi_iald d_md_result_142 rfl (by decide) (by omega) (by omega) ?_
                          refine zi_if_ge 150 d_md_result_143 (by decide) (hA _ _) (fun h143 => ?_) (fun h143 => ?_)
                          · refine zi_iconst d_md_result_150 ?_
                            refine c_md_result_151 rfl rfl (md_refused ⟨by decide, by decide⟩ ⟨by decide, by decide⟩ ⟨by decide, by decide⟩ ⟨by decide, by decide⟩) ?_
                            show zV _ _ _ _ _ (vi 1 :: _) (tU τ 37 0 2) _ _
                            refine zi_if_eq 159 d_md_result_154 (by decide) (by first | assumption | exact ⟨by omega, by omega⟩) (fun h154 => ?_) (fun h154 => ?_)
                            · exact absurd h154 (by decide)
                            · refine zi_iconst d_md_result_157 ?_
                              exact zk_iret rfl d_md_result_158 (Nat.zero_le _) (Nat.zero_le _) (by first | rfl | omega | (split <;> omega) | simp_all) rfl
                          · refine zi_iconst d_md_result_146 ?_
                            refine zr_goto 151 d_md_result_147 (by decide) ?_
                            refine c_md_result_151 rfl rfl (md_refused ⟨by decide, by decide⟩ ⟨by decide, by decide⟩ ⟨by decide, by decide⟩ ⟨by decide, by decide⟩) ?_
                            show zV _ _ _ _ _ (vi 1 :: _) (tU τ 37 0 2) _ _
                            refine zi_if_eq 159 d_md_result_154 (by decide) (by first | assumption | exact ⟨by omega, by omega⟩) (fun h154 => ?_) (fun h154 => ?_)
                            · exact absurd h154 (by decide)
                            · refine zi_iconst d_md_result_157 ?_
                              exact zk_iret rfl d_md_result_158 (Nat.zero_le _) (Nat.zero_le _) (by first | rfl | omega | (split <;> omega) | simp_all) rfl
                · exfalso
                  grind
        · exfalso
          grind
theorem md_resultX3 {l : Launch} {d : Nat} {τ : tS} {n R p f e : Nat} (C : Mo τ n R p f e) {r t x y : Int} (zr : zin r) (zt : zin t) (zx : zin x) (zy : zin y) (h : (0 ≤ r ∧ r < R) ∧ (0 ≤ t ∧ t < n)) (hg : (0 ≤ x ∧ x ≤ 99) ∧ (0 ≤ y ∧ y ≤ 99)) (hv : ¬ veM τ (20 * r + t).toNat = 1) : zF l (d + 4) M_md_result [.ref 37, vi r, vi t, vi x, vi y] (τ) (some (vi 0)) (tU τ 37 0 3) := by
  refine zMet_of (ls := [.ref 37, vi r, vi t, vi x, vi y, .null, .null, .null, .null]) pn_md rfl (by simp [vi, Value.category]) rfl rfl ?_
  have hA := C.A
  have hn := C.n
  have hn4 := C.n4
  have hn20 := C.n20
  have hR := C.R
  have hR38 := C.R38
  refine zr_aload_n d_md_result_0 rfl ?_
  refine zi_iload_n d_md_result_1 rfl ?_
  refine c_md_result_2 rfl rfl (md_isRound C zr) ?_
  refine zi_if_eq 20 d_md_result_5 (by decide) (by split <;> exact ⟨by decide, by decide⟩) (fun h5 => ?_) (fun h5 => ?_)
  · exfalso
    grind
  · refine zr_aload_n d_md_result_8 rfl ?_
    refine zi_iload_n d_md_result_9 rfl ?_
    refine c_md_result_10 rfl rfl (md_isTeam C zt) ?_
    refine zi_if_eq 20 d_md_result_13 (by decide) (by split <;> exact ⟨by decide, by decide⟩) (fun h13 => ?_) (fun h13 => ?_)
    · exfalso
      grind
    · refine zi_iconst d_md_result_16 ?_
      refine zr_goto 21 d_md_result_17 (by decide) ?_
      refine zi_istore d_md_result_21 (by decide) rfl ?_
      refine zi_iload_n d_md_result_23 rfl ?_
      refine zi_iconst d_md_result_24 ?_
      refine zi_bipush d_md_result_25 (by decide) ?_
      refine c_md_result_27 rfl (md_in zx ⟨by decide, by decide⟩ ⟨by decide, by decide⟩) ?_
      refine zi_if_eq 48 d_md_result_30 (by decide) (by split <;> exact ⟨by decide, by decide⟩) (fun h30 => ?_) (fun h30 => ?_)
      · exfalso
        grind
      · refine zi_iload d_md_result_33 rfl ?_
        refine zi_iconst d_md_result_35 ?_
        refine zi_bipush d_md_result_36 (by decide) ?_
        refine c_md_result_38 rfl (md_in zy ⟨by decide, by decide⟩ ⟨by decide, by decide⟩) ?_
        refine zi_if_eq 48 d_md_result_41 (by decide) (by split <;> exact ⟨by decide, by decide⟩) (fun h41 => ?_) (fun h41 => ?_)
        · exfalso
          grind
        · refine zi_iconst d_md_result_44 ?_
          refine zr_goto 49 d_md_result_45 (by decide) ?_
          refine zi_istore d_md_result_49 (by decide) rfl ?_
          refine zi_iload d_md_result_51 rfl ?_
          refine zi_if_eq 70 d_md_result_53 (by decide) (by first | assumption | exact ⟨by omega, by omega⟩) (fun h53 => ?_) (fun h53 => ?_)
          · refine zi_iconst d_md_result_70 ?_
            refine zi_istore d_md_result_71 (by decide) rfl ?_
            refine zi_iload d_md_result_73 rfl ?_
            refine zi_if_eq 87 d_md_result_75 (by decide) (by first | assumption | exact ⟨by omega, by omega⟩) (fun h75 => ?_) (fun h75 => ?_)
            · exfalso
              grind
            · refine zi_bipush d_md_result_78 (by decide) ?_
              refine zi_iload_n d_md_result_80 rfl ?_
              refine zi_imul d_md_result_81 ?_
              refine zi_iload_n d_md_result_82 rfl ?_
              refine zi_iadd d_md_result_83 ?_
              refine zr_goto 88 d_md_result_84 (by decide) ?_
              refine zi_istore d_md_result_88 (by decide) rfl ?_
              refine zr_aload_n d_md_result_90 rfl ?_
              refine zi_iload d_md_result_91 rfl ?_
              refine zi_if_ne 100 d_md_result_93 (by decide) (by first | assumption | exact ⟨by omega, by omega⟩) (fun h93 => ?_) (fun h93 => ?_)
              · refine zi_iconst d_md_result_100 ?_
                refine zi_iload d_md_result_101 rfl ?_
                refine zi_if_ne 110 d_md_result_103 (by decide) (by first | assumption | exact ⟨by omega, by omega⟩) (fun h103 => ?_) (fun h103 => ?_)
                · refine zi_iconst d_md_result_110 ?_
                  refine zi_iload d_md_result_111 rfl ?_
                  refine zi_if_ne 120 d_md_result_113 (by decide) (by first | assumption | exact ⟨by omega, by omega⟩) (fun h113 => ?_) (fun h113 => ?_)
                  · exfalso
                    grind
                  · refine zi_iconst d_md_result_116 ?_
                    refine zr_goto 121 d_md_result_117 (by decide) ?_
                    refine zi_iload d_md_result_121 rfl ?_
                    refine zi_if_eq 150 d_md_result_123 (by decide) (by first | assumption | exact ⟨by omega, by omega⟩) (fun h123 => ?_) (fun h123 => ?_)
                    · refine zi_iconst d_md_result_150 ?_
                      refine c_md_result_151 rfl rfl (md_refused ⟨by decide, by decide⟩ ⟨by decide, by decide⟩ ⟨by decide, by decide⟩ ⟨by decide, by decide⟩) ?_
                      show zV _ _ _ _ _ (vi 1 :: _) (tU τ 37 0 3) _ _
                      refine zi_if_eq 159 d_md_result_154 (by decide) (by first | assumption | exact ⟨by omega, by omega⟩) (fun h154 => ?_) (fun h154 => ?_)
                      · exact absurd h154 (by decide)
                      · refine zi_iconst d_md_result_157 ?_
                        exact zk_iret rfl d_md_result_158 (Nat.zero_le _) (Nat.zero_le _) (by first | rfl | omega | (split <;> omega) | simp_all) rfl
                    · exfalso
                      grind
                · exfalso
                  grind
              · exfalso
                grind
          · refine zr_aload_n d_md_result_56 rfl ?_
            refine zi_iload_n d_md_result_57 rfl ?_
            refine zi_iload_n d_md_result_58 rfl ?_
            refine c_md_result_59 rfl rfl (md_venueOf hA ⟨by omega, by omega⟩ ⟨by omega, by omega⟩) ?_
            refine zi_iconst d_md_result_62 ?_
            refine zi_icmp_ne 70 d_md_result_63 (by decide) (veM_in _ _) ⟨by decide, by decide⟩ (fun h63 => ?_) (fun h63 => ?_)
            · refine zi_iconst d_md_result_70 ?_
              refine zi_istore d_md_result_71 (by decide) rfl ?_
              refine zi_iload d_md_result_73 rfl ?_
              refine zi_if_eq 87 d_md_result_75 (by decide) (by first | assumption | exact ⟨by omega, by omega⟩) (fun h75 => ?_) (fun h75 => ?_)
              · exfalso
                grind
              · refine zi_bipush d_md_result_78 (by decide) ?_
                refine zi_iload_n d_md_result_80 rfl ?_
                refine zi_imul d_md_result_81 ?_
                refine zi_iload_n d_md_result_82 rfl ?_
                refine zi_iadd d_md_result_83 ?_
                refine zr_goto 88 d_md_result_84 (by decide) ?_
                refine zi_istore d_md_result_88 (by decide) rfl ?_
                refine zr_aload_n d_md_result_90 rfl ?_
                refine zi_iload d_md_result_91 rfl ?_
                refine zi_if_ne 100 d_md_result_93 (by decide) (by first | assumption | exact ⟨by omega, by omega⟩) (fun h93 => ?_) (fun h93 => ?_)
                · refine zi_iconst d_md_result_100 ?_
                  refine zi_iload d_md_result_101 rfl ?_
                  refine zi_if_ne 110 d_md_result_103 (by decide) (by first | assumption | exact ⟨by omega, by omega⟩) (fun h103 => ?_) (fun h103 => ?_)
                  · refine zi_iconst d_md_result_110 ?_
                    refine zi_iload d_md_result_111 rfl ?_
                    refine zi_if_ne 120 d_md_result_113 (by decide) (by first | assumption | exact ⟨by omega, by omega⟩) (fun h113 => ?_) (fun h113 => ?_)
                    · exfalso
                      grind
                    · refine zi_iconst d_md_result_116 ?_
                      refine zr_goto 121 d_md_result_117 (by decide) ?_
                      refine zi_iload d_md_result_121 rfl ?_
                      refine zi_if_eq 150 d_md_result_123 (by decide) (by first | assumption | exact ⟨by omega, by omega⟩) (fun h123 => ?_) (fun h123 => ?_)
                      · refine zi_iconst d_md_result_150 ?_
                        refine c_md_result_151 rfl rfl (md_refused ⟨by decide, by decide⟩ ⟨by decide, by decide⟩ ⟨by decide, by decide⟩ ⟨by decide, by decide⟩) ?_
                        show zV _ _ _ _ _ (vi 1 :: _) (tU τ 37 0 3) _ _
                        refine zi_if_eq 159 d_md_result_154 (by decide) (by first | assumption | exact ⟨by omega, by omega⟩) (fun h154 => ?_) (fun h154 => ?_)
                        · exact absurd h154 (by decide)
                        · refine zi_iconst d_md_result_157 ?_
                          exact zk_iret rfl d_md_result_158 (Nat.zero_le _) (Nat.zero_le _) (by first | rfl | omega | (split <;> omega) | simp_all) rfl
                      · exfalso
                        grind
                  · exfalso
                    grind
                · exfalso
                  grind
            · exfalso
              grind
theorem md_resultX4 {l : Launch} {d : Nat} {τ : tS} {n R p f e : Nat} (C : Mo τ n R p f e) {r t x y : Int} (zr : zin r) (zt : zin t) (zx : zin x) (zy : zin y) (h : (0 ≤ r ∧ r < R) ∧ (0 ≤ t ∧ t < n)) (hg : (0 ≤ x ∧ x ≤ 99) ∧ (0 ≤ y ∧ y ≤ 99)) (hv : veM τ (20 * r + t).toNat = 1) (hd : ¬ τ 49 (20 * r + t).toNat = 0 ∧ τ 50 (20 * r + t).toNat < 0) : zF l (d + 4) M_md_result [.ref 37, vi r, vi t, vi x, vi y] (τ) (some (vi 0)) (tU τ 37 0 4) := by
  refine zMet_of (ls := [.ref 37, vi r, vi t, vi x, vi y, .null, .null, .null, .null]) pn_md rfl (by simp [vi, Value.category]) rfl rfl ?_
  have hA := C.A
  have hn := C.n
  have hn4 := C.n4
  have hn20 := C.n20
  have hR := C.R
  have hR38 := C.R38
  refine zr_aload_n d_md_result_0 rfl ?_
  refine zi_iload_n d_md_result_1 rfl ?_
  refine c_md_result_2 rfl rfl (md_isRound C zr) ?_
  refine zi_if_eq 20 d_md_result_5 (by decide) (by split <;> exact ⟨by decide, by decide⟩) (fun h5 => ?_) (fun h5 => ?_)
  · exfalso
    grind
  · refine zr_aload_n d_md_result_8 rfl ?_
    refine zi_iload_n d_md_result_9 rfl ?_
    refine c_md_result_10 rfl rfl (md_isTeam C zt) ?_
    refine zi_if_eq 20 d_md_result_13 (by decide) (by split <;> exact ⟨by decide, by decide⟩) (fun h13 => ?_) (fun h13 => ?_)
    · exfalso
      grind
    · refine zi_iconst d_md_result_16 ?_
      refine zr_goto 21 d_md_result_17 (by decide) ?_
      refine zi_istore d_md_result_21 (by decide) rfl ?_
      refine zi_iload_n d_md_result_23 rfl ?_
      refine zi_iconst d_md_result_24 ?_
      refine zi_bipush d_md_result_25 (by decide) ?_
      refine c_md_result_27 rfl (md_in zx ⟨by decide, by decide⟩ ⟨by decide, by decide⟩) ?_
      refine zi_if_eq 48 d_md_result_30 (by decide) (by split <;> exact ⟨by decide, by decide⟩) (fun h30 => ?_) (fun h30 => ?_)
      · exfalso
        grind
      · refine zi_iload d_md_result_33 rfl ?_
        refine zi_iconst d_md_result_35 ?_
        refine zi_bipush d_md_result_36 (by decide) ?_
        refine c_md_result_38 rfl (md_in zy ⟨by decide, by decide⟩ ⟨by decide, by decide⟩) ?_
        refine zi_if_eq 48 d_md_result_41 (by decide) (by split <;> exact ⟨by decide, by decide⟩) (fun h41 => ?_) (fun h41 => ?_)
        · exfalso
          grind
        · refine zi_iconst d_md_result_44 ?_
          refine zr_goto 49 d_md_result_45 (by decide) ?_
          refine zi_istore d_md_result_49 (by decide) rfl ?_
          refine zi_iload d_md_result_51 rfl ?_
          refine zi_if_eq 70 d_md_result_53 (by decide) (by first | assumption | exact ⟨by omega, by omega⟩) (fun h53 => ?_) (fun h53 => ?_)
          · exfalso
            grind
          · refine zr_aload_n d_md_result_56 rfl ?_
            refine zi_iload_n d_md_result_57 rfl ?_
            refine zi_iload_n d_md_result_58 rfl ?_
            refine c_md_result_59 rfl rfl (md_venueOf hA ⟨by omega, by omega⟩ ⟨by omega, by omega⟩) ?_
            refine zi_iconst d_md_result_62 ?_
            refine zi_icmp_ne 70 d_md_result_63 (by decide) (veM_in _ _) ⟨by decide, by decide⟩ (fun h63 => ?_) (fun h63 => ?_)
            · exfalso
              grind
            · refine zi_iconst d_md_result_66 ?_
              refine zr_goto 71 d_md_result_67 (by decide) ?_
              refine zi_istore d_md_result_71 (by decide) rfl ?_
              refine zi_iload d_md_result_73 rfl ?_
              refine zi_if_eq 87 d_md_result_75 (by decide) (by first | assumption | exact ⟨by omega, by omega⟩) (fun h75 => ?_) (fun h75 => ?_)
              · exfalso
                grind
              · refine zi_bipush d_md_result_78 (by decide) ?_
                refine zi_iload_n d_md_result_80 rfl ?_
                refine zi_imul d_md_result_81 ?_
                refine zi_iload_n d_md_result_82 rfl ?_
                refine zi_iadd d_md_result_83 ?_
                refine zr_goto 88 d_md_result_84 (by decide) ?_
                refine zi_istore d_md_result_88 (by decide) rfl ?_
                refine zr_aload_n d_md_result_90 rfl ?_
                refine zi_iload d_md_result_91 rfl ?_
                refine zi_if_ne 100 d_md_result_93 (by decide) (by first | assumption | exact ⟨by omega, by omega⟩) (fun h93 => ?_) (fun h93 => ?_)
                · refine zi_iconst d_md_result_100 ?_
                  refine zi_iload d_md_result_101 rfl ?_
                  refine zi_if_ne 110 d_md_result_103 (by decide) (by first | assumption | exact ⟨by omega, by omega⟩) (fun h103 => ?_) (fun h103 => ?_)
                  · refine zi_iconst d_md_result_110 ?_
                    refine zi_iload d_md_result_111 rfl ?_
                    refine zi_if_ne 120 d_md_result_113 (by decide) (by first | assumption | exact ⟨by omega, by omega⟩) (fun h113 => ?_) (fun h113 => ?_)
                    · refine zi_iconst d_md_result_120 ?_
                      refine zi_iload d_md_result_121 rfl ?_
                      refine zi_if_eq 150 d_md_result_123 (by decide) (by first | assumption | exact ⟨by omega, by omega⟩) (fun h123 => ?_) (fun h123 => ?_)
                      · exfalso
                        grind
                      · refine zr_aload_n d_md_result_126 rfl ?_
                        refine zi_getr (j := 18) d_md_result_127 zC8 fl_md_48 (by decide) rfl rfl ?_
                        refine zi_iload d_md_result_130 rfl ?_
                        refine zi_zald d_md_result_132 rfl (by decide) (by omega) (by omega) ?_
                        refine zi_if_eq 150 d_md_result_133 (by decide) (hA _ _) (fun h133 => ?_) (fun h133 => ?_)
                        · exfalso
                          grind
                        · refine zr_aload_n d_md_result_136 rfl ?_
                          refine zi_getr (j := 19) d_md_result_137 zC8 fl_md_51 (by decide) rfl rfl ?_
                          refine zi_iload d_md_result_140 rfl ?_
                          refine zi_iald d_md_result_142 rfl (by decide) (by omega) (by omega) ?_
                          refine zi_if_ge 150 d_md_result_143 (by decide) (hA _ _) (fun h143 => ?_) (fun h143 => ?_)
                          · exfalso
                            grind
                          · refine zi_iconst d_md_result_146 ?_
                            refine zr_goto 151 d_md_result_147 (by decide) ?_
                            refine c_md_result_151 rfl rfl (md_refused ⟨by decide, by decide⟩ ⟨by decide, by decide⟩ ⟨by decide, by decide⟩ ⟨by decide, by decide⟩) ?_
                            show zV _ _ _ _ _ (vi 1 :: _) (tU τ 37 0 4) _ _
                            refine zi_if_eq 159 d_md_result_154 (by decide) (by first | assumption | exact ⟨by omega, by omega⟩) (fun h154 => ?_) (fun h154 => ?_)
                            · exact absurd h154 (by decide)
                            · refine zi_iconst d_md_result_157 ?_
                              exact zk_iret rfl d_md_result_158 (Nat.zero_le _) (Nat.zero_le _) (by first | rfl | omega | (split <;> omega) | simp_all) rfl
                    · exfalso
                      grind
                  · exfalso
                    grind
                · exfalso
                  grind
theorem md_catchDate {l : Launch} {d : Nat} {τ : tS} {n R p f e : Nat} (C : Mo τ n R p f e) {r t : Int} (zr : zin r) (zt : zin t) (h : (0 ≤ r ∧ r < R) ∧ (0 ≤ t ∧ t < n)) (hv : veM τ (20 * r + t).toNat = 1) : zF l (d + 4) M_md_catchDate [.ref 37, vi r, vi t] (τ) (some (vi (τ 50 (20 * r + t).toNat))) (tU τ 37 0 0) := by
  refine zMet_of (ls := [.ref 37, vi r, vi t, .null]) pn_md rfl (by simp [vi, Value.category]) rfl rfl ?_
  have hA := C.A
  have hn := C.n
  have hn4 := C.n4
  have hn20 := C.n20
  have hR := C.R
  have hR38 := C.R38
  refine zr_aload_n d_md_catchDate_0 rfl ?_
  refine zi_iload_n d_md_catchDate_1 rfl ?_
  refine c_md_catchDate_2 rfl rfl (md_isRound C zr) ?_
  refine zi_if_eq 20 d_md_catchDate_5 (by decide) (by split <;> exact ⟨by decide, by decide⟩) (fun h5 => ?_) (fun h5 => ?_)
  · exfalso
    grind
  · refine zr_aload_n d_md_catchDate_8 rfl ?_
    refine zi_iload_n d_md_catchDate_9 rfl ?_
    refine c_md_catchDate_10 rfl rfl (md_isTeam C zt) ?_
    refine zi_if_eq 20 d_md_catchDate_13 (by decide) (by split <;> exact ⟨by decide, by decide⟩) (fun h13 => ?_) (fun h13 => ?_)
    · exfalso
      grind
    · refine zi_iconst d_md_catchDate_16 ?_
      refine zr_goto 21 d_md_catchDate_17 (by decide) ?_
      refine zi_istore_n d_md_catchDate_21 (by decide) rfl ?_
      refine zr_aload_n d_md_catchDate_22 rfl ?_
      refine zi_iload_n d_md_catchDate_23 rfl ?_
      refine zi_if_ne 31 d_md_catchDate_24 (by decide) (by first | assumption | exact ⟨by omega, by omega⟩) (fun h24 => ?_) (fun h24 => ?_)
      · refine zi_iconst d_md_catchDate_31 ?_
        refine zi_iload_n d_md_catchDate_32 rfl ?_
        refine zi_if_eq 50 d_md_catchDate_33 (by decide) (by first | assumption | exact ⟨by omega, by omega⟩) (fun h33 => ?_) (fun h33 => ?_)
        · refine zi_iconst d_md_catchDate_50 ?_
          refine zi_iconst d_md_catchDate_51 ?_
          refine zi_iconst d_md_catchDate_52 ?_
          refine c_md_catchDate_53 rfl rfl (md_refused ⟨by decide, by decide⟩ ⟨by decide, by decide⟩ ⟨by decide, by decide⟩ ⟨by decide, by decide⟩) ?_
          show zV _ _ _ _ _ (vi 0 :: _) (tU τ 37 0 0) _ _
          refine zi_if_eq 61 d_md_catchDate_56 (by decide) (by first | assumption | exact ⟨by omega, by omega⟩) (fun h56 => ?_) (fun h56 => ?_)
          · refine zr_aload_n d_md_catchDate_61 rfl ?_
            refine zi_getr (j := 19) d_md_catchDate_62 zC8 fl_md_51 (by decide) rfl rfl ?_
            refine zi_bipush d_md_catchDate_65 (by decide) ?_
            refine zi_iload_n d_md_catchDate_67 rfl ?_
            refine zi_imul d_md_catchDate_68 ?_
            refine zi_iload_n d_md_catchDate_69 rfl ?_
            refine zi_iadd d_md_catchDate_70 ?_
            refine zi_ialdE (x := τ 50 (20 * r + t).toNat) d_md_catchDate_71 rfl (by decide) (by omega) (by omega) (by simp [tU]) ?_
            exact zk_iret rfl d_md_catchDate_72 (Nat.zero_le _) (Nat.zero_le _) (by first | rfl | omega | (split <;> omega) | simp_all) rfl
          · exact absurd h56 (by decide)
        · refine zr_aload_n d_md_catchDate_36 rfl ?_
          refine zi_iload_n d_md_catchDate_37 rfl ?_
          refine zi_iload_n d_md_catchDate_38 rfl ?_
          refine c_md_catchDate_39 rfl rfl (md_venueOf hA ⟨by omega, by omega⟩ ⟨by omega, by omega⟩) ?_
          refine zi_iconst d_md_catchDate_42 ?_
          refine zi_icmp_eq 50 d_md_catchDate_43 (by decide) (veM_in _ _) ⟨by decide, by decide⟩ (fun h43 => ?_) (fun h43 => ?_)
          · refine zi_iconst d_md_catchDate_50 ?_
            refine zi_iconst d_md_catchDate_51 ?_
            refine zi_iconst d_md_catchDate_52 ?_
            refine c_md_catchDate_53 rfl rfl (md_refused ⟨by decide, by decide⟩ ⟨by decide, by decide⟩ ⟨by decide, by decide⟩ ⟨by decide, by decide⟩) ?_
            show zV _ _ _ _ _ (vi 0 :: _) (tU τ 37 0 0) _ _
            refine zi_if_eq 61 d_md_catchDate_56 (by decide) (by first | assumption | exact ⟨by omega, by omega⟩) (fun h56 => ?_) (fun h56 => ?_)
            · refine zr_aload_n d_md_catchDate_61 rfl ?_
              refine zi_getr (j := 19) d_md_catchDate_62 zC8 fl_md_51 (by decide) rfl rfl ?_
              refine zi_bipush d_md_catchDate_65 (by decide) ?_
              refine zi_iload_n d_md_catchDate_67 rfl ?_
              refine zi_imul d_md_catchDate_68 ?_
              refine zi_iload_n d_md_catchDate_69 rfl ?_
              refine zi_iadd d_md_catchDate_70 ?_
              refine zi_ialdE (x := τ 50 (20 * r + t).toNat) d_md_catchDate_71 rfl (by decide) (by omega) (by omega) (by simp [tU]) ?_
              exact zk_iret rfl d_md_catchDate_72 (Nat.zero_le _) (Nat.zero_le _) (by first | rfl | omega | (split <;> omega) | simp_all) rfl
            · exact absurd h56 (by decide)
          · exfalso
            grind
      · exfalso
        grind
theorem md_catchDateX1 {l : Launch} {d : Nat} {τ : tS} {n R p f e : Nat} (C : Mo τ n R p f e) {r t : Int} (zr : zin r) (zt : zin t) (h : ¬ ((0 ≤ r ∧ r < R) ∧ (0 ≤ t ∧ t < n))) : zF l (d + 4) M_md_catchDate [.ref 37, vi r, vi t] (τ) (some (vi 0)) (tU τ 37 0 1) := by
  refine zMet_of (ls := [.ref 37, vi r, vi t, .null]) pn_md rfl (by simp [vi, Value.category]) rfl rfl ?_
  have hA := C.A
  have hn := C.n
  have hn4 := C.n4
  have hn20 := C.n20
  have hR := C.R
  have hR38 := C.R38
  refine zr_aload_n d_md_catchDate_0 rfl ?_
  refine zi_iload_n d_md_catchDate_1 rfl ?_
  refine c_md_catchDate_2 rfl rfl (md_isRound C zr) ?_
  refine zi_if_eq 20 d_md_catchDate_5 (by decide) (by split <;> exact ⟨by decide, by decide⟩) (fun h5 => ?_) (fun h5 => ?_)
  · refine zi_iconst d_md_catchDate_20 ?_
    refine zi_istore_n d_md_catchDate_21 (by decide) rfl ?_
    refine zr_aload_n d_md_catchDate_22 rfl ?_
    refine zi_iload_n d_md_catchDate_23 rfl ?_
    refine zi_if_ne 31 d_md_catchDate_24 (by decide) (by first | assumption | exact ⟨by omega, by omega⟩) (fun h24 => ?_) (fun h24 => ?_)
    · exfalso
      grind
    · refine zi_iconst d_md_catchDate_27 ?_
      refine zr_goto 32 d_md_catchDate_28 (by decide) ?_
      refine zi_iload_n d_md_catchDate_32 rfl ?_
      refine zi_if_eq 50 d_md_catchDate_33 (by decide) (by first | assumption | exact ⟨by omega, by omega⟩) (fun h33 => ?_) (fun h33 => ?_)
      · refine zi_iconst d_md_catchDate_50 ?_
        refine zi_iconst d_md_catchDate_51 ?_
        refine zi_iconst d_md_catchDate_52 ?_
        refine c_md_catchDate_53 rfl rfl (md_refused ⟨by decide, by decide⟩ ⟨by decide, by decide⟩ ⟨by decide, by decide⟩ ⟨by decide, by decide⟩) ?_
        show zV _ _ _ _ _ (vi 1 :: _) (tU τ 37 0 1) _ _
        refine zi_if_eq 61 d_md_catchDate_56 (by decide) (by first | assumption | exact ⟨by omega, by omega⟩) (fun h56 => ?_) (fun h56 => ?_)
        · exact absurd h56 (by decide)
        · refine zi_iconst d_md_catchDate_59 ?_
          exact zk_iret rfl d_md_catchDate_60 (Nat.zero_le _) (Nat.zero_le _) (by first | rfl | omega | (split <;> omega) | simp_all) rfl
      · exfalso
        grind
  · refine zr_aload_n d_md_catchDate_8 rfl ?_
    refine zi_iload_n d_md_catchDate_9 rfl ?_
    refine c_md_catchDate_10 rfl rfl (md_isTeam C zt) ?_
    refine zi_if_eq 20 d_md_catchDate_13 (by decide) (by split <;> exact ⟨by decide, by decide⟩) (fun h13 => ?_) (fun h13 => ?_)
    · refine zi_iconst d_md_catchDate_20 ?_
      refine zi_istore_n d_md_catchDate_21 (by decide) rfl ?_
      refine zr_aload_n d_md_catchDate_22 rfl ?_
      refine zi_iload_n d_md_catchDate_23 rfl ?_
      refine zi_if_ne 31 d_md_catchDate_24 (by decide) (by first | assumption | exact ⟨by omega, by omega⟩) (fun h24 => ?_) (fun h24 => ?_)
      · exfalso
        grind
      · refine zi_iconst d_md_catchDate_27 ?_
        refine zr_goto 32 d_md_catchDate_28 (by decide) ?_
        refine zi_iload_n d_md_catchDate_32 rfl ?_
        refine zi_if_eq 50 d_md_catchDate_33 (by decide) (by first | assumption | exact ⟨by omega, by omega⟩) (fun h33 => ?_) (fun h33 => ?_)
        · refine zi_iconst d_md_catchDate_50 ?_
          refine zi_iconst d_md_catchDate_51 ?_
          refine zi_iconst d_md_catchDate_52 ?_
          refine c_md_catchDate_53 rfl rfl (md_refused ⟨by decide, by decide⟩ ⟨by decide, by decide⟩ ⟨by decide, by decide⟩ ⟨by decide, by decide⟩) ?_
          show zV _ _ _ _ _ (vi 1 :: _) (tU τ 37 0 1) _ _
          refine zi_if_eq 61 d_md_catchDate_56 (by decide) (by first | assumption | exact ⟨by omega, by omega⟩) (fun h56 => ?_) (fun h56 => ?_)
          · exact absurd h56 (by decide)
          · refine zi_iconst d_md_catchDate_59 ?_
            exact zk_iret rfl d_md_catchDate_60 (Nat.zero_le _) (Nat.zero_le _) (by first | rfl | omega | (split <;> omega) | simp_all) rfl
        · exfalso
          grind
    · exfalso
      grind
theorem md_catchDateX2 {l : Launch} {d : Nat} {τ : tS} {n R p f e : Nat} (C : Mo τ n R p f e) {r t : Int} (zr : zin r) (zt : zin t) (h : (0 ≤ r ∧ r < R) ∧ (0 ≤ t ∧ t < n)) (hv : ¬ veM τ (20 * r + t).toNat = 1) : zF l (d + 4) M_md_catchDate [.ref 37, vi r, vi t] (τ) (some (vi 0)) (tU τ 37 0 2) := by
  refine zMet_of (ls := [.ref 37, vi r, vi t, .null]) pn_md rfl (by simp [vi, Value.category]) rfl rfl ?_
  have hA := C.A
  have hn := C.n
  have hn4 := C.n4
  have hn20 := C.n20
  have hR := C.R
  have hR38 := C.R38
  refine zr_aload_n d_md_catchDate_0 rfl ?_
  refine zi_iload_n d_md_catchDate_1 rfl ?_
  refine c_md_catchDate_2 rfl rfl (md_isRound C zr) ?_
  refine zi_if_eq 20 d_md_catchDate_5 (by decide) (by split <;> exact ⟨by decide, by decide⟩) (fun h5 => ?_) (fun h5 => ?_)
  · exfalso
    grind
  · refine zr_aload_n d_md_catchDate_8 rfl ?_
    refine zi_iload_n d_md_catchDate_9 rfl ?_
    refine c_md_catchDate_10 rfl rfl (md_isTeam C zt) ?_
    refine zi_if_eq 20 d_md_catchDate_13 (by decide) (by split <;> exact ⟨by decide, by decide⟩) (fun h13 => ?_) (fun h13 => ?_)
    · exfalso
      grind
    · refine zi_iconst d_md_catchDate_16 ?_
      refine zr_goto 21 d_md_catchDate_17 (by decide) ?_
      refine zi_istore_n d_md_catchDate_21 (by decide) rfl ?_
      refine zr_aload_n d_md_catchDate_22 rfl ?_
      refine zi_iload_n d_md_catchDate_23 rfl ?_
      refine zi_if_ne 31 d_md_catchDate_24 (by decide) (by first | assumption | exact ⟨by omega, by omega⟩) (fun h24 => ?_) (fun h24 => ?_)
      · refine zi_iconst d_md_catchDate_31 ?_
        refine zi_iload_n d_md_catchDate_32 rfl ?_
        refine zi_if_eq 50 d_md_catchDate_33 (by decide) (by first | assumption | exact ⟨by omega, by omega⟩) (fun h33 => ?_) (fun h33 => ?_)
        · exfalso
          grind
        · refine zr_aload_n d_md_catchDate_36 rfl ?_
          refine zi_iload_n d_md_catchDate_37 rfl ?_
          refine zi_iload_n d_md_catchDate_38 rfl ?_
          refine c_md_catchDate_39 rfl rfl (md_venueOf hA ⟨by omega, by omega⟩ ⟨by omega, by omega⟩) ?_
          refine zi_iconst d_md_catchDate_42 ?_
          refine zi_icmp_eq 50 d_md_catchDate_43 (by decide) (veM_in _ _) ⟨by decide, by decide⟩ (fun h43 => ?_) (fun h43 => ?_)
          · exfalso
            grind
          · refine zi_iconst d_md_catchDate_46 ?_
            refine zr_goto 51 d_md_catchDate_47 (by decide) ?_
            refine zi_iconst d_md_catchDate_51 ?_
            refine zi_iconst d_md_catchDate_52 ?_
            refine c_md_catchDate_53 rfl rfl (md_refused ⟨by decide, by decide⟩ ⟨by decide, by decide⟩ ⟨by decide, by decide⟩ ⟨by decide, by decide⟩) ?_
            show zV _ _ _ _ _ (vi 1 :: _) (tU τ 37 0 2) _ _
            refine zi_if_eq 61 d_md_catchDate_56 (by decide) (by first | assumption | exact ⟨by omega, by omega⟩) (fun h56 => ?_) (fun h56 => ?_)
            · exact absurd h56 (by decide)
            · refine zi_iconst d_md_catchDate_59 ?_
              exact zk_iret rfl d_md_catchDate_60 (Nat.zero_le _) (Nat.zero_le _) (by first | rfl | omega | (split <;> omega) | simp_all) rfl
      · exfalso
        grind
def mwP (τ : tS) (r t : Nat) : Bool := decide (veM τ (20 * r + t) = 1 ∧ τ 46 (20 * r + t) = 0)
def mwT (w : tS) (r : Nat) : Nat → tS
  | 0 => w
  | t + 1 => if mwP w r t = true then tU (mwT w r t) 49 (20 * r + t) 1 else mwT w r t
theorem mwT_ne (w : tS) (r q j : Nat) (h : q ≠ 49) : ∀ t, mwT w r t q j = w q j
  | 0 => rfl
  | t + 1 => by
    rw [mwT]
    split
    · simp only [tU]
      rw [if_neg (fun g => h g.1), mwT_ne w r q j h t]
    · exact mwT_ne w r q j h t
theorem mwT_in {w : tS} {r : Nat} (h : AllIn w) : ∀ t, AllIn (mwT w r t)
  | 0 => h
  | t + 1 => by
    rw [mwT]
    split
    · exact in_U (mwT_in h t) ⟨by decide, by decide⟩
    · exact mwT_in h t
theorem mwT_ve (w : tS) (r t j : Nat) : veM (mwT w r t) j = veM w j := by unfold veM; rw [mwT_ne _ _ _ _ (by decide), mwT_ne _ _ _ _ (by decide)]
def mwW (τ : tS) (r : Nat) : tS := tU (tU τ 37 0 0) 51 r 1
theorem mwW_P (τ : tS) (r : Nat) : mwP (mwW τ r) r = mwP τ r := by
  funext t
  unfold mwP
  rw [show veM (mwW τ r) (20 * r + t) = veM τ (20 * r + t) by simp [veM, mwW, tU], show mwW τ r 46 (20 * r + t) = τ 46 (20 * r + t) by simp [mwW, tU]]
theorem md_washOut {l : Launch} {d : Nat} {τ : tS} {n R p f e : Nat} (C : Mo τ n R p f e) {r : Nat} (h : r < R) (h0 : τ 51 r = 0) (h4 : ¬ cnt (washedRoundsP τ) 40 = 4) : zF l (d + 4) M_md_washOut [.ref 37, vi (r : Int)] (τ) (some (vi ((cnt (mwP τ r) n : Nat) : Int))) (mwT (mwW τ r) r n) := by
  refine zMet_of (ls := [.ref 37, vi (r : Int), .null, .null, .null, .null]) pn_md rfl (by simp [vi, Value.category]) rfl rfl ?_
  have hA := C.A
  have hn := C.n
  have hn4 := C.n4
  have hn20 := C.n20
  have hR := C.R
  have hR38 := C.R38
  have c2 := cnt_le (washedRoundsP τ) 40
  refine zr_aload_n d_md_washOut_0 rfl ?_
  refine zi_iload_n d_md_washOut_1 rfl ?_
  refine c_md_washOut_2 rfl rfl (md_isRound C ⟨by omega, by omega⟩) ?_
  refine zi_istore_n d_md_washOut_5 (by decide) rfl ?_
  refine zr_aload_n d_md_washOut_6 rfl ?_
  refine zi_iload_n d_md_washOut_7 rfl ?_
  refine zi_if_ne 15 d_md_washOut_8 (by decide) (by split <;> exact ⟨by decide, by decide⟩) (fun h8 => ?_) (fun h8 => ?_)
  · refine zi_iconst d_md_washOut_15 ?_
    refine zi_iload_n d_md_washOut_16 rfl ?_
    refine zi_if_eq 41 d_md_washOut_17 (by decide) (by split <;> exact ⟨by decide, by decide⟩) (fun h17 => ?_) (fun h17 => ?_)
    · exfalso
      grind
    · refine zr_aload_n d_md_washOut_20 rfl ?_
      refine zi_getr (j := 20) d_md_washOut_21 zC8 fl_md_54 (by decide) rfl rfl ?_
      refine zi_iload_n d_md_washOut_24 rfl ?_
      refine zi_zaldE (x := τ 51 r) d_md_washOut_25 rfl (by decide) (by omega) (by omega) (by rw [Int.toNat_natCast]) ?_
      refine zi_if_ne 37 d_md_washOut_26 (by decide) (hA _ _) (fun h26 => ?_) (fun h26 => ?_)
      · exfalso
        grind
      · refine zr_aload_n d_md_washOut_29 rfl ?_
        refine c_md_washOut_30 rfl rfl (md_washedRounds hA) ?_
        refine zi_iconst d_md_washOut_33 ?_
        refine zi_icmp_ne 41 d_md_washOut_34 (by decide) ⟨by omega, by omega⟩ ⟨by decide, by decide⟩ (fun h34 => ?_) (fun h34 => ?_)
        · refine zi_iconst d_md_washOut_41 ?_
          refine zi_iconst d_md_washOut_42 ?_
          refine zi_iconst d_md_washOut_43 ?_
          refine c_md_washOut_44 rfl rfl (md_refused ⟨by decide, by decide⟩ ⟨by decide, by decide⟩ ⟨by decide, by decide⟩ ⟨by decide, by decide⟩) ?_
          show zV _ _ _ _ _ (vi 0 :: _) (tU τ 37 0 0) _ _
          refine zi_if_eq 52 d_md_washOut_47 (by decide) (by first | assumption | exact ⟨by omega, by omega⟩) (fun h47 => ?_) (fun h47 => ?_)
          · refine zr_aload_n d_md_washOut_52 rfl ?_
            refine zi_getr (j := 20) d_md_washOut_53 zC8 fl_md_54 (by decide) rfl rfl ?_
            refine zi_iload_n d_md_washOut_56 rfl ?_
            refine zi_iconst d_md_washOut_57 ?_
            refine zi_zast d_md_washOut_58 rfl (by decide) (by omega) (by omega) (Or.inr rfl) ?_
            rw [Int.toNat_natCast]
            refine zi_iconst d_md_washOut_59 ?_
            refine zi_istore_n d_md_washOut_60 (by decide) rfl ?_
            refine zi_iconst d_md_washOut_61 ?_
            refine zi_istore d_md_washOut_62 (by decide) rfl ?_
            have key := zup (P := fun (i : Nat) => zV l (d + 4) M_md_washOut 64 [.ref 37, vi (r : Int), .null, vi ((cnt (mwP τ r) i : Nat) : Int), vi (i : Int), .null] [] (mwT (mwW τ r) r i) (0, 0) (.inl (some (vi ((cnt (mwP τ r) n : Nat) : Int))), (SH, zq (mwT (mwW τ r) r n)), 0, 0)) (n) ?_ ?_ 0 (by omega)
            · exact zE4 key (by refine ⟨?_, ?_, ?_, ?_, ?_, ?_, trivial⟩ <;> first | exact Or.inl rfl | exact Or.inr rfl) rfl
            · intro i hi hk
              have hcl := cnt_le (mwP τ r) i
              refine zi_iload d_md_washOut_64 rfl ?_
              refine zr_aload_n d_md_washOut_66 rfl ?_
              refine zi_getiE (j := 1) (x := (n : Int)) d_md_washOut_67 zC8 fl_md_7 (by decide) rfl rfl (by rw [mwT_ne _ _ _ _ (by decide)]; simp [mwW, tU]; exact hn) ?_
              refine zi_icmp_ge 120 d_md_washOut_70 (by decide) (by first | assumption | exact ⟨by omega, by omega⟩) (by first | assumption | exact ⟨by omega, by omega⟩) (fun h70 => ?_) (fun h70 => ?_)
              · exact absurd h70 (by omega)
              · refine zi_bipush d_md_washOut_73 (by decide) ?_
                refine zi_iload_n d_md_washOut_75 rfl ?_
                refine zi_imul d_md_washOut_76 ?_
                refine zi_iload d_md_washOut_77 rfl ?_
                refine zi_iadd d_md_washOut_79 ?_
                refine zi_istore d_md_washOut_80 (by decide) rfl ?_
                refine zr_aload_n d_md_washOut_82 rfl ?_
                refine zi_iload d_md_washOut_83 rfl ?_
                refine zi_iload_n d_md_washOut_85 rfl ?_
                refine c_md_washOut_86 rfl rfl (md_venueOf (τ := mwT (mwW τ r) r i) (mwT_in (in_U (in_U hA ⟨by decide, by decide⟩) ⟨by decide, by decide⟩) i) ⟨by omega, by omega⟩ ⟨by omega, by omega⟩) ?_
                refine zi_iconst d_md_washOut_89 ?_
                have hwp : mwP (mwW τ r) r i = mwP τ r i := by rw [mwW_P]
                show zV _ _ _ _ _ (_ :: vi _ :: _) _ _ _
                rw [ixm, mwT_ve, show veM (mwW τ r) (20 * r + i) = veM τ (20 * r + i) by simp [veM, mwW, tU]]
                refine zi_icmp_ne 114 d_md_washOut_90 (by decide) (veM_in _ _) ⟨by decide, by decide⟩ (fun h90 => ?_) (fun h90 => ?_)
                · refine zi_iinc d_md_washOut_114 (by decide) rfl rfl ?_
                  refine zr_goto 64 d_md_washOut_117 (by decide) ?_
                  exact zE4 hk (by refine ⟨?_, ?_, ?_, ?_, ?_, ?_, trivial⟩ <;> first | exact Or.inl rfl | exact Or.inr rfl | exact Or.inr (congrArg vi (by rw [cnt]; unfold mwP; grind))) (by rw [mwT, hwp]; unfold mwP; first | (rw [if_pos (decide_eq_true ⟨by assumption, by assumption⟩)]; done) | (rw [if_neg (fun g => by have := of_decide_eq_true g; omega)]; done))
                · refine zr_aload_n d_md_washOut_93 rfl ?_
                  refine zi_getr (j := 15) d_md_washOut_94 zC8 fl_md_39 (by decide) rfl rfl ?_
                  refine zi_iload d_md_washOut_97 rfl ?_
                  refine zi_zaldE (x := τ 46 (20 * r + i)) d_md_washOut_99 rfl (by decide) (by omega) (by omega) (by rw [ixm, mwT_ne _ _ _ _ (by decide)]; simp [mwW, tU]) ?_
                  refine zi_if_ne 114 d_md_washOut_100 (by decide) (hA _ _) (fun h100 => ?_) (fun h100 => ?_)
                  · refine zi_iinc d_md_washOut_114 (by decide) rfl rfl ?_
                    refine zr_goto 64 d_md_washOut_117 (by decide) ?_
                    exact zE4 hk (by refine ⟨?_, ?_, ?_, ?_, ?_, ?_, trivial⟩ <;> first | exact Or.inl rfl | exact Or.inr rfl | exact Or.inr (congrArg vi (by rw [cnt]; unfold mwP; grind))) (by rw [mwT, hwp]; unfold mwP; first | (rw [if_pos (decide_eq_true ⟨by assumption, by assumption⟩)]; done) | (rw [if_neg (fun g => by have := of_decide_eq_true g; omega)]; done))
                  · refine zr_aload_n d_md_washOut_103 rfl ?_
                    refine zi_getr (j := 18) d_md_washOut_104 zC8 fl_md_48 (by decide) rfl rfl ?_
                    refine zi_iload d_md_washOut_107 rfl ?_
                    refine zi_iconst d_md_washOut_109 ?_
                    refine zi_zast d_md_washOut_110 rfl (by decide) (by omega) (by omega) (Or.inr rfl) ?_
                    rw [ixm]
                    refine zi_iinc d_md_washOut_111 (by decide) rfl rfl ?_
                    refine zi_iinc d_md_washOut_114 (by decide) rfl rfl ?_
                    refine zr_goto 64 d_md_washOut_117 (by decide) ?_
                    exact zE4 hk (by refine ⟨?_, ?_, ?_, ?_, ?_, ?_, trivial⟩ <;> first | exact Or.inl rfl | exact Or.inr rfl | exact Or.inr (congrArg vi (by rw [cnt]; unfold mwP; grind))) (by rw [mwT, hwp]; unfold mwP; first | (rw [if_pos (decide_eq_true ⟨by assumption, by assumption⟩)]; done) | (rw [if_neg (fun g => by have := of_decide_eq_true g; omega)]; done))
            · refine zi_iload d_md_washOut_64 rfl ?_
              refine zr_aload_n d_md_washOut_66 rfl ?_
              refine zi_getiE (j := 1) (x := (n : Int)) d_md_washOut_67 zC8 fl_md_7 (by decide) rfl rfl (by rw [mwT_ne _ _ _ _ (by decide)]; simp [mwW, tU]; exact hn) ?_
              refine zi_icmp_ge 120 d_md_washOut_70 (by decide) (by first | assumption | exact ⟨by omega, by omega⟩) (by first | assumption | exact ⟨by omega, by omega⟩) (fun h70 => ?_) (fun h70 => ?_)
              · refine zi_iload_n d_md_washOut_120 rfl ?_
                exact zk_iret rfl d_md_washOut_121 (Nat.zero_le _) (Nat.zero_le _) (by first | rfl | omega | (split <;> omega) | simp_all) rfl
              · exact absurd h70 (by omega)
          · exact absurd h47 (by decide)
        · exfalso
          grind
  · exfalso
    grind
theorem md_washOutX {l : Launch} {d : Nat} {τ : tS} {n R p f e : Nat} (C : Mo τ n R p f e) {r : Int} (zr : zin r) (h : ¬ (0 ≤ r ∧ r < R)) : zF l (d + 4) M_md_washOut [.ref 37, vi r] (τ) (some (vi 0)) (tU τ 37 0 1) := by
  refine zMet_of (ls := [.ref 37, vi r, .null, .null, .null, .null]) pn_md rfl (by simp [vi, Value.category]) rfl rfl ?_
  have hA := C.A
  have hn := C.n
  have hn4 := C.n4
  have hn20 := C.n20
  have hR := C.R
  have hR38 := C.R38
  have c2 := cnt_le (washedRoundsP τ) 40
  refine zr_aload_n d_md_washOut_0 rfl ?_
  refine zi_iload_n d_md_washOut_1 rfl ?_
  refine c_md_washOut_2 rfl rfl (md_isRound C zr) ?_
  refine zi_istore_n d_md_washOut_5 (by decide) rfl ?_
  refine zr_aload_n d_md_washOut_6 rfl ?_
  refine zi_iload_n d_md_washOut_7 rfl ?_
  refine zi_if_ne 15 d_md_washOut_8 (by decide) (by split <;> exact ⟨by decide, by decide⟩) (fun h8 => ?_) (fun h8 => ?_)
  · exfalso
    grind
  · refine zi_iconst d_md_washOut_11 ?_
    refine zr_goto 16 d_md_washOut_12 (by decide) ?_
    refine zi_iload_n d_md_washOut_16 rfl ?_
    refine zi_if_eq 41 d_md_washOut_17 (by decide) (by split <;> exact ⟨by decide, by decide⟩) (fun h17 => ?_) (fun h17 => ?_)
    · refine zi_iconst d_md_washOut_41 ?_
      refine zi_iconst d_md_washOut_42 ?_
      refine zi_iconst d_md_washOut_43 ?_
      refine c_md_washOut_44 rfl rfl (md_refused ⟨by decide, by decide⟩ ⟨by decide, by decide⟩ ⟨by decide, by decide⟩ ⟨by decide, by decide⟩) ?_
      show zV _ _ _ _ _ (vi 1 :: _) (tU τ 37 0 1) _ _
      refine zi_if_eq 52 d_md_washOut_47 (by decide) (by first | assumption | exact ⟨by omega, by omega⟩) (fun h47 => ?_) (fun h47 => ?_)
      · exact absurd h47 (by decide)
      · refine zi_iconst d_md_washOut_50 ?_
        exact zk_iret rfl d_md_washOut_51 (Nat.zero_le _) (Nat.zero_le _) (by first | rfl | omega | (split <;> omega) | simp_all) rfl
    · exfalso
      grind
theorem md_washOutY {l : Launch} {d : Nat} {τ : tS} {n R p f e : Nat} (C : Mo τ n R p f e) {r : Int} (zr : zin r) (h : 0 ≤ r ∧ r < R) (h0 : ¬ (τ 51 r.toNat = 0 ∧ ¬ cnt (washedRoundsP τ) 40 = 4)) : zF l (d + 4) M_md_washOut [.ref 37, vi r] (τ) (some (vi 0)) (tU τ 37 0 2) := by
  refine zMet_of (ls := [.ref 37, vi r, .null, .null, .null, .null]) pn_md rfl (by simp [vi, Value.category]) rfl rfl ?_
  have hA := C.A
  have hn := C.n
  have hn4 := C.n4
  have hn20 := C.n20
  have hR := C.R
  have hR38 := C.R38
  have c2 := cnt_le (washedRoundsP τ) 40
  refine zr_aload_n d_md_washOut_0 rfl ?_
  refine zi_iload_n d_md_washOut_1 rfl ?_
  refine c_md_washOut_2 rfl rfl (md_isRound C zr) ?_
  refine zi_istore_n d_md_washOut_5 (by decide) rfl ?_
  refine zr_aload_n d_md_washOut_6 rfl ?_
  refine zi_iload_n d_md_washOut_7 rfl ?_
  refine zi_if_ne 15 d_md_washOut_8 (by decide) (by split <;> exact ⟨by decide, by decide⟩) (fun h8 => ?_) (fun h8 => ?_)
  · refine zi_iconst d_md_washOut_15 ?_
    refine zi_iload_n d_md_washOut_16 rfl ?_
    refine zi_if_eq 41 d_md_washOut_17 (by decide) (by split <;> exact ⟨by decide, by decide⟩) (fun h17 => ?_) (fun h17 => ?_)
    · exfalso
      grind
    · refine zr_aload_n d_md_washOut_20 rfl ?_
      refine zi_getr (j := 20) d_md_washOut_21 zC8 fl_md_54 (by decide) rfl rfl ?_
      refine zi_iload_n d_md_washOut_24 rfl ?_
      refine zi_zaldE (x := τ 51 r.toNat) d_md_washOut_25 rfl (by decide) (by omega) (by omega) (rfl) ?_
      refine zi_if_ne 37 d_md_washOut_26 (by decide) (hA _ _) (fun h26 => ?_) (fun h26 => ?_)
      · refine zi_iconst d_md_washOut_37 ?_
        refine zr_goto 42 d_md_washOut_38 (by decide) ?_
        refine zi_iconst d_md_washOut_42 ?_
        refine zi_iconst d_md_washOut_43 ?_
        refine c_md_washOut_44 rfl rfl (md_refused ⟨by decide, by decide⟩ ⟨by decide, by decide⟩ ⟨by decide, by decide⟩ ⟨by decide, by decide⟩) ?_
        show zV _ _ _ _ _ (vi 1 :: _) (tU τ 37 0 2) _ _
        refine zi_if_eq 52 d_md_washOut_47 (by decide) (by first | assumption | exact ⟨by omega, by omega⟩) (fun h47 => ?_) (fun h47 => ?_)
        · exact absurd h47 (by decide)
        · refine zi_iconst d_md_washOut_50 ?_
          exact zk_iret rfl d_md_washOut_51 (Nat.zero_le _) (Nat.zero_le _) (by first | rfl | omega | (split <;> omega) | simp_all) rfl
      · refine zr_aload_n d_md_washOut_29 rfl ?_
        refine c_md_washOut_30 rfl rfl (md_washedRounds hA) ?_
        refine zi_iconst d_md_washOut_33 ?_
        refine zi_icmp_ne 41 d_md_washOut_34 (by decide) ⟨by omega, by omega⟩ ⟨by decide, by decide⟩ (fun h34 => ?_) (fun h34 => ?_)
        · exfalso
          grind
        · refine zi_iconst d_md_washOut_37 ?_
          refine zr_goto 42 d_md_washOut_38 (by decide) ?_
          refine zi_iconst d_md_washOut_42 ?_
          refine zi_iconst d_md_washOut_43 ?_
          refine c_md_washOut_44 rfl rfl (md_refused ⟨by decide, by decide⟩ ⟨by decide, by decide⟩ ⟨by decide, by decide⟩ ⟨by decide, by decide⟩) ?_
          show zV _ _ _ _ _ (vi 1 :: _) (tU τ 37 0 2) _ _
          refine zi_if_eq 52 d_md_washOut_47 (by decide) (by first | assumption | exact ⟨by omega, by omega⟩) (fun h47 => ?_) (fun h47 => ?_)
          · exact absurd h47 (by decide)
          · refine zi_iconst d_md_washOut_50 ?_
            exact zk_iret rfl d_md_washOut_51 (Nat.zero_le _) (Nat.zero_le _) (by first | rfl | omega | (split <;> omega) | simp_all) rfl
  · exfalso
    grind
def lostP (τ : tS) (j : Nat) : Bool := decide (¬ τ 49 j = 0)
def lmT (τ : tS) : Nat → tS
  | 0 => tU τ 37 28 0
  | i + 1 => if lostP τ i = true then tU (tU (lmT τ i) 58 (cnt (lostP τ) i) (i : Int)) 37 28 (((cnt (lostP τ) i : Nat) : Int) + 1) else lmT τ i
theorem lmT_ne (τ : tS) (q j : Nat) (h : q ≠ 58) (h2 : ¬ (q = 37 ∧ j = 28)) : ∀ i, lmT τ i q j = τ q j
  | 0 => by
    rw [lmT]
    simp only [tU]
    rw [if_neg h2]
  | i + 1 => by
    rw [lmT]
    split
    · simp only [tU]
      rw [if_neg h2, if_neg (fun g => h g.1), lmT_ne τ q j h h2 i]
    · exact lmT_ne τ q j h h2 i
theorem lmT_c (τ : tS) : ∀ i, lmT τ i 37 28 = ((cnt (lostP τ) i : Nat) : Int)
  | 0 => by simp [lmT, tU, cnt]
  | i + 1 => by
    rw [lmT, cnt]
    split
    · simp [tU]
    · rw [lmT_c τ i]
      simp
theorem cnt_mono (p : Nat → Bool) {i n : Nat} (h : i ≤ n) : cnt p i ≤ cnt p n := by
  induction n with
  | zero => have : i = 0 := by omega
            subst this; exact Nat.le_refl _
  | succ n ih =>
    by_cases e : i = n + 1
    · subst e; exact Nat.le_refl _
    · rw [cnt]
      have := ih (by omega)
      omega
theorem cnt_lt (p : Nat → Bool) {i n : Nat} (h : i < n) (hp : p i = true) : cnt p i < cnt p n := by
  have := cnt_mono p (show i + 1 ≤ n by omega)
  rw [cnt, if_pos hp] at this
  omega
theorem md_listMissing {l : Launch} {d : Nat} {τ : tS} (hA : AllIn τ) (hc : cnt (lostP τ) 800 < 400) : zF l (d + 1) M_md_listMissing [.ref 37] (τ) (none) (lmT τ 800) := by
  refine zMet_of (ls := [.ref 37, .null]) pn_md rfl (by simp [vi, Value.category]) rfl rfl ?_
  refine zr_aload_n d_md_listMissing_0 rfl ?_
  refine zi_iconst d_md_listMissing_1 ?_
  refine zi_puti (j := 28) d_md_listMissing_2 zC8 fl_md_226 (by decide) rfl rfl rfl rfl ?_
  refine zi_iconst d_md_listMissing_5 ?_
  refine zi_istore_n d_md_listMissing_6 (by decide) rfl ?_
  have key := zup (P := fun (i : Nat) => zV l (d + 1) M_md_listMissing 7 [.ref 37, vi (i : Int)] [] (lmT τ i) (0, 0) (.inl none, (SH, zq (lmT τ 800)), 0, 0)) (800) ?_ ?_ 0 (by omega)
  · exact zE4 key (by refine ⟨?_, ?_, trivial⟩ <;> first | exact Or.inl rfl | exact Or.inr rfl) rfl
  · intro i hi hk
    refine zi_iload_n d_md_listMissing_7 rfl ?_
    refine zi_sipush d_md_listMissing_8 (by decide) ?_
    refine zi_icmp_ge 49 d_md_listMissing_11 (by decide) (by first | assumption | exact ⟨by omega, by omega⟩) (by first | assumption | exact ⟨by omega, by omega⟩) (fun h11 => ?_) (fun h11 => ?_)
    · exact absurd h11 (by omega)
    · refine zr_aload_n d_md_listMissing_14 rfl ?_
      refine zi_getr (j := 18) d_md_listMissing_15 zC8 fl_md_48 (by decide) rfl rfl ?_
      refine zi_iload_n d_md_listMissing_18 rfl ?_
      refine zi_zaldE (x := τ 49 i) d_md_listMissing_19 rfl (by decide) (by omega) (by omega) (by rw [Int.toNat_natCast, lmT_ne _ _ _ (by decide) (by omega)]) ?_
      refine zi_if_eq 43 d_md_listMissing_20 (by decide) (hA _ _) (fun h20 => ?_) (fun h20 => ?_)
      · refine zi_iinc d_md_listMissing_43 (by decide) rfl rfl ?_
        refine zr_goto 7 d_md_listMissing_46 (by decide) ?_
        exact zE4 hk (by refine ⟨?_, ?_, trivial⟩ <;> first | exact Or.inl rfl | exact Or.inr rfl) (by rw [lmT]; first | (rw [if_pos hlo, Int.toNat_natCast]; done) | (rw [if_neg (fun g => by have := of_decide_eq_true g; omega)]; done))
      · have hlo : lostP τ i = true := decide_eq_true h20
        have hlt := cnt_lt (lostP τ) hi hlo
        refine zr_aload_n d_md_listMissing_23 rfl ?_
        refine zi_getr (j := 29) d_md_listMissing_24 zC8 fl_md_75 (by decide) rfl rfl ?_
        refine zr_aload_n d_md_listMissing_27 rfl ?_
        refine zi_getiE (j := 28) (x := ((cnt (lostP τ) i : Nat) : Int)) d_md_listMissing_28 zC8 fl_md_226 (by decide) rfl rfl (lmT_c τ i) ?_
        refine zi_iload_n d_md_listMissing_31 rfl ?_
        refine zi_iast d_md_listMissing_32 rfl (by decide) (by omega) (by omega) ?_
        refine zr_aload_n d_md_listMissing_33 rfl ?_
        refine zr_dup d_md_listMissing_34 rfl ?_
        refine zi_getiE (j := 28) (x := ((cnt (lostP τ) i : Nat) : Int)) d_md_listMissing_35 zC8 fl_md_226 (by decide) rfl rfl (by rw [Int.toNat_natCast]; simp [tU]; exact lmT_c τ i) ?_
        refine zi_iconst d_md_listMissing_38 ?_
        refine zi_iadd d_md_listMissing_39 ?_
        refine zi_puti (j := 28) d_md_listMissing_40 zC8 fl_md_226 (by decide) rfl rfl rfl rfl ?_
        refine zi_iinc d_md_listMissing_43 (by decide) rfl rfl ?_
        refine zr_goto 7 d_md_listMissing_46 (by decide) ?_
        exact zE4 hk (by refine ⟨?_, ?_, trivial⟩ <;> first | exact Or.inl rfl | exact Or.inr rfl) (by rw [lmT]; first | (rw [if_pos hlo, Int.toNat_natCast]; done) | (rw [if_neg (fun g => by have := of_decide_eq_true g; omega)]; done))
  · refine zi_iload_n d_md_listMissing_7 rfl ?_
    refine zi_sipush d_md_listMissing_8 (by decide) ?_
    refine zi_icmp_ge 49 d_md_listMissing_11 (by decide) (by first | assumption | exact ⟨by omega, by omega⟩) (by first | assumption | exact ⟨by omega, by omega⟩) (fun h11 => ?_) (fun h11 => ?_)
    · exact zk_vret rfl d_md_listMissing_49 (Nat.zero_le _) (Nat.zero_le _) rfl
    · exact absurd h11 (by omega)
theorem lost_37 (τ : tS) (j : Nat) (x : Int) : lostP (tU τ 37 j x) = lostP τ := by funext i; simp [lostP, tU]
theorem md_missing {l : Launch} {d : Nat} {τ : tS} (hA : AllIn τ) (hc : cnt (lostP τ) 800 < 400) : zF l (d + 2) M_md_missing [.ref 37] (τ) (some (vi ((cnt (lostP τ) 800 : Nat) : Int))) (lmT (tU τ 37 0 0) 800) := by
  refine zMet_of (ls := [.ref 37]) pn_md rfl (by simp [vi, Value.category]) rfl rfl ?_
  refine zr_aload_n d_md_missing_0 rfl ?_
  refine zi_iconst d_md_missing_1 ?_
  refine zi_puti (j := 0) d_md_missing_2 zC8 fl_md_87 (by decide) rfl rfl rfl rfl ?_
  refine zr_aload_n d_md_missing_5 rfl ?_
  refine c_md_missing_6 rfl rfl (md_listMissing (in_37 hA ⟨by decide, by decide⟩) (by rw [lost_37]; exact hc)) ?_
  refine zr_aload_n d_md_missing_9 rfl ?_
  refine zi_getiE (j := 28) (x := ((cnt (lostP τ) 800 : Nat) : Int)) d_md_missing_10 zC8 fl_md_226 (by decide) rfl rfl (by rw [lmT_c, lost_37]) ?_
  exact zk_iret rfl d_md_missing_13 (Nat.zero_le _) (Nat.zero_le _) (by first | rfl | omega | (split <;> omega) | simp_all) rfl
def mdtP (τ : tS) (x : Int) (i : Nat) : Bool := decide (τ 52 i = x)
theorem md_reserveX {l : Launch} {d : Nat} {τ : tS} {n R p f e : Nat} (C : Mo τ n R p f e) {x : Int} (zx : zin x) (h : ¬ (0 ≤ x ∧ x ≤ 99)) : zF l (d + 4) M_md_reserve [.ref 37, vi x] (τ) (some (vi 0)) (tU τ 37 0 1) := by
  refine zMet_of (ls := [.ref 37, vi x, .null, .null]) pn_md rfl (by simp [vi, Value.category]) rfl rfl ?_
  have hA := C.A
  have hn := C.n
  have hn4 := C.n4
  have hn20 := C.n20
  have hR := C.R
  have hR38 := C.R38
  have he6 := C.e6
  refine zi_iconst d_md_reserve_0 ?_
  refine zi_istore_n d_md_reserve_1 (by decide) rfl ?_
  refine zi_iconst d_md_reserve_2 ?_
  refine zi_istore_n d_md_reserve_3 (by decide) rfl ?_
  have key := zup (P := fun (i : Nat) => zV l (d + 4) M_md_reserve 4 [.ref 37, vi x, vi (b2i (anyN (mdtP τ x) i)), vi (i : Int)] [] (τ) (0, 0) (.inl (some (vi 0)), (SH, zq (tU τ 37 0 1)), 0, 0)) (e) ?_ ?_ 0 (by omega)
  · exact zE4 key (by refine ⟨?_, ?_, ?_, ?_, trivial⟩ <;> first | exact Or.inl rfl | exact Or.inr rfl) rfl
  · intro i hi hk
    refine zi_iload_n d_md_reserve_4 rfl ?_
    refine zr_aload_n d_md_reserve_5 rfl ?_
    refine zi_getiE (j := 21) (x := (e : Int)) d_md_reserve_6 zC8 fl_md_97 (by decide) rfl rfl (C.e) ?_
    refine zi_icmp_ge 38 d_md_reserve_9 (by decide) (by first | assumption | exact ⟨by omega, by omega⟩) (by first | assumption | exact ⟨by omega, by omega⟩) (fun h9 => ?_) (fun h9 => ?_)
    · exact absurd h9 (by omega)
    · refine zi_iload_n d_md_reserve_12 rfl ?_
      refine zi_if_ne 26 d_md_reserve_13 (by decide) (b2i_in _) (fun h13 => ?_) (fun h13 => ?_)
      · refine zi_iconst d_md_reserve_26 ?_
        refine zr_goto 31 d_md_reserve_27 (by decide) ?_
        refine zi_istore_n d_md_reserve_31 (by decide) rfl ?_
        refine zi_iinc d_md_reserve_32 (by decide) rfl rfl ?_
        refine zr_goto 4 d_md_reserve_35 (by decide) ?_
        exact zE4 hk (by refine ⟨?_, ?_, ?_, ?_, trivial⟩ <;> first | exact Or.inl rfl | exact Or.inr rfl | exact Or.inr (congrArg vi (by refine (flg3 (fun g => ?_) (fun g => ?_)).symm; (first | rfl | exact absurd h13 g); (first | exact absurd g h13 | (clear hk; unfold b2i mdtP; grind))))) rfl
      · refine zr_aload_n d_md_reserve_16 rfl ?_
        refine zi_getr (j := 22) d_md_reserve_17 zC8 fl_md_57 (by decide) rfl rfl ?_
        refine zi_iload_n d_md_reserve_20 rfl ?_
        refine zi_ialdE (x := τ 52 i) d_md_reserve_21 rfl (by decide) (by omega) (by omega) (by rw [Int.toNat_natCast]) ?_
        refine zi_iload_n d_md_reserve_22 rfl ?_
        refine zi_icmp_ne 30 d_md_reserve_23 (by decide) (hA _ _) zx (fun h23 => ?_) (fun h23 => ?_)
        · refine zi_iconst d_md_reserve_30 ?_
          refine zi_istore_n d_md_reserve_31 (by decide) rfl ?_
          refine zi_iinc d_md_reserve_32 (by decide) rfl rfl ?_
          refine zr_goto 4 d_md_reserve_35 (by decide) ?_
          exact zE4 hk (by refine ⟨?_, ?_, ?_, ?_, trivial⟩ <;> first | exact Or.inl rfl | exact Or.inr rfl | exact Or.inr (congrArg vi (by refine (flg3 (fun g => ?_) (fun g => ?_)).symm; (first | rfl | exact absurd h13 g); (first | exact absurd g h13 | (clear hk; unfold b2i mdtP; grind))))) rfl
        · refine zi_iconst d_md_reserve_26 ?_
          refine zr_goto 31 d_md_reserve_27 (by decide) ?_
          refine zi_istore_n d_md_reserve_31 (by decide) rfl ?_
          refine zi_iinc d_md_reserve_32 (by decide) rfl rfl ?_
          refine zr_goto 4 d_md_reserve_35 (by decide) ?_
          exact zE4 hk (by refine ⟨?_, ?_, ?_, ?_, trivial⟩ <;> first | exact Or.inl rfl | exact Or.inr rfl | exact Or.inr (congrArg vi (by refine (flg3 (fun g => ?_) (fun g => ?_)).symm; (first | rfl | exact absurd h13 g); (first | exact absurd g h13 | (clear hk; unfold b2i mdtP; grind))))) rfl
  · refine zi_iload_n d_md_reserve_4 rfl ?_
    refine zr_aload_n d_md_reserve_5 rfl ?_
    refine zi_getiE (j := 21) (x := (e : Int)) d_md_reserve_6 zC8 fl_md_97 (by decide) rfl rfl (C.e) ?_
    refine zi_icmp_ge 38 d_md_reserve_9 (by decide) (by first | assumption | exact ⟨by omega, by omega⟩) (by first | assumption | exact ⟨by omega, by omega⟩) (fun h9 => ?_) (fun h9 => ?_)
    · refine zr_aload_n d_md_reserve_38 rfl ?_
      refine zi_iload_n d_md_reserve_39 rfl ?_
      refine zi_iconst d_md_reserve_40 ?_
      refine zi_bipush d_md_reserve_41 (by decide) ?_
      refine c_md_reserve_43 rfl (md_in zx ⟨by decide, by decide⟩ ⟨by decide, by decide⟩) ?_
      refine zi_if_ne 53 d_md_reserve_46 (by decide) (by split <;> exact ⟨by decide, by decide⟩) (fun h46 => ?_) (fun h46 => ?_)
      · exfalso
        grind
      · refine zi_iconst d_md_reserve_49 ?_
        refine zr_goto 54 d_md_reserve_50 (by decide) ?_
        refine zi_iload_n d_md_reserve_54 rfl ?_
        refine zi_if_ne 67 d_md_reserve_55 (by decide) (b2i_in _) (fun h55 => ?_) (fun h55 => ?_)
        · refine zi_iconst d_md_reserve_67 ?_
          refine zr_goto 72 d_md_reserve_68 (by decide) ?_
          refine zi_iconst d_md_reserve_72 ?_
          refine zi_iconst d_md_reserve_73 ?_
          refine c_md_reserve_74 rfl rfl (md_refused ⟨by decide, by decide⟩ ⟨by decide, by decide⟩ ⟨by decide, by decide⟩ ⟨by decide, by decide⟩) ?_
          show zV _ _ _ _ _ (vi 1 :: _) (tU τ 37 0 1) _ _
          refine zi_if_eq 82 d_md_reserve_77 (by decide) (by first | assumption | exact ⟨by omega, by omega⟩) (fun h77 => ?_) (fun h77 => ?_)
          · exact absurd h77 (by decide)
          · refine zi_iconst d_md_reserve_80 ?_
            exact zk_iret rfl d_md_reserve_81 (Nat.zero_le _) (Nat.zero_le _) (by first | rfl | omega | (split <;> omega) | simp_all) rfl
        · refine zr_aload_n d_md_reserve_58 rfl ?_
          refine zi_getiE (j := 21) (x := (e : Int)) d_md_reserve_59 zC8 fl_md_97 (by decide) rfl rfl (C.e) ?_
          refine zi_bipush d_md_reserve_62 (by decide) ?_
          refine zi_icmp_ne 71 d_md_reserve_64 (by decide) ⟨by omega, by omega⟩ ⟨by decide, by decide⟩ (fun h64 => ?_) (fun h64 => ?_)
          · refine zi_iconst d_md_reserve_71 ?_
            refine zi_iconst d_md_reserve_72 ?_
            refine zi_iconst d_md_reserve_73 ?_
            refine c_md_reserve_74 rfl rfl (md_refused ⟨by decide, by decide⟩ ⟨by decide, by decide⟩ ⟨by decide, by decide⟩ ⟨by decide, by decide⟩) ?_
            show zV _ _ _ _ _ (vi 1 :: _) (tU τ 37 0 1) _ _
            refine zi_if_eq 82 d_md_reserve_77 (by decide) (by first | assumption | exact ⟨by omega, by omega⟩) (fun h77 => ?_) (fun h77 => ?_)
            · exact absurd h77 (by decide)
            · refine zi_iconst d_md_reserve_80 ?_
              exact zk_iret rfl d_md_reserve_81 (Nat.zero_le _) (Nat.zero_le _) (by first | rfl | omega | (split <;> omega) | simp_all) rfl
          · refine zi_iconst d_md_reserve_67 ?_
            refine zr_goto 72 d_md_reserve_68 (by decide) ?_
            refine zi_iconst d_md_reserve_72 ?_
            refine zi_iconst d_md_reserve_73 ?_
            refine c_md_reserve_74 rfl rfl (md_refused ⟨by decide, by decide⟩ ⟨by decide, by decide⟩ ⟨by decide, by decide⟩ ⟨by decide, by decide⟩) ?_
            show zV _ _ _ _ _ (vi 1 :: _) (tU τ 37 0 1) _ _
            refine zi_if_eq 82 d_md_reserve_77 (by decide) (by first | assumption | exact ⟨by omega, by omega⟩) (fun h77 => ?_) (fun h77 => ?_)
            · exact absurd h77 (by decide)
            · refine zi_iconst d_md_reserve_80 ?_
              exact zk_iret rfl d_md_reserve_81 (Nat.zero_le _) (Nat.zero_le _) (by first | rfl | omega | (split <;> omega) | simp_all) rfl
    · exact absurd h9 (by omega)
theorem md_reserveY {l : Launch} {d : Nat} {τ : tS} {n R p f e : Nat} (C : Mo τ n R p f e) {x : Int} (zx : zin x) (h : 0 ≤ x ∧ x ≤ 99) (h1 : anyN (mdtP τ x) e = true ∨ e = 6) : zF l (d + 4) M_md_reserve [.ref 37, vi x] (τ) (some (vi 0)) (tU τ 37 0 2) := by
  refine zMet_of (ls := [.ref 37, vi x, .null, .null]) pn_md rfl (by simp [vi, Value.category]) rfl rfl ?_
  have hA := C.A
  have hn := C.n
  have hn4 := C.n4
  have hn20 := C.n20
  have hR := C.R
  have hR38 := C.R38
  have he6 := C.e6
  refine zi_iconst d_md_reserve_0 ?_
  refine zi_istore_n d_md_reserve_1 (by decide) rfl ?_
  refine zi_iconst d_md_reserve_2 ?_
  refine zi_istore_n d_md_reserve_3 (by decide) rfl ?_
  have key := zup (P := fun (i : Nat) => zV l (d + 4) M_md_reserve 4 [.ref 37, vi x, vi (b2i (anyN (mdtP τ x) i)), vi (i : Int)] [] (τ) (0, 0) (.inl (some (vi 0)), (SH, zq (tU τ 37 0 2)), 0, 0)) (e) ?_ ?_ 0 (by omega)
  · exact zE4 key (by refine ⟨?_, ?_, ?_, ?_, trivial⟩ <;> first | exact Or.inl rfl | exact Or.inr rfl) rfl
  · intro i hi hk
    refine zi_iload_n d_md_reserve_4 rfl ?_
    refine zr_aload_n d_md_reserve_5 rfl ?_
    refine zi_getiE (j := 21) (x := (e : Int)) d_md_reserve_6 zC8 fl_md_97 (by decide) rfl rfl (C.e) ?_
    refine zi_icmp_ge 38 d_md_reserve_9 (by decide) (by first | assumption | exact ⟨by omega, by omega⟩) (by first | assumption | exact ⟨by omega, by omega⟩) (fun h9 => ?_) (fun h9 => ?_)
    · exact absurd h9 (by omega)
    · refine zi_iload_n d_md_reserve_12 rfl ?_
      refine zi_if_ne 26 d_md_reserve_13 (by decide) (b2i_in _) (fun h13 => ?_) (fun h13 => ?_)
      · refine zi_iconst d_md_reserve_26 ?_
        refine zr_goto 31 d_md_reserve_27 (by decide) ?_
        refine zi_istore_n d_md_reserve_31 (by decide) rfl ?_
        refine zi_iinc d_md_reserve_32 (by decide) rfl rfl ?_
        refine zr_goto 4 d_md_reserve_35 (by decide) ?_
        exact zE4 hk (by refine ⟨?_, ?_, ?_, ?_, trivial⟩ <;> first | exact Or.inl rfl | exact Or.inr rfl | exact Or.inr (congrArg vi (by refine (flg3 (fun g => ?_) (fun g => ?_)).symm; (first | rfl | exact absurd h13 g); (first | exact absurd g h13 | (clear hk; unfold b2i mdtP; grind))))) rfl
      · refine zr_aload_n d_md_reserve_16 rfl ?_
        refine zi_getr (j := 22) d_md_reserve_17 zC8 fl_md_57 (by decide) rfl rfl ?_
        refine zi_iload_n d_md_reserve_20 rfl ?_
        refine zi_ialdE (x := τ 52 i) d_md_reserve_21 rfl (by decide) (by omega) (by omega) (by rw [Int.toNat_natCast]) ?_
        refine zi_iload_n d_md_reserve_22 rfl ?_
        refine zi_icmp_ne 30 d_md_reserve_23 (by decide) (hA _ _) zx (fun h23 => ?_) (fun h23 => ?_)
        · refine zi_iconst d_md_reserve_30 ?_
          refine zi_istore_n d_md_reserve_31 (by decide) rfl ?_
          refine zi_iinc d_md_reserve_32 (by decide) rfl rfl ?_
          refine zr_goto 4 d_md_reserve_35 (by decide) ?_
          exact zE4 hk (by refine ⟨?_, ?_, ?_, ?_, trivial⟩ <;> first | exact Or.inl rfl | exact Or.inr rfl | exact Or.inr (congrArg vi (by refine (flg3 (fun g => ?_) (fun g => ?_)).symm; (first | rfl | exact absurd h13 g); (first | exact absurd g h13 | (clear hk; unfold b2i mdtP; grind))))) rfl
        · refine zi_iconst d_md_reserve_26 ?_
          refine zr_goto 31 d_md_reserve_27 (by decide) ?_
          refine zi_istore_n d_md_reserve_31 (by decide) rfl ?_
          refine zi_iinc d_md_reserve_32 (by decide) rfl rfl ?_
          refine zr_goto 4 d_md_reserve_35 (by decide) ?_
          exact zE4 hk (by refine ⟨?_, ?_, ?_, ?_, trivial⟩ <;> first | exact Or.inl rfl | exact Or.inr rfl | exact Or.inr (congrArg vi (by refine (flg3 (fun g => ?_) (fun g => ?_)).symm; (first | rfl | exact absurd h13 g); (first | exact absurd g h13 | (clear hk; unfold b2i mdtP; grind))))) rfl
  · refine zi_iload_n d_md_reserve_4 rfl ?_
    refine zr_aload_n d_md_reserve_5 rfl ?_
    refine zi_getiE (j := 21) (x := (e : Int)) d_md_reserve_6 zC8 fl_md_97 (by decide) rfl rfl (C.e) ?_
    refine zi_icmp_ge 38 d_md_reserve_9 (by decide) (by first | assumption | exact ⟨by omega, by omega⟩) (by first | assumption | exact ⟨by omega, by omega⟩) (fun h9 => ?_) (fun h9 => ?_)
    · refine zr_aload_n d_md_reserve_38 rfl ?_
      refine zi_iload_n d_md_reserve_39 rfl ?_
      refine zi_iconst d_md_reserve_40 ?_
      refine zi_bipush d_md_reserve_41 (by decide) ?_
      refine c_md_reserve_43 rfl (md_in zx ⟨by decide, by decide⟩ ⟨by decide, by decide⟩) ?_
      refine zi_if_ne 53 d_md_reserve_46 (by decide) (by split <;> exact ⟨by decide, by decide⟩) (fun h46 => ?_) (fun h46 => ?_)
      · refine zi_iconst d_md_reserve_53 ?_
        refine zi_iload_n d_md_reserve_54 rfl ?_
        refine zi_if_ne 67 d_md_reserve_55 (by decide) (b2i_in _) (fun h55 => ?_) (fun h55 => ?_)
        · refine zi_iconst d_md_reserve_67 ?_
          refine zr_goto 72 d_md_reserve_68 (by decide) ?_
          refine zi_iconst d_md_reserve_72 ?_
          refine zi_iconst d_md_reserve_73 ?_
          refine c_md_reserve_74 rfl rfl (md_refused ⟨by decide, by decide⟩ ⟨by decide, by decide⟩ ⟨by decide, by decide⟩ ⟨by decide, by decide⟩) ?_
          show zV _ _ _ _ _ (vi 1 :: _) (tU τ 37 0 2) _ _
          refine zi_if_eq 82 d_md_reserve_77 (by decide) (by first | assumption | exact ⟨by omega, by omega⟩) (fun h77 => ?_) (fun h77 => ?_)
          · exact absurd h77 (by decide)
          · refine zi_iconst d_md_reserve_80 ?_
            exact zk_iret rfl d_md_reserve_81 (Nat.zero_le _) (Nat.zero_le _) (by first | rfl | omega | (split <;> omega) | simp_all) rfl
        · refine zr_aload_n d_md_reserve_58 rfl ?_
          refine zi_getiE (j := 21) (x := (e : Int)) d_md_reserve_59 zC8 fl_md_97 (by decide) rfl rfl (C.e) ?_
          refine zi_bipush d_md_reserve_62 (by decide) ?_
          refine zi_icmp_ne 71 d_md_reserve_64 (by decide) ⟨by omega, by omega⟩ ⟨by decide, by decide⟩ (fun h64 => ?_) (fun h64 => ?_)
          · exfalso
            (try simp only [b2i] at *)
            grind
          · refine zi_iconst d_md_reserve_67 ?_
            refine zr_goto 72 d_md_reserve_68 (by decide) ?_
            refine zi_iconst d_md_reserve_72 ?_
            refine zi_iconst d_md_reserve_73 ?_
            refine c_md_reserve_74 rfl rfl (md_refused ⟨by decide, by decide⟩ ⟨by decide, by decide⟩ ⟨by decide, by decide⟩ ⟨by decide, by decide⟩) ?_
            show zV _ _ _ _ _ (vi 1 :: _) (tU τ 37 0 2) _ _
            refine zi_if_eq 82 d_md_reserve_77 (by decide) (by first | assumption | exact ⟨by omega, by omega⟩) (fun h77 => ?_) (fun h77 => ?_)
            · exact absurd h77 (by decide)
            · refine zi_iconst d_md_reserve_80 ?_
              exact zk_iret rfl d_md_reserve_81 (Nat.zero_le _) (Nat.zero_le _) (by first | rfl | omega | (split <;> omega) | simp_all) rfl
      · exfalso
        grind
    · exact absurd h9 (by omega)
theorem md_reserve {l : Launch} {d : Nat} {τ : tS} {n R p f e : Nat} (C : Mo τ n R p f e) {x : Int} (zx : zin x) (h : 0 ≤ x ∧ x ≤ 99) (h1 : ¬ anyN (mdtP τ x) e = true) (h6 : e < 6) : zF l (d + 4) M_md_reserve [.ref 37, vi x] (τ) (some (vi ((e : Int) + 1))) (tU (tR (tU τ 37 0 0) 52 (insR x e (τ 52))) 37 21 ((e : Int) + 1)) := by
  refine zMet_of (ls := [.ref 37, vi x, .null, .null]) pn_md rfl (by simp [vi, Value.category]) rfl rfl ?_
  have hA := C.A
  have hn := C.n
  have hn4 := C.n4
  have hn20 := C.n20
  have hR := C.R
  have hR38 := C.R38
  have he6 := C.e6
  refine zi_iconst d_md_reserve_0 ?_
  refine zi_istore_n d_md_reserve_1 (by decide) rfl ?_
  refine zi_iconst d_md_reserve_2 ?_
  refine zi_istore_n d_md_reserve_3 (by decide) rfl ?_
  have key := zup (P := fun (i : Nat) => zV l (d + 4) M_md_reserve 4 [.ref 37, vi x, vi (b2i (anyN (mdtP τ x) i)), vi (i : Int)] [] (τ) (0, 0) (.inl (some (vi ((e : Int) + 1))), (SH, zq (tU (tR (tU τ 37 0 0) 52 (insR x e (τ 52))) 37 21 ((e : Int) + 1))), 0, 0)) (e) ?_ ?_ 0 (by omega)
  · exact zE4 key (by refine ⟨?_, ?_, ?_, ?_, trivial⟩ <;> first | exact Or.inl rfl | exact Or.inr rfl) rfl
  · intro i hi hk
    refine zi_iload_n d_md_reserve_4 rfl ?_
    refine zr_aload_n d_md_reserve_5 rfl ?_
    refine zi_getiE (j := 21) (x := (e : Int)) d_md_reserve_6 zC8 fl_md_97 (by decide) rfl rfl (C.e) ?_
    refine zi_icmp_ge 38 d_md_reserve_9 (by decide) (by first | assumption | exact ⟨by omega, by omega⟩) (by first | assumption | exact ⟨by omega, by omega⟩) (fun h9 => ?_) (fun h9 => ?_)
    · exact absurd h9 (by omega)
    · refine zi_iload_n d_md_reserve_12 rfl ?_
      refine zi_if_ne 26 d_md_reserve_13 (by decide) (b2i_in _) (fun h13 => ?_) (fun h13 => ?_)
      · refine zi_iconst d_md_reserve_26 ?_
        refine zr_goto 31 d_md_reserve_27 (by decide) ?_
        refine zi_istore_n d_md_reserve_31 (by decide) rfl ?_
        refine zi_iinc d_md_reserve_32 (by decide) rfl rfl ?_
        refine zr_goto 4 d_md_reserve_35 (by decide) ?_
        exact zE4 hk (by refine ⟨?_, ?_, ?_, ?_, trivial⟩ <;> first | exact Or.inl rfl | exact Or.inr rfl | exact Or.inr (congrArg vi (by refine (flg3 (fun g => ?_) (fun g => ?_)).symm; (first | rfl | exact absurd h13 g); (first | exact absurd g h13 | (clear hk; unfold b2i mdtP; grind))))) rfl
      · refine zr_aload_n d_md_reserve_16 rfl ?_
        refine zi_getr (j := 22) d_md_reserve_17 zC8 fl_md_57 (by decide) rfl rfl ?_
        refine zi_iload_n d_md_reserve_20 rfl ?_
        refine zi_ialdE (x := τ 52 i) d_md_reserve_21 rfl (by decide) (by omega) (by omega) (by rw [Int.toNat_natCast]) ?_
        refine zi_iload_n d_md_reserve_22 rfl ?_
        refine zi_icmp_ne 30 d_md_reserve_23 (by decide) (hA _ _) zx (fun h23 => ?_) (fun h23 => ?_)
        · refine zi_iconst d_md_reserve_30 ?_
          refine zi_istore_n d_md_reserve_31 (by decide) rfl ?_
          refine zi_iinc d_md_reserve_32 (by decide) rfl rfl ?_
          refine zr_goto 4 d_md_reserve_35 (by decide) ?_
          exact zE4 hk (by refine ⟨?_, ?_, ?_, ?_, trivial⟩ <;> first | exact Or.inl rfl | exact Or.inr rfl | exact Or.inr (congrArg vi (by refine (flg3 (fun g => ?_) (fun g => ?_)).symm; (first | rfl | exact absurd h13 g); (first | exact absurd g h13 | (clear hk; unfold b2i mdtP; grind))))) rfl
        · refine zi_iconst d_md_reserve_26 ?_
          refine zr_goto 31 d_md_reserve_27 (by decide) ?_
          refine zi_istore_n d_md_reserve_31 (by decide) rfl ?_
          refine zi_iinc d_md_reserve_32 (by decide) rfl rfl ?_
          refine zr_goto 4 d_md_reserve_35 (by decide) ?_
          exact zE4 hk (by refine ⟨?_, ?_, ?_, ?_, trivial⟩ <;> first | exact Or.inl rfl | exact Or.inr rfl | exact Or.inr (congrArg vi (by refine (flg3 (fun g => ?_) (fun g => ?_)).symm; (first | rfl | exact absurd h13 g); (first | exact absurd g h13 | (clear hk; unfold b2i mdtP; grind))))) rfl
  · refine zi_iload_n d_md_reserve_4 rfl ?_
    refine zr_aload_n d_md_reserve_5 rfl ?_
    refine zi_getiE (j := 21) (x := (e : Int)) d_md_reserve_6 zC8 fl_md_97 (by decide) rfl rfl (C.e) ?_
    refine zi_icmp_ge 38 d_md_reserve_9 (by decide) (by first | assumption | exact ⟨by omega, by omega⟩) (by first | assumption | exact ⟨by omega, by omega⟩) (fun h9 => ?_) (fun h9 => ?_)
    · refine zr_aload_n d_md_reserve_38 rfl ?_
      refine zi_iload_n d_md_reserve_39 rfl ?_
      refine zi_iconst d_md_reserve_40 ?_
      refine zi_bipush d_md_reserve_41 (by decide) ?_
      refine c_md_reserve_43 rfl (md_in zx ⟨by decide, by decide⟩ ⟨by decide, by decide⟩) ?_
      refine zi_if_ne 53 d_md_reserve_46 (by decide) (by split <;> exact ⟨by decide, by decide⟩) (fun h46 => ?_) (fun h46 => ?_)
      · refine zi_iconst d_md_reserve_53 ?_
        refine zi_iload_n d_md_reserve_54 rfl ?_
        refine zi_if_ne 67 d_md_reserve_55 (by decide) (b2i_in _) (fun h55 => ?_) (fun h55 => ?_)
        · exfalso
          (try simp only [b2i] at *)
          grind
        · refine zr_aload_n d_md_reserve_58 rfl ?_
          refine zi_getiE (j := 21) (x := (e : Int)) d_md_reserve_59 zC8 fl_md_97 (by decide) rfl rfl (C.e) ?_
          refine zi_bipush d_md_reserve_62 (by decide) ?_
          refine zi_icmp_ne 71 d_md_reserve_64 (by decide) ⟨by omega, by omega⟩ ⟨by decide, by decide⟩ (fun h64 => ?_) (fun h64 => ?_)
          · refine zi_iconst d_md_reserve_71 ?_
            refine zi_iconst d_md_reserve_72 ?_
            refine zi_iconst d_md_reserve_73 ?_
            refine c_md_reserve_74 rfl rfl (md_refused ⟨by decide, by decide⟩ ⟨by decide, by decide⟩ ⟨by decide, by decide⟩ ⟨by decide, by decide⟩) ?_
            show zV _ _ _ _ _ (vi 0 :: _) (tU τ 37 0 0) _ _
            refine zi_if_eq 82 d_md_reserve_77 (by decide) (by first | assumption | exact ⟨by omega, by omega⟩) (fun h77 => ?_) (fun h77 => ?_)
            · refine zr_aload_n d_md_reserve_82 rfl ?_
              refine zi_getiE (j := 21) (x := (e : Int)) d_md_reserve_83 zC8 fl_md_97 (by decide) rfl rfl (by simp [tU]; exact C.e) ?_
              refine zi_istore_n d_md_reserve_86 (by decide) rfl ?_
              have key : ∀ (j : Nat) (g : Nat → Int), j ≤ e → (∀ i, zin (g i)) → insR x e (τ 52) = insR x j g → zV l (d + 4) M_md_reserve 87 [.ref 37, vi x, .null, vi (j : Int)] [] (tR (tU τ 37 0 0) 52 g) (0, 0) (.inl (some (vi ((e : Int) + 1))), (SH, zq (tU (tR (tU τ 37 0 0) 52 (insR x e (τ 52))) 37 21 ((e : Int) + 1))), 0, 0) := by
                intro j
                induction j with
                | zero =>
                  intro g hj hg he
                  simp only [insR] at he
                  refine zi_iload_n d_md_reserve_87 rfl ?_
                  refine zi_if_le 123 d_md_reserve_88 (by decide) (by first | assumption | exact ⟨by omega, by omega⟩) (fun h88 => ?_) (fun h88 => ?_)
                  · refine zr_aload_n d_md_reserve_123 rfl ?_
                    refine zi_getr (j := 22) d_md_reserve_124 zC8 fl_md_57 (by decide) rfl rfl ?_
                    refine zi_iload_n d_md_reserve_127 rfl ?_
                    refine zi_iload_n d_md_reserve_128 rfl ?_
                    refine zi_iast d_md_reserve_129 rfl (by decide) (by omega) (by omega) ?_
                    rw [tR_U]
                    refine zr_aload_n d_md_reserve_130 rfl ?_
                    refine zr_dup d_md_reserve_131 rfl ?_
                    refine zi_getiE (j := 21) (x := (e : Int)) d_md_reserve_132 zC8 fl_md_97 (by decide) rfl rfl (by rw [tR_ne _ _ _ (by decide)]; simp [tU]; exact C.e) ?_
                    refine zi_iconst d_md_reserve_135 ?_
                    refine zi_iadd d_md_reserve_136 ?_
                    refine zi_puti (j := 21) d_md_reserve_137 zC8 fl_md_97 (by decide) rfl rfl rfl rfl ?_
                    refine zr_aload_n d_md_reserve_140 rfl ?_
                    refine zi_getiE (j := 21) (x := (e : Int) + 1) d_md_reserve_141 zC8 fl_md_97 (by decide) rfl rfl (by simp [tU]) ?_
                    exact zk_iret rfl d_md_reserve_144 (Nat.zero_le _) (Nat.zero_le _) rfl (by rw [he]; first | rfl | simp [Int.toNat_natCast])
                  · exact absurd h88 (by omega)
                | succ j ih =>
                  intro g hj hg he
                  refine zi_iload_n d_md_reserve_87 rfl ?_
                  refine zi_if_le 123 d_md_reserve_88 (by decide) (by first | assumption | exact ⟨by omega, by omega⟩) (fun h88 => ?_) (fun h88 => ?_)
                  · exact absurd h88 (by omega)
                  · refine zr_aload_n d_md_reserve_91 rfl ?_
                    refine zi_getr (j := 22) d_md_reserve_92 zC8 fl_md_57 (by decide) rfl rfl ?_
                    refine zi_iload_n d_md_reserve_95 rfl ?_
                    refine zi_iconst d_md_reserve_96 ?_
                    refine zi_isub d_md_reserve_97 ?_
                    rw [show ((j + 1 : Nat) : Int) - 1 = (j : Int) by omega]
                    refine zi_ialdE (x := g j) d_md_reserve_98 rfl (by decide) (by omega) (by omega) (by rw [Int.toNat_natCast, tR_at]) ?_
                    refine zi_iload_n d_md_reserve_99 rfl ?_
                    refine zi_icmp_le 123 d_md_reserve_100 (by decide) (hg j) zx (fun h100 => ?_) (fun h100 => ?_)
                    · simp only [insR] at he
                      rw [if_neg (by omega)] at he
                      refine zr_aload_n d_md_reserve_123 rfl ?_
                      refine zi_getr (j := 22) d_md_reserve_124 zC8 fl_md_57 (by decide) rfl rfl ?_
                      refine zi_iload_n d_md_reserve_127 rfl ?_
                      refine zi_iload_n d_md_reserve_128 rfl ?_
                      refine zi_iast d_md_reserve_129 rfl (by decide) (by omega) (by omega) ?_
                      rw [tR_U]
                      refine zr_aload_n d_md_reserve_130 rfl ?_
                      refine zr_dup d_md_reserve_131 rfl ?_
                      refine zi_getiE (j := 21) (x := (e : Int)) d_md_reserve_132 zC8 fl_md_97 (by decide) rfl rfl (by rw [tR_ne _ _ _ (by decide)]; simp [tU]; exact C.e) ?_
                      refine zi_iconst d_md_reserve_135 ?_
                      refine zi_iadd d_md_reserve_136 ?_
                      refine zi_puti (j := 21) d_md_reserve_137 zC8 fl_md_97 (by decide) rfl rfl rfl rfl ?_
                      refine zr_aload_n d_md_reserve_140 rfl ?_
                      refine zi_getiE (j := 21) (x := (e : Int) + 1) d_md_reserve_141 zC8 fl_md_97 (by decide) rfl rfl (by simp [tU]) ?_
                      exact zk_iret rfl d_md_reserve_144 (Nat.zero_le _) (Nat.zero_le _) rfl (by rw [he, Int.toNat_natCast])
                    · simp only [insR] at he
                      rw [if_pos (by omega)] at he
                      refine zr_aload_n d_md_reserve_103 rfl ?_
                      refine zi_getr (j := 22) d_md_reserve_104 zC8 fl_md_57 (by decide) rfl rfl ?_
                      refine zi_iload_n d_md_reserve_107 rfl ?_
                      refine zr_aload_n d_md_reserve_108 rfl ?_
                      refine zi_getr (j := 22) d_md_reserve_109 zC8 fl_md_57 (by decide) rfl rfl ?_
                      refine zi_iload_n d_md_reserve_112 rfl ?_
                      refine zi_iconst d_md_reserve_113 ?_
                      refine zi_isub d_md_reserve_114 ?_
                      rw [show ((j + 1 : Nat) : Int) - 1 = (j : Int) by omega]
                      refine zi_ialdE (x := g j) d_md_reserve_115 rfl (by decide) (by omega) (by omega) (by rw [Int.toNat_natCast, tR_at]) ?_
                      refine zi_iast d_md_reserve_116 rfl (by decide) (by omega) (by omega) ?_
                      rw [tR_U, Int.toNat_natCast]
                      refine zi_iinc d_md_reserve_117 (by decide) rfl rfl ?_
                      refine zr_goto 87 d_md_reserve_120 (by decide) ?_
                      exact zE4 (ih (ru g (j + 1) (g j)) (by omega) (fun i => by unfold ru; split <;> exact hg _) he) (by refine ⟨?_, ?_, ?_, ?_, trivial⟩ <;> first | exact Or.inl rfl | exact Or.inr rfl | exact Or.inr (congrArg vi (by omega))) rfl
              exact zE4 (key e (τ 52) (Nat.le_refl _) (fun i => hA _ _) rfl) (by refine ⟨?_, ?_, ?_, ?_, trivial⟩ <;> first | exact Or.inl rfl | exact Or.inr rfl) (by rw [show (τ 52) = (tU τ 37 0 0) 52 by funext j; simp [tU], tR_self])
            · exact absurd h77 (by decide)
          · exfalso
            (try simp only [b2i] at *)
            grind
      · exfalso
        grind
    · exact absurd h9 (by omega)
