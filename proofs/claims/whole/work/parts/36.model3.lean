/-! the reference: the plain timetable (written by wip/gen/t25.py) -/
def mlT (τ : tS) (r h a : Int) : tS := tU (tU (tU (tU τ 44 (20 * r + h).toNat a) 45 (20 * r + h).toNat 1) 44 (20 * r + a).toNat h) 45 (20 * r + a).toNat 0
theorem mlT_ne (τ : tS) (r h a : Int) (q j : Nat) (h2 : q ≠ 44) (h3 : q ≠ 45) : mlT τ r h a q j = τ q j := by simp [mlT, tU, h2, h3]
def mpG (τ : tS) (r m k : Nat) : tS := if k % 2 = 1 then mlT τ r (((r + k) % m : Nat) : Int) (((r + m - k) % m : Nat) : Int) else mlT τ r (((r + m - k) % m : Nat) : Int) (((r + k) % m : Nat) : Int)
def mpR (τ : tS) (r m : Nat) : Nat → tS
  | 0 => τ
  | k + 1 => mpG (mpR τ r m k) r m (k + 1)
def mpE (τ : tS) (r m n : Nat) : tS := if n % 2 = 0 then (if r % 2 = 0 then mlT (mpR τ r m ((m - 1) / 2)) r r ((n - 1 : Nat) : Int) else mlT (mpR τ r m ((m - 1) / 2)) r ((n - 1 : Nat) : Int) r) else tU (tU (mpR τ r m ((m - 1) / 2)) 44 (20 * (r : Int) + (r : Int)).toNat (-1)) 45 (20 * (r : Int) + (r : Int)).toNat 0
theorem mpR_ne (τ : tS) (r m q j : Nat) (h2 : q ≠ 44) (h3 : q ≠ 45) : ∀ k, mpR τ r m k q j = τ q j
  | 0 => rfl
  | k + 1 => by
    rw [mpR, mpG]
    split <;> rw [mlT_ne _ _ _ _ _ _ h2 h3, mpR_ne τ r m q j h2 h3 k]
theorem mpE_ne (τ : tS) (r m n q j : Nat) (h2 : q ≠ 44) (h3 : q ≠ 45) : mpE τ r m n q j = τ q j := by
  unfold mpE
  split
  · split <;> rw [mlT_ne _ _ _ _ _ _ h2 h3, mpR_ne _ _ _ _ _ h2 h3]
  · simp only [tU]
    rw [if_neg (fun g => h3 g.1), if_neg (fun g => h2 g.1), mpR_ne _ _ _ _ _ h2 h3]
def mpS (τ : tS) (m n : Nat) : Nat → tS
  | 0 => τ
  | r + 1 => mpE (mpS τ m n r) r m n
theorem mpS_ne (τ : tS) (m n q j : Nat) (h2 : q ≠ 44) (h3 : q ≠ 45) : ∀ r, mpS τ m n r q j = τ q j
  | 0 => rfl
  | r + 1 => by rw [mpS, mpE_ne _ _ _ _ _ _ h2 h3, mpS_ne τ m n q j h2 h3 r]
/-- the return rounds -/
def mrC (τ : tS) (m r t : Nat) : tS := tU (tU τ 44 (20 * (m + r) + t) (τ 44 (20 * r + t))) 45 (20 * (m + r) + t) (if 0 ≤ τ 44 (20 * r + t) ∧ τ 45 (20 * r + t) = 0 then 1 else 0)
def mrR (τ : tS) (m r : Nat) : Nat → tS
  | 0 => τ
  | t + 1 => mrC (mrR τ m r t) m r t
def mrA (τ : tS) (m n : Nat) : Nat → tS
  | 0 => τ
  | r + 1 => mrR (mrA τ m n r) m r n
theorem mrC_ne (τ : tS) (m r t q j : Nat) (h2 : q ≠ 44) (h3 : q ≠ 45) : mrC τ m r t q j = τ q j := by simp [mrC, tU, h2, h3]
theorem mrR_ne (τ : tS) (m r q j : Nat) (h2 : q ≠ 44) (h3 : q ≠ 45) : ∀ t, mrR τ m r t q j = τ q j
  | 0 => rfl
  | t + 1 => by rw [mrR, mrC_ne _ _ _ _ _ _ h2 h3, mrR_ne τ m r q j h2 h3 t]
theorem mrA_ne (τ : tS) (m n q j : Nat) (h2 : q ≠ 44) (h3 : q ≠ 45) : ∀ r, mrA τ m n r q j = τ q j
  | 0 => rfl
  | r + 1 => by rw [mrA, mrR_ne _ _ _ _ _ h2 h3, mrA_ne τ m n q j h2 h3 r]
theorem in_U {τ : tS} (h : AllIn τ) {k j : Nat} {x : Int} (hx : zin x) : AllIn (tU τ k j x) := by
  intro q i
  unfold tU
  split
  · exact hx
  · exact h q i
theorem mlT_in {τ : tS} {r h a : Int} (hA : AllIn τ) (hh : zin h) (ha : zin a) : AllIn (mlT τ r h a) := in_U (in_U (in_U (in_U hA ha) ⟨by decide, by decide⟩) hh) ⟨by decide, by decide⟩
theorem mpR_in {τ : tS} {r m : Nat} (hA : AllIn τ) (hm : 0 < m ∧ m < 20) : ∀ k, AllIn (mpR τ r m k)
  | 0 => hA
  | k + 1 => by
    have hq1 := Nat.mod_lt (r + (k + 1)) hm.1
    have hq2 := Nat.mod_lt (r + m - (k + 1)) hm.1
    rw [mpR, mpG]
    split
    · exact mlT_in (mpR_in hA hm k) ⟨by omega, by omega⟩ ⟨by omega, by omega⟩
    · exact mlT_in (mpR_in hA hm k) ⟨by omega, by omega⟩ ⟨by omega, by omega⟩
theorem mpE_in {τ : tS} {r m n : Nat} (hA : AllIn τ) (hm : 0 < m ∧ m < 20) (hr : r < m) (hn : n ≤ 20) : AllIn (mpE τ r m n) := by
  unfold mpE
  split
  · split
    · exact mlT_in (mpR_in hA hm _) ⟨by omega, by omega⟩ ⟨by omega, by omega⟩
    · exact mlT_in (mpR_in hA hm _) ⟨by omega, by omega⟩ ⟨by omega, by omega⟩
  · exact in_U (in_U (mpR_in hA hm _) ⟨by decide, by decide⟩) ⟨by decide, by decide⟩
theorem mpS_in {τ : tS} {m n : Nat} (hA : AllIn τ) (hm : 0 < m ∧ m < 20) (hn : n ≤ 20) : ∀ r, r ≤ m → AllIn (mpS τ m n r)
  | 0, _ => hA
  | r + 1, h => mpE_in (mpS_in hA hm hn r (by omega)) hm (by omega) hn
theorem mrC_in {τ : tS} {m r t : Nat} (hA : AllIn τ) : AllIn (mrC τ m r t) := in_U (in_U hA (hA _ _)) (by split <;> exact ⟨by decide, by decide⟩)
theorem mrR_in {τ : tS} {m r : Nat} (hA : AllIn τ) : ∀ t, AllIn (mrR τ m r t)
  | 0 => hA
  | t + 1 => mrC_in (mrR_in hA t)
theorem mrA_in {τ : tS} {m n : Nat} (hA : AllIn τ) : ∀ r, AllIn (mrA τ m n r)
  | 0 => hA
  | r + 1 => mrR_in (mrA_in hA r) n
theorem md_lay {l : Launch} {d : Nat} {τ : tS} {r h a : Int} (hr : 0 ≤ r ∧ r < 38) (hh : 0 ≤ h ∧ h < 20) (ha : 0 ≤ a ∧ a < 20) : zF l (d + 1) M_md_lay [.ref 37, vi r, vi h, vi a] (τ) (none) (mlT τ r h a) := by
  refine zMet_of (ls := [.ref 37, vi r, vi h, vi a]) pn_md rfl (by simp [vi, Value.category]) rfl rfl ?_
  refine zr_aload_n d_md_lay_0 rfl ?_
  refine zi_getr (j := 13) d_md_lay_1 zC8 fl_md_33 (by decide) rfl rfl ?_
  refine zi_bipush d_md_lay_4 (by decide) ?_
  refine zi_iload_n d_md_lay_6 rfl ?_
  refine zi_imul d_md_lay_7 ?_
  refine zi_iload_n d_md_lay_8 rfl ?_
  refine zi_iadd d_md_lay_9 ?_
  refine zi_iload_n d_md_lay_10 rfl ?_
  refine zi_iast d_md_lay_11 rfl (by decide) (by omega) (by omega) ?_
  refine zr_aload_n d_md_lay_12 rfl ?_
  refine zi_getr (j := 14) d_md_lay_13 zC8 fl_md_36 (by decide) rfl rfl ?_
  refine zi_bipush d_md_lay_16 (by decide) ?_
  refine zi_iload_n d_md_lay_18 rfl ?_
  refine zi_imul d_md_lay_19 ?_
  refine zi_iload_n d_md_lay_20 rfl ?_
  refine zi_iadd d_md_lay_21 ?_
  refine zi_iconst d_md_lay_22 ?_
  refine zi_zast d_md_lay_23 rfl (by decide) (by omega) (by omega) (Or.inr rfl) ?_
  refine zr_aload_n d_md_lay_24 rfl ?_
  refine zi_getr (j := 13) d_md_lay_25 zC8 fl_md_33 (by decide) rfl rfl ?_
  refine zi_bipush d_md_lay_28 (by decide) ?_
  refine zi_iload_n d_md_lay_30 rfl ?_
  refine zi_imul d_md_lay_31 ?_
  refine zi_iload_n d_md_lay_32 rfl ?_
  refine zi_iadd d_md_lay_33 ?_
  refine zi_iload_n d_md_lay_34 rfl ?_
  refine zi_iast d_md_lay_35 rfl (by decide) (by omega) (by omega) ?_
  refine zr_aload_n d_md_lay_36 rfl ?_
  refine zi_getr (j := 14) d_md_lay_37 zC8 fl_md_36 (by decide) rfl rfl ?_
  refine zi_bipush d_md_lay_40 (by decide) ?_
  refine zi_iload_n d_md_lay_42 rfl ?_
  refine zi_imul d_md_lay_43 ?_
  refine zi_iload_n d_md_lay_44 rfl ?_
  refine zi_iadd d_md_lay_45 ?_
  refine zi_iconst d_md_lay_46 ?_
  refine zi_zast d_md_lay_47 rfl (by decide) (by omega) (by omega) (Or.inl rfl) ?_
  exact zk_vret rfl d_md_lay_48 (Nat.zero_le _) (Nat.zero_le _) rfl
theorem md_layPlain {l : Launch} {d : Nat} {τ : tS} {r m n : Nat} (hn : τ 37 1 = (n : Int)) (hn2 : 4 ≤ n ∧ n ≤ 20) (hm : m = n - 1 + n % 2) (hr : r < m) : zF l (d + 2) M_md_layPlain [.ref 37, vi (r : Int), vi (m : Int)] τ none (mpE τ r m n) := by
  refine zMet_of (ls := [.ref 37, vi (r : Int), vi (m : Int), .null, .null, .null]) pn_md rfl (by simp [vi, Value.category]) rfl rfl ?_
  refine zi_iconst d_md_layPlain_0 ?_
  refine zi_istore_n d_md_layPlain_1 (by decide) rfl ?_
  have key := zup (P := fun (i : Nat) => zV l (d + 2) M_md_layPlain 2 [.ref 37, vi (r : Int), vi (m : Int), vi ((i : Int) + 1), .null, .null] [] (mpR τ r m i) (0, 0) (.inl none, (SH, zq (mpE τ r m n)), 0, 0)) ((m - 1) / 2) ?_ ?_ 0 (by omega)
  · exact zE4 key (by refine ⟨?_, ?_, ?_, ?_, ?_, ?_, trivial⟩ <;> first | exact Or.inl rfl | exact Or.inr rfl) rfl
  · intro i hi hk
    refine zi_iload_n d_md_layPlain_2 rfl ?_
    refine zi_iload_n d_md_layPlain_3 rfl ?_
    refine zi_iconst d_md_layPlain_4 ?_
    refine zi_isub d_md_layPlain_5 ?_
    refine zi_iconst d_md_layPlain_6 ?_
    refine zi_idiv d_md_layPlain_7 ⟨by omega, by omega⟩ ⟨by omega, by omega⟩ ?_
    rw [show ((m : Int) - 1) / 2 = (((m - 1) / 2 : Nat) : Int) by omega]
    refine zi_icmp_gt 66 d_md_layPlain_8 (by decide) ⟨by omega, by omega⟩ ⟨by omega, by omega⟩ (fun h8 => ?_) (fun h8 => ?_)
    · exact absurd h8 (by omega)
    · refine zi_iload_n d_md_layPlain_11 rfl ?_
      refine zi_iload_n d_md_layPlain_12 rfl ?_
      refine zi_iadd d_md_layPlain_13 ?_
      refine zi_iload_n d_md_layPlain_14 rfl ?_
      rw [show (r : Int) + ((i : Int) + 1) = ((r + (i + 1) : Nat) : Int) by omega]
      refine zi_irem d_md_layPlain_15 ⟨by omega, by omega⟩ ⟨by omega, by omega⟩ ?_
      rw [show ((r + (i + 1) : Nat) : Int) % (m : Int) = (((r + (i + 1)) % m : Nat) : Int) from (Int.natCast_emod _ _).symm]
      refine zi_istore d_md_layPlain_16 (by decide) rfl ?_
      refine zi_iload_n d_md_layPlain_18 rfl ?_
      refine zi_iload_n d_md_layPlain_19 rfl ?_
      refine zi_iadd d_md_layPlain_20 ?_
      refine zi_iload_n d_md_layPlain_21 rfl ?_
      refine zi_isub d_md_layPlain_22 ?_
      refine zi_iload_n d_md_layPlain_23 rfl ?_
      rw [show (r : Int) + (m : Int) - ((i : Int) + 1) = ((r + m - (i + 1) : Nat) : Int) by omega]
      refine zi_irem d_md_layPlain_24 ⟨by omega, by omega⟩ ⟨by omega, by omega⟩ ?_
      rw [show ((r + m - (i + 1) : Nat) : Int) % (m : Int) = (((r + m - (i + 1)) % m : Nat) : Int) from (Int.natCast_emod _ _).symm]
      have hq1 := Nat.mod_lt (r + (i + 1)) (show 0 < m by omega)
      have hq2 := Nat.mod_lt (r + m - (i + 1)) (show 0 < m by omega)
      refine zi_istore d_md_layPlain_25 (by decide) rfl ?_
      refine zr_aload_n d_md_layPlain_27 rfl ?_
      refine zi_iload_n d_md_layPlain_28 rfl ?_
      refine zi_iload_n d_md_layPlain_29 rfl ?_
      refine zi_iconst d_md_layPlain_30 ?_
      refine zi_irem d_md_layPlain_31 ⟨by omega, by omega⟩ ⟨by omega, by omega⟩ ?_
      refine zi_iconst d_md_layPlain_32 ?_
      refine zi_icmp_ne 41 d_md_layPlain_33 (by decide) ⟨by omega, by omega⟩ ⟨by omega, by omega⟩ (fun h33 => ?_) (fun h33 => ?_)
      · refine zi_iload d_md_layPlain_41 rfl ?_
        refine zi_iload_n d_md_layPlain_43 rfl ?_
        refine zi_iconst d_md_layPlain_44 ?_
        refine zi_irem d_md_layPlain_45 ⟨by omega, by omega⟩ ⟨by omega, by omega⟩ ?_
        refine zi_iconst d_md_layPlain_46 ?_
        refine zi_icmp_ne 55 d_md_layPlain_47 (by decide) ⟨by omega, by omega⟩ ⟨by omega, by omega⟩ (fun h47 => ?_) (fun h47 => ?_)
        · refine zi_iload d_md_layPlain_55 rfl ?_
          refine c_md_layPlain_57 rfl rfl (md_lay ⟨by omega, by omega⟩ ⟨by omega, by omega⟩ ⟨by omega, by omega⟩) ?_
          refine zi_iinc d_md_layPlain_60 (by decide) rfl rfl ?_
          refine zr_goto 2 d_md_layPlain_63 (by decide) ?_
          exact zE4 hk (by refine ⟨?_, ?_, ?_, ?_, ?_, ?_, trivial⟩ <;> first | exact Or.inl rfl | exact Or.inr rfl) (by rw [mpR, mpG]; rw [if_neg (show ¬ (i + 1) % 2 = 1 by omega)])
        · exact absurd h47 (by omega)
      · refine zi_iload d_md_layPlain_36 rfl ?_
        refine zr_goto 43 d_md_layPlain_38 (by decide) ?_
        refine zi_iload_n d_md_layPlain_43 rfl ?_
        refine zi_iconst d_md_layPlain_44 ?_
        refine zi_irem d_md_layPlain_45 ⟨by omega, by omega⟩ ⟨by omega, by omega⟩ ?_
        refine zi_iconst d_md_layPlain_46 ?_
        refine zi_icmp_ne 55 d_md_layPlain_47 (by decide) ⟨by omega, by omega⟩ ⟨by omega, by omega⟩ (fun h47 => ?_) (fun h47 => ?_)
        · exact absurd h47 (by omega)
        · refine zi_iload d_md_layPlain_50 rfl ?_
          refine zr_goto 57 d_md_layPlain_52 (by decide) ?_
          refine c_md_layPlain_57 rfl rfl (md_lay ⟨by omega, by omega⟩ ⟨by omega, by omega⟩ ⟨by omega, by omega⟩) ?_
          refine zi_iinc d_md_layPlain_60 (by decide) rfl rfl ?_
          refine zr_goto 2 d_md_layPlain_63 (by decide) ?_
          exact zE4 hk (by refine ⟨?_, ?_, ?_, ?_, ?_, ?_, trivial⟩ <;> first | exact Or.inl rfl | exact Or.inr rfl) (by rw [mpR, mpG]; rw [if_pos (show (i + 1) % 2 = 1 by omega)])
  · refine zi_iload_n d_md_layPlain_2 rfl ?_
    refine zi_iload_n d_md_layPlain_3 rfl ?_
    refine zi_iconst d_md_layPlain_4 ?_
    refine zi_isub d_md_layPlain_5 ?_
    refine zi_iconst d_md_layPlain_6 ?_
    refine zi_idiv d_md_layPlain_7 ⟨by omega, by omega⟩ ⟨by omega, by omega⟩ ?_
    rw [show ((m : Int) - 1) / 2 = (((m - 1) / 2 : Nat) : Int) by omega]
    refine zi_icmp_gt 66 d_md_layPlain_8 (by decide) ⟨by omega, by omega⟩ ⟨by omega, by omega⟩ (fun h8 => ?_) (fun h8 => ?_)
    · refine zr_aload_n d_md_layPlain_66 rfl ?_
      refine zi_getiE (j := 1) (x := (n : Int)) d_md_layPlain_67 zC8 fl_md_7 (by decide) rfl rfl (by rw [mpR_ne _ _ _ _ _ (by decide) (by decide)]; exact hn) ?_
      refine zi_iconst d_md_layPlain_70 ?_
      refine zi_irem d_md_layPlain_71 ⟨by omega, by omega⟩ ⟨by omega, by omega⟩ ?_
      refine zi_iconst d_md_layPlain_72 ?_
      refine zi_icmp_ne 103 d_md_layPlain_73 (by decide) ⟨by omega, by omega⟩ ⟨by omega, by omega⟩ (fun h73 => ?_) (fun h73 => ?_)
      · refine zr_aload_n d_md_layPlain_103 rfl ?_
        refine zi_iload_n d_md_layPlain_104 rfl ?_
        refine zi_iload_n d_md_layPlain_105 rfl ?_
        refine zi_iconst d_md_layPlain_106 ?_
        refine zi_irem d_md_layPlain_107 ⟨by omega, by omega⟩ ⟨by omega, by omega⟩ ?_
        refine zi_if_ne 115 d_md_layPlain_108 (by decide) ⟨by omega, by omega⟩ (fun h108 => ?_) (fun h108 => ?_)
        · refine zr_aload_n d_md_layPlain_115 rfl ?_
          refine zi_getiE (j := 1) (x := (n : Int)) d_md_layPlain_116 zC8 fl_md_7 (by decide) rfl rfl (by rw [mpR_ne _ _ _ _ _ (by decide) (by decide)]; exact hn) ?_
          refine zi_iconst d_md_layPlain_119 ?_
          refine zi_isub d_md_layPlain_120 ?_
          refine zi_iload_n d_md_layPlain_121 rfl ?_
          refine zi_iconst d_md_layPlain_122 ?_
          refine zi_irem d_md_layPlain_123 ⟨by omega, by omega⟩ ⟨by omega, by omega⟩ ?_
          refine zi_if_ne 136 d_md_layPlain_124 (by decide) ⟨by omega, by omega⟩ (fun h124 => ?_) (fun h124 => ?_)
          · refine zi_iload_n d_md_layPlain_136 rfl ?_
            rw [show (n : Int) - 1 = ((n - 1 : Nat) : Int) by omega]
            refine c_md_layPlain_137 rfl rfl (md_lay ⟨by omega, by omega⟩ ⟨by omega, by omega⟩ ⟨by omega, by omega⟩) ?_
            exact zk_vret rfl d_md_layPlain_140 (Nat.zero_le _) (Nat.zero_le _) (by unfold mpE; rw [if_pos (show n % 2 = 0 by omega)]; rw [if_neg (show ¬ r % 2 = 0 by omega)])
          · exact absurd h124 (by omega)
        · refine zi_iload_n d_md_layPlain_111 rfl ?_
          refine zr_goto 121 d_md_layPlain_112 (by decide) ?_
          refine zi_iload_n d_md_layPlain_121 rfl ?_
          refine zi_iconst d_md_layPlain_122 ?_
          refine zi_irem d_md_layPlain_123 ⟨by omega, by omega⟩ ⟨by omega, by omega⟩ ?_
          refine zi_if_ne 136 d_md_layPlain_124 (by decide) ⟨by omega, by omega⟩ (fun h124 => ?_) (fun h124 => ?_)
          · exact absurd h124 (by omega)
          · refine zr_aload_n d_md_layPlain_127 rfl ?_
            refine zi_getiE (j := 1) (x := (n : Int)) d_md_layPlain_128 zC8 fl_md_7 (by decide) rfl rfl (by rw [mpR_ne _ _ _ _ _ (by decide) (by decide)]; exact hn) ?_
            refine zi_iconst d_md_layPlain_131 ?_
            refine zi_isub d_md_layPlain_132 ?_
            refine zr_goto 137 d_md_layPlain_133 (by decide) ?_
            rw [show (n : Int) - 1 = ((n - 1 : Nat) : Int) by omega]
            refine c_md_layPlain_137 rfl rfl (md_lay ⟨by omega, by omega⟩ ⟨by omega, by omega⟩ ⟨by omega, by omega⟩) ?_
            exact zk_vret rfl d_md_layPlain_140 (Nat.zero_le _) (Nat.zero_le _) (by unfold mpE; rw [if_pos (show n % 2 = 0 by omega)]; rw [if_pos (show r % 2 = 0 by omega)])
      · refine zr_aload_n d_md_layPlain_76 rfl ?_
        refine zi_getr (j := 13) d_md_layPlain_77 zC8 fl_md_33 (by decide) rfl rfl ?_
        refine zi_bipush d_md_layPlain_80 (by decide) ?_
        refine zi_iload_n d_md_layPlain_82 rfl ?_
        refine zi_imul d_md_layPlain_83 ?_
        refine zi_iload_n d_md_layPlain_84 rfl ?_
        refine zi_iadd d_md_layPlain_85 ?_
        refine zi_iconst d_md_layPlain_86 ?_
        refine zi_iast d_md_layPlain_87 rfl (by decide) (by omega) (by omega) ?_
        refine zr_aload_n d_md_layPlain_88 rfl ?_
        refine zi_getr (j := 14) d_md_layPlain_89 zC8 fl_md_36 (by decide) rfl rfl ?_
        refine zi_bipush d_md_layPlain_92 (by decide) ?_
        refine zi_iload_n d_md_layPlain_94 rfl ?_
        refine zi_imul d_md_layPlain_95 ?_
        refine zi_iload_n d_md_layPlain_96 rfl ?_
        refine zi_iadd d_md_layPlain_97 ?_
        refine zi_iconst d_md_layPlain_98 ?_
        refine zi_zast d_md_layPlain_99 rfl (by decide) (by omega) (by omega) (Or.inl rfl) ?_
        refine zr_goto 140 d_md_layPlain_100 (by decide) ?_
        exact zk_vret rfl d_md_layPlain_140 (Nat.zero_le _) (Nat.zero_le _) (by unfold mpE; rw [if_neg (show ¬ n % 2 = 0 by omega)])
    · exact absurd h8 (by omega)
def mmT (τ : tS) (m n R : Nat) : tS := csT (tU (mrA (mpS (tU τ 37 0 0) m n m) m n (R - m)) 37 12 (R : Int))
theorem cs_R (τ : tS) (x : Int) : csT (tU τ 37 12 x) 37 12 = x := by simp [csT, tU, cs1, tF]
theorem md_makePlain {l : Launch} {d : Nat} {τ : tS} {n R p f e : Nat} (C : Mo τ n R p f e) {b : Int} {m R' : Nat} (hm : m = n - 1 + n % 2) (hb : b = 0 ∧ R' = m ∨ b = 1 ∧ R' = 2 * m) : zF l (d + 3) M_md_makePlain [.ref 37, vi b] (τ) (some (vi (R' : Int))) (mmT τ m n R') := by
  refine zMet_of (ls := [.ref 37, vi b, .null, .null, .null, .null]) pn_md rfl (by simp [vi, Value.category]) rfl rfl ?_
  have hA := C.A
  have hn := C.n
  have hn4 := C.n4
  have hn20 := C.n20
  have hR := C.R
  have hR38 := C.R38
  have hm2 : 0 < m ∧ m < 20 := ⟨by omega, by omega⟩
  have hend : zV l (d + 3) M_md_makePlain 149 [.ref 37, vi b, vi (m : Int), .null, .null, .null] [] (mrA (mpS (tU τ 37 0 0) m n m) m n (R' - m)) (0, 0) (.inl (some (vi (R' : Int))), (SH, zq (mmT τ m n R')), 0, 0) := by
    refine zr_aload_n d_md_makePlain_149 rfl ?_
    refine zi_iload_n d_md_makePlain_150 rfl ?_
    refine zi_if_eq 160 d_md_makePlain_151 (by decide) ⟨by omega, by omega⟩ (fun h151 => ?_) (fun h151 => ?_)
    · have hRR : (m : Int) = (R' : Int) := by omega
      refine zi_iload_n d_md_makePlain_160 rfl ?_
      refine zE5 (st := vi (R' : Int) :: .ref 37 :: []) ?_ (by rw [hRR])
      refine zi_puti (j := 12) d_md_makePlain_161 zC8 fl_md_94 (by decide) rfl rfl rfl rfl ?_
      refine zr_aload_n d_md_makePlain_164 rfl ?_
      refine c_md_makePlain_165 rfl rfl (md_clearSeason) ?_
      refine zr_aload_n d_md_makePlain_168 rfl ?_
      refine zi_getiE (j := 12) (x := (R' : Int)) d_md_makePlain_169 zC8 fl_md_94 (by decide) rfl rfl (cs_R _ _) ?_
      exact zk_iret rfl d_md_makePlain_172 (Nat.zero_le _) (Nat.zero_le _) rfl rfl
    · have hRR : 2 * (m : Int) = (R' : Int) := by omega
      refine zi_iconst d_md_makePlain_154 ?_
      refine zi_iload_n d_md_makePlain_155 rfl ?_
      refine zi_imul d_md_makePlain_156 ?_
      refine zr_goto 161 d_md_makePlain_157 (by decide) ?_
      refine zE5 (st := vi (R' : Int) :: .ref 37 :: []) ?_ (by rw [hRR])
      refine zi_puti (j := 12) d_md_makePlain_161 zC8 fl_md_94 (by decide) rfl rfl rfl rfl ?_
      refine zr_aload_n d_md_makePlain_164 rfl ?_
      refine c_md_makePlain_165 rfl rfl (md_clearSeason) ?_
      refine zr_aload_n d_md_makePlain_168 rfl ?_
      refine zi_getiE (j := 12) (x := (R' : Int)) d_md_makePlain_169 zC8 fl_md_94 (by decide) rfl rfl (cs_R _ _) ?_
      exact zk_iret rfl d_md_makePlain_172 (Nat.zero_le _) (Nat.zero_le _) rfl rfl
  refine zr_aload_n d_md_makePlain_0 rfl ?_
  refine zi_iconst d_md_makePlain_1 ?_
  refine zi_puti (j := 0) d_md_makePlain_2 zC8 fl_md_87 (by decide) rfl rfl rfl rfl ?_
  refine zr_aload_n d_md_makePlain_5 rfl ?_
  refine zi_getiE (j := 1) (x := (n : Int)) d_md_makePlain_6 zC8 fl_md_7 (by decide) rfl rfl (by simp [tU]; exact hn) ?_
  refine zi_iconst d_md_makePlain_9 ?_
  refine zi_irem d_md_makePlain_10 ⟨by omega, by omega⟩ ⟨by omega, by omega⟩ ?_
  refine zi_if_ne 23 d_md_makePlain_11 (by decide) ⟨by omega, by omega⟩ (fun h11 => ?_) (fun h11 => ?_)
  · have hmm : (n : Int) = (m : Int) := by omega
    refine zr_aload_n d_md_makePlain_23 rfl ?_
    refine zi_getiE (j := 1) (x := (n : Int)) d_md_makePlain_24 zC8 fl_md_7 (by decide) rfl rfl (by simp [tU]; exact hn) ?_
    refine zE5 (st := vi (m : Int) :: []) ?_ (by rw [hmm])
    refine zi_istore_n d_md_makePlain_27 (by decide) rfl ?_
    refine zi_iconst d_md_makePlain_28 ?_
    refine zi_istore_n d_md_makePlain_29 (by decide) rfl ?_
    have key := zup (P := fun (i : Nat) => zV l (d + 3) M_md_makePlain 30 [.ref 37, vi b, vi (m : Int), vi (i : Int), .null, .null] [] (mpS (tU τ 37 0 0) m n i) (0, 0) (.inl (some (vi (R' : Int))), (SH, zq (mmT τ m n R')), 0, 0)) m ?_ ?_ 0 (by omega)
    · exact zE4 key (by refine ⟨?_, ?_, ?_, ?_, ?_, ?_, trivial⟩ <;> first | exact Or.inl rfl | exact Or.inr rfl) rfl
    · intro i hi hk
      refine zi_iload_n d_md_makePlain_30 rfl ?_
      refine zi_iload_n d_md_makePlain_31 rfl ?_
      refine zi_icmp_ge 47 d_md_makePlain_32 (by decide) (by first | assumption | exact ⟨by omega, by omega⟩) (by first | assumption | exact ⟨by omega, by omega⟩) (fun h32 => ?_) (fun h32 => ?_)
      · exact absurd h32 (by omega)
      · refine zr_aload_n d_md_makePlain_35 rfl ?_
        refine zi_iload_n d_md_makePlain_36 rfl ?_
        refine zi_iload_n d_md_makePlain_37 rfl ?_
        refine c_md_makePlain_38 rfl rfl (md_layPlain (by rw [mpS_ne _ _ _ _ _ (by decide) (by decide)]; simp [tU]; exact hn) ⟨hn4, hn20⟩ hm (by omega)) ?_
        refine zi_iinc d_md_makePlain_41 (by decide) rfl rfl ?_
        refine zr_goto 30 d_md_makePlain_44 (by decide) ?_
        exact zE4 hk (by refine ⟨?_, ?_, ?_, ?_, ?_, ?_, trivial⟩ <;> first | exact Or.inl rfl | exact Or.inr rfl) rfl
    · refine zi_iload_n d_md_makePlain_30 rfl ?_
      refine zi_iload_n d_md_makePlain_31 rfl ?_
      refine zi_icmp_ge 47 d_md_makePlain_32 (by decide) (by first | assumption | exact ⟨by omega, by omega⟩) (by first | assumption | exact ⟨by omega, by omega⟩) (fun h32 => ?_) (fun h32 => ?_)
      · refine zi_iconst d_md_makePlain_47 ?_
        refine zi_istore_n d_md_makePlain_48 (by decide) rfl ?_
        have key2 := zup (P := fun (i : Nat) => zV l (d + 3) M_md_makePlain 49 [.ref 37, vi b, vi (m : Int), vi (i : Int), .null, .null] [] (mrA (mpS (tU τ 37 0 0) m n m) m n i) (0, 0) (.inl (some (vi (R' : Int))), (SH, zq (mmT τ m n R')), 0, 0)) (R' - m) ?_ ?_ 0 (by omega)
        · exact zE4 key2 (by refine ⟨?_, ?_, ?_, ?_, ?_, ?_, trivial⟩ <;> first | exact Or.inl rfl | exact Or.inr rfl) rfl
        · intro i hi hk
          refine zi_iload_n d_md_makePlain_49 rfl ?_
          refine zi_iload_n d_md_makePlain_50 rfl ?_
          refine zi_icmp_ge 149 d_md_makePlain_51 (by decide) (by first | assumption | exact ⟨by omega, by omega⟩) (by first | assumption | exact ⟨by omega, by omega⟩) (fun h51 => ?_) (fun h51 => ?_)
          · exact absurd h51 (by omega)
          · refine zi_iload_n d_md_makePlain_54 rfl ?_
            refine zi_if_eq 149 d_md_makePlain_55 (by decide) ⟨by omega, by omega⟩ (fun h55 => ?_) (fun h55 => ?_)
            · exact absurd h55 (by omega)
            · refine zi_iconst d_md_makePlain_58 ?_
              refine zi_istore d_md_makePlain_59 (by decide) rfl ?_
              have inn := zup (P := fun (t : Nat) => zV l (d + 3) M_md_makePlain 61 [.ref 37, vi b, vi (m : Int), vi (i : Int), vi (t : Int), .null] [] (mrR (mrA (mpS (tU τ 37 0 0) m n m) m n i) m i t) (0, 0) (.inl (some (vi (R' : Int))), (SH, zq (mmT τ m n R')), 0, 0)) n ?_ ?_ 0 (by omega)
              · exact zE4 inn (by refine ⟨?_, ?_, ?_, ?_, ?_, ?_, trivial⟩ <;> first | exact Or.inl rfl | exact Or.inr rfl) rfl
              · intro t ht hkt
                have hwA : AllIn (mrR (mrA (mpS (tU τ 37 0 0) m n m) m n i) m i t) := mrR_in (mrA_in (mpS_in (in_37 hA ⟨by decide, by decide⟩) hm2 hn20 m (Nat.le_refl _)) i) t
                generalize hgw : mrR (mrA (mpS (tU τ 37 0 0) m n m) m n i) m i t = w at hwA
                have hkt2 := hkt
                rw [mrR, hgw, mrC] at hkt2
                refine zi_iload d_md_makePlain_61 rfl ?_
                refine zr_aload_n d_md_makePlain_63 rfl ?_
                refine zi_getiE (j := 1) (x := (n : Int)) d_md_makePlain_64 zC8 fl_md_7 (by decide) rfl rfl (by rw [← hgw]; rw [mrR_ne _ _ _ _ _ (by decide) (by decide), mrA_ne _ _ _ _ _ (by decide) (by decide), mpS_ne _ _ _ _ _ (by decide) (by decide)]; simp [tU]; exact hn) ?_
                refine zi_icmp_ge 143 d_md_makePlain_67 (by decide) (by first | assumption | exact ⟨by omega, by omega⟩) (by first | assumption | exact ⟨by omega, by omega⟩) (fun h67 => ?_) (fun h67 => ?_)
                · exact absurd h67 (by omega)
                · refine zi_bipush d_md_makePlain_70 (by decide) ?_
                  refine zi_iload_n d_md_makePlain_72 rfl ?_
                  refine zi_iload_n d_md_makePlain_73 rfl ?_
                  refine zi_iadd d_md_makePlain_74 ?_
                  refine zi_imul d_md_makePlain_75 ?_
                  refine zi_iload d_md_makePlain_76 rfl ?_
                  refine zi_iadd d_md_makePlain_78 ?_
                  refine zi_istore d_md_makePlain_79 (by decide) rfl ?_
                  refine zr_aload_n d_md_makePlain_81 rfl ?_
                  refine zi_getr (j := 13) d_md_makePlain_82 zC8 fl_md_33 (by decide) rfl rfl ?_
                  refine zi_iload d_md_makePlain_85 rfl ?_
                  refine zr_aload_n d_md_makePlain_87 rfl ?_
                  refine zi_getr (j := 13) d_md_makePlain_88 zC8 fl_md_33 (by decide) rfl rfl ?_
                  refine zi_bipush d_md_makePlain_91 (by decide) ?_
                  refine zi_iload_n d_md_makePlain_93 rfl ?_
                  refine zi_imul d_md_makePlain_94 ?_
                  refine zi_iload d_md_makePlain_95 rfl ?_
                  refine zi_iadd d_md_makePlain_97 ?_
                  have e1 : (20 * ((m : Int) + (i : Int)) + (t : Int)).toNat = 20 * (m + i) + t := by omega
                  have e2 : (20 * (i : Int) + (t : Int)).toNat = 20 * i + t := by omega
                  refine zi_ialdE (x := w 44 (20 * i + t)) d_md_makePlain_98 rfl (by decide) (by omega) (by omega) (by rw [e2]) ?_
                  refine zi_iast d_md_makePlain_99 rfl (by decide) (by omega) (by omega) ?_
                  rw [e1]
                  refine zr_aload_n d_md_makePlain_100 rfl ?_
                  refine zi_getr (j := 14) d_md_makePlain_101 zC8 fl_md_36 (by decide) rfl rfl ?_
                  refine zi_iload d_md_makePlain_104 rfl ?_
                  refine zr_aload_n d_md_makePlain_106 rfl ?_
                  refine zi_getr (j := 13) d_md_makePlain_107 zC8 fl_md_33 (by decide) rfl rfl ?_
                  refine zi_iload d_md_makePlain_110 rfl ?_
                  refine zi_ialdE (x := w 44 (20 * i + t)) d_md_makePlain_112 rfl (by decide) (by omega) (by omega) (by rw [e1]; simp [tU]) ?_
                  refine zi_if_lt 135 d_md_makePlain_113 (by decide) (hwA _ _) (fun h113 => ?_) (fun h113 => ?_)
                  · refine zi_iconst d_md_makePlain_135 ?_
                    refine zi_zast d_md_makePlain_136 rfl (by decide) (by omega) (by omega) (by first | exact Or.inl rfl | exact Or.inr rfl) ?_
                    rw [e1]
                    refine zi_iinc d_md_makePlain_137 (by decide) rfl rfl ?_
                    refine zr_goto 61 d_md_makePlain_140 (by decide) ?_
                    exact zE4 hkt2 (by refine ⟨?_, ?_, ?_, ?_, ?_, ?_, trivial⟩ <;> first | exact Or.inl rfl | exact Or.inr rfl) (by first | (rw [if_neg (by omega)]; done) | (rw [if_pos (by omega)]; done))
                  · refine zr_aload_n d_md_makePlain_116 rfl ?_
                    refine zi_getr (j := 14) d_md_makePlain_117 zC8 fl_md_36 (by decide) rfl rfl ?_
                    refine zi_bipush d_md_makePlain_120 (by decide) ?_
                    refine zi_iload_n d_md_makePlain_122 rfl ?_
                    refine zi_imul d_md_makePlain_123 ?_
                    refine zi_iload d_md_makePlain_124 rfl ?_
                    refine zi_iadd d_md_makePlain_126 ?_
                    refine zi_zaldE (x := w 45 (20 * i + t)) d_md_makePlain_127 rfl (by decide) (by omega) (by omega) (by rw [e2]; simp [tU]) ?_
                    refine zi_if_ne 135 d_md_makePlain_128 (by decide) (hwA _ _) (fun h128 => ?_) (fun h128 => ?_)
                    · refine zi_iconst d_md_makePlain_135 ?_
                      refine zi_zast d_md_makePlain_136 rfl (by decide) (by omega) (by omega) (by first | exact Or.inl rfl | exact Or.inr rfl) ?_
                      rw [e1]
                      refine zi_iinc d_md_makePlain_137 (by decide) rfl rfl ?_
                      refine zr_goto 61 d_md_makePlain_140 (by decide) ?_
                      exact zE4 hkt2 (by refine ⟨?_, ?_, ?_, ?_, ?_, ?_, trivial⟩ <;> first | exact Or.inl rfl | exact Or.inr rfl) (by first | (rw [if_neg (by omega)]; done) | (rw [if_pos (by omega)]; done))
                    · refine zi_iconst d_md_makePlain_131 ?_
                      refine zr_goto 136 d_md_makePlain_132 (by decide) ?_
                      refine zi_zast d_md_makePlain_136 rfl (by decide) (by omega) (by omega) (by first | exact Or.inl rfl | exact Or.inr rfl) ?_
                      rw [e1]
                      refine zi_iinc d_md_makePlain_137 (by decide) rfl rfl ?_
                      refine zr_goto 61 d_md_makePlain_140 (by decide) ?_
                      exact zE4 hkt2 (by refine ⟨?_, ?_, ?_, ?_, ?_, ?_, trivial⟩ <;> first | exact Or.inl rfl | exact Or.inr rfl) (by first | (rw [if_neg (by omega)]; done) | (rw [if_pos (by omega)]; done))
              · refine zi_iload d_md_makePlain_61 rfl ?_
                refine zr_aload_n d_md_makePlain_63 rfl ?_
                refine zi_getiE (j := 1) (x := (n : Int)) d_md_makePlain_64 zC8 fl_md_7 (by decide) rfl rfl (by rw [mrR_ne _ _ _ _ _ (by decide) (by decide), mrA_ne _ _ _ _ _ (by decide) (by decide), mpS_ne _ _ _ _ _ (by decide) (by decide)]; simp [tU]; exact hn) ?_
                refine zi_icmp_ge 143 d_md_makePlain_67 (by decide) (by first | assumption | exact ⟨by omega, by omega⟩) (by first | assumption | exact ⟨by omega, by omega⟩) (fun h67 => ?_) (fun h67 => ?_)
                · refine zi_iinc d_md_makePlain_143 (by decide) rfl rfl ?_
                  refine zr_goto 49 d_md_makePlain_146 (by decide) ?_
                  exact zE4 hk (by refine ⟨?_, ?_, ?_, ?_, ?_, ?_, trivial⟩ <;> first | exact Or.inl rfl | exact Or.inr rfl) rfl
                · exact absurd h67 (by omega)
        · refine zi_iload_n d_md_makePlain_49 rfl ?_
          refine zi_iload_n d_md_makePlain_50 rfl ?_
          refine zi_icmp_ge 149 d_md_makePlain_51 (by decide) (by first | assumption | exact ⟨by omega, by omega⟩) (by first | assumption | exact ⟨by omega, by omega⟩) (fun h51 => ?_) (fun h51 => ?_)
          · exact zE4 hend (by refine ⟨?_, ?_, ?_, ?_, ?_, ?_, trivial⟩ <;> first | exact Or.inl rfl | exact Or.inr rfl) rfl
          · refine zi_iload_n d_md_makePlain_54 rfl ?_
            refine zi_if_eq 149 d_md_makePlain_55 (by decide) ⟨by omega, by omega⟩ (fun h55 => ?_) (fun h55 => ?_)
            · exact zE4 hend (by refine ⟨?_, ?_, ?_, ?_, ?_, ?_, trivial⟩ <;> first | exact Or.inl rfl | exact Or.inr rfl) rfl
            · exact absurd h55 (by omega)
      · exact absurd h32 (by omega)
  · have hmm : (n : Int) - 1 = (m : Int) := by omega
    refine zr_aload_n d_md_makePlain_14 rfl ?_
    refine zi_getiE (j := 1) (x := (n : Int)) d_md_makePlain_15 zC8 fl_md_7 (by decide) rfl rfl (by simp [tU]; exact hn) ?_
    refine zi_iconst d_md_makePlain_18 ?_
    refine zi_isub d_md_makePlain_19 ?_
    refine zr_goto 27 d_md_makePlain_20 (by decide) ?_
    refine zE5 (st := vi (m : Int) :: []) ?_ (by rw [hmm])
    refine zi_istore_n d_md_makePlain_27 (by decide) rfl ?_
    refine zi_iconst d_md_makePlain_28 ?_
    refine zi_istore_n d_md_makePlain_29 (by decide) rfl ?_
    have key := zup (P := fun (i : Nat) => zV l (d + 3) M_md_makePlain 30 [.ref 37, vi b, vi (m : Int), vi (i : Int), .null, .null] [] (mpS (tU τ 37 0 0) m n i) (0, 0) (.inl (some (vi (R' : Int))), (SH, zq (mmT τ m n R')), 0, 0)) m ?_ ?_ 0 (by omega)
    · exact zE4 key (by refine ⟨?_, ?_, ?_, ?_, ?_, ?_, trivial⟩ <;> first | exact Or.inl rfl | exact Or.inr rfl) rfl
    · intro i hi hk
      refine zi_iload_n d_md_makePlain_30 rfl ?_
      refine zi_iload_n d_md_makePlain_31 rfl ?_
      refine zi_icmp_ge 47 d_md_makePlain_32 (by decide) (by first | assumption | exact ⟨by omega, by omega⟩) (by first | assumption | exact ⟨by omega, by omega⟩) (fun h32 => ?_) (fun h32 => ?_)
      · exact absurd h32 (by omega)
      · refine zr_aload_n d_md_makePlain_35 rfl ?_
        refine zi_iload_n d_md_makePlain_36 rfl ?_
        refine zi_iload_n d_md_makePlain_37 rfl ?_
        refine c_md_makePlain_38 rfl rfl (md_layPlain (by rw [mpS_ne _ _ _ _ _ (by decide) (by decide)]; simp [tU]; exact hn) ⟨hn4, hn20⟩ hm (by omega)) ?_
        refine zi_iinc d_md_makePlain_41 (by decide) rfl rfl ?_
        refine zr_goto 30 d_md_makePlain_44 (by decide) ?_
        exact zE4 hk (by refine ⟨?_, ?_, ?_, ?_, ?_, ?_, trivial⟩ <;> first | exact Or.inl rfl | exact Or.inr rfl) rfl
    · refine zi_iload_n d_md_makePlain_30 rfl ?_
      refine zi_iload_n d_md_makePlain_31 rfl ?_
      refine zi_icmp_ge 47 d_md_makePlain_32 (by decide) (by first | assumption | exact ⟨by omega, by omega⟩) (by first | assumption | exact ⟨by omega, by omega⟩) (fun h32 => ?_) (fun h32 => ?_)
      · refine zi_iconst d_md_makePlain_47 ?_
        refine zi_istore_n d_md_makePlain_48 (by decide) rfl ?_
        have key2 := zup (P := fun (i : Nat) => zV l (d + 3) M_md_makePlain 49 [.ref 37, vi b, vi (m : Int), vi (i : Int), .null, .null] [] (mrA (mpS (tU τ 37 0 0) m n m) m n i) (0, 0) (.inl (some (vi (R' : Int))), (SH, zq (mmT τ m n R')), 0, 0)) (R' - m) ?_ ?_ 0 (by omega)
        · exact zE4 key2 (by refine ⟨?_, ?_, ?_, ?_, ?_, ?_, trivial⟩ <;> first | exact Or.inl rfl | exact Or.inr rfl) rfl
        · intro i hi hk
          refine zi_iload_n d_md_makePlain_49 rfl ?_
          refine zi_iload_n d_md_makePlain_50 rfl ?_
          refine zi_icmp_ge 149 d_md_makePlain_51 (by decide) (by first | assumption | exact ⟨by omega, by omega⟩) (by first | assumption | exact ⟨by omega, by omega⟩) (fun h51 => ?_) (fun h51 => ?_)
          · exact absurd h51 (by omega)
          · refine zi_iload_n d_md_makePlain_54 rfl ?_
            refine zi_if_eq 149 d_md_makePlain_55 (by decide) ⟨by omega, by omega⟩ (fun h55 => ?_) (fun h55 => ?_)
            · exact absurd h55 (by omega)
            · refine zi_iconst d_md_makePlain_58 ?_
              refine zi_istore d_md_makePlain_59 (by decide) rfl ?_
              have inn := zup (P := fun (t : Nat) => zV l (d + 3) M_md_makePlain 61 [.ref 37, vi b, vi (m : Int), vi (i : Int), vi (t : Int), .null] [] (mrR (mrA (mpS (tU τ 37 0 0) m n m) m n i) m i t) (0, 0) (.inl (some (vi (R' : Int))), (SH, zq (mmT τ m n R')), 0, 0)) n ?_ ?_ 0 (by omega)
              · exact zE4 inn (by refine ⟨?_, ?_, ?_, ?_, ?_, ?_, trivial⟩ <;> first | exact Or.inl rfl | exact Or.inr rfl) rfl
              · intro t ht hkt
                have hwA : AllIn (mrR (mrA (mpS (tU τ 37 0 0) m n m) m n i) m i t) := mrR_in (mrA_in (mpS_in (in_37 hA ⟨by decide, by decide⟩) hm2 hn20 m (Nat.le_refl _)) i) t
                generalize hgw : mrR (mrA (mpS (tU τ 37 0 0) m n m) m n i) m i t = w at hwA
                have hkt2 := hkt
                rw [mrR, hgw, mrC] at hkt2
                refine zi_iload d_md_makePlain_61 rfl ?_
                refine zr_aload_n d_md_makePlain_63 rfl ?_
                refine zi_getiE (j := 1) (x := (n : Int)) d_md_makePlain_64 zC8 fl_md_7 (by decide) rfl rfl (by rw [← hgw]; rw [mrR_ne _ _ _ _ _ (by decide) (by decide), mrA_ne _ _ _ _ _ (by decide) (by decide), mpS_ne _ _ _ _ _ (by decide) (by decide)]; simp [tU]; exact hn) ?_
                refine zi_icmp_ge 143 d_md_makePlain_67 (by decide) (by first | assumption | exact ⟨by omega, by omega⟩) (by first | assumption | exact ⟨by omega, by omega⟩) (fun h67 => ?_) (fun h67 => ?_)
                · exact absurd h67 (by omega)
                · refine zi_bipush d_md_makePlain_70 (by decide) ?_
                  refine zi_iload_n d_md_makePlain_72 rfl ?_
                  refine zi_iload_n d_md_makePlain_73 rfl ?_
                  refine zi_iadd d_md_makePlain_74 ?_
                  refine zi_imul d_md_makePlain_75 ?_
                  refine zi_iload d_md_makePlain_76 rfl ?_
                  refine zi_iadd d_md_makePlain_78 ?_
                  refine zi_istore d_md_makePlain_79 (by decide) rfl ?_
                  refine zr_aload_n d_md_makePlain_81 rfl ?_
                  refine zi_getr (j := 13) d_md_makePlain_82 zC8 fl_md_33 (by decide) rfl rfl ?_
                  refine zi_iload d_md_makePlain_85 rfl ?_
                  refine zr_aload_n d_md_makePlain_87 rfl ?_
                  refine zi_getr (j := 13) d_md_makePlain_88 zC8 fl_md_33 (by decide) rfl rfl ?_
                  refine zi_bipush d_md_makePlain_91 (by decide) ?_
                  refine zi_iload_n d_md_makePlain_93 rfl ?_
                  refine zi_imul d_md_makePlain_94 ?_
                  refine zi_iload d_md_makePlain_95 rfl ?_
                  refine zi_iadd d_md_makePlain_97 ?_
                  have e1 : (20 * ((m : Int) + (i : Int)) + (t : Int)).toNat = 20 * (m + i) + t := by omega
                  have e2 : (20 * (i : Int) + (t : Int)).toNat = 20 * i + t := by omega
                  refine zi_ialdE (x := w 44 (20 * i + t)) d_md_makePlain_98 rfl (by decide) (by omega) (by omega) (by rw [e2]) ?_
                  refine zi_iast d_md_makePlain_99 rfl (by decide) (by omega) (by omega) ?_
                  rw [e1]
                  refine zr_aload_n d_md_makePlain_100 rfl ?_
                  refine zi_getr (j := 14) d_md_makePlain_101 zC8 fl_md_36 (by decide) rfl rfl ?_
                  refine zi_iload d_md_makePlain_104 rfl ?_
                  refine zr_aload_n d_md_makePlain_106 rfl ?_
                  refine zi_getr (j := 13) d_md_makePlain_107 zC8 fl_md_33 (by decide) rfl rfl ?_
                  refine zi_iload d_md_makePlain_110 rfl ?_
                  refine zi_ialdE (x := w 44 (20 * i + t)) d_md_makePlain_112 rfl (by decide) (by omega) (by omega) (by rw [e1]; simp [tU]) ?_
                  refine zi_if_lt 135 d_md_makePlain_113 (by decide) (hwA _ _) (fun h113 => ?_) (fun h113 => ?_)
                  · refine zi_iconst d_md_makePlain_135 ?_
                    refine zi_zast d_md_makePlain_136 rfl (by decide) (by omega) (by omega) (by first | exact Or.inl rfl | exact Or.inr rfl) ?_
                    rw [e1]
                    refine zi_iinc d_md_makePlain_137 (by decide) rfl rfl ?_
                    refine zr_goto 61 d_md_makePlain_140 (by decide) ?_
                    exact zE4 hkt2 (by refine ⟨?_, ?_, ?_, ?_, ?_, ?_, trivial⟩ <;> first | exact Or.inl rfl | exact Or.inr rfl) (by first | (rw [if_neg (by omega)]; done) | (rw [if_pos (by omega)]; done))
                  · refine zr_aload_n d_md_makePlain_116 rfl ?_
                    refine zi_getr (j := 14) d_md_makePlain_117 zC8 fl_md_36 (by decide) rfl rfl ?_
                    refine zi_bipush d_md_makePlain_120 (by decide) ?_
                    refine zi_iload_n d_md_makePlain_122 rfl ?_
                    refine zi_imul d_md_makePlain_123 ?_
                    refine zi_iload d_md_makePlain_124 rfl ?_
                    refine zi_iadd d_md_makePlain_126 ?_
                    refine zi_zaldE (x := w 45 (20 * i + t)) d_md_makePlain_127 rfl (by decide) (by omega) (by omega) (by rw [e2]; simp [tU]) ?_
                    refine zi_if_ne 135 d_md_makePlain_128 (by decide) (hwA _ _) (fun h128 => ?_) (fun h128 => ?_)
                    · refine zi_iconst d_md_makePlain_135 ?_
                      refine zi_zast d_md_makePlain_136 rfl (by decide) (by omega) (by omega) (by first | exact Or.inl rfl | exact Or.inr rfl) ?_
                      rw [e1]
                      refine zi_iinc d_md_makePlain_137 (by decide) rfl rfl ?_
                      refine zr_goto 61 d_md_makePlain_140 (by decide) ?_
                      exact zE4 hkt2 (by refine ⟨?_, ?_, ?_, ?_, ?_, ?_, trivial⟩ <;> first | exact Or.inl rfl | exact Or.inr rfl) (by first | (rw [if_neg (by omega)]; done) | (rw [if_pos (by omega)]; done))
                    · refine zi_iconst d_md_makePlain_131 ?_
                      refine zr_goto 136 d_md_makePlain_132 (by decide) ?_
                      refine zi_zast d_md_makePlain_136 rfl (by decide) (by omega) (by omega) (by first | exact Or.inl rfl | exact Or.inr rfl) ?_
                      rw [e1]
                      refine zi_iinc d_md_makePlain_137 (by decide) rfl rfl ?_
                      refine zr_goto 61 d_md_makePlain_140 (by decide) ?_
                      exact zE4 hkt2 (by refine ⟨?_, ?_, ?_, ?_, ?_, ?_, trivial⟩ <;> first | exact Or.inl rfl | exact Or.inr rfl) (by first | (rw [if_neg (by omega)]; done) | (rw [if_pos (by omega)]; done))
              · refine zi_iload d_md_makePlain_61 rfl ?_
                refine zr_aload_n d_md_makePlain_63 rfl ?_
                refine zi_getiE (j := 1) (x := (n : Int)) d_md_makePlain_64 zC8 fl_md_7 (by decide) rfl rfl (by rw [mrR_ne _ _ _ _ _ (by decide) (by decide), mrA_ne _ _ _ _ _ (by decide) (by decide), mpS_ne _ _ _ _ _ (by decide) (by decide)]; simp [tU]; exact hn) ?_
                refine zi_icmp_ge 143 d_md_makePlain_67 (by decide) (by first | assumption | exact ⟨by omega, by omega⟩) (by first | assumption | exact ⟨by omega, by omega⟩) (fun h67 => ?_) (fun h67 => ?_)
                · refine zi_iinc d_md_makePlain_143 (by decide) rfl rfl ?_
                  refine zr_goto 49 d_md_makePlain_146 (by decide) ?_
                  exact zE4 hk (by refine ⟨?_, ?_, ?_, ?_, ?_, ?_, trivial⟩ <;> first | exact Or.inl rfl | exact Or.inr rfl) rfl
                · exact absurd h67 (by omega)
        · refine zi_iload_n d_md_makePlain_49 rfl ?_
          refine zi_iload_n d_md_makePlain_50 rfl ?_
          refine zi_icmp_ge 149 d_md_makePlain_51 (by decide) (by first | assumption | exact ⟨by omega, by omega⟩) (by first | assumption | exact ⟨by omega, by omega⟩) (fun h51 => ?_) (fun h51 => ?_)
          · exact zE4 hend (by refine ⟨?_, ?_, ?_, ?_, ?_, ?_, trivial⟩ <;> first | exact Or.inl rfl | exact Or.inr rfl) rfl
          · refine zi_iload_n d_md_makePlain_54 rfl ?_
            refine zi_if_eq 149 d_md_makePlain_55 (by decide) ⟨by omega, by omega⟩ (fun h55 => ?_) (fun h55 => ?_)
            · exact zE4 hend (by refine ⟨?_, ?_, ?_, ?_, ?_, ?_, trivial⟩ <;> first | exact Or.inl rfl | exact Or.inr rfl) rfl
            · exact absurd h55 (by omega)
      · exact absurd h32 (by omega)
