/-! the whole plain timetable; takeOver (written by wip/gen/t12.py) -/
def bgT (τ : tS) (n R : Nat) : tS := tF (tF (tU (tU τ 1 3 (n : Int)) 1 4 (R : Int)) 2 760 (-1)) 3 760 (-1)
theorem bgT_n (τ : tS) (n R : Nat) : bgT τ n R 1 3 = (n : Int) := by simp [bgT, tF, tU]
theorem bgT_R (τ : tS) (n R : Nat) : bgT τ n R 1 4 = (R : Int) := by simp [bgT, tF, tU]
theorem bgT_ne (τ : tS) (n R q j : Nat) (h1 : q ≠ 1 ∨ (j ≠ 3 ∧ j ≠ 4)) (h2 : q ≠ 2) (h3 : q ≠ 3) : bgT τ n R q j = τ q j := by simp only [bgT, tF, tU]; rw [if_neg (by omega), if_neg (by omega), if_neg (by omega), if_neg (by omega)]
/-- all are ints, and who is at home has an opponent -/
def okT (τ : tS) : Prop := AllIn τ ∧ ∀ j, j < 760 → τ 3 j = 1 → 0 ≤ τ 2 j ∧ τ 2 j < 20
theorem okT_bgT {τ : tS} {n R : Nat} (h : AllIn τ) (hn : n ≤ 20) (hR : R ≤ 38) : okT (bgT τ n R) := by
  refine ⟨fun q j => ?_, fun j hj h3 => ?_⟩
  · simp only [bgT, tF, tU]
    have := h q j
    unfold zin at *
    split
    · omega
    · split
      · omega
      · split
        · omega
        · split
          · omega
          · exact this
  · simp [bgT, tF, hj] at h3
theorem okT_tP1 {τ : tS} {r t x y : Int} (h : okT τ) (hx : zin x) (hy : zin y) (hxy : y = 1 → 0 ≤ x ∧ x < 20) : okT (tP1 τ r t x y) := by
  refine ⟨fun q j => ?_, fun j hj h3 => ?_⟩
  · simp only [tP1, tU]
    split
    · exact hy
    · split
      · exact hx
      · exact h.1 q j
  · simp only [tP1, tU] at h3 ⊢
    by_cases e : j = (r * 20 + t).toNat
    · subst e
      simp at h3 ⊢
      exact hxy h3
    · simp [e] at h3 ⊢
      exact h.2 j hj h3
theorem okT_tG {τ : tS} {r h a : Int} (ho : okT τ) (hh : 0 ≤ h ∧ h < 20) (ha : 0 ≤ a ∧ a < 20) : okT (tG τ r h a) := by
  refine okT_tP1 (okT_tP1 ho ⟨by omega, by omega⟩ ⟨by omega, by omega⟩ (fun _ => ha)) ⟨by omega, by omega⟩ ⟨by omega, by omega⟩ (fun e => absurd e (by decide))
theorem okT_plR {τ : tS} {r m : Nat} (ho : okT τ) (hm : 0 < m ∧ m < 20) : ∀ k, okT (plR τ r m k)
  | 0 => ho
  | k + 1 => by
    have hq1 := Nat.mod_lt (r + (k + 1)) hm.1
    have hq2 := Nat.mod_lt (r + m - (k + 1)) hm.1
    rw [plR, plG]
    split
    · exact okT_tG (okT_plR ho hm k) ⟨by omega, by omega⟩ ⟨by omega, by omega⟩
    · exact okT_tG (okT_plR ho hm k) ⟨by omega, by omega⟩ ⟨by omega, by omega⟩
theorem okT_plE {τ : tS} {r m n : Nat} (ho : okT τ) (hm : 0 < m ∧ m < 20) (hr : r < m) (hn : n ≤ 20) (h0 : 0 < n) : okT (plE τ r m n) := by
  unfold plE
  split
  · split
    · exact okT_tG (okT_plR ho hm _) ⟨by omega, by omega⟩ ⟨by omega, by omega⟩
    · exact okT_tG (okT_plR ho hm _) ⟨by omega, by omega⟩ ⟨by omega, by omega⟩
  · exact okT_plR ho hm _
/-- the first r rounds -/
def plS (τ : tS) (m n : Nat) : Nat → tS
  | 0 => τ
  | r + 1 => plE (plS τ m n r) r m n
theorem plS_ne (τ : tS) (m n q j : Nat) (h2 : q ≠ 2) (h3 : q ≠ 3) : ∀ r, plS τ m n r q j = τ q j
  | 0 => rfl
  | r + 1 => by rw [plS, plE_ne _ _ _ _ _ _ h2 h3, plS_ne τ m n q j h2 h3 r]
theorem okT_plS {τ : tS} {m n : Nat} (ho : okT τ) (hm : 0 < m ∧ m < 20) (hn : n ≤ 20) (h0 : 0 < n) : ∀ r, r ≤ m → okT (plS τ m n r)
  | 0, _ => ho
  | r + 1, h => okT_plE (okT_plS ho hm hn h0 r (by omega)) hm (by omega) hn h0
theorem okT_row {τ : tS} {k n : Nat} (ho : okT τ) (hk : k < 38) (hn : n ≤ 20) : rowOk τ k n := fun t ht h3 => ho.2 _ (by omega) h3
theorem okT_lrR {τ : tS} {r k n : Nat} (ho : okT τ) (hk : k < 38) (hn : n ≤ 20) : ∀ t, t ≤ n → okT (lrR τ r k t)
  | 0, _ => ho
  | t + 1, h => by
    rw [lrR, lrS]
    split
    · rename_i h1
      exact okT_tG (okT_lrR ho hk hn t (by omega)) (okT_row ho hk hn t (by omega) h1) ⟨by omega, by omega⟩
    · exact okT_lrR ho hk hn t (by omega)
/-- the first i return rounds -/
def rtS (τ : tS) (m n : Nat) : Nat → tS
  | 0 => τ
  | i + 1 => lrR (rtS τ m n i) (m + i) i n
theorem okT_rtS {τ : tS} {m n : Nat} (ho : okT τ) (hm : m < 20) (hn : n ≤ 20) : ∀ i, i ≤ m → okT (rtS τ m n i)
  | 0, _ => ho
  | i + 1, h => okT_lrR (okT_rtS ho hm hn i (by omega)) (by omega) hn n (Nat.le_refl _)
theorem rtS_ne {τ : tS} {m n : Nat} (ho : okT τ) (hm : m < 20) (hn : n ≤ 20) (q j : Nat) (h2 : q ≠ 2) (h3 : q ≠ 3) : ∀ i, i ≤ m → rtS τ m n i q j = τ q j
  | 0, _ => rfl
  | i + 1, h => by rw [rtS, lrR_out (okT_row (okT_rtS ho hm hn i (by omega)) (by omega) hn) hn q j (Or.inl ⟨h2, h3⟩) n (Nat.le_refl _), rtS_ne ho hm hn q j h2 h3 i (by omega)]
def plA (τ : tS) (m n R : Nat) : tS := rtS (plS (bgT τ n R) m n m) m n (R - m)
theorem bgT_call {l : Launch} {d : Nat} {τ : tS} {n R : Nat} {x : Int} (h : x = (R : Int)) : zF l (d + 2) M_tt_begin [.ref 1, vi (n : Int), vi x] τ none (bgT τ n R) := by subst h; exact tt1_begin
theorem tt_layPlain {l : Launch} {d : Nat} {τ : tS} {m n : Nat} {b : Int} {R : Nat} (hA : AllIn τ) (hw : τ 1 0 = 20) (hn : τ 1 3 = (n : Int)) (hn2 : 4 ≤ n ∧ n ≤ 20) (hm : m = n - 1 + n % 2) (hb : b = 0 ∧ R = m ∨ b = 1 ∧ R = 2 * m) : zF l (d + 5) M_tt_layPlain [.ref 1, vi b] τ none (plA τ m n R) := by
  refine zMet_of (ls := [.ref 1, vi b, .null, .null]) pn_tt rfl (by simp [vi, Value.category]) rfl rfl ?_
  have ho1 : okT (bgT τ n R) := okT_bgT hA hn2.2 (by omega)
  have hm2 : 0 < m ∧ m < 20 := ⟨by omega, by omega⟩
  have ho2 : okT (plS (bgT τ n R) m n m) := okT_plS ho1 hm2 hn2.2 (by omega) m (Nat.le_refl _)
  refine zr_aload_n d_tt_layPlain_0 rfl ?_
  refine zi_getiE (j := 3) (x := (n : Int)) d_tt_layPlain_1 zC4 fl_tt_22 (by decide) rfl rfl (hn) ?_
  refine c_tt_layPlain_4 rfl (lr_singleRounds ⟨by omega, by omega⟩) ?_
  show zV _ _ _ _ _ (vi _ :: _) _ _ _
  rw [show (if (n : Int) % 2 = 0 then (n : Int) - 1 else (n : Int)) = (m : Int) by split <;> omega]
  refine zi_istore_n d_tt_layPlain_7 (by decide) rfl ?_
  refine zr_aload_n d_tt_layPlain_8 rfl ?_
  refine zr_aload_n d_tt_layPlain_9 rfl ?_
  refine zi_getiE (j := 3) (x := (n : Int)) d_tt_layPlain_10 zC4 fl_tt_22 (by decide) rfl rfl (hn) ?_
  refine zi_iload_n d_tt_layPlain_13 rfl ?_
  refine zi_if_eq 23 d_tt_layPlain_14 (by decide) ⟨by omega, by omega⟩ (fun h14 => ?_) (fun h14 => ?_)
  · have hR : (m : Int) = (R : Int) := by omega
    refine zi_iload_n d_tt_layPlain_23 rfl ?_
    refine c_tt_layPlain_24 rfl rfl (bgT_call hR) ?_
    refine zi_iconst d_tt_layPlain_27 ?_
    refine zi_istore_n d_tt_layPlain_28 (by decide) rfl ?_
    have key := zup (P := fun (i : Nat) => zV l (d + 5) M_tt_layPlain 29 [.ref 1, vi b, vi (m : Int), vi (i : Int)] [] (plS (bgT τ n R) m n i) (0, 0) (.inl none, (SH, zq (plA τ m n R)), 0, 0)) m ?_ ?_ 0 (by omega)
    · exact zE4 key (by refine ⟨?_, ?_, ?_, ?_, trivial⟩ <;> first | exact Or.inl rfl | exact Or.inr rfl) rfl
    · intro i hi hk
      refine zi_iload_n d_tt_layPlain_29 rfl ?_
      refine zi_iload_n d_tt_layPlain_30 rfl ?_
      refine zi_icmp_ge 46 d_tt_layPlain_31 (by decide) (by first | assumption | exact ⟨by omega, by omega⟩) (by first | assumption | exact ⟨by omega, by omega⟩) (fun h31 => ?_) (fun h31 => ?_)
      · exact absurd h31 (by omega)
      · refine zr_aload_n d_tt_layPlain_34 rfl ?_
        refine zi_iload_n d_tt_layPlain_35 rfl ?_
        refine zi_iload_n d_tt_layPlain_36 rfl ?_
        refine c_tt_layPlain_37 rfl rfl (tt_layPlainRound (by rw [plS_ne _ _ _ _ _ (by decide) (by decide), bgT_ne _ _ _ _ _ (by omega) (by omega) (by omega)]; exact hw) (by rw [plS_ne _ _ _ _ _ (by decide) (by decide), bgT_n]) hn2 hm (by omega)) ?_
        refine zi_iinc d_tt_layPlain_40 (by decide) rfl rfl ?_
        refine zr_goto 29 d_tt_layPlain_43 (by decide) ?_
        exact zE4 hk (by refine ⟨?_, ?_, ?_, ?_, trivial⟩ <;> first | exact Or.inl rfl | exact Or.inr rfl) rfl
    · refine zi_iload_n d_tt_layPlain_29 rfl ?_
      refine zi_iload_n d_tt_layPlain_30 rfl ?_
      refine zi_icmp_ge 46 d_tt_layPlain_31 (by decide) (by first | assumption | exact ⟨by omega, by omega⟩) (by first | assumption | exact ⟨by omega, by omega⟩) (fun h31 => ?_) (fun h31 => ?_)
      · refine zi_iload_n d_tt_layPlain_46 rfl ?_
        refine zi_istore_n d_tt_layPlain_47 (by decide) rfl ?_
        have key2 := zup (P := fun (i : Nat) => zV l (d + 5) M_tt_layPlain 48 [.ref 1, vi b, vi (m : Int), vi ((m : Int) + (i : Int))] [] (rtS (plS (bgT τ n R) m n m) m n i) (0, 0) (.inl none, (SH, zq (plA τ m n R)), 0, 0)) (R - m) ?_ ?_ 0 (by omega)
        · exact zE4 key2 (by refine ⟨?_, ?_, ?_, ?_, trivial⟩ <;> first | exact Or.inl rfl | exact Or.inr rfl | exact Or.inr (by simp)) rfl
        · intro i hi hk
          have ho3 := okT_rtS (n := n) ho2 hm2.2 hn2.2 i (by omega)
          refine zi_iload_n d_tt_layPlain_48 rfl ?_
          refine zr_aload_n d_tt_layPlain_49 rfl ?_
          refine zi_getiE (j := 4) (x := (R : Int)) d_tt_layPlain_50 zC4 fl_tt_25 (by decide) rfl rfl (by rw [rtS_ne ho2 hm2.2 hn2.2 _ _ (by decide) (by decide) _ (by omega), plS_ne _ _ _ _ _ (by decide) (by decide), bgT_R]) ?_
          refine zi_icmp_ge 70 d_tt_layPlain_53 (by decide) (by first | assumption | exact ⟨by omega, by omega⟩) (by first | assumption | exact ⟨by omega, by omega⟩) (fun h53 => ?_) (fun h53 => ?_)
          · exact absurd h53 (by omega)
          · refine zr_aload_n d_tt_layPlain_56 rfl ?_
            refine zi_iload_n d_tt_layPlain_57 rfl ?_
            refine zi_iload_n d_tt_layPlain_58 rfl ?_
            refine zi_iload_n d_tt_layPlain_59 rfl ?_
            refine zi_isub d_tt_layPlain_60 ?_
            rw [show (m : Int) + (i : Int) - (m : Int) = (i : Int) by omega]
            rw [show (m : Int) + (i : Int) = ((m + i : Nat) : Int) by omega]
            refine c_tt_layPlain_61 rfl rfl (tt_layReturnRound (r := m + i) (k := i) (n := n) (by rw [rtS_ne ho2 hm2.2 hn2.2 _ _ (by decide) (by decide) _ (by omega), plS_ne _ _ _ _ _ (by decide) (by decide), bgT_ne _ _ _ _ _ (by omega) (by omega) (by omega)]; exact hw) (by rw [rtS_ne ho2 hm2.2 hn2.2 _ _ (by decide) (by decide) _ (by omega), plS_ne _ _ _ _ _ (by decide) (by decide), bgT_n]) hn2.2 (by omega) (by omega) (by omega) ho3.1 (okT_row ho3 (by omega) hn2.2)) ?_
            refine zi_iinc d_tt_layPlain_64 (by decide) rfl rfl ?_
            refine zr_goto 48 d_tt_layPlain_67 (by decide) ?_
            exact zE4 hk (by refine ⟨?_, ?_, ?_, ?_, trivial⟩ <;> first | exact Or.inl rfl | exact Or.inr rfl | exact Or.inr (by congr 1; omega)) rfl
        · refine zi_iload_n d_tt_layPlain_48 rfl ?_
          refine zr_aload_n d_tt_layPlain_49 rfl ?_
          refine zi_getiE (j := 4) (x := (R : Int)) d_tt_layPlain_50 zC4 fl_tt_25 (by decide) rfl rfl (by rw [rtS_ne ho2 hm2.2 hn2.2 _ _ (by decide) (by decide) _ (by omega), plS_ne _ _ _ _ _ (by decide) (by decide), bgT_R]) ?_
          refine zi_icmp_ge 70 d_tt_layPlain_53 (by decide) (by first | assumption | exact ⟨by omega, by omega⟩) (by first | assumption | exact ⟨by omega, by omega⟩) (fun h53 => ?_) (fun h53 => ?_)
          · exact zk_vret rfl d_tt_layPlain_70 (Nat.zero_le _) (Nat.zero_le _) rfl
          · exact absurd h53 (by omega)
      · exact absurd h31 (by omega)
  · have hR : 2 * (m : Int) = (R : Int) := by omega
    refine zi_iconst d_tt_layPlain_17 ?_
    refine zi_iload_n d_tt_layPlain_18 rfl ?_
    refine zi_imul d_tt_layPlain_19 ?_
    refine zr_goto 24 d_tt_layPlain_20 (by decide) ?_
    refine c_tt_layPlain_24 rfl rfl (bgT_call hR) ?_
    refine zi_iconst d_tt_layPlain_27 ?_
    refine zi_istore_n d_tt_layPlain_28 (by decide) rfl ?_
    have key := zup (P := fun (i : Nat) => zV l (d + 5) M_tt_layPlain 29 [.ref 1, vi b, vi (m : Int), vi (i : Int)] [] (plS (bgT τ n R) m n i) (0, 0) (.inl none, (SH, zq (plA τ m n R)), 0, 0)) m ?_ ?_ 0 (by omega)
    · exact zE4 key (by refine ⟨?_, ?_, ?_, ?_, trivial⟩ <;> first | exact Or.inl rfl | exact Or.inr rfl) rfl
    · intro i hi hk
      refine zi_iload_n d_tt_layPlain_29 rfl ?_
      refine zi_iload_n d_tt_layPlain_30 rfl ?_
      refine zi_icmp_ge 46 d_tt_layPlain_31 (by decide) (by first | assumption | exact ⟨by omega, by omega⟩) (by first | assumption | exact ⟨by omega, by omega⟩) (fun h31 => ?_) (fun h31 => ?_)
      · exact absurd h31 (by omega)
      · refine zr_aload_n d_tt_layPlain_34 rfl ?_
        refine zi_iload_n d_tt_layPlain_35 rfl ?_
        refine zi_iload_n d_tt_layPlain_36 rfl ?_
        refine c_tt_layPlain_37 rfl rfl (tt_layPlainRound (by rw [plS_ne _ _ _ _ _ (by decide) (by decide), bgT_ne _ _ _ _ _ (by omega) (by omega) (by omega)]; exact hw) (by rw [plS_ne _ _ _ _ _ (by decide) (by decide), bgT_n]) hn2 hm (by omega)) ?_
        refine zi_iinc d_tt_layPlain_40 (by decide) rfl rfl ?_
        refine zr_goto 29 d_tt_layPlain_43 (by decide) ?_
        exact zE4 hk (by refine ⟨?_, ?_, ?_, ?_, trivial⟩ <;> first | exact Or.inl rfl | exact Or.inr rfl) rfl
    · refine zi_iload_n d_tt_layPlain_29 rfl ?_
      refine zi_iload_n d_tt_layPlain_30 rfl ?_
      refine zi_icmp_ge 46 d_tt_layPlain_31 (by decide) (by first | assumption | exact ⟨by omega, by omega⟩) (by first | assumption | exact ⟨by omega, by omega⟩) (fun h31 => ?_) (fun h31 => ?_)
      · refine zi_iload_n d_tt_layPlain_46 rfl ?_
        refine zi_istore_n d_tt_layPlain_47 (by decide) rfl ?_
        have key2 := zup (P := fun (i : Nat) => zV l (d + 5) M_tt_layPlain 48 [.ref 1, vi b, vi (m : Int), vi ((m : Int) + (i : Int))] [] (rtS (plS (bgT τ n R) m n m) m n i) (0, 0) (.inl none, (SH, zq (plA τ m n R)), 0, 0)) (R - m) ?_ ?_ 0 (by omega)
        · exact zE4 key2 (by refine ⟨?_, ?_, ?_, ?_, trivial⟩ <;> first | exact Or.inl rfl | exact Or.inr rfl | exact Or.inr (by simp)) rfl
        · intro i hi hk
          have ho3 := okT_rtS (n := n) ho2 hm2.2 hn2.2 i (by omega)
          refine zi_iload_n d_tt_layPlain_48 rfl ?_
          refine zr_aload_n d_tt_layPlain_49 rfl ?_
          refine zi_getiE (j := 4) (x := (R : Int)) d_tt_layPlain_50 zC4 fl_tt_25 (by decide) rfl rfl (by rw [rtS_ne ho2 hm2.2 hn2.2 _ _ (by decide) (by decide) _ (by omega), plS_ne _ _ _ _ _ (by decide) (by decide), bgT_R]) ?_
          refine zi_icmp_ge 70 d_tt_layPlain_53 (by decide) (by first | assumption | exact ⟨by omega, by omega⟩) (by first | assumption | exact ⟨by omega, by omega⟩) (fun h53 => ?_) (fun h53 => ?_)
          · exact absurd h53 (by omega)
          · refine zr_aload_n d_tt_layPlain_56 rfl ?_
            refine zi_iload_n d_tt_layPlain_57 rfl ?_
            refine zi_iload_n d_tt_layPlain_58 rfl ?_
            refine zi_iload_n d_tt_layPlain_59 rfl ?_
            refine zi_isub d_tt_layPlain_60 ?_
            rw [show (m : Int) + (i : Int) - (m : Int) = (i : Int) by omega]
            rw [show (m : Int) + (i : Int) = ((m + i : Nat) : Int) by omega]
            refine c_tt_layPlain_61 rfl rfl (tt_layReturnRound (r := m + i) (k := i) (n := n) (by rw [rtS_ne ho2 hm2.2 hn2.2 _ _ (by decide) (by decide) _ (by omega), plS_ne _ _ _ _ _ (by decide) (by decide), bgT_ne _ _ _ _ _ (by omega) (by omega) (by omega)]; exact hw) (by rw [rtS_ne ho2 hm2.2 hn2.2 _ _ (by decide) (by decide) _ (by omega), plS_ne _ _ _ _ _ (by decide) (by decide), bgT_n]) hn2.2 (by omega) (by omega) (by omega) ho3.1 (okT_row ho3 (by omega) hn2.2)) ?_
            refine zi_iinc d_tt_layPlain_64 (by decide) rfl rfl ?_
            refine zr_goto 48 d_tt_layPlain_67 (by decide) ?_
            exact zE4 hk (by refine ⟨?_, ?_, ?_, ?_, trivial⟩ <;> first | exact Or.inl rfl | exact Or.inr rfl | exact Or.inr (by congr 1; omega)) rfl
        · refine zi_iload_n d_tt_layPlain_48 rfl ?_
          refine zr_aload_n d_tt_layPlain_49 rfl ?_
          refine zi_getiE (j := 4) (x := (R : Int)) d_tt_layPlain_50 zC4 fl_tt_25 (by decide) rfl rfl (by rw [rtS_ne ho2 hm2.2 hn2.2 _ _ (by decide) (by decide) _ (by omega), plS_ne _ _ _ _ _ (by decide) (by decide), bgT_R]) ?_
          refine zi_icmp_ge 70 d_tt_layPlain_53 (by decide) (by first | assumption | exact ⟨by omega, by omega⟩) (by first | assumption | exact ⟨by omega, by omega⟩) (fun h53 => ?_) (fun h53 => ?_)
          · exact zk_vret rfl d_tt_layPlain_70 (Nat.zero_le _) (Nat.zero_le _) rfl
          · exact absurd h53 (by omega)
      · exact absurd h31 (by omega)
/-- what takeOver has laid when it stands at team t of round i -/
def toT (τ w : tS) (n i t : Nat) : tS := fun q j => if (q = 2 ∨ q = 3) ∧ j % 20 < n ∧ (j / 20 < i ∨ (j / 20 = i ∧ j % 20 < t)) then w (q + 12) (j / 20 * 8 + j % 20) else τ q j
theorem toT_ne (τ w : tS) (n i t q j : Nat) (h : ¬ (q = 2 ∨ q = 3)) : toT τ w n i t q j = τ q j := by unfold toT; rw [if_neg (fun g => h g.1)]
theorem toT_0 (τ w : tS) (n : Nat) : toT τ w n 0 0 = τ := by
  funext q j
  unfold toT
  rw [if_neg (by omega)]
theorem toT_round (τ w : tS) (n i : Nat) (hn : n ≤ 8) : toT τ w n i n = toT τ w n (i + 1) 0 := by
  funext q j
  unfold toT
  have : (j % 20 < n ∧ (j / 20 < i ∨ (j / 20 = i ∧ j % 20 < n))) ↔ (j % 20 < n ∧ (j / 20 < i + 1 ∨ (j / 20 = i + 1 ∧ j % 20 < 0))) := by omega
  simp only [this]
theorem toT_step (τ w : tS) (n i t : Nat) (hn : n ≤ 8) (ht : t < n) : tP1 (toT τ w n i t) (i : Int) (t : Int) (w 14 ((i : Int) * 8 + (t : Int)).toNat) (w 15 ((i : Int) * 8 + (t : Int)).toNat) = toT τ w n i (t + 1) := by
  funext q j
  simp only [tP1, tU]
  have e8 : ((i : Int) * 8 + (t : Int)).toNat = i * 8 + t := by omega
  have e20 : ((i : Int) * 20 + (t : Int)).toNat = 20 * i + t := by omega
  rw [e8, e20]
  by_cases hj : j = 20 * i + t
  · have d1 : j / 20 = i := by omega
    have d2 : j % 20 = t := by omega
    by_cases h3 : q = 3
    · subst h3
      rw [if_pos ⟨rfl, hj⟩]
      unfold toT
      rw [if_pos ⟨by omega, by omega, by omega⟩, d1, d2]
    · rw [if_neg (fun g => h3 g.1)]
      by_cases h2 : q = 2
      · subst h2
        rw [if_pos ⟨rfl, hj⟩]
        unfold toT
        rw [if_pos ⟨by omega, by omega, by omega⟩, d1, d2]
      · rw [if_neg (fun g => h2 g.1), toT_ne _ _ _ _ _ _ _ (by omega), toT_ne _ _ _ _ _ _ _ (by omega)]
  · rw [if_neg (fun g => hj g.2), if_neg (fun g => hj g.2)]
    unfold toT
    have : (j % 20 < n ∧ (j / 20 < i ∨ (j / 20 = i ∧ j % 20 < t))) ↔ (j % 20 < n ∧ (j / 20 < i ∨ (j / 20 = i ∧ j % 20 < t + 1))) := by omega
    simp only [this]
theorem tt_takeOver {l : Launch} {d : Nat} {τ : tS} {n R : Nat} (hw : τ 1 0 = 20) (hw2 : τ 13 0 = 8) (hn : τ 13 3 = (n : Int)) (hR : τ 13 4 = (R : Int)) (hn2 : n ≤ 8) (hR2 : R ≤ 7) : zF l (d + 3) M_tt_takeOver [.ref 1, .ref 13] τ none (toT (bgT τ n R) τ n R 0) := by
  refine zMet_of (ls := [.ref 1, .ref 13, .null, .null]) pn_tt rfl (by simp [Value.category]) rfl rfl ?_
  refine zr_aload_n d_tt_takeOver_0 rfl ?_
  refine zr_aload_n d_tt_takeOver_1 rfl ?_
  refine zi_getiE (j := 3) (x := (n : Int)) d_tt_takeOver_2 zC4 fl_tt_22 (by decide) rfl rfl (hn) ?_
  refine zr_aload_n d_tt_takeOver_5 rfl ?_
  refine zi_getiE (j := 4) (x := (R : Int)) d_tt_takeOver_6 zC4 fl_tt_25 (by decide) rfl rfl (hR) ?_
  refine c_tt_takeOver_9 rfl rfl (tt1_begin) ?_
  refine zi_iconst d_tt_takeOver_12 ?_
  refine zi_istore_n d_tt_takeOver_13 (by decide) rfl ?_
  have key := zup (P := fun (i : Nat) => zV l (d + 3) M_tt_takeOver 14 [.ref 1, .ref 13, vi (i : Int), .null] [] (toT (bgT τ n R) τ n i 0) (0, 0) (.inl none, (SH, zq (toT (bgT τ n R) τ n R 0)), 0, 0)) R ?_ ?_ 0 (by omega)
  · exact zE4 key (by refine ⟨?_, ?_, ?_, ?_, trivial⟩ <;> first | exact Or.inl rfl | exact Or.inr rfl) (toT_0 _ _ _).symm
  · intro i hi hk
    refine zi_iload_n d_tt_takeOver_14 rfl ?_
    refine zr_aload_n d_tt_takeOver_15 rfl ?_
    refine zi_getiE (j := 4) (x := (R : Int)) d_tt_takeOver_16 zC4 fl_tt_25 (by decide) rfl rfl (by rw [toT_ne _ _ _ _ _ _ _ (by decide), bgT_R]) ?_
    refine zi_icmp_ge 62 d_tt_takeOver_19 (by decide) (by first | assumption | exact ⟨by omega, by omega⟩) (by first | assumption | exact ⟨by omega, by omega⟩) (fun h19 => ?_) (fun h19 => ?_)
    · exact absurd h19 (by omega)
    · refine zi_iconst d_tt_takeOver_22 ?_
      refine zi_istore_n d_tt_takeOver_23 (by decide) rfl ?_
      have inn := zup (P := fun (t : Nat) => zV l (d + 3) M_tt_takeOver 24 [.ref 1, .ref 13, vi (i : Int), vi (t : Int)] [] (toT (bgT τ n R) τ n i t) (0, 0) (.inl none, (SH, zq (toT (bgT τ n R) τ n R 0)), 0, 0)) n ?_ ?_ 0 (by omega)
      · exact zE4 inn (by refine ⟨?_, ?_, ?_, ?_, trivial⟩ <;> first | exact Or.inl rfl | exact Or.inr rfl) rfl
      · intro t ht hkt
        refine zi_iload_n d_tt_takeOver_24 rfl ?_
        refine zr_aload_n d_tt_takeOver_25 rfl ?_
        refine zi_getiE (j := 3) (x := (n : Int)) d_tt_takeOver_26 zC4 fl_tt_22 (by decide) rfl rfl (by rw [toT_ne _ _ _ _ _ _ _ (by decide), bgT_n]) ?_
        refine zi_icmp_ge 56 d_tt_takeOver_29 (by decide) (by first | assumption | exact ⟨by omega, by omega⟩) (by first | assumption | exact ⟨by omega, by omega⟩) (fun h29 => ?_) (fun h29 => ?_)
        · exact absurd h29 (by omega)
        · refine zr_aload_n d_tt_takeOver_32 rfl ?_
          refine zi_iload_n d_tt_takeOver_33 rfl ?_
          refine zi_iload_n d_tt_takeOver_34 rfl ?_
          refine zr_aload_n d_tt_takeOver_35 rfl ?_
          refine zi_iload_n d_tt_takeOver_36 rfl ?_
          refine zi_iload_n d_tt_takeOver_37 rfl ?_
          refine c_tt_takeOver_38 rfl rfl (tt13_opponentAt (by rw [toT_ne _ _ _ _ _ _ _ (by decide), bgT_ne _ _ _ _ _ (by decide) (by decide) (by decide)]; exact hw2) ⟨by omega, by omega⟩ ⟨by omega, by omega⟩) ?_
          show zV _ _ _ _ _ (vi _ :: _) _ _ _
          rw [toT_ne _ _ _ _ _ _ _ (by decide), bgT_ne _ _ _ _ _ (by omega) (by decide) (by decide)]
          refine zr_aload_n d_tt_takeOver_41 rfl ?_
          refine zi_iload_n d_tt_takeOver_42 rfl ?_
          refine zi_iload_n d_tt_takeOver_43 rfl ?_
          refine c_tt_takeOver_44 rfl rfl (tt13_venueAt (by rw [toT_ne _ _ _ _ _ _ _ (by decide), bgT_ne _ _ _ _ _ (by decide) (by decide) (by decide)]; exact hw2) ⟨by omega, by omega⟩ ⟨by omega, by omega⟩) ?_
          show zV _ _ _ _ _ (vi _ :: _) _ _ _
          rw [toT_ne _ _ _ _ _ _ _ (by decide), bgT_ne _ _ _ _ _ (by omega) (by decide) (by decide)]
          refine c_tt_takeOver_47 rfl rfl (tt1_putSide (by rw [toT_ne _ _ _ _ _ _ _ (by decide), bgT_ne _ _ _ _ _ (by decide) (by decide) (by decide)]; exact hw) ⟨by omega, by omega⟩ ⟨by omega, by omega⟩) ?_
          refine zi_iinc d_tt_takeOver_50 (by decide) rfl rfl ?_
          refine zr_goto 24 d_tt_takeOver_53 (by decide) ?_
          exact zE4 hkt (by refine ⟨?_, ?_, ?_, ?_, trivial⟩ <;> first | exact Or.inl rfl | exact Or.inr rfl) (toT_step _ _ _ _ _ hn2 ht)
      · refine zi_iload_n d_tt_takeOver_24 rfl ?_
        refine zr_aload_n d_tt_takeOver_25 rfl ?_
        refine zi_getiE (j := 3) (x := (n : Int)) d_tt_takeOver_26 zC4 fl_tt_22 (by decide) rfl rfl (by rw [toT_ne _ _ _ _ _ _ _ (by decide), bgT_n]) ?_
        refine zi_icmp_ge 56 d_tt_takeOver_29 (by decide) (by first | assumption | exact ⟨by omega, by omega⟩) (by first | assumption | exact ⟨by omega, by omega⟩) (fun h29 => ?_) (fun h29 => ?_)
        · refine zi_iinc d_tt_takeOver_56 (by decide) rfl rfl ?_
          refine zr_goto 14 d_tt_takeOver_59 (by decide) ?_
          exact zE4 hk (by refine ⟨?_, ?_, ?_, ?_, trivial⟩ <;> first | exact Or.inl rfl | exact Or.inr rfl) (toT_round _ _ _ _ hn2)
        · exact absurd h29 (by omega)
  · refine zi_iload_n d_tt_takeOver_14 rfl ?_
    refine zr_aload_n d_tt_takeOver_15 rfl ?_
    refine zi_getiE (j := 4) (x := (R : Int)) d_tt_takeOver_16 zC4 fl_tt_25 (by decide) rfl rfl (by rw [toT_ne _ _ _ _ _ _ _ (by decide), bgT_R]) ?_
    refine zi_icmp_ge 62 d_tt_takeOver_19 (by decide) (by first | assumption | exact ⟨by omega, by omega⟩) (by first | assumption | exact ⟨by omega, by omega⟩) (fun h19 => ?_) (fun h19 => ?_)
    · exact zk_vret rfl d_tt_takeOver_62 (Nat.zero_le _) (Nat.zero_le _) rfl
    · exact absurd h19 (by omega)
