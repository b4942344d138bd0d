/-! CatchUp.run (written by wip/gen/t10.py) -/
theorem pfL_35 {nx : Nat → tS → Bool × tS} {h a gm used lo hi : Nat} (hn : ∀ u w, (nx u w).1 = true → ∀ i, lo ≤ i → i < hi → 0 ≤ (nx u w).2 35 i ∧ (nx u w).2 35 i < 6) (hgm : gm + 1 = lo) : ∀ (m dt : Nat) (τ : tS), dt + m ≤ 6 → (pfL nx h a gm used m dt τ).1 = true → ∀ i, gm ≤ i → i < hi → 0 ≤ (pfL nx h a gm used m dt τ).2 35 i ∧ (pfL nx h a gm used m dt τ).2 35 i < 6
  | 0, _, _, _, h0 => by simp [pfL] at h0
  | m + 1, dt, τ, hd, h0 => by
    intro i h1 h2
    rw [pfL] at h0 ⊢
    by_cases hb : ((τ 36 h).toNat ||| (τ 36 a).toNat).testBit dt = true
    · simp only [if_pos hb] at h0 ⊢
      exact pfL_35 hn hgm m (dt + 1) τ (by omega) h0 i h1 h2
    · simp only [if_neg hb] at h0 ⊢
      generalize (if used < dt + 1 then dt + 1 else used) = u at h0 ⊢
      by_cases hq : (nx u (flpT τ h a dt)).1 = true
      · simp only [if_pos hq]
        by_cases e : i = gm
        · simp [tU, e]
          omega
        · simp only [tU]
          rw [if_neg (by omega)]
          exact hn _ _ hq i (by omega) h2
      · simp only [if_neg hq] at h0 ⊢
        exact pfL_35 hn hgm m (dt + 1) _ (by omega) h0 i h1 h2
theorem pf_35 {H A : Nat → Nat} {c : Nat} (hc : c ≤ 6) : ∀ (k gm used : Nat) (τ : tS), (pf H A c k gm used τ).1 = true → ∀ i, gm ≤ i → i < gm + k → 0 ≤ (pf H A c k gm used τ).2 35 i ∧ (pf H A c k gm used τ).2 35 i < 6
  | 0, _, _, _, _ => by intro i h1 h2; omega
  | k + 1, gm, used, τ, h0 => by
    rw [pf] at h0 ⊢
    exact pfL_35 (lo := gm + 1) (hi := gm + (k + 1)) (fun u w hw i h1 h2 => pf_35 hc k (gm + 1) u w hw i h1 (by omega)) rfl _ 0 τ (by split <;> omega) h0
theorem pfL_ne {nx : Nat → tS → Bool × tS} {h a gm used q j : Nat} (hn : ∀ u w, (nx u w).2 q j = w q j) (hq : q ≠ 35) (hq2 : q ≠ 36) : ∀ (m dt : Nat) (τ : tS), (pfL nx h a gm used m dt τ).2 q j = τ q j
  | 0, _, _ => rfl
  | m + 1, dt, τ => by
    rw [pfL]
    by_cases hb : ((τ 36 h).toNat ||| (τ 36 a).toNat).testBit dt = true
    · simp only [if_pos hb]
      exact pfL_ne hn hq hq2 m (dt + 1) τ
    · simp only [if_neg hb]
      generalize (if used < dt + 1 then dt + 1 else used) = u
      by_cases hq1 : (nx u (flpT τ h a dt)).1 = true
      · simp only [if_pos hq1, tU]
        rw [if_neg (fun g => hq g.1), hn, flp_ne _ _ _ _ _ _ hq2]
      · simp only [if_neg hq1]
        rw [pfL_ne hn hq hq2 m (dt + 1), flp_ne _ _ _ _ _ _ hq2, hn, flp_ne _ _ _ _ _ _ hq2]
theorem pf_ne {H A : Nat → Nat} {c q j : Nat} (hq : q ≠ 35) (hq2 : q ≠ 36) : ∀ (k gm used : Nat) (τ : tS), (pf H A c k gm used τ).2 q j = τ q j
  | 0, _, _, _ => rfl
  | k + 1, gm, used, τ => by
    rw [pf]
    exact pfL_ne (fun u w => pf_ne hq hq2 k (gm + 1) u w) hq hq2 _ 0 τ
/-- the counts tried one behind the other -/
def rnF (H A : Nat → Nat) (g : Nat) : Nat → Nat → tS → Int × tS
  | 0, _, w => (-1, w)
  | m + 1, c, w =>
    let q := pf H A c g 0 0 (tF w 36 20 0)
    if q.1 then ((c : Int), kdT q.2 g) else rnF H A g m (c + 1) q.2
def lgQ (w : tS) : Prop := ∀ i, i < (w 29 10).toNat → (0 ≤ w 32 i ∧ w 32 i < 38) ∧ (0 ≤ w 33 i ∧ w 33 i < 20) ∧ (0 ≤ w 34 i ∧ w 34 i < 20)
theorem lgQ_S {τ w : tS} {n R r t : Nat} (hI : lgI τ w) (hQ : lgQ w) (hr : r < R) (ht : t < n) (hn2 : n ≤ 20) (hR2 : R ≤ 38) (hO : ∀ r t : Nat, r < R → t < n → τ 3 ((r : Int) * 20 + (t : Int)).toNat = 1 → 0 ≤ τ 2 ((r : Int) * 20 + (t : Int)).toNat ∧ τ 2 ((r : Int) * 20 + (t : Int)).toNat < 20) : lgQ (lgS τ w r t) := by
  unfold lgS
  split
  · rename_i hc
    have hv : τ 3 ((r : Int) * 20 + (t : Int)).toNat = 1 := by
      have := hc.1
      simp only [misP, decide_eq_true_eq] at this
      exact this.2.1
    have ho := hO r t hr ht hv
    have h2 := hI.2.1
    intro i hi
    have hlt : i ≤ (w 29 10).toNat := by
      simp [tU] at hi
      omega
    by_cases e : i = (w 29 10).toNat
    · subst e
      simp [tU]
      omega
    · have := hQ i (by omega)
      simp [tU, e]
      omega
  · exact hQ
theorem lgQ_R {τ w : tS} {n R r : Nat} (hI : lgI τ w) (hQ : lgQ w) (hr : r < R) (hn2 : n ≤ 20) (hR2 : R ≤ 38) (hO : ∀ r t : Nat, r < R → t < n → τ 3 ((r : Int) * 20 + (t : Int)).toNat = 1 → 0 ≤ τ 2 ((r : Int) * 20 + (t : Int)).toNat ∧ τ 2 ((r : Int) * 20 + (t : Int)).toNat < 20) : ∀ t, t ≤ n → lgQ (lgR τ w r t)
  | 0, _ => hQ
  | t + 1, ht => lgQ_S (lgI_R hI r t) (lgQ_R hI hQ hr hn2 hR2 hO t (by omega)) hr (by omega) hn2 hR2 hO
theorem lgQ_A {τ w : tS} {n R : Nat} (hI : lgI τ w) (hQ : lgQ w) (hn2 : n ≤ 20) (hR2 : R ≤ 38) (hO : ∀ r t : Nat, r < R → t < n → τ 3 ((r : Int) * 20 + (t : Int)).toNat = 1 → 0 ≤ τ 2 ((r : Int) * 20 + (t : Int)).toNat ∧ τ 2 ((r : Int) * 20 + (t : Int)).toNat < 20) : ∀ r, r ≤ R → lgQ (lgA τ w n r)
  | 0, _ => hQ
  | r + 1, hr => lgQ_R (lgI_A hI n r) (lgQ_A hI hQ hn2 hR2 hO r (by omega)) (by omega) hn2 hR2 hO n (Nat.le_refl _)
theorem lg_in {τ w : tS} {r t : Nat} (hA : AllIn τ) (h : lgI τ w) (hw : AllIn w) (hr : r < 38) (ht : t < 20) : AllIn (lgS τ w r t) := by
  have h2 := h.2
  unfold lgS
  split
  · intro q j
    simp only [tU]
    repeat' split
    · exact ⟨by omega, by omega⟩
    · exact hA _ _
    · exact ⟨by omega, by omega⟩
    · exact ⟨by omega, by omega⟩
    · exact hw _ _
  · exact hw
theorem lgR_in {τ w : tS} {r : Nat} (hA : AllIn τ) (h : lgI τ w) (hw : AllIn w) (hr : r < 38) : ∀ t, t ≤ 20 → AllIn (lgR τ w r t)
  | 0, _ => hw
  | t + 1, ht => lg_in hA (lgI_R h r t) (lgR_in hA h hw hr t (by omega)) hr (by omega)
theorem lgA_in {τ w : tS} {n : Nat} (hA : AllIn τ) (h : lgI τ w) (hw : AllIn w) (hn : n ≤ 20) : ∀ r, r ≤ 38 → AllIn (lgA τ w n r)
  | 0, _ => hw
  | r + 1, hr => lgR_in hA (lgI_A h n r) (lgA_in hA h hw hn r (by omega)) (by omega) n hn
/-- the world once the games are listed, their number, homes and guests -/
def cgW (τ : tS) (n R : Nat) : tS := lgA τ (tU τ 29 10 0) n R
def cgG (τ : tS) (n R : Nat) : Nat := (cgW τ n R 29 10).toNat
def cgH (τ : tS) (n R i : Nat) : Nat := (cgW τ n R 33 i).toNat
def cgA (τ : tS) (n R i : Nat) : Nat := (cgW τ n R 34 i).toNat
def cgM (τ : tS) (n R : Nat) : Nat := mxN (fun t => cnt (mgP (cgW τ n R) t) (cgG τ n R)) n
def crF (τ : tS) (n R e : Nat) : Int × tS := rnF (cgH τ n R) (cgA τ n R) (cgG τ n R) (e + 1 - cgM τ n R) (cgM τ n R) (cgW τ n R)
theorem cgW_ne {τ : tS} {n R : Nat} (q j : Nat) (h1 : q ≠ 32) (h2 : q ≠ 33) (h3 : q ≠ 34) (h4 : ¬ (q = 29 ∧ j = 10)) : cgW τ n R q j = τ q j := (lgI_A (lgI_0 τ) n R).1 q j h1 h2 h3 h4
theorem cu_run {l : Launch} {d : Nat} {τ : tS} {n R e : Nat} (hA : AllIn τ) (hw : τ 1 0 = 20) (hn : τ 1 3 = (n : Int)) (hn2 : n ≤ 20) (hR : τ 1 4 = (R : Int)) (hR2 : R ≤ 38) (hb : ∀ j, τ 28 j = 0 ∨ τ 28 j = 1) (he : τ 29 3 = (e : Int)) (he6 : e ≤ 6) (h36 : ∀ j, 0 ≤ τ 36 j) (hO : ∀ r t : Nat, r < R → t < n → τ 3 ((r : Int) * 20 + (t : Int)).toNat = 1 → 0 ≤ τ 2 ((r : Int) * 20 + (t : Int)).toNat ∧ τ 2 ((r : Int) * 20 + (t : Int)).toNat < 20) : zF l (d + 20) M_cu_run [.ref 29] τ (some (vi (crF τ n R e).1)) (crF τ n R e).2 := by
  have hI := lgI_A (lgI_0 τ) n R
  have hI2 := hI.2
  have hin : AllIn (cgW τ n R) := lgA_in hA (lgI_0 τ) (fun q j => by unfold tU; split; exact ⟨by decide, by decide⟩; exact hA _ _) hn2 R hR2
  have hQ : lgQ (cgW τ n R) := lgQ_A (lgI_0 τ) (fun i hi => by simp [tU] at hi) hn2 hR2 hO R (Nat.le_refl _)
  have hg : cgW τ n R 29 10 = (cgG τ n R : Int) := (Int.toNat_of_nonneg hI2.1).symm
  have hg14 : cgG τ n R ≤ 14 := by have := hI2.2; unfold cgG; exact Int.toNat_le.mpr this
  have hm14 : cgM τ n R ≤ 14 := Nat.le_trans (mxN_le _ _ (fun t => cnt_le _ _) n) hg14
  refine zMet_of (ls := [.ref 29, .null]) pn_cu rfl (by simp [vi, Value.category]) rfl rfl ?_
  refine zr_aload_n d_cu_run_0 rfl ?_
  refine c_cu_run_1 rfl rfl (cu_listGames hA hw hn hn2 hR hR2 hb) ?_
  refine zr_aload_n d_cu_run_4 rfl ?_
  refine c_cu_run_5 rfl rfl (cu_mostGames (n := n) (g := cgG τ n R) hin ((cgW_ne (τ := τ) (n := n) (R := R) 1 3 (by decide) (by decide) (by decide) (by decide)).trans hn) hn2 hg hg14) ?_
  refine zi_istore_n d_cu_run_8 (by decide) rfl ?_
  have htop : (if e + 1 ≤ cgM τ n R then cgM τ n R else e + 1) ≤ 15 := by split <;> omega
  have key : ∀ (m c : Nat) (w : tS), c + m = (if e + 1 ≤ cgM τ n R then cgM τ n R else e + 1) → cgM τ n R ≤ c → AllIn w → (∀ j, 0 ≤ w 36 j) → (∀ q j, q ≠ 35 → q ≠ 36 → w q j = cgW τ n R q j) → crF τ n R e = rnF (cgH τ n R) (cgA τ n R) (cgG τ n R) m c w → zV l (d + 20) M_cu_run 9 [.ref 29, vi (c : Int)] [] w (0, 0) (.inl (some (vi (crF τ n R e).1)), (SH, zq (crF τ n R e).2), 0, 0) := by
    intro m
    induction m with
    | zero =>
      intro c w hm hcm hw0 hw6 hwe hc
      simp only [rnF] at hc
      have hd3 : w 29 3 = (e : Int) := by rw [hwe _ _ (by decide) (by decide), cgW_ne _ _ (by decide) (by decide) (by decide) (by decide)]; exact he
      rw [hc]
      refine zi_iload_n d_cu_run_9 rfl ?_
      refine zr_aload_n d_cu_run_10 rfl ?_
      refine zi_getiE (j := 3) (x := (e : Int)) d_cu_run_11 zC0 fl_cu_47 (by decide) rfl rfl (hd3) ?_
      refine zi_icmp_gt 47 d_cu_run_14 (by decide) ⟨by omega, by omega⟩ ⟨by omega, by omega⟩ (fun h14 => ?_) (fun h14 => ?_)
      · refine zi_iconst d_cu_run_47 ?_
        exact zk_iret rfl d_cu_run_48 (Nat.zero_le _) (Nat.zero_le _) (by first | rfl | omega | (split <;> omega) | simp_all) rfl
      · exact absurd h14 (by split at hm <;> omega)
    | succ m ih =>
      intro c w hm hcm hw0 hw6 hwe hc
      have hd3 : w 29 3 = (e : Int) := by rw [hwe _ _ (by decide) (by decide), cgW_ne _ _ (by decide) (by decide) (by decide) (by decide)]; exact he
      have hce : c ≤ e := by split at hm <;> omega
      rw [rnF] at hc
      have hP : PI (cgH τ n R) (cgA τ n R) (cgG τ n R) (tF w 36 20 0) := by
        refine ⟨fun q j => ?_, fun j => ?_, fun i hi => ?_, ?_⟩
        · unfold tF; split; exact ⟨by decide, by decide⟩; exact hw0 q j
        · unfold tF; split; exact Int.le_refl _; exact hw6 j
        · have hq := hQ i hi
          have e3 : ∀ q, q ≠ 35 → q ≠ 36 → tF w 36 20 0 q i = cgW τ n R q i := fun q h1 h2 => by rw [tF, if_neg (fun g => h2 g.1), hwe q i h1 h2]
          rw [e3 33 (by decide) (by decide), e3 34 (by decide) (by decide)]
          unfold cgH cgA
          omega
        · rw [tF, if_neg (fun g => by omega), hwe _ _ (by decide) (by decide)]
          exact hg
      have hPF := cu_putFrom (l := l) hg14 (show c ≤ 6 by omega) (cgG τ n R) (d := d + (15 - cgG τ n R)) (gm := 0) (used := 0) (by omega) (by omega) hP
      rw [show d + (15 - cgG τ n R) + cgG τ n R + 4 = d + 19 by omega] at hPF
      have hPr := PI_pf (c := c) (by omega) (cgG τ n R) 0 0 _ hP
      refine zi_iload_n d_cu_run_9 rfl ?_
      refine zr_aload_n d_cu_run_10 rfl ?_
      refine zi_getiE (j := 3) (x := (e : Int)) d_cu_run_11 zC0 fl_cu_47 (by decide) rfl rfl (hd3) ?_
      refine zi_icmp_gt 47 d_cu_run_14 (by decide) ⟨by omega, by omega⟩ ⟨by omega, by omega⟩ (fun h14 => ?_) (fun h14 => ?_)
      · exact absurd h14 (by omega)
      · refine zr_aload_n d_cu_run_17 rfl ?_
        refine zi_getr (j := 9) d_cu_run_18 zC0 fl_cu_30 (by decide) rfl rfl ?_
        refine zi_iconst d_cu_run_21 ?_
        refine c_cu_run_22 rfl (ar_fill rfl (by decide)) ?_
        refine zr_aload_n d_cu_run_25 rfl ?_
        refine zi_iconst d_cu_run_26 ?_
        refine zi_iload_n d_cu_run_27 rfl ?_
        refine zi_iconst d_cu_run_28 ?_
        refine c_cu_run_29 rfl rfl (hPF) ?_
        show zV _ _ _ _ _ (vi _ :: _) _ _ _
        refine zi_if_eq 41 d_cu_run_32 (by decide) (z01 _) (fun h32 => ?_) (fun h32 => ?_)
        · have hq : ¬ (pf (cgH τ n R) (cgA τ n R) c (cgG τ n R) 0 0 (tF w 36 20 0)).1 = true := by grind
          simp only [if_neg hq] at hc
          refine zi_iinc d_cu_run_41 (by decide) rfl rfl ?_
          refine zr_goto 9 d_cu_run_44 (by decide) ?_
          exact zE4 (ih (c + 1) _ (by omega) (by omega) hPr.1 hPr.2.1 (fun q j h1 h2 => by rw [pf_ne h1 h2, tF, if_neg (fun g => h2 g.1), hwe q j h1 h2]) hc) (by refine ⟨?_, ?_, trivial⟩ <;> first | exact Or.inl rfl | exact Or.inr rfl) rfl
        · have hq : (pf (cgH τ n R) (cgA τ n R) c (cgG τ n R) 0 0 (tF w 36 20 0)).1 = true := by grind
          simp only [if_pos hq] at hc
          rw [hc]
          have h35 := pf_35 (show c ≤ 6 by omega) (cgG τ n R) 0 0 _ hq
          have hne : ∀ q j, q ≠ 35 → q ≠ 36 → (pf (cgH τ n R) (cgA τ n R) c (cgG τ n R) 0 0 (tF w 36 20 0)).2 q j = cgW τ n R q j := fun q j h1 h2 => by rw [pf_ne h1 h2, tF, if_neg (fun g => h2 g.1), hwe q j h1 h2]
          refine zr_aload_n d_cu_run_35 rfl ?_
          refine c_cu_run_36 rfl rfl (cu_keepDates (g := cgG τ n R) hPr.2.2.2 hg14 (fun i hi => by rw [hne _ _ (by decide) (by decide)]; exact (hQ i hi).1) (fun i hi => by rw [hne _ _ (by decide) (by decide)]; exact (hQ i hi).2.1) (fun i hi => h35 i (by omega) (by omega))) ?_
          refine zi_iload_n d_cu_run_39 rfl ?_
          exact zk_iret rfl d_cu_run_40 (Nat.zero_le _) (Nat.zero_le _) (by first | rfl | omega | (split <;> omega) | simp_all) rfl
  exact zE4 (key (e + 1 - cgM τ n R) (cgM τ n R) (cgW τ n R) (by split <;> omega) (Nat.le_refl _) hin (fun j => by rw [cgW_ne _ _ (by decide) (by decide) (by decide) (by omega)]; exact h36 j) (fun _ _ _ _ => rfl) rfl) (by refine ⟨?_, ?_, trivial⟩ <;> first | exact Or.inl rfl | exact Or.inr rfl) rfl
