/-! CatchUp.putFrom and run (written by wip/gen/t9.py) -/
theorem z01 (b : Bool) : zin (if b = true then 1 else 0) := by cases b <;> exact ⟨by decide, by decide⟩
/-- the loop over dates: 'nx used world' is the search for the games behind -/
def pfL (nx : Nat → tS → Bool × tS) (h a gm used : Nat) : Nat → Nat → tS → Bool × tS
  | 0, _, τ => (false, τ)
  | m + 1, dt, τ =>
    if ((τ 36 h).toNat ||| (τ 36 a).toNat).testBit dt then pfL nx h a gm used m (dt + 1) τ
    else
      let q := nx (if used < dt + 1 then dt + 1 else used) (flpT τ h a dt)
      if q.1 then (true, tU q.2 35 gm (dt : Int)) else pfL nx h a gm used m (dt + 1) (flpT q.2 h a dt)
/-- the search: k games are left, the next one is gm -/
def pf (H A : Nat → Nat) (c : Nat) : Nat → Nat → Nat → tS → Bool × tS
  | 0, _, _, τ => (true, τ)
  | k + 1, gm, used, τ => pfL (fun u w => pf H A c k (gm + 1) u w) (H gm) (A gm) gm used (if c < used + 1 then c else used + 1) 0 τ
def PI (H A : Nat → Nat) (g : Nat) (τ : tS) : Prop := AllIn τ ∧ (∀ j, 0 ≤ τ 36 j) ∧ (∀ i, i < g → τ 33 i = (H i : Int) ∧ τ 34 i = (A i : Int) ∧ H i < 20 ∧ A i < 20) ∧ τ 29 10 = (g : Int)
theorem flp_in {τ : tS} {h a dt : Nat} (hA : AllIn τ) (hM : ∀ j, 0 ≤ τ 36 j) (hd : dt < 20) : AllIn (flpT τ h a dt) ∧ ∀ j, 0 ≤ flpT τ h a dt 36 j := by
  have key : ∀ (w : tS), (∀ q j, zin (w q j)) → (∀ j, 0 ≤ w 36 j) → ∀ k, (∀ q j, zin (tU w 36 k ((((w 36 k).toNat ^^^ 2 ^ dt : Nat)) : Int) q j)) ∧ ∀ j, 0 ≤ tU w 36 k ((((w 36 k).toNat ^^^ 2 ^ dt : Nat)) : Int) 36 j := by
    intro w h1 h2 k
    have hm : (w 36 k).toNat < 2147483648 := by have := h1 36 k; unfold zin at this; omega
    have hx := flp_lt (dt := dt) hm hd
    constructor
    · intro q j
      unfold tU
      split
      · exact ⟨by omega, by omega⟩
      · exact h1 q j
    · intro j
      unfold tU
      split
      · exact Int.natCast_nonneg _
      · exact h2 j
  obtain ⟨a1, a2⟩ := key τ hA hM h
  exact key _ a1 a2 a
theorem flp_ne (τ : tS) (h a dt q j : Nat) (hq : q ≠ 36) : flpT τ h a dt q j = τ q j := by simp [flpT, tU, hq]
theorem PI_flp {H A : Nat → Nat} {g h a dt : Nat} {τ : tS} (hI : PI H A g τ) (hd : dt < 20) : PI H A g (flpT τ h a dt) := by
  obtain ⟨h1, h2⟩ := flp_in (h := h) (a := a) hI.1 hI.2.1 hd
  refine ⟨h1, h2, fun i hi => ?_, ?_⟩
  · rw [flp_ne _ _ _ _ _ _ (by decide), flp_ne _ _ _ _ _ _ (by decide)]
    exact hI.2.2.1 i hi
  · rw [flp_ne _ _ _ _ _ _ (by decide)]
    exact hI.2.2.2
theorem PI_35 {H A : Nat → Nat} {g : Nat} {τ : tS} (hI : PI H A g τ) (i : Nat) {x : Int} (hx : zin x) : PI H A g (tU τ 35 i x) := by
  refine ⟨fun q j => ?_, fun j => ?_, fun k hk => ?_, ?_⟩
  · unfold tU
    split
    · exact hx
    · exact hI.1 q j
  · simpa [tU] using hI.2.1 j
  · simpa [tU] using hI.2.2.1 k hk
  · simpa [tU] using hI.2.2.2
theorem PI_L {H A : Nat → Nat} {g : Nat} {nx : Nat → tS → Bool × tS} (hn : ∀ u w, PI H A g w → PI H A g (nx u w).2) (h a gm used : Nat) : ∀ (m dt : Nat) (τ : tS), dt + m ≤ 20 → PI H A g τ → PI H A g (pfL nx h a gm used m dt τ).2
  | 0, _, _, _, hI => hI
  | m + 1, dt, τ, hd, hI => by
    rw [pfL]
    split
    · exact PI_L hn h a gm used m (dt + 1) τ (by omega) hI
    · have hq := hn (if used < dt + 1 then dt + 1 else used) _ (PI_flp (h := h) (a := a) (dt := dt) hI (by omega))
      simp only []
      generalize (if used < dt + 1 then dt + 1 else used) = u at hq ⊢
      split
      · exact PI_35 hq gm (x := (dt : Int)) ⟨by omega, by omega⟩
      · exact PI_L hn h a gm used m (dt + 1) _ (by omega) (PI_flp (dt := dt) hq (by omega))
theorem PI_pf {H A : Nat → Nat} {g c : Nat} (hc : c ≤ 6) : ∀ (k gm used : Nat) (τ : tS), PI H A g τ → PI H A g (pf H A c k gm used τ).2
  | 0, _, _, _, hI => hI
  | k + 1, gm, used, τ, hI => by
    rw [pf]
    exact PI_L (fun u w hw => PI_pf hc k (gm + 1) u w hw) _ _ _ _ _ 0 τ (by split <;> omega) hI
theorem cu_putFrom {l : Launch} {H A : Nat → Nat} {g c : Nat} (hg : g ≤ 14) (hc : c ≤ 6) : ∀ (k : Nat) {d : Nat} {gm used : Nat} {τ : tS}, gm + k = g → used ≤ 20 → PI H A g τ → zF l (d + k + 4) M_cu_putFrom [.ref 29, vi (gm : Int), vi (c : Int), vi (used : Int)] τ (some (vi (if (pf H A c k gm used τ).1 then 1 else 0))) (pf H A c k gm used τ).2 := by
  intro k
  induction k with
  | zero =>
    intro d gm used τ hk hu hI
    refine zMet_of (ls := [.ref 29, vi (gm : Int), vi (c : Int), vi (used : Int), .null, .null]) pn_cu rfl (by simp [vi, Value.category]) rfl rfl ?_
    refine zi_iload_n d_cu_putFrom_0 rfl ?_
    refine zr_aload_n d_cu_putFrom_1 rfl ?_
    refine zi_getiE (j := 10) (x := (g : Int)) d_cu_putFrom_2 zC0 fl_cu_69 (by decide) rfl rfl (hI.2.2.2) ?_
    refine zi_icmp_lt 10 d_cu_putFrom_5 (by decide) (by first | assumption | exact ⟨by omega, by omega⟩) (by first | assumption | exact ⟨by omega, by omega⟩) (fun h5 => ?_) (fun h5 => ?_)
    · exact absurd h5 (by omega)
    · refine zi_iconst d_cu_putFrom_8 ?_
      exact zk_zret rfl d_cu_putFrom_9 (Nat.zero_le _) (Nat.zero_le _) (by omega) (by first | rfl | omega | (split <;> omega) | simp_all) rfl
  | succ k ih =>
    intro d gm used τ hk hu hI
    have e0 : d + (k + 1) + 4 = (d + k + 4) + 1 := by omega
    rw [e0]
    refine zMet_of (ls := [.ref 29, vi (gm : Int), vi (c : Int), vi (used : Int), .null, .null]) pn_cu rfl (by simp [vi, Value.category]) rfl rfl ?_
    refine zi_iload_n d_cu_putFrom_0 rfl ?_
    refine zr_aload_n d_cu_putFrom_1 rfl ?_
    refine zi_getiE (j := 10) (x := (g : Int)) d_cu_putFrom_2 zC0 fl_cu_69 (by decide) rfl rfl (hI.2.2.2) ?_
    refine zi_icmp_lt 10 d_cu_putFrom_5 (by decide) (by first | assumption | exact ⟨by omega, by omega⟩) (by first | assumption | exact ⟨by omega, by omega⟩) (fun h5 => ?_) (fun h5 => ?_)
    · refine zi_iload_n d_cu_putFrom_10 rfl ?_
      refine zi_iconst d_cu_putFrom_11 ?_
      refine zi_iadd d_cu_putFrom_12 ?_
      refine zi_iload_n d_cu_putFrom_13 rfl ?_
      refine zi_mmin d_cu_putFrom_14 ml_cu_94 ⟨by omega, by omega⟩ ⟨by omega, by omega⟩ rfl ?_
      refine zi_istore d_cu_putFrom_17 (by decide) rfl ?_
      refine zi_iconst d_cu_putFrom_19 ?_
      refine zi_istore d_cu_putFrom_20 (by decide) rfl ?_
      have hgm := hI.2.2.1 gm (by omega)
      have htr : (if c < used + 1 then c else used + 1) ≤ 6 := by split <;> omega
      have key : ∀ (m dt : Nat) (w : tS), dt + m = (if c < used + 1 then c else used + 1) → PI H A g w → pf H A c (k + 1) gm used τ = pfL (fun u w => pf H A c k (gm + 1) u w) (H gm) (A gm) gm used m dt w → zV l (d + k + 4 + 1) M_cu_putFrom 22 [.ref 29, vi (gm : Int), vi (c : Int), vi (used : Int), vi (((if c < used + 1 then c else used + 1 : Nat)) : Int), vi (dt : Int)] [] w (0, 0) (.inl (some (vi (if (pf H A c (k + 1) gm used τ).1 then 1 else 0))), (SH, zq (pf H A c (k + 1) gm used τ).2), 0, 0) := by
        intro m
        induction m with
        | zero =>
          intro dt w hm hw he
          simp only [pfL] at he
          rw [he]
          refine zi_iload d_cu_putFrom_22 rfl ?_
          refine zi_iload d_cu_putFrom_24 rfl ?_
          refine zi_icmp_ge 88 d_cu_putFrom_26 (by decide) ⟨by omega, by omega⟩ ⟨by omega, by omega⟩ (fun h26 => ?_) (fun h26 => ?_)
          · refine zi_iconst d_cu_putFrom_88 ?_
            exact zk_zret rfl d_cu_putFrom_89 (Nat.zero_le _) (Nat.zero_le _) (by omega) (by simp) rfl
          · exact absurd h26 (by omega)
        | succ m ihm =>
          intro dt w hm hw he
          have hdt : dt < 6 := by split at hm <;> omega
          have hwg := hw.2.2.1 gm (by omega)
          rw [pfL] at he
          refine zi_iload d_cu_putFrom_22 rfl ?_
          refine zi_iload d_cu_putFrom_24 rfl ?_
          refine zi_icmp_ge 88 d_cu_putFrom_26 (by decide) ⟨by omega, by omega⟩ ⟨by omega, by omega⟩ (fun h26 => ?_) (fun h26 => ?_)
          · exact absurd h26 (by omega)
          · refine zr_aload_n d_cu_putFrom_29 rfl ?_
            refine zi_iload_n d_cu_putFrom_30 rfl ?_
            refine zi_iload d_cu_putFrom_31 rfl ?_
            refine c_cu_putFrom_33 rfl rfl (cu_isOpen (h := H gm) (a := A gm) hw.1 hw.2.1 (by omega) (by omega) hwg.1 hwg.2.1 hwg.2.2.1 hwg.2.2.2) ?_
            show zV _ _ _ _ _ (vi _ :: _) _ _ _
            refine zi_if_eq 82 d_cu_putFrom_36 (by decide) (by split <;> exact ⟨by decide, by decide⟩) (fun h36 => ?_) (fun h36 => ?_)
            · have hb : ((w 36 (H gm)).toNat ||| (w 36 (A gm)).toNat).testBit dt = true := by grind
              rw [if_pos hb] at he
              refine zi_iinc d_cu_putFrom_82 (by decide) rfl rfl ?_
              refine zr_goto 22 d_cu_putFrom_85 (by decide) ?_
              exact zE4 (ihm (dt + 1) _ (by omega) (by first | exact hw | exact PI_flp (dt := dt) hPr (by omega)) he) (by refine ⟨?_, ?_, ?_, ?_, ?_, ?_, trivial⟩ <;> first | exact Or.inl rfl | exact Or.inr rfl) rfl
            · have hb : ¬ ((w 36 (H gm)).toNat ||| (w 36 (A gm)).toNat).testBit dt = true := by grind
              rw [if_neg hb] at he
              refine zr_aload_n d_cu_putFrom_39 rfl ?_
              refine zi_iload_n d_cu_putFrom_40 rfl ?_
              refine zi_iload d_cu_putFrom_41 rfl ?_
              refine c_cu_putFrom_43 rfl rfl (cu_flipDate (h := H gm) (a := A gm) hw.1 hw.2.1 (by omega) (by omega) hwg.1 hwg.2.1 hwg.2.2.1 hwg.2.2.2) ?_
              refine zr_aload_n d_cu_putFrom_46 rfl ?_
              refine zi_iload_n d_cu_putFrom_47 rfl ?_
              refine zi_iconst d_cu_putFrom_48 ?_
              refine zi_iadd d_cu_putFrom_49 ?_
              refine zi_iload_n d_cu_putFrom_50 rfl ?_
              refine zi_iload_n d_cu_putFrom_51 rfl ?_
              refine zi_iload d_cu_putFrom_52 rfl ?_
              refine zi_iconst d_cu_putFrom_54 ?_
              refine zi_iadd d_cu_putFrom_55 ?_
              refine zi_mmax d_cu_putFrom_56 ml_cu_89 ⟨by omega, by omega⟩ ⟨by omega, by omega⟩ rfl ?_
              rw [show (if (used : Int) < (dt : Int) + 1 then (dt : Int) + 1 else (used : Int)) = (((if used < dt + 1 then dt + 1 else used : Nat)) : Int) by grind]
              have hPq := PI_flp (h := H gm) (a := A gm) (dt := dt) hw (by omega)
              have hPr := PI_pf hc k (gm + 1) (if used < dt + 1 then dt + 1 else used) _ hPq
              refine c_cu_putFrom_59 rfl rfl (ih (d := d) (gm := gm + 1) (by omega) (by split <;> omega) hPq) ?_
              show zV _ _ _ _ _ (vi _ :: _) _ _ _
              refine zi_if_eq 75 d_cu_putFrom_62 (by decide) (z01 _) (fun h62 => ?_) (fun h62 => ?_)
              · have hq : ¬ (pf H A c k (gm + 1) (if used < dt + 1 then dt + 1 else used) (flpT w (H gm) (A gm) dt)).1 = true := by grind
                simp only [if_neg hq] at he
                have hrg := hPr.2.2.1 gm (by omega)
                refine zr_aload_n d_cu_putFrom_75 rfl ?_
                refine zi_iload_n d_cu_putFrom_76 rfl ?_
                refine zi_iload d_cu_putFrom_77 rfl ?_
                refine c_cu_putFrom_79 rfl rfl (cu_flipDate (h := H gm) (a := A gm) hPr.1 hPr.2.1 (by omega) (by omega) hrg.1 hrg.2.1 hrg.2.2.1 hrg.2.2.2) ?_
                refine zi_iinc d_cu_putFrom_82 (by decide) rfl rfl ?_
                refine zr_goto 22 d_cu_putFrom_85 (by decide) ?_
                exact zE4 (ihm (dt + 1) _ (by omega) (by first | exact hw | exact PI_flp (dt := dt) hPr (by omega)) he) (by refine ⟨?_, ?_, ?_, ?_, ?_, ?_, trivial⟩ <;> first | exact Or.inl rfl | exact Or.inr rfl) rfl
              · have hq : (pf H A c k (gm + 1) (if used < dt + 1 then dt + 1 else used) (flpT w (H gm) (A gm) dt)).1 = true := by grind
                simp only [if_pos hq] at he
                rw [he]
                refine zr_aload_n d_cu_putFrom_65 rfl ?_
                refine zi_getr (j := 8) d_cu_putFrom_66 zC0 fl_cu_27 (by decide) rfl rfl ?_
                refine zi_iload_n d_cu_putFrom_69 rfl ?_
                refine zi_iload d_cu_putFrom_70 rfl ?_
                refine zi_iast d_cu_putFrom_72 rfl (by decide) (by omega) (by omega) ?_
                refine zi_iconst d_cu_putFrom_73 ?_
                exact zk_zret rfl d_cu_putFrom_74 (Nat.zero_le _) (Nat.zero_le _) (by omega) (by simp) (by rw [Int.toNat_natCast])
      exact zE4 (key (if c < used + 1 then c else used + 1) 0 τ (by omega) hI rfl) (by refine ⟨?_, ?_, ?_, ?_, ?_, ?_, trivial⟩ <;> first | exact Or.inl rfl | exact Or.inr rfl | (refine Or.inr (congrArg vi ?_); grind)) rfl
    · exact absurd h5 (by omega)
