/-! the reference: put and catchUp (written by wip/gen/t32.py) -/
def clF (τ : tS) (f : Nat → Int) (gm : Nat) (v : Int) : Bool := anyN (fun h => decide (f h = v ∧ meetP τ gm h = true)) gm
def mpL (τ : tS) (nx : (Nat → Int) → Bool × (Nat → Int)) (gm k : Nat) : Nat → (Nat → Int) → Bool × (Nat → Int)
  | 0, f => (false, ru f gm (k : Int))
  | c + 1, f => if clF τ f gm ((k - (c + 1) : Nat) : Int) = true then mpL τ nx gm k c (ru f gm ((k - (c + 1) : Nat) : Int)) else if (nx (ru (ru f gm ((k - (c + 1) : Nat) : Int)) (gm + 1) (-1))).1 = true then nx (ru (ru f gm ((k - (c + 1) : Nat) : Int)) (gm + 1) (-1)) else mpL τ nx gm k c (nx (ru (ru f gm ((k - (c + 1) : Nat) : Int)) (gm + 1) (-1))).2
def mp (τ : tS) (k : Nat) : Nat → Nat → (Nat → Int) → Bool × (Nat → Int)
  | 0, _, f => (true, f)
  | m + 1, gm, f => mpL τ (fun f' => mp τ k m (gm + 1) f') gm k k f
/-- a row of ints, and the first gm left as they were -/
def fr2 (gm : Nat) (f : Nat → Int) (q : Bool × (Nat → Int)) : Prop := (∀ i, zin (q.2 i)) ∧ ∀ j, j < gm → q.2 j = f j
theorem ru_in {f : Nat → Int} {j : Nat} {x : Int} (h : ∀ i, zin (f i)) (hx : zin x) (i : Nat) : zin (ru f j x i) := by
  unfold ru
  split
  · exact hx
  · exact h i
theorem ru_ne (f : Nat → Int) {j i : Nat} (x : Int) (h : i ≠ j) : ru f j x i = f i := by simp [ru, h]
theorem ru_at (f : Nat → Int) (j : Nat) (x : Int) : ru f j x j = x := by simp [ru]
theorem mpL_fr {τ : tS} {nx : (Nat → Int) → Bool × (Nat → Int)} {gm k : Nat} (hk : k ≤ 20) (hn : ∀ f, (∀ i, zin (f i)) → fr2 (gm + 1) f (nx f)) : ∀ c f, c ≤ k → (∀ i, zin (f i)) → fr2 gm f (mpL τ nx gm k c f)
  | 0, f, _, h => ⟨ru_in h ⟨by omega, by omega⟩, fun j hj => ru_ne _ _ (by omega)⟩
  | c + 1, f, hc, h => by
    rw [mpL]
    have h1 : ∀ i, zin (ru f gm ((k - (c + 1) : Nat) : Int) i) := ru_in h ⟨by omega, by omega⟩
    have h2 : ∀ i, zin (ru (ru f gm ((k - (c + 1) : Nat) : Int)) (gm + 1) (-1) i) := ru_in h1 ⟨by decide, by decide⟩
    have q := hn _ h2
    split
    · have r := mpL_fr (τ := τ) hk hn c _ (by omega) h1
      exact ⟨r.1, fun j hj => by rw [r.2 j hj, ru_ne _ _ (by omega)]⟩
    · split
      · exact ⟨q.1, fun j hj => by rw [q.2 j (by omega), ru_ne _ _ (by omega), ru_ne _ _ (by omega)]⟩
      · have r := mpL_fr (τ := τ) hk hn c _ (by omega) q.1
        exact ⟨r.1, fun j hj => by rw [r.2 j hj, q.2 j (by omega), ru_ne _ _ (by omega), ru_ne _ _ (by omega)]⟩
theorem mp_fr {τ : tS} {k : Nat} (hk : k ≤ 20) : ∀ m gm f, (∀ i, zin (f i)) → fr2 gm f (mp τ k m gm f)
  | 0, _, f, h => ⟨h, fun _ _ => rfl⟩
  | m + 1, gm, f, h => mpL_fr hk (fun f' hf => mp_fr hk m (gm + 1) f' hf) k f (Nat.le_refl _) h
theorem tR_in {τ : tS} {q : Nat} {f : Nat → Int} (h : AllIn τ) (hf : ∀ i, zin (f i)) : AllIn (tR τ q f) := by
  intro a b
  unfold tR
  split
  · exact hf b
  · exact h a b
theorem meet_59 (τ : tS) (f : Nat → Int) : meetP (tR τ 59 f) = meetP τ := by
  funext g h
  unfold meetP gH gA
  simp [tR]
theorem cl_59 (τ : tS) (f : Nat → Int) (gm : Nat) (v : Int) : anyN (clP (tR τ 59 f) gm v) gm = clF τ f gm v := by
  unfold clF
  congr 1
theorem clF_ru (τ : tS) (f : Nat → Int) (gm : Nat) (x v : Int) : clF τ (ru f gm x) gm v = clF τ f gm v := by
  rw [Bool.eq_iff_iff, clF, clF, anyN_iff, anyN_iff]
  constructor
  · rintro ⟨i, hi, h⟩
    rw [ru_ne _ _ (by omega)] at h
    exact ⟨i, hi, h⟩
  · rintro ⟨i, hi, h⟩
    exact ⟨i, hi, by rw [ru_ne _ _ (by omega)]; exact h⟩
theorem ru_ru (f : Nat → Int) (j : Nat) (x y : Int) : ru (ru f j x) j y = ru f j y := by
  funext b
  simp only [ru]
  split <;> rfl
theorem md_put9 {l : Launch} {d : Nat} {τ : tS} (hA : AllIn τ) {g : Nat} (hc : ceOk τ g) (hg : g ≤ 14) (hgm : τ 37 28 = (g : Int)) {k : Nat} (hk : k ≤ 6) {gm : Nat} (hlt : gm < g) {f : Nat → Int} {v : Int} (hv : f gm = v - 1) {res : zR} (hh : zV l (d + 4) M_md_put 31 [.ref 37, vi (k : Int), vi (gm : Int)] [] (tR τ 59 (ru f gm v)) (0, 0) res) : zV l (d + 4) M_md_put 9 [.ref 37, vi (k : Int), vi (gm : Int)] [] (tR τ 59 (f)) (0, 0) res := by
  refine zi_iload_n d_md_put_9 rfl ?_
  refine zi_if_lt 97 d_md_put_10 (by decide) (by first | assumption | exact ⟨by omega, by omega⟩) (fun h10 => ?_) (fun h10 => ?_)
  · exact absurd h10 (by omega)
  · refine zi_iload_n d_md_put_13 rfl ?_
    refine zr_aload_n d_md_put_14 rfl ?_
    refine zi_getiE (j := 28) (x := (g : Int)) d_md_put_15 zC8 fl_md_226 (by decide) rfl rfl (by rw [tR_ne _ _ _ (by decide)]; exact hgm) ?_
    refine zi_icmp_ge 97 d_md_put_18 (by decide) (by first | assumption | exact ⟨by omega, by omega⟩) (by first | assumption | exact ⟨by omega, by omega⟩) (fun h18 => ?_) (fun h18 => ?_)
    · exact absurd h18 (by omega)
    · refine zr_aload_n d_md_put_21 rfl ?_
      refine zi_getr (j := 30) d_md_put_22 zC8 fl_md_78 (by decide) rfl rfl ?_
      refine zi_iload_n d_md_put_25 rfl ?_
      refine zr_dup2 d_md_put_26 rfl rfl ?_
      refine zi_ialdE (x := v - 1) d_md_put_27 rfl (by decide) (by omega) (by omega) (by rw [Int.toNat_natCast, tR_at]; exact hv) ?_
      refine zi_iconst d_md_put_28 ?_
      refine zi_iadd d_md_put_29 ?_
      refine zi_iast d_md_put_30 rfl (by decide) (by omega) (by omega) ?_
      rw [tR_U, Int.toNat_natCast, show v - 1 + 1 = v by omega]
      exact hh
theorem md_putL {l : Launch} {d : Nat} {τ : tS} (hA : AllIn τ) {g : Nat} (hc : ceOk τ g) (hg : g ≤ 14) (hgm : τ 37 28 = (g : Int)) {k : Nat} (hk : k ≤ 6) {m gm : Nat} (hm : gm + (m + 1) = g) (IH : ∀ (f : Nat → Int) (res : zR), (∀ i, zin (f i)) → f (gm + 1) = -1 → zV l (d + 4) M_md_put 9 [.ref 37, vi (k : Int), vi (if (mp τ k m (gm + 1) f).1 = true then (g : Int) else ((gm + 1 : Nat) : Int) - 1)] [] (tR τ 59 ((mp τ k m (gm + 1) f).2)) (0, 0) res → zV l (d + 4) M_md_put 9 [.ref 37, vi (k : Int), vi ((gm + 1 : Nat) : Int)] [] (tR τ 59 (f)) (0, 0) res) : ∀ (c : Nat) (f : Nat → Int) (res : zR), c ≤ k → (∀ i, zin (f i)) → zV l (d + 4) M_md_put 9 [.ref 37, vi (k : Int), vi (if (mpL τ (fun f' => mp τ k m (gm + 1) f') gm k c f).1 = true then (g : Int) else (gm : Int) - 1)] [] (tR τ 59 ((mpL τ (fun f' => mp τ k m (gm + 1) f') gm k c f).2)) (0, 0) res → zV l (d + 4) M_md_put 31 [.ref 37, vi (k : Int), vi (gm : Int)] [] (tR τ 59 (ru f gm ((k - c : Nat) : Int))) (0, 0) res := by
  intro c
  induction c with
  | zero =>
    intro f res hck hf hh
    simp only [mpL] at hh
    refine zr_aload_n d_md_put_31 rfl ?_
    refine zi_getr (j := 30) d_md_put_32 zC8 fl_md_78 (by decide) rfl rfl ?_
    refine zi_iload_n d_md_put_35 rfl ?_
    refine zi_ialdE (x := (k : Int)) d_md_put_36 rfl (by decide) (by omega) (by omega) (by rw [Int.toNat_natCast, tR_at, ru_at]; rfl) ?_
    refine zi_iload_n d_md_put_37 rfl ?_
    refine zi_icmp_ge 68 d_md_put_38 (by decide) (by first | assumption | exact ⟨by omega, by omega⟩) (by first | assumption | exact ⟨by omega, by omega⟩) (fun h38 => ?_) (fun h38 => ?_)
    · refine zr_aload_n d_md_put_68 rfl ?_
      refine zi_getr (j := 30) d_md_put_69 zC8 fl_md_78 (by decide) rfl rfl ?_
      refine zi_iload_n d_md_put_72 rfl ?_
      refine zi_ialdE (x := (k : Int)) d_md_put_73 rfl (by decide) (by omega) (by omega) (by rw [Int.toNat_natCast, tR_at, ru_at]; rfl) ?_
      refine zi_iload_n d_md_put_74 rfl ?_
      refine zi_icmp_ge 91 d_md_put_75 (by decide) (by first | assumption | exact ⟨by omega, by omega⟩) (by first | assumption | exact ⟨by omega, by omega⟩) (fun h75 => ?_) (fun h75 => ?_)
      · refine zi_iinc d_md_put_91 (by decide) rfl rfl ?_
        refine zr_goto 9 d_md_put_94 (by decide) ?_
        exact zE4 hh (by refine ⟨?_, ?_, ?_, trivial⟩ <;> first | exact Or.inl rfl | exact Or.inr rfl | exact Or.inr (congrArg vi (by first | rfl | (simp; omega) | simp))) rfl
      · exact absurd h75 (by omega)
    · exact absurd h38 (by omega)
  | succ c ihc =>
    intro f res hck hf hh
    have h1 : ∀ i, zin (ru f gm ((k - (c + 1) : Nat) : Int) i) := ru_in hf ⟨by omega, by omega⟩
    have h2 : ∀ i, zin (ru (ru f gm ((k - (c + 1) : Nat) : Int)) (gm + 1) (-1) i) := ru_in h1 ⟨by decide, by decide⟩
    have hfr := mp_fr (τ := τ) (k := k) (by omega) m (gm + 1) _ h2
    refine zr_aload_n d_md_put_31 rfl ?_
    refine zi_getr (j := 30) d_md_put_32 zC8 fl_md_78 (by decide) rfl rfl ?_
    refine zi_iload_n d_md_put_35 rfl ?_
    refine zi_ialdE (x := ((k - (c + 1) : Nat) : Int)) d_md_put_36 rfl (by decide) (by omega) (by omega) (by rw [Int.toNat_natCast, tR_at, ru_at]) ?_
    refine zi_iload_n d_md_put_37 rfl ?_
    refine zi_icmp_ge 68 d_md_put_38 (by decide) (by first | assumption | exact ⟨by omega, by omega⟩) (by first | assumption | exact ⟨by omega, by omega⟩) (fun h38 => ?_) (fun h38 => ?_)
    · exact absurd h38 (by omega)
    · refine zr_aload_n d_md_put_41 rfl ?_
      refine zi_iload_n d_md_put_42 rfl ?_
      refine zr_aload_n d_md_put_43 rfl ?_
      refine zi_getr (j := 30) d_md_put_44 zC8 fl_md_78 (by decide) rfl rfl ?_
      refine zi_iload_n d_md_put_47 rfl ?_
      refine zi_ialdE (x := ((k - (c + 1) : Nat) : Int)) d_md_put_48 rfl (by decide) (by omega) (by omega) (by rw [Int.toNat_natCast, tR_at, ru_at]) ?_
      refine c_md_put_49 rfl rfl (md_isClear (N := g) (tR_in hA h1) (fun i hi => by rw [tR_ne _ _ _ (by decide)]; exact hc i hi) (by omega) (by omega) ⟨by omega, by omega⟩) ?_
      show zV _ _ _ _ _ (vi _ :: _) _ _ _
      rw [cl_59, clF_ru]
      refine zi_if_ne 68 d_md_put_52 (by decide) (n2i_in _) (fun h52 => ?_) (fun h52 => ?_)
      · have hcl : ¬ clF τ f gm ((k - (c + 1) : Nat) : Int) = true := by intro e; rw [e] at h52; exact h52 rfl
        rw [mpL, if_neg hcl] at hh
        refine zr_aload_n d_md_put_68 rfl ?_
        refine zi_getr (j := 30) d_md_put_69 zC8 fl_md_78 (by decide) rfl rfl ?_
        refine zi_iload_n d_md_put_72 rfl ?_
        refine zi_ialdE (x := ((k - (c + 1) : Nat) : Int)) d_md_put_73 rfl (by decide) (by omega) (by omega) (by rw [Int.toNat_natCast, tR_at, ru_at]) ?_
        refine zi_iload_n d_md_put_74 rfl ?_
        refine zi_icmp_ge 91 d_md_put_75 (by decide) (by first | assumption | exact ⟨by omega, by omega⟩) (by first | assumption | exact ⟨by omega, by omega⟩) (fun h75 => ?_) (fun h75 => ?_)
        · exact absurd h75 (by omega)
        · refine zi_iinc d_md_put_78 (by decide) rfl rfl ?_
          refine zr_aload_n d_md_put_81 rfl ?_
          refine zi_getr (j := 30) d_md_put_82 zC8 fl_md_78 (by decide) rfl rfl ?_
          refine zi_iload_n d_md_put_85 rfl ?_
          refine zi_iconst d_md_put_86 ?_
          rw [show (gm : Int) + 1 = ((gm + 1 : Nat) : Int) by omega]
          refine zi_iast d_md_put_87 rfl (by decide) (by omega) (by omega) ?_
          rw [tR_U, Int.toNat_natCast]
          refine zr_goto 9 d_md_put_88 (by decide) ?_
          refine IH _ _ h2 (ru_at _ _ _) ?_
          by_cases hs : (mp τ k m (gm + 1) (ru (ru f gm ((k - (c + 1) : Nat) : Int)) (gm + 1) (-1))).1 = true
          · rw [if_pos hs] at hh ⊢
            rw [if_pos hs] at hh
            exact zE4 hh (by refine ⟨?_, ?_, ?_, trivial⟩ <;> first | exact Or.inl rfl | exact Or.inr rfl) rfl
          · rw [if_neg hs] at hh ⊢
            have hv : (mp τ k m (gm + 1) (ru (ru f gm ((k - (c + 1) : Nat) : Int)) (gm + 1) (-1))).2 gm = ((k - c : Nat) : Int) - 1 := by rw [hfr.2 gm (by omega), ru_ne _ _ (by omega), ru_at]; omega
            refine zE4 (md_put9 hA hc hg hgm hk (by omega) hv (ihc _ res (by omega) hfr.1 hh)) (by refine ⟨?_, ?_, ?_, trivial⟩ <;> first | exact Or.inl rfl | exact Or.inr rfl | exact Or.inr (congrArg vi (by omega))) rfl
      · have hcl : clF τ f gm ((k - (c + 1) : Nat) : Int) = true := by cases e : clF τ f gm ((k - (c + 1) : Nat) : Int); (rw [e] at h52; exact absurd h52 (by decide)); rfl
        rw [mpL, if_pos hcl] at hh
        have hgo := ihc _ res (by omega) h1 hh
        refine zr_aload_n d_md_put_55 rfl ?_
        refine zi_getr (j := 30) d_md_put_56 zC8 fl_md_78 (by decide) rfl rfl ?_
        refine zi_iload_n d_md_put_59 rfl ?_
        refine zr_dup2 d_md_put_60 rfl rfl ?_
        refine zi_ialdE (x := ((k - (c + 1) : Nat) : Int)) d_md_put_61 rfl (by decide) (by omega) (by omega) (by rw [Int.toNat_natCast, tR_at, ru_at]) ?_
        refine zi_iconst d_md_put_62 ?_
        refine zi_iadd d_md_put_63 ?_
        refine zi_iast d_md_put_64 rfl (by decide) (by omega) (by omega) ?_
        rw [tR_U, Int.toNat_natCast, ru_ru]
        refine zr_goto 31 d_md_put_65 (by decide) ?_
        exact zE4 hgo (by refine ⟨?_, ?_, ?_, trivial⟩ <;> first | exact Or.inl rfl | exact Or.inr rfl) (by rw [ru_ru]; congr 2; omega)
theorem md_putM {l : Launch} {d : Nat} {τ : tS} (hA : AllIn τ) {g : Nat} (hc : ceOk τ g) (hg : g ≤ 14) (hgm : τ 37 28 = (g : Int)) {k : Nat} (hk : k ≤ 6) : ∀ (m gm : Nat) (f : Nat → Int) (res : zR), gm + m = g → (∀ i, zin (f i)) → f gm = -1 → zV l (d + 4) M_md_put 9 [.ref 37, vi (k : Int), vi (if (mp τ k m gm f).1 = true then (g : Int) else (gm : Int) - 1)] [] (tR τ 59 ((mp τ k m gm f).2)) (0, 0) res → zV l (d + 4) M_md_put 9 [.ref 37, vi (k : Int), vi (gm : Int)] [] (tR τ 59 (f)) (0, 0) res := by
  intro m
  induction m with
  | zero =>
    intro gm f res hm hf h0 hh
    have e : gm = g := by omega
    subst e
    exact zE4 hh (by refine ⟨?_, ?_, ?_, trivial⟩ <;> first | exact Or.inl rfl | exact Or.inr rfl | exact Or.inr (by simp [mp])) rfl
  | succ m ih =>
    intro gm f res hm hf h0 hh
    refine md_put9 hA hc hg hgm hk (by omega) (v := 0) (by omega) ?_
    have hL := md_putL (l := l) (d := d) hA hc hg hgm hk hm (fun f' res' hf' h0' hh' => ih (gm + 1) f' res' (by omega) hf' h0' hh') k f res (Nat.le_refl _) hf hh
    rw [Nat.sub_self] at hL
    exact hL
theorem md_put {l : Launch} {d : Nat} {τ : tS} (hA : AllIn τ) {g : Nat} (hc : ceOk τ g) (hg : g ≤ 14) (hgm : τ 37 28 = (g : Int)) {k : Nat} (hk : k ≤ 6) : zF l (d + 4) M_md_put [.ref 37, vi (k : Int)] (τ) (some (vi (if (mp τ k g 0 (ru (τ 59) 0 (-1))).1 = true then 1 else 0))) (tR τ 59 (mp τ k g 0 (ru (τ 59) 0 (-1))).2) := by
  refine zMet_of (ls := [.ref 37, vi (k : Int), .null]) pn_md rfl (by simp [vi, Value.category]) rfl rfl ?_
  refine zi_iconst d_md_put_0 ?_
  refine zi_istore_n d_md_put_1 (by decide) rfl ?_
  refine zr_aload_n d_md_put_2 rfl ?_
  refine zi_getr (j := 30) d_md_put_3 zC8 fl_md_78 (by decide) rfl rfl ?_
  refine zi_iconst d_md_put_6 ?_
  refine zi_iconst d_md_put_7 ?_
  refine zi_iast d_md_put_8 rfl (by decide) (by omega) (by omega) ?_
  rw [show tU τ 59 (0 : Int).toNat (-1) = tR τ 59 (ru (τ 59) 0 (-1)) by rw [← tR_U, tR_self]; rfl]
  refine zE4 (md_putM (l := l) (d := d) hA hc hg hgm hk g 0 (ru (τ 59) 0 (-1)) _ (by omega) (ru_in (fun i => hA _ _) ⟨by decide, by decide⟩) (ru_at _ _ _) ?_) (by refine ⟨?_, ?_, ?_, trivial⟩ <;> first | exact Or.inl rfl | exact Or.inr rfl) rfl
  by_cases hs : (mp τ k g 0 (ru (τ 59) 0 (-1))).1 = true
  · rw [if_pos hs]
    refine zi_iload_n d_md_put_9 rfl ?_
    refine zi_if_lt 97 d_md_put_10 (by decide) ⟨by omega, by omega⟩ (fun h10 => ?_) (fun h10 => ?_)
    · exact absurd h10 (by omega)
    · refine zi_iload_n d_md_put_13 rfl ?_
      refine zr_aload_n d_md_put_14 rfl ?_
      refine zi_getiE (j := 28) (x := (g : Int)) d_md_put_15 zC8 fl_md_226 (by decide) rfl rfl (by rw [tR_ne _ _ _ (by decide)]; exact hgm) ?_
      refine zi_icmp_ge 97 d_md_put_18 (by decide) ⟨by omega, by omega⟩ ⟨by omega, by omega⟩ (fun h18 => ?_) (fun h18 => ?_)
      · refine zi_iload_n d_md_put_97 rfl ?_
        refine zr_aload_n d_md_put_98 rfl ?_
        refine zi_getiE (j := 28) (x := (g : Int)) d_md_put_99 zC8 fl_md_226 (by decide) rfl rfl (by rw [tR_ne _ _ _ (by decide)]; exact hgm) ?_
        refine zi_icmp_ne 109 d_md_put_102 (by decide) ⟨by omega, by omega⟩ ⟨by omega, by omega⟩ (fun h102 => ?_) (fun h102 => ?_)
        · exact absurd rfl h102
        · refine zi_iconst d_md_put_105 ?_
          refine zr_goto 110 d_md_put_106 (by decide) ?_
          exact zk_zret rfl d_md_put_110 (Nat.zero_le _) (Nat.zero_le _) (by omega) (by rw [if_pos hs]) rfl
      · exact absurd h18 (by omega)
  · rw [if_neg hs, show ((0 : Nat) : Int) - 1 = -1 by omega]
    refine zi_iload_n d_md_put_9 rfl ?_
    refine zi_if_lt 97 d_md_put_10 (by decide) ⟨by decide, by decide⟩ (fun h10 => ?_) (fun h10 => ?_)
    · refine zi_iload_n d_md_put_97 rfl ?_
      refine zr_aload_n d_md_put_98 rfl ?_
      refine zi_getiE (j := 28) (x := (g : Int)) d_md_put_99 zC8 fl_md_226 (by decide) rfl rfl (by rw [tR_ne _ _ _ (by decide)]; exact hgm) ?_
      refine zi_icmp_ne 109 d_md_put_102 (by decide) ⟨by decide, by decide⟩ ⟨by omega, by omega⟩ (fun h102 => ?_) (fun h102 => ?_)
      · refine zi_iconst d_md_put_109 ?_
        exact zk_zret rfl d_md_put_110 (Nat.zero_le _) (Nat.zero_le _) (by omega) (by rw [if_neg hs]) rfl
      · exact absurd h102 (by omega)
    · exact absurd h10 (by decide)
