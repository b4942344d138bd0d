/-! the two searches for dates: the one that tries one unused date finds what the one that tries all finds (written by wip/gen/t41.py) -/
section ZP1
variable {τ : tS} {k : Nat}
theorem mpL_fix {nx : (Nat → Int) → Bool × (Nat → Int)} {gm : Nat} (hn : ∀ f j, j < gm + 1 → (nx f).2 j = f j) {j : Nat} (hj : j < gm) : ∀ c f, (mpL τ nx gm k c f).2 j = f j
  | 0, f => ru_ne _ _ (by omega)
  | c + 1, f => by
    rw [mpL]
    split
    · rw [mpL_fix hn hj c, ru_ne _ _ (by omega)]
    · split
      · rw [hn _ _ (by omega), ru_ne _ _ (by omega), ru_ne _ _ (by omega)]
      · rw [mpL_fix hn hj c, hn _ _ (by omega), ru_ne _ _ (by omega), ru_ne _ _ (by omega)]
theorem mp_fix : ∀ (m gm : Nat) (f : Nat → Int) (j : Nat), j < gm → (mp τ k m gm f).2 j = f j
  | 0, _, _, _, _ => rfl
  | m + 1, gm, f, j, hj => by
    rw [mp]
    exact mpL_fix (fun f' j' h' => mp_fix m (gm + 1) f' j' h') hj k f
/-- y puts the games gm .. gm + m - 1 on dates below k, and those before as f does -/
def xt (M : Nat → Nat → Bool) (k gm m : Nat) (f y : Nat → Int) : Prop := (∀ i, i < gm → y i = f i) ∧ (∀ i, gm ≤ i → i < gm + m → 0 ≤ y i ∧ y i < (k : Int)) ∧ (∀ i, gm ≤ i → i < gm + m → ∀ h, h < i → ¬ (y h = y i ∧ M i h = true))
theorem xt_cg {M : Nat → Nat → Bool} {gm m : Nat} {f f' y : Nat → Int} (h : ∀ i, i < gm → f' i = f i) (hx : xt M k gm m f' y) : xt M k gm m f y := ⟨fun i hi => by rw [hx.1 i hi, h i hi], hx.2.1, hx.2.2⟩
theorem xt_up {M : Nat → Nat → Bool} {gm m d : Nat} {f f' y : Nat → Int} (hf : ∀ i, i < gm → f' i = f i) (hd : f' gm = (d : Int)) (hk : d < k) (hc : ∀ h, h < gm → ¬ (f h = (d : Int) ∧ M gm h = true)) (hx : xt M k (gm + 1) m f' y) : xt M k gm (m + 1) f y ∧ y gm = (d : Int) := by
  have hg : y gm = (d : Int) := by rw [hx.1 gm (by omega), hd]
  refine ⟨⟨fun i hi => by rw [hx.1 i (by omega), hf i hi], fun i h1 h2 => ?_, fun i h1 h2 h hh => ?_⟩, hg⟩
  · by_cases e : i = gm
    · subst e; omega
    · exact hx.2.1 i (by omega) (by omega)
  · by_cases e : i = gm
    · subst e
      rw [hg, hx.1 h (by omega), hf h hh]
      exact hc h hh
    · exact hx.2.2 i (by omega) (by omega) h hh
theorem xt_dn {M : Nat → Nat → Bool} {gm m d : Nat} {f f' y : Nat → Int} (hf : ∀ i, i < gm → f' i = f i) (hd : f' gm = (d : Int)) (hg : y gm = (d : Int)) (hx : xt M k gm (m + 1) f y) : xt M k (gm + 1) m f' y := by
  refine ⟨fun i hi => ?_, fun i h1 h2 => hx.2.1 i (by omega) (by omega), fun i h1 h2 => hx.2.2 i (by omega) (by omega)⟩
  by_cases e : i = gm
  · subst e; rw [hg, hd]
  · rw [hx.1 i (by omega), hf i (by omega)]
theorem clF_iff {f : Nat → Int} {gm : Nat} {v : Int} : clF τ f gm v = true ↔ ∃ h, h < gm ∧ f h = v ∧ meetP τ gm h = true := by
  unfold clF
  rw [anyN_iff]
  simp only [decide_eq_true_eq]
theorem mpL_iff {nx : (Nat → Int) → Bool × (Nat → Int)} {gm m : Nat} (hn : ∀ f j, j < gm + 1 → (nx f).2 j = f j) (hx : ∀ f, (nx f).1 = true ↔ ∃ y, xt (meetP τ) k (gm + 1) m f y) : ∀ c f, c ≤ k → ((mpL τ nx gm k c f).1 = true ↔ ∃ y, xt (meetP τ) k gm (m + 1) f y ∧ (k : Int) - c ≤ y gm)
  | 0, f, _ => by
    rw [mpL]
    constructor
    · intro h; exact absurd h (by show ¬ false = true; decide)
    · rintro ⟨y, h1, h2⟩
      have := h1.2.1 gm (by omega) (by omega)
      omega
  | c + 1, f, hc => by
    rw [mpL]
    have hr1 : ∀ i, i < gm → ru f gm ((k - (c + 1) : Nat) : Int) i = f i := fun i hi => ru_ne _ _ (by omega)
    have hr2 : ∀ i, i < gm → ru (ru f gm ((k - (c + 1) : Nat) : Int)) (gm + 1) (-1) i = f i := fun i hi => by rw [ru_ne _ _ (by omega), ru_ne _ _ (by omega)]
    have hr3 : ru (ru f gm ((k - (c + 1) : Nat) : Int)) (gm + 1) (-1) gm = ((k - (c + 1) : Nat) : Int) := by rw [ru_ne _ _ (by omega), ru_at]
    by_cases e : clF τ f gm ((k - (c + 1) : Nat) : Int) = true
    · rw [if_pos e, mpL_iff hn hx c _ (by omega)]
      constructor
      · rintro ⟨y, h1, h2⟩
        exact ⟨y, xt_cg hr1 h1, by omega⟩
      · rintro ⟨y, h1, h2⟩
        refine ⟨y, xt_cg (fun i hi => (hr1 i hi).symm) h1, ?_⟩
        obtain ⟨h, h3, h4, h5⟩ := clF_iff.mp e
        have h6 := h1.2.2 gm (by omega) (by omega) h h3
        rw [h1.1 h h3, h4] at h6
        have h7 : ¬ ((k - (c + 1) : Nat) : Int) = y gm := fun g => h6 ⟨g, h5⟩
        omega
    · rw [if_neg e]
      have hcl : ∀ h, h < gm → ¬ (f h = ((k - (c + 1) : Nat) : Int) ∧ meetP τ gm h = true) := fun h hh g => e (clF_iff.mpr ⟨h, hh, g.1, g.2⟩)
      by_cases e2 : (nx (ru (ru f gm ((k - (c + 1) : Nat) : Int)) (gm + 1) (-1))).1 = true
      · rw [if_pos e2]
        refine ⟨fun _ => ?_, fun _ => e2⟩
        obtain ⟨y, hy⟩ := (hx _).mp e2
        obtain ⟨h1, h2⟩ := xt_up hr2 hr3 (by omega) hcl hy
        exact ⟨y, h1, by omega⟩
      · rw [if_neg e2, mpL_iff hn hx c _ (by omega)]
        have hr4 : ∀ i, i < gm → (nx (ru (ru f gm ((k - (c + 1) : Nat) : Int)) (gm + 1) (-1))).2 i = f i := fun i hi => by rw [hn _ _ (by omega)]; exact hr2 i hi
        constructor
        · rintro ⟨y, h1, h2⟩
          exact ⟨y, xt_cg hr4 h1, by omega⟩
        · rintro ⟨y, h1, h2⟩
          refine ⟨y, xt_cg (fun i hi => (hr4 i hi).symm) h1, ?_⟩
          have h7 : ¬ y gm = ((k - (c + 1) : Nat) : Int) := fun g => e2 ((hx _).mpr ⟨y, xt_dn hr2 hr3 g h1⟩)
          omega
theorem mp_iff : ∀ (m gm : Nat) (f : Nat → Int), (mp τ k m gm f).1 = true ↔ ∃ y, xt (meetP τ) k gm m f y
  | 0, gm, f => by
    rw [mp]
    exact ⟨fun _ => ⟨f, fun _ _ => rfl, fun i h1 h2 => by omega, fun i h1 h2 => by omega⟩, fun _ => rfl⟩
  | m + 1, gm, f => by
    rw [mp, mpL_iff (m := m) (fun f' j h => mp_fix m (gm + 1) f' j h) (fun f' => mp_iff m (gm + 1) f') k f (Nat.le_refl _)]
    constructor
    · rintro ⟨y, h1, h2⟩
      exact ⟨y, h1⟩
    · rintro ⟨y, h1⟩
      have := h1.2.1 gm (by omega) (by omega)
      exact ⟨y, h1, by omega⟩
def swD (a b v : Int) : Int := if v = a then b else if v = b then a else v
theorem swD_inj {a b u v : Int} (h : swD a b u = swD a b v) : u = v := by
  unfold swD at h
  by_cases h1 : u = a
  · by_cases h2 : v = a
    · omega
    · rw [if_pos h1, if_neg h2] at h
      by_cases h3 : v = b
      · rw [if_pos h3] at h; omega
      · rw [if_neg h3] at h; omega
  · rw [if_neg h1] at h
    by_cases h2 : v = a
    · rw [if_pos h2] at h
      by_cases h3 : u = b
      · rw [if_pos h3] at h; omega
      · rw [if_neg h3] at h; omega
    · rw [if_neg h2] at h
      by_cases h3 : u = b
      · rw [if_pos h3] at h
        by_cases h4 : v = b
        · omega
        · rw [if_neg h4] at h; omega
      · rw [if_neg h3] at h
        by_cases h4 : v = b
        · rw [if_pos h4] at h; omega
        · rw [if_neg h4] at h; exact h
theorem xt_sw {M : Nat → Nat → Bool} {gm m u : Nat} {a b : Int} {f y : Nat → Int} (hx : xt M k gm m f y) (hf : ∀ i, i < gm → f i < (u : Int)) (ha : (u : Int) ≤ a ∧ a < k) (hb : (u : Int) ≤ b ∧ b < k) : xt M k gm m f (fun i => swD a b (y i)) := by
  refine ⟨fun i hi => ?_, fun i h1 h2 => ?_, fun i h1 h2 h hh g => ?_⟩
  · have h1 := hx.1 i hi
    have h2 := hf i hi
    show swD a b (y i) = f i
    unfold swD
    rw [if_neg (by omega), if_neg (by omega)]
    exact h1
  · have h3 := hx.2.1 i h1 h2
    show 0 ≤ swD a b (y i) ∧ swD a b (y i) < (k : Int)
    unfold swD
    split
    · omega
    · split
      · omega
      · exact h3
  · exact hx.2.2 i h1 h2 h hh ⟨swD_inj g.1, g.2⟩
theorem flp_bit {w : tS} {h a d : Nat} (hha : ¬ h = a) (t e : Nat) : (flpT w h a d 36 t).toNat.testBit e = ((w 36 t).toNat.testBit e ^^ decide (e = d ∧ (t = h ∨ t = a))) := by
  have key : flpT w h a d 36 t = if t = a then ((((w 36 a).toNat ^^^ 2 ^ d : Nat)) : Int) else if t = h then ((((w 36 h).toNat ^^^ 2 ^ d : Nat)) : Int) else w 36 t := by
    simp only [flpT, tU]
    have h0 : ¬ a = h := fun g => hha g.symm
    by_cases e1 : t = a
    · simp [e1, h0]
    · simp [e1]
  rw [key]
  by_cases e1 : t = a
  · rw [if_pos e1, Int.toNat_natCast, Nat.testBit_xor, bit2, e1]
    simp
  · rw [if_neg e1]
    by_cases e2 : t = h
    · rw [if_pos e2, Int.toNat_natCast, Nat.testBit_xor, bit2, e2]
      simp
    · rw [if_neg e2]
      simp [e1, e2]
def mkB (w : tS) (H A : Nat → Nat) (f : Nat → Int) (gm : Nat) : Prop := ∀ t d, t < 20 → ((w 36 t).toNat.testBit d = true ↔ ∃ i, i < gm ∧ f i = (d : Int) ∧ (H i = t ∨ A i = t))
def sameB (w w' : tS) : Prop := ∀ t d, t < 20 → (w' 36 t).toNat.testBit d = (w 36 t).toNat.testBit d
theorem mkB_same {w w' : tS} {H A : Nat → Nat} {f : Nat → Int} {gm : Nat} (h : mkB w H A f gm) (hs : sameB w w') : mkB w' H A f gm := fun t d ht => by rw [hs t d ht]; exact h t d ht
/-- how the two answers agree -/
def agP (g gm : Nat) (w : tS) (q : Bool × tS) (q' : Bool × (Nat → Int)) : Prop := q.1 = q'.1 ∧ (q.1 = true → ∀ i, gm ≤ i → i < g → q.2 35 i = q'.2 i) ∧ (q.1 = false → sameB w q.2)
theorem pf_mp {H A : Nat → Nat} {g : Nat} (hM : ∀ i h, i < g → h < g → (meetP τ i h = true ↔ (H i = H h ∨ H i = A h ∨ A i = H h ∨ A i = A h))) (hH : ∀ i, i < g → H i < 20 ∧ A i < 20 ∧ ¬ H i = A i) : ∀ (m gm used : Nat) (w : tS) (f : Nat → Int), gm + m = g → used ≤ k → (∀ i, i < gm → 0 ≤ f i ∧ f i < (used : Int)) → mkB w H A f gm → agP g gm w (pf H A k m gm used w) (mp τ k m gm f)
  | 0, gm, used, w, f, hg, _, _, _ => ⟨rfl, fun _ i h1 h2 => by omega, fun h => absurd h (by simp [pf])⟩
  | m + 1, gm, used, w, f0, hg, hu, hf0, hB0 => by
    have hgm : gm < g := by omega
    obtain ⟨h20, a20, hha⟩ := hH gm hgm
    rw [pf, mp]
    have loop : ∀ (m2 dt : Nat) (w : tS) (f : Nat → Int), dt + m2 = (if k < used + 1 then k else used + 1) → (∀ i, i < gm → f i = f0 i) → mkB w H A f0 gm → (∀ d, d < dt → ¬ ∃ y, xt (meetP τ) k gm (m + 1) f0 y ∧ y gm = (d : Int)) → agP g gm w (pfL (fun u w => pf H A k m (gm + 1) u w) (H gm) (A gm) gm used m2 dt w) (mpL τ (fun f' => mp τ k m (gm + 1) f') gm k (k - dt) f) := by
      intro m2
      induction m2 with
      | zero =>
        intro dt w f hdt hf hB hno
        have hmp : ¬ (mpL τ (fun f' => mp τ k m (gm + 1) f') gm k (k - dt) f).1 = true := by
          rw [mpL_iff (m := m) (fun f' j h => mp_fix m (gm + 1) f' j h) (fun f' => mp_iff m (gm + 1) f') _ _ (by omega)]
          rintro ⟨y, h1, h2⟩
          have h3 := xt_cg hf h1
          have h4 := h3.2.1 gm (by omega) (by omega)
          by_cases e : k < used + 1
          · rw [if_pos e] at hdt
            omega
          · rw [if_neg e] at hdt
            refine hno used (by omega) ⟨_, xt_sw (a := y gm) (b := (used : Int)) (u := used) h3 (fun i hi => (hf0 i hi).2) ⟨by omega, by omega⟩ ⟨by omega, by omega⟩, ?_⟩
            show swD (y gm) (used : Int) (y gm) = _
            unfold swD
            rw [if_pos rfl]
        rw [pfL]
        exact ⟨by simpa using hmp, fun h => absurd h (by show ¬ false = true; decide), fun _ t d _ => rfl⟩
      | succ m2 ih =>
        intro dt w f hdt hf hB hno
        have hdk : dt < k := by split at hdt <;> omega
        have hdu : dt ≤ used := by split at hdt <;> omega
        obtain ⟨c, hc⟩ : ∃ c, k - dt = c + 1 := ⟨k - dt - 1, by omega⟩
        have hcd : k - (c + 1) = dt := by omega
        have hc2 : k - (dt + 1) = c := by omega
        rw [hc, pfL, mpL, hcd]
        have hcl : (((w 36 (H gm)).toNat ||| (w 36 (A gm)).toNat).testBit dt = true) ↔ clF τ f gm (dt : Int) = true := by
          rw [Nat.testBit_or, Bool.or_eq_true, hB _ _ h20, hB _ _ a20, clF_iff]
          constructor
          · rintro (⟨i, h1, h2, h3⟩ | ⟨i, h1, h2, h3⟩)
            · refine ⟨i, h1, by rw [hf i h1]; exact h2, (hM gm i hgm (by omega)).mpr ?_⟩
              rcases h3 with h3 | h3
              · exact Or.inl h3.symm
              · exact Or.inr (Or.inl h3.symm)
            · refine ⟨i, h1, by rw [hf i h1]; exact h2, (hM gm i hgm (by omega)).mpr ?_⟩
              rcases h3 with h3 | h3
              · exact Or.inr (Or.inr (Or.inl h3.symm))
              · exact Or.inr (Or.inr (Or.inr h3.symm))
          · rintro ⟨i, h1, h2, h3⟩
            rw [hf i h1] at h2
            rcases (hM gm i hgm (by omega)).mp h3 with h4 | h4 | h4 | h4
            · exact Or.inl ⟨i, h1, h2, Or.inl h4.symm⟩
            · exact Or.inl ⟨i, h1, h2, Or.inr h4.symm⟩
            · exact Or.inr ⟨i, h1, h2, Or.inl h4.symm⟩
            · exact Or.inr ⟨i, h1, h2, Or.inr h4.symm⟩
        by_cases e : clF τ f gm (dt : Int) = true
        · rw [if_pos (hcl.mpr e), if_pos e]
          have := ih (dt + 1) w (ru f gm (dt : Int)) (by omega) (fun i hi => by rw [ru_ne _ _ (by omega)]; exact hf i hi) hB (fun d hd => by
            by_cases e2 : d = dt
            · subst e2
              rintro ⟨y, h1, h2⟩
              obtain ⟨h, h3, h4, h5⟩ := clF_iff.mp e
              refine h1.2.2 gm (by omega) (by omega) h h3 ⟨?_, h5⟩
              rw [h1.1 h h3, h2, ← hf h h3, h4]
            · exact hno d (by omega))
          rw [hc2] at this
          exact this
        · rw [if_neg (fun g => e (hcl.mp g)), if_neg e]
          have hb1 : (w 36 (H gm)).toNat.testBit dt = false ∧ (w 36 (A gm)).toNat.testBit dt = false := by
            have h9 : ¬ ((w 36 (H gm)).toNat ||| (w 36 (A gm)).toNat).testBit dt = true := fun g => e (hcl.mp g)
            rw [Nat.testBit_or, Bool.or_eq_true] at h9
            constructor
            · cases e9 : (w 36 (H gm)).toNat.testBit dt
              · rfl
              · exact absurd (Or.inl e9) h9
            · cases e9 : (w 36 (A gm)).toNat.testBit dt
              · rfl
              · exact absurd (Or.inr e9) h9
          have hr2 : ∀ i, i < gm → ru (ru f gm (dt : Int)) (gm + 1) (-1) i = f0 i := fun i hi => by rw [ru_ne _ _ (by omega), ru_ne _ _ (by omega)]; exact hf i hi
          have hr3 : ru (ru f gm (dt : Int)) (gm + 1) (-1) gm = (dt : Int) := by rw [ru_ne _ _ (by omega), ru_at]
          generalize ru (ru f gm (dt : Int)) (gm + 1) (-1) = f1 at hr2 hr3 ⊢
          have hB1 : mkB (flpT w (H gm) (A gm) dt) H A f1 (gm + 1) := by
            intro t d ht
            rw [flp_bit hha]
            have hw := hB t d ht
            constructor
            · intro h
              by_cases e3 : d = dt ∧ (t = H gm ∨ t = A gm)
              · refine ⟨gm, by omega, by rw [hr3, e3.1], ?_⟩
                rcases e3.2 with e4 | e4
                · exact Or.inl e4.symm
                · exact Or.inr e4.symm
              · rw [decide_eq_false e3, Bool.xor_false] at h
                obtain ⟨i, h1, h2, h3⟩ := hw.mp h
                exact ⟨i, by omega, by rw [hr2 i h1]; exact h2, h3⟩
            · rintro ⟨i, h1, h2, h3⟩
              by_cases e3 : i = gm
              · subst e3
                have hd : d = dt := by rw [hr3] at h2; omega
                have ht2 : t = H i ∨ t = A i := by
                  rcases h3 with h3 | h3
                  · exact Or.inl h3.symm
                  · exact Or.inr h3.symm
                rw [decide_eq_true ⟨hd, ht2⟩, hd]
                rcases ht2 with h4 | h4
                · rw [h4, hb1.1]; rfl
                · rw [h4, hb1.2]; rfl
              · have hii : i < gm := by omega
                rw [hr2 i hii] at h2
                have hbt := hw.mpr ⟨i, hii, h2, h3⟩
                have e4 : ¬ (d = dt ∧ (t = H gm ∨ t = A gm)) := by
                  rintro ⟨g1, g2⟩
                  rw [g1] at hbt
                  rcases g2 with g2 | g2
                  · rw [g2, hb1.1] at hbt; exact absurd hbt (by decide)
                  · rw [g2, hb1.2] at hbt; exact absurd hbt (by decide)
                rw [decide_eq_false e4, Bool.xor_false]
                exact hbt
          have hrec := pf_mp hM hH m (gm + 1) (if used < dt + 1 then dt + 1 else used) (flpT w (H gm) (A gm) dt) f1 (by omega) (by split <;> omega) (fun i hi => by
            by_cases e3 : i = gm
            · subst e3; rw [hr3]; split <;> omega
            · have := hf0 i (by omega); rw [hr2 i (by omega)]; split <;> omega) hB1
          have hfix := mp_fix (τ := τ) (k := k) m (gm + 1) f1
          have hmi := mp_iff (τ := τ) (k := k) m (gm + 1) f1
          simp only []
          generalize (if used < dt + 1 then dt + 1 else used) = u1 at hrec ⊢
          generalize pf H A k m (gm + 1) u1 (flpT w (H gm) (A gm) dt) = q at hrec ⊢
          generalize mp τ k m (gm + 1) f1 = q' at hrec hfix hmi ⊢
          obtain ⟨r1, r2, r3⟩ := hrec
          by_cases e5 : q.1 = true
          · rw [if_pos e5, if_pos (by rw [← r1]; exact e5)]
            refine ⟨by rw [← r1, e5], fun _ i h1 h2 => ?_, fun h => absurd h (by show ¬ true = false; decide)⟩
            show tU q.2 35 gm (dt : Int) 35 i = q'.2 i
            by_cases e6 : i = gm
            · subst e6
              rw [hfix i (by omega), hr3]
              simp [tU]
            · simp only [tU]
              rw [if_neg (fun g => e6 g.2)]
              exact r2 e5 i (by omega) h2
          · have e5' : q.1 = false := by simpa using e5
            rw [if_neg e5, if_neg (by rw [← r1]; exact e5)]
            have hs : sameB w (flpT q.2 (H gm) (A gm) dt) := by
              intro t d ht
              rw [flp_bit hha, r3 e5' t d ht, flp_bit hha, Bool.xor_assoc, Bool.xor_self, Bool.xor_false]
            have hno' : ¬ ∃ y, xt (meetP τ) k (gm + 1) m f1 y := fun g => by
              have := hmi.mpr g
              rw [← r1] at this
              exact e5 this
            have := ih (dt + 1) (flpT q.2 (H gm) (A gm) dt) q'.2 (by omega) (fun i hi => by rw [hfix i (by omega)]; exact hr2 i hi) (mkB_same hB hs) (fun d hd => by
              by_cases e2 : d = dt
              · subst e2
                rintro ⟨y, h1, h2⟩
                exact hno' ⟨y, xt_dn (fun i hi => hr2 i hi) hr3 h2 h1⟩
              · exact hno d (by omega))
            rw [hc2] at this
            exact ⟨this.1, this.2.1, fun h t d ht => by rw [this.2.2 h t d ht, hs t d ht]⟩
    exact loop _ 0 w f0 (by omega) (fun _ _ => rfl) hB0 (fun d hd => by omega)
end ZP1
