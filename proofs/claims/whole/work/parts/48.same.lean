/-! the draft in the reference's rows; what can be chosen is the same on both sides (written by wip/gen/t37.py) -/
def triC (x : Int) : Int := if x < 0 then x else x / 2
def MR (w D : tS) : Prop := ∀ r t, r < 8 → t < 20 → w 53 (20 * r + t) = triC (D r t) ∧ (0 ≤ D r t → w 54 (20 * r + t) = D r t % 2)
/-- the wishes of the class's rows (τ) and of the reference's (w) -/
def WR (τ w : tS) (n p f : Nat) : Prop := (∀ t r, t < 20 → r < 39 → ((τ 5 r).toNat.testBit t = true ↔ ¬ w 38 (2 * (39 * t + r)) = 0)) ∧ (∀ t r, t < 20 → r < 39 → ((τ 6 r).toNat.testBit t = true ↔ ¬ w 38 (2 * (39 * t + r) + 1) = 0)) ∧ (∀ i, i < p → w 39 i = τ 7 i ∧ w 40 i = τ 8 i ∧ ¬ τ 7 i = τ 8 i ∧ (0 ≤ τ 7 i ∧ τ 7 i < n) ∧ (0 ≤ τ 8 i ∧ τ 8 i < n)) ∧ (∀ i, i < f → w 41 i = τ 9 i ∧ w 42 i = τ 10 i ∧ w 43 i = τ 11 i) ∧ w 37 11 = τ 4 10
theorem anyN_congr {p q : Nat → Bool} {n : Nat} (h : ∀ i, i < n → p i = q i) : anyN p n = anyN q n := by
  induction n with
  | zero => rfl
  | succ n ih => rw [anyN, anyN, ih (fun i hi => h i (by omega)), h n (by omega)]
theorem awr_congr {u v : Nat → Int} {n : Nat} (h : ∀ i, i < n → (u i = 0 ↔ v i = 0)) : awr u n = awr v n := by
  induction n with
  | zero => rfl
  | succ n ih =>
    rw [awr, awr, ih (fun i hi => h i (by omega))]
    have := h n (by omega)
    by_cases e : u n = 0
    · rw [if_pos e, if_pos (this.mp e)]
    · rw [if_neg e, if_neg (fun g => e (this.mpr g))]
theorem ve_0 (x : Int) : (veC x = 0 ↔ (0 ≤ x ∧ x % 2 = 0)) ∧ (veC x = 1 ↔ (0 ≤ x ∧ ¬ x % 2 = 0)) := by
  unfold veC
  constructor
  · split <;> omega
  · split <;> omega
theorem tri_n (x : Int) : (0 ≤ triC x ↔ 0 ≤ x) := by
  unfold triC
  split <;> omega
section ZC1
variable {τ w D : tS} {n p f : Nat}
theorem mr_53 (h : MR w D) {r t : Nat} (hr : r < 8) (ht : t < 20) : w 53 (20 * r + t) = triC (D r t) := (h r t hr ht).1
theorem mr_54 (h : MR w D) {r t : Nat} (hr : r < 8) (ht : t < 20) (h0 : 0 ≤ D r t) : w 54 (20 * r + t) = D r t % 2 := (h r t hr ht).2 h0
theorem mr_met (h : MR w D) (hD : DOk D n) {r t o : Nat} (hr : r < 7) (ht : t < 20) (hO : ∀ i s, r < i → D i s = -2) : anyN (hmP w t o) (r + 1) = dMet D t o := by
  rw [Bool.eq_iff_iff, dMet, anyN_iff, anyN_iff]
  constructor
  · rintro ⟨i, hi, e⟩
    unfold hmP at e
    rw [mr_53 h (by omega) ht] at e
    have := of_decide_eq_true e
    unfold triC at this
    have hb := hD.1 i t
    refine ⟨i, by omega, decide_eq_true ?_⟩
    split at this <;> omega
  · rintro ⟨i, hi, e⟩
    have := of_decide_eq_true e
    have hir : i < r + 1 := by
      by_cases g : i < r + 1
      · exact g
      · have := hO i t (by omega)
        omega
    refine ⟨i, hir, ?_⟩
    unfold hmP
    rw [mr_53 h (by omega) ht]
    refine decide_eq_true ?_
    unfold triC
    rw [if_neg (by omega)]
    exact this.2
theorem mr_bye (h : MR w D) (hD : DOk D n) {r t : Nat} (hr : r < 7) (ht : t < 20) (ho : D r t = -2) (hO : ∀ i s, r < i → D i s = -2) : anyN (hbP w t) r = dBye D t := by
  rw [Bool.eq_iff_iff, dBye, anyN_iff, anyN_iff]
  constructor
  · rintro ⟨i, hi, e⟩
    unfold hbP at e
    rw [mr_53 h (by omega) ht] at e
    have := of_decide_eq_true e
    unfold triC at this
    refine ⟨i, by omega, decide_eq_true ?_⟩
    split at this <;> omega
  · rintro ⟨i, hi, e⟩
    have := of_decide_eq_true e
    have hir : i < r := by
      by_cases g : i < r
      · exact g
      · by_cases g2 : i = r
        · subst g2; omega
        · have := hO i t (by omega)
          omega
    refine ⟨i, hir, ?_⟩
    unfold hbP
    rw [mr_53 h (by omega) ht]
    refine decide_eq_true ?_
    unfold triC
    rw [if_pos (by omega)]
    exact this
theorem mr_away (h : MR w D) {r a : Nat} (hr : r < 8) (ha : a < 8) : awr (awV w a) r = awr (fun i : Nat => enc τ D 0 15 ((i : Int) * 8 + (a : Int)).toNat) r := by
  by_cases h7 : r ≤ 7
  · refine awr_congr (fun i hi => ?_)
    rw [show ((i : Int) * 8 + (a : Int)).toNat = i * 8 + a by omega, enc_15 _ _ _ _ _ (by omega) ha, (ve_0 _).1]
    unfold awV
    rw [mr_53 h (by omega) (by omega)]
    have hm := mr_54 h (r := i) (t := a) (by omega) (by omega)
    have ht := tri_n (D i a)
    constructor
    · intro g
      by_cases e : 0 ≤ triC (D i a) ∧ w 54 (20 * i + a) = 0
      · have h0 := ht.mp e.1
        rw [hm h0] at e
        exact ⟨h0, e.2⟩
      · rw [if_neg e] at g
        exact absurd g (by decide)
    · intro g
      rw [if_pos ⟨ht.mpr g.1, by rw [hm g.1]; exact g.2⟩]
  · omega
theorem mr_share (h : MR w D) (hW : WR τ w n p f) (hn : n ≤ 8) {r hh : Nat} (hr : r < 7) : anyN (swP w r hh) p = anyN (grdP (enc τ D 0) (r : Int) (hh : Int)) p := by
  refine anyN_congr (fun i hi => ?_)
  obtain ⟨e1, e2, e3, e4, e5⟩ := hW.2.2.1 i hi
  unfold swP grdP
  rw [e1, e2, enc_ne _ _ _ 7 _ (by decide), enc_ne _ _ _ 8 _ (by decide)]
  obtain ⟨a, ha⟩ := Int.eq_ofNat_of_zero_le e4.1
  obtain ⟨b, hb⟩ := Int.eq_ofNat_of_zero_le e5.1
  rw [ha, hb]
  have ha8 : a < 8 := by omega
  have hb8 : b < 8 := by omega
  rw [show (20 * (r : Int) + (a : Int)).toNat = 20 * r + a by omega, show (20 * (r : Int) + (b : Int)).toNat = 20 * r + b by omega, show ((r : Int) * 8 + (a : Int)).toNat = r * 8 + a by omega, show ((r : Int) * 8 + (b : Int)).toNat = r * 8 + b by omega, enc_15 _ _ _ _ _ hr ha8, enc_15 _ _ _ _ _ hr hb8, mr_53 h (by omega) (by omega), mr_53 h (by omega) (by omega)]
  have ma := mr_54 h (r := r) (t := a) (by omega) (by omega)
  have mb := mr_54 h (r := r) (t := b) (by omega) (by omega)
  have va := (ve_0 (D r a)).2
  have vb := (ve_0 (D r b)).2
  have ta := tri_n (D r a)
  have tb := tri_n (D r b)
  have hab : ¬ (a : Int) = (b : Int) := by omega
  refine decide_eq_decide.mpr ?_
  rw [va, vb, ta, tb]
  constructor
  · rintro (⟨g1, g2, g3⟩ | ⟨g1, g2, g3, g4⟩)
    · exact Or.inl ⟨g1, g2, by rw [mb g2] at g3; exact g3⟩
    · exact Or.inr ⟨g2, g3, by rw [ma g3] at g4; exact g4⟩
  · rintro (⟨g1, g2, g3⟩ | ⟨g1, g2, g3⟩)
    · exact Or.inl ⟨g1, g2, by rw [mb g2]; exact g3⟩
    · exact Or.inr ⟨fun e => hab (by omega), g1, g2, by rw [ma g2]; exact g3⟩
theorem mr_fixed (hW : WR τ w n p f) {r hh a : Nat} (hha : ¬ hh = a) : anyN (kfP w r hh a) f = anyN (fixA (enc τ D 0) (r : Int) (hh : Int) (a : Int)) f := by
  refine anyN_congr (fun i hi => ?_)
  obtain ⟨e1, e2, e3⟩ := hW.2.2.2.1 i hi
  unfold kfP fixA
  rw [e1, e2, e3, enc_ne _ _ _ 9 _ (by decide), enc_ne _ _ _ 10 _ (by decide), enc_ne _ _ _ 11 _ (by decide)]
  have hx : ¬ (hh : Int) = (a : Int) := by omega
  generalize τ 9 i = x at *
  generalize τ 10 i = y at *
  generalize τ 11 i = z at *
  refine decide_eq_decide.mpr ?_
  by_cases hz : z = (r : Int)
  · rw [if_pos hz, if_pos hz]
    grind
  · rw [if_neg hz, if_neg hz]
    grind
theorem mr_may (h : MR w D) (hW : WR τ w n p f) (hn : n ≤ 8) {r hh a : Nat} (hr : r < 7) (hh8 : hh < 8) (ha8 : a < 8) (hha : ¬ hh = a) : mayF w p f r hh a = alwP (enc τ D 0) p f r hh a := by
  unfold mayF alwP
  rw [mr_share h hW hn hr, mr_fixed (D := D) hW hha, mr_away (τ := τ) h (by omega) ha8, hW.2.2.2.2, enc_ne _ _ _ 4 _ (by decide), enc_ne _ _ _ 5 _ (by decide), enc_ne _ _ _ 6 _ (by decide)]
  have b1 := hW.1 hh r (by omega) (by omega)
  have b2 := hW.2.1 a r (by omega) (by omega)
  refine decide_eq_decide.mpr ?_
  rw [b1, b2]
  simp only [Bool.not_eq_true, Decidable.not_not]
  constructor
  · rintro ⟨g1, g2, g3, g4, g5⟩
    exact ⟨g1, g2, g4, g3, g5⟩
  · rintro ⟨g1, g2, g3, g4, g5⟩
    exact ⟨g1, g2, g4, g3, g5⟩
theorem mr_can (h : MR w D) (hD : DOk D n) (hW : WR τ w n p f) (hn : n ≤ 8) {r t c : Nat} (hr : r < 7) (ht : t < n) (ho : D r t = -2) (hO : ∀ i s, r < i → D i s = -2) (hc : c ≤ 2 * n) : canF w n p f r t c = okF τ D n p f r t c := by
  unfold canF okF
  by_cases hb : c / 2 = n
  · rw [if_pos hb, if_pos hb]
    unfold restF
    rw [mr_bye h hD hr (by omega) ho hO]
    have : anyN (mrP w r t) f = anyN (byeP τ (r : Int) (t : Int)) f := by
      refine anyN_congr (fun i hi => ?_)
      obtain ⟨e1, e2, e3⟩ := hW.2.2.2.1 i hi
      unfold mrP byeP
      rw [e1, e2, e3]
    rw [this]
  · rw [if_neg hb, if_neg hb, mr_53 h (by omega) (by omega), mr_met h hD hr (by omega) hO]
    have tt : (triC (D r (c / 2)) = -2 ↔ D r (c / 2) = -2) := by
      unfold triC
      split <;> omega
    by_cases hct : c / 2 = t
    · simp [hct]
    · have hm : mayF w p f r (if c % 2 = 0 then t else c / 2) (if c % 2 = 0 then c / 2 else t) = alwP (enc τ D 0) p f r (if c % 2 = 0 then t else c / 2) (if c % 2 = 0 then c / 2 else t) := by
        by_cases e : c % 2 = 0
        · rw [if_pos e, if_pos e]
          exact mr_may h hW hn hr (by omega) (by omega) (fun g => hct g.symm)
        · rw [if_neg e, if_neg e]
          exact mr_may h hW hn hr (by omega) (by omega) hct
      rw [hm]
      refine decide_eq_decide.mpr ?_
      rw [tt]
end ZC1
