/-! the small methods of the search (written by wip/gen/t14.py) -/
/-- flipMeeting, as it writes -/
def flmT (τ : tS) (r a b : Nat) : tS :=
  let τ1 := tU τ 16 r ((((τ 16 r).toNat ^^^ (2 ^ a ||| 2 ^ b) : Nat)) : Int)
  let τ2 := tU τ1 17 a ((((τ1 17 a).toNat ^^^ 2 ^ b : Nat)) : Int)
  tU τ2 17 b ((((τ2 17 b).toNat ^^^ 2 ^ a : Nat)) : Int)
def flbT (τ : tS) (r t : Nat) : tS :=
  let τ1 := tU τ 16 r ((((τ 16 r).toNat ^^^ 2 ^ t : Nat)) : Int)
  tU τ1 12 4 ((((τ1 12 4).toNat ^^^ 2 ^ t : Nat)) : Int)
theorem p8 {a : Nat} (h : a < 8) : 2 ^ a < 256 := Nat.pow_lt_pow_right (a := 2) (m := a) (n := 8) (by decide) h
theorem p8o {a b : Nat} (h : a < 8) (h2 : b < 8) : 2 ^ a ||| 2 ^ b < 256 := Nat.or_lt_two_pow (n := 8) (p8 h) (p8 h2)
theorem p8x {m x : Nat} (h : m < 256) (h2 : x < 256) : m ^^^ x < 256 := Nat.xor_lt_two_pow (n := 8) h h2
theorem bit2 (a i : Nat) : (2 ^ a).testBit i = decide (i = a) := by
  rw [Nat.testBit_two_pow]
  by_cases e : a = i
  · simp [e]
  · have : ¬ i = a := fun g => e g.symm
    simp [e, this]
/-- the world of which the cells of a row 14 or 15 are written -/
theorem tP13_at (τ : tS) {r t : Nat} (x y : Int) (ht : t < 8) (q j : Nat) : tP13 τ (r : Int) (t : Int) x y q j = if q = 15 ∧ j / 8 = r ∧ j % 8 = t then y else if q = 14 ∧ j / 8 = r ∧ j % 8 = t then x else τ q j := by
  have e : ((r : Int) * 8 + (t : Int)).toNat = r * 8 + t := by omega
  have c : (j = r * 8 + t) ↔ (j / 8 = r ∧ j % 8 = t) := by omega
  simp only [tP13, tU, e, c]
theorem flmT_ne (τ : tS) (r a b q j : Nat) (h : ¬ (q = 16 ∨ q = 17)) : flmT τ r a b q j = τ q j := by
  simp only [flmT, tU]
  rw [if_neg (by omega), if_neg (by omega), if_neg (by omega)]
theorem flmT_16 (τ : tS) (r a b j : Nat) : flmT τ r a b 16 j = if j = r then ((((τ 16 r).toNat ^^^ (2 ^ a ||| 2 ^ b) : Nat)) : Int) else τ 16 j := by
  simp [flmT, tU]
theorem flmT_17 (τ : tS) (r a b j : Nat) (hab : a ≠ b) : flmT τ r a b 17 j = if j = b then ((((τ 17 b).toNat ^^^ 2 ^ a : Nat)) : Int) else if j = a then ((((τ 17 a).toNat ^^^ 2 ^ b : Nat)) : Int) else τ 17 j := by
  have : ¬ b = a := fun g => hab g.symm
  simp [flmT, tU, this]
theorem foC_dG {D : tS} {r h a i t : Nat} : foC (dG D r h a i t) = if i = r ∧ t = a then (h : Int) else if i = r ∧ t = h then (a : Int) else foC (D i t) := by
  rw [dG_at]
  split
  · unfold foC; rw [if_neg (by omega)]; omega
  · split
    · unfold foC; rw [if_neg (by omega)]; omega
    · rfl
theorem veC_dG {D : tS} {r h a i t : Nat} : veC (dG D r h a i t) = if i = r ∧ t = a then 0 else if i = r ∧ t = h then 1 else veC (D i t) := by
  rw [dG_at]
  split
  · unfold veC; rw [if_neg (by omega)]; omega
  · split
    · unfold veC; rw [if_neg (by omega)]; omega
    · rfl
theorem dG_busym {D : tS} {n r h a : Nat} (hn : n ≤ 8) (g : gOk D n r h a) (j : Nat) : msk (dBusy (dG D r h a) j) 8 = if j = r then msk (dBusy D r) 8 ^^^ (2 ^ h ||| 2 ^ a) else msk (dBusy D j) 8 := by
  have g' := g
  obtain ⟨hr, h1, h2, h3, h4, h5, h6, h7⟩ := g
  split
  · rename_i e
    subst e
    refine (msk_xor (p8o (by omega) (by omega)) (fun i _ => ?_)).symm
    rw [dG_busy g', Nat.testBit_or, bit2, bit2]
    simp
  · rename_i e
    refine msk_ext (fun i _ => ?_)
    rw [dG_busy g']
    simp [e]
theorem dG_metm {D : tS} {n r h a : Nat} (hn : n ≤ 8) (g : gOk D n r h a) (j : Nat) : msk (dMet (dG D r h a) j) 8 = if j = a then msk (dMet D a) 8 ^^^ 2 ^ h else if j = h then msk (dMet D h) 8 ^^^ 2 ^ a else msk (dMet D j) 8 := by
  have g' := g
  obtain ⟨hr, h1, h2, h3, h4, h5, h6, h7⟩ := g
  split
  · rename_i e
    subst e
    refine (msk_xor (p8 (by omega)) (fun i _ => ?_)).symm
    rw [dG_met g', bit2]
    have : ¬ j = h := fun e => h3 e.symm
    simp [this]
  · rename_i e
    split
    · rename_i e2
      subst e2
      refine (msk_xor (p8 (by omega)) (fun i _ => ?_)).symm
      rw [dG_met g', bit2]
      simp [e]
    · rename_i e2
      refine msk_ext (fun i _ => ?_)
      rw [dG_met g']
      simp [e, e2]
theorem dG_byem {D : tS} {n r h a : Nat} (g : gOk D n r h a) : msk (dBye (dG D r h a)) 8 = msk (dBye D) 8 := msk_ext (fun i _ => dG_bye g i)
theorem enc_put {τ D : tS} {n r h a b b' : Nat} (hn : n ≤ 8) (g : gOk D n r h a) : flmT (tP13 (tP13 (tU (enc τ D b) 12 6 (b' : Int)) (r : Int) (h : Int) (a : Int) 1) (r : Int) (a : Int) (h : Int) 0) r h a = enc τ (dG D r h a) b' := by
  have g' := g
  obtain ⟨hr, h1, h2, h3, h4, h5, h6, h7⟩ := g
  have hh : h < 8 := by omega
  have ha : a < 8 := by omega
  funext q j
  by_cases q16 : q = 16
  · subst q16
    have e : ∀ j, tP13 (tP13 (tU (enc τ D b) 12 6 (b' : Int)) (r : Int) (h : Int) (a : Int) 1) (r : Int) (a : Int) (h : Int) 0 16 j = enc τ D b 16 j := fun j => by
      rw [tP13_at _ _ _ ha, tP13_at _ _ _ hh]
      simp [tU]
    rw [flmT_16, e, e, enc_16 _ _ _ _ hr]
    by_cases ej : j < 7
    · rw [enc_16 _ _ _ _ ej, enc_16 _ _ _ _ ej, dG_busym hn g']
      split <;> simp
    · rw [if_neg (by omega)]
      simp [enc, ej]
  · by_cases q17 : q = 17
    · subst q17
      have e : ∀ j, tP13 (tP13 (tU (enc τ D b) 12 6 (b' : Int)) (r : Int) (h : Int) (a : Int) 1) (r : Int) (a : Int) (h : Int) 0 17 j = enc τ D b 17 j := fun j => by
        rw [tP13_at _ _ _ ha, tP13_at _ _ _ hh]
        simp [tU]
      rw [flmT_17 _ _ _ _ _ h3, e, e, e, enc_17 _ _ _ _ ha, enc_17 _ _ _ _ hh]
      by_cases ej : j < 8
      · rw [enc_17 _ _ _ _ ej, enc_17 _ _ _ _ ej, dG_metm hn g']
        split
        · simp
        · split <;> simp
      · rw [if_neg (by omega), if_neg (by omega)]
        simp [enc, ej]
    · rw [flmT_ne _ _ _ _ _ _ (by omega), tP13_at _ _ _ ha, tP13_at _ _ _ hh]
      by_cases q15 : q = 15
      · subst q15
        by_cases ej : j < 56
        · simp only [enc, tU]
          simp [ej, veC_dG]
        · have : ¬ j / 8 = r := by omega
          simp [enc, tU, ej, this]
      · by_cases q14 : q = 14
        · subst q14
          by_cases ej : j < 56
          · simp only [enc, tU]
            simp [ej, foC_dG]
          · have : ¬ j / 8 = r := by omega
            simp [enc, tU, ej, this]
        · by_cases q12 : q = 12
          · subst q12
            simp only [enc, tU, dG_byem g']
            by_cases e4 : j = 4
            · simp [e4]
            · by_cases e6 : j = 6 <;> simp [e4, e6]
          · simp [enc, tU, q12, q14, q15, q16, q17]
theorem open_fo {x : Int} (h : x = -2) : foC x = -1 ∧ veC x = -1 := by subst h; exact ⟨rfl, rfl⟩
theorem enc_take {τ D : tS} {n r h a b : Nat} (hn : n ≤ 8) (g : gOk D n r h a) : tP13 (tP13 (flmT (enc τ (dG D r h a) b) r h a) (r : Int) (h : Int) (-1) (-1)) (r : Int) (a : Int) (-1) (-1) = enc τ D b := by
  have g' := g
  obtain ⟨hr, h1, h2, h3, h4, h5, h6, h7⟩ := g
  have hh : h < 8 := by omega
  have ha : a < 8 := by omega
  funext q j
  rw [tP13_at _ _ _ ha, tP13_at _ _ _ hh]
  by_cases q16 : q = 16
  · subst q16
    simp only [show ¬ (16 = 15) by decide, show ¬ (16 = 14) by decide, false_and, if_false]
    rw [flmT_16, enc_16 _ _ _ _ hr, dG_busym hn g', if_pos rfl]
    by_cases ej : j < 7
    · rw [enc_16 _ _ _ _ ej, enc_16 _ _ _ _ ej, dG_busym hn g']
      split
      · rename_i e
        subst e
        simp [Nat.xor_assoc, Nat.xor_self]
      · rfl
    · rw [if_neg (by omega)]
      simp [enc, ej]
  · by_cases q17 : q = 17
    · subst q17
      simp only [show ¬ (17 = 15) by decide, show ¬ (17 = 14) by decide, false_and, if_false]
      rw [flmT_17 _ _ _ _ _ h3, enc_17 _ _ _ _ ha, enc_17 _ _ _ _ hh, dG_metm hn g', dG_metm hn g', if_pos rfl, if_neg h3, if_pos rfl]
      by_cases ej : j < 8
      · rw [enc_17 _ _ _ _ ej, enc_17 _ _ _ _ ej, dG_metm hn g']
        split
        · rename_i e
          subst e
          simp [Nat.xor_assoc, Nat.xor_self]
        · split
          · rename_i e
            subst e
            simp [Nat.xor_assoc, Nat.xor_self]
          · rfl
      · rw [if_neg (by omega), if_neg (by omega)]
        simp [enc, ej]
    · rw [flmT_ne _ _ _ _ _ _ (by omega)]
      have o1 := open_fo h4
      have o2 := open_fo h5
      by_cases q15 : q = 15
      · subst q15
        by_cases ej : j < 56
        · simp only [enc]
          simp only [ej, veC_dG]
          by_cases c1 : j / 8 = r ∧ j % 8 = a
          · simp [c1.1, c1.2, o2.2]
          · by_cases c2 : j / 8 = r ∧ j % 8 = h
            · simp [c2.1, c2.2, o1.2]
            · simp [c1, c2]
        · have : ¬ j / 8 = r := by omega
          simp [enc, ej, this]
      · by_cases q14 : q = 14
        · subst q14
          by_cases ej : j < 56
          · simp only [enc]
            simp only [ej, foC_dG]
            by_cases c1 : j / 8 = r ∧ j % 8 = a
            · simp [c1.1, c1.2, o2.1]
            · by_cases c2 : j / 8 = r ∧ j % 8 = h
              · simp [c2.1, c2.2, o1.1]
              · simp [c1, c2]
          · have : ¬ j / 8 = r := by omega
            simp [enc, ej, this]
        · by_cases q12 : q = 12
          · subst q12
            simp only [enc, dG_byem g']
            simp
          · simp [enc, q12, q14, q15, q16, q17]
/-- byes -/
def bOk (D : tS) (n r t : Nat) : Prop := r < 7 ∧ t < n ∧ D r t = -2 ∧ dBye D t = false
theorem dB_met {D : tS} {n r t : Nat} (g : bOk D n r t) (x y : Nat) : dMet (dB D r t) x y = dMet D x y := by
  unfold dB
  by_cases e : x = t
  · subst e
    rw [dMet_U g.1 g.2.2.1]
    simp
  · exact dMet_V e y
theorem dB_busym {D : tS} {n r t : Nat} (hn : n ≤ 8) (g : bOk D n r t) (j : Nat) : msk (dBusy (dB D r t) j) 8 = if j = r then msk (dBusy D r) 8 ^^^ 2 ^ t else msk (dBusy D j) 8 := by
  obtain ⟨hr, h1, h2, h3⟩ := g
  split
  · rename_i e
    subst e
    refine (msk_xor (p8 (by omega)) (fun i _ => ?_)).symm
    rw [bit2, dBusy, dBusy, dB_at]
    by_cases e : i = t
    · subst e
      simp [h2]
    · simp [e]
  · rename_i e
    refine msk_ext (fun i _ => ?_)
    rw [dBusy, dBusy, dB_at]
    simp [e]
theorem dB_byem {D : tS} {n r t : Nat} (hn : n ≤ 8) (g : bOk D n r t) : msk (dBye (dB D r t)) 8 = msk (dBye D) 8 ^^^ 2 ^ t := by
  have g' := g
  obtain ⟨hr, h1, h2, h3⟩ := g
  refine (msk_xor (p8 (by omega)) (fun i _ => ?_)).symm
  rw [bit2]
  by_cases e : i = t
  · subst e
    rw [dB, dBye_U hr h2, h3]
    simp
  · rw [dB, dBye_V e]
    simp [e]
theorem flbT_at (τ : tS) (r t q j : Nat) : flbT τ r t q j = if q = 12 ∧ j = 4 then ((((τ 12 4).toNat ^^^ 2 ^ t : Nat)) : Int) else if q = 16 ∧ j = r then ((((τ 16 r).toNat ^^^ 2 ^ t : Nat)) : Int) else τ q j := by
  simp [flbT, tU]
theorem foC_dB {D : tS} {r s i t : Nat} (h : D r s = -2) : foC (dB D r s i t) = foC (D i t) ∧ veC (dB D r s i t) = veC (D i t) := by
  rw [dB_at]
  split
  · rename_i e
    rw [e.1, e.2, h]
    exact ⟨rfl, rfl⟩
  · exact ⟨rfl, rfl⟩
theorem enc_rest {τ D : tS} {n r t b b' : Nat} (hn : n ≤ 8) (g : bOk D n r t) : flbT (tU (enc τ D b) 12 6 (b' : Int)) r t = enc τ (dB D r t) b' := by
  have g' := g
  obtain ⟨hr, h1, h2, h3⟩ := g
  funext q j
  rw [flbT_at]
  by_cases q16 : q = 16
  · subst q16
    have e : ∀ j, tU (enc τ D b) 12 6 (b' : Int) 16 j = enc τ D b 16 j := fun j => by simp [tU]
    rw [e, e, enc_16 _ _ _ _ hr]
    by_cases ej : j < 7
    · rw [enc_16 _ _ _ _ ej, enc_16 _ _ _ _ ej, dB_busym hn g']
      by_cases er : j = r <;> simp [er]
    · have : ¬ j = r := by omega
      simp [enc, ej, this]
  · by_cases q12 : q = 12
    · subst q12
      by_cases e4 : j = 4
      · subst e4
        rw [if_pos ⟨rfl, rfl⟩, enc_124, dB_byem hn g']
        simp [tU, enc_124]
      · simp only [e4, and_false, if_false, show ¬ (12 = 16) by decide, false_and]
        by_cases e6 : j = 6 <;> simp [enc, tU, e4, e6]
    · simp only [q12, q16, false_and, if_false]
      by_cases q17 : q = 17
      · subst q17
        simp only [tU, enc, dB_met g', show (fun x y => dMet (dB D r t) x y) = dMet D from by funext x y; exact dB_met g' x y]
        by_cases ej : j < 8
        · have : msk (dMet (dB D r t) j) 8 = msk (dMet D j) 8 := msk_ext (fun i _ => dB_met g' j i)
          simp [ej, this]
        · simp [ej]
      · simp only [tU, enc, (foC_dB (i := j / 8) (t := j % 8) h2).1, (foC_dB (i := j / 8) (t := j % 8) h2).2]
        simp [q12, q16, q17]
theorem enc_wake {τ D : tS} {n r t b : Nat} (hn : n ≤ 8) (g : bOk D n r t) : flbT (enc τ (dB D r t) b) r t = enc τ D b := by
  have g' := g
  obtain ⟨hr, h1, h2, h3⟩ := g
  funext q j
  rw [flbT_at]
  by_cases q16 : q = 16
  · subst q16
    rw [enc_16 _ _ _ _ hr]
    by_cases ej : j < 7
    · rw [enc_16 _ _ _ _ ej, enc_16 _ _ _ _ ej, dB_busym hn g', dB_busym hn g']
      by_cases er : j = r
      · subst er
        simp [Nat.xor_assoc, Nat.xor_self]
      · simp [er]
    · have : ¬ j = r := by omega
      simp [enc, ej, this]
  · by_cases q12 : q = 12
    · subst q12
      by_cases e4 : j = 4
      · subst e4
        rw [if_pos ⟨rfl, rfl⟩, enc_124, enc_124, dB_byem hn g']
        simp [Nat.xor_assoc, Nat.xor_self]
      · simp only [e4, and_false, if_false, show ¬ (12 = 16) by decide, false_and]
        by_cases e6 : j = 6 <;> simp [enc, e4, e6]
    · simp only [q12, q16, false_and, if_false]
      by_cases q17 : q = 17
      · subst q17
        by_cases ej : j < 8
        · have : msk (dMet (dB D r t) j) 8 = msk (dMet D j) 8 := msk_ext (fun i _ => dB_met g' j i)
          simp [enc, ej, this]
        · simp [enc, ej]
      · simp only [enc, (foC_dB (i := j / 8) (t := j % 8) h2).1, (foC_dB (i := j / 8) (t := j % 8) h2).2]
        simp [q12, q16, q17]
