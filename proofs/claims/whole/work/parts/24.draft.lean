/-! the draft of the search as a function, and its worlds (written by wip/gen/t13.py) -/
def msk (p : Nat → Bool) : Nat → Nat
  | 0 => 0
  | n + 1 => msk p n ||| (if p n then 2 ^ n else 0)
theorem msk_bit (p : Nat → Bool) : ∀ n i, (msk p n).testBit i = (decide (i < n) && p i)
  | 0, i => by simp [msk]
  | n + 1, i => by
    rw [msk, Nat.testBit_or, msk_bit p n i]
    by_cases e : i = n
    · subst e
      cases h : p i <;> simp [Nat.testBit_two_pow_self]
    · have : (if p n = true then 2 ^ n else 0).testBit i = false := by
        split
        · exact Nat.testBit_two_pow_of_ne (fun g => e g.symm)
        · exact Nat.zero_testBit i
      rw [this]
      have h2 : (i < n + 1) ↔ i < n := by omega
      simp [h2]
theorem msk_lt (p : Nat → Bool) (n : Nat) : msk p n < 2 ^ n := by
  refine Nat.lt_pow_two_of_testBit _ (fun i hi => ?_)
  rw [msk_bit]
  have : ¬ i < n := by omega
  simp [this]
theorem msk8 (p : Nat → Bool) : msk p 8 < 256 := msk_lt p 8
theorem msk_ext {p q : Nat → Bool} {n : Nat} (h : ∀ i, i < n → p i = q i) : msk p n = msk q n := by
  refine Nat.eq_of_testBit_eq (fun i => ?_)
  rw [msk_bit, msk_bit]
  by_cases e : i < n
  · rw [h i e]
  · simp [e]
theorem msk_xor {p q : Nat → Bool} {n m : Nat} (hm : m < 2 ^ n) (h : ∀ i, i < n → q i = (p i ^^ m.testBit i)) : msk p n ^^^ m = msk q n := by
  refine Nat.eq_of_testBit_eq (fun i => ?_)
  rw [Nat.testBit_xor, msk_bit, msk_bit]
  by_cases e : i < n
  · simp [e, h i e]
  · have : m.testBit i = false := Nat.testBit_lt_two_pow (Nat.lt_of_lt_of_le hm (Nat.pow_le_pow_right (by decide) (by omega)))
    simp [e, this]
theorem msk_full {p : Nat → Bool} {n : Nat} (hn : n ≤ 8) (h : ∀ i, i < 8 → n ≤ i → p i = false) : msk p 8 = 2 ^ n - 1 ↔ ∀ i, i < n → p i = true := by
  constructor
  · intro e i hi
    have := congrArg (fun x => x.testBit i) e
    simp only [msk_bit, Nat.testBit_two_pow_sub_one] at this
    have h8 : i < 8 := by omega
    simpa [h8, hi] using this
  · intro e
    refine Nat.eq_of_testBit_eq (fun i => ?_)
    rw [msk_bit, Nat.testBit_two_pow_sub_one]
    by_cases h1 : i < n
    · have : i < 8 := by omega
      simp [h1, this, e i h1]
    · by_cases h2 : i < 8
      · simp [h1, h i h2 (by omega)]
      · simp [h1, h2]
/-- cells of the draft: -2 open, -1 a bye, 2 * opponent + (1 at home) -/
def foC (x : Int) : Int := if x < 0 then -1 else x / 2
def veC (x : Int) : Int := if x < 0 then -1 else x % 2
def dBusy (D : tS) (r t : Nat) : Bool := decide (¬ D r t = -2)
def dMet (D : tS) (a o : Nat) : Bool := anyN (fun r => decide (0 ≤ D r a ∧ D r a / 2 = (o : Int))) 7
def dBye (D : tS) (t : Nat) : Bool := anyN (fun r => decide (D r t = -1)) 7
def enc (τ D : tS) (b : Nat) : tS := fun q j =>
  if q = 14 then (if j < 56 then foC (D (j / 8) (j % 8)) else τ q j)
  else if q = 15 then (if j < 56 then veC (D (j / 8) (j % 8)) else τ q j)
  else if q = 16 then (if j < 7 then ((msk (dBusy D j) 8 : Nat) : Int) else τ q j)
  else if q = 17 then (if j < 8 then ((msk (dMet D j) 8 : Nat) : Int) else τ q j)
  else if q = 12 then (if j = 4 then ((msk (dBye D) 8 : Nat) : Int) else if j = 6 then (b : Int) else τ q j)
  else τ q j
theorem enc_ne (τ D : tS) (b q j : Nat) (h : ¬ (q = 12 ∨ q = 14 ∨ q = 15 ∨ q = 16 ∨ q = 17)) : enc τ D b q j = τ q j := by
  unfold enc
  rw [if_neg (by omega), if_neg (by omega), if_neg (by omega), if_neg (by omega), if_neg (by omega)]
theorem enc_b (τ D : tS) (b b' q j : Nat) (h : ¬ q = 12) : enc τ D b q j = enc τ D b' q j := by
  unfold enc
  simp [h]
theorem enc_16 (τ D : tS) (b r : Nat) (hr : r < 7) : enc τ D b 16 r = ((msk (dBusy D r) 8 : Nat) : Int) := by simp [enc, hr]
theorem enc_17 (τ D : tS) (b r : Nat) (hr : r < 8) : enc τ D b 17 r = ((msk (dMet D r) 8 : Nat) : Int) := by simp [enc, hr]
theorem enc_124 (τ D : tS) (b : Nat) : enc τ D b 12 4 = ((msk (dBye D) 8 : Nat) : Int) := by simp [enc]
theorem enc_125 (τ D : tS) (b : Nat) : enc τ D b 12 5 = τ 12 5 := by simp [enc]
theorem enc_126 (τ D : tS) (b : Nat) : enc τ D b 12 6 = (b : Int) := by simp [enc]
theorem enc_14 (τ D : tS) (b r t : Nat) (hr : r < 7) (ht : t < 8) : enc τ D b 14 (r * 8 + t) = foC (D r t) := by
  have h1 : (r * 8 + t) / 8 = r := by omega
  have h2 : (r * 8 + t) % 8 = t := by omega
  have h3 : r * 8 + t < 56 := by omega
  simp [enc, h1, h2, h3]
theorem enc_15 (τ D : tS) (b r t : Nat) (hr : r < 7) (ht : t < 8) : enc τ D b 15 (r * 8 + t) = veC (D r t) := by
  have h1 : (r * 8 + t) / 8 = r := by omega
  have h2 : (r * 8 + t) % 8 = t := by omega
  have h3 : r * 8 + t < 56 := by omega
  simp [enc, h1, h2, h3]
/-- the draft's own order -/
def DOk (D : tS) (n : Nat) : Prop := (∀ r t, -2 ≤ D r t ∧ D r t < 16) ∧ (∀ r t, n ≤ t → D r t = -2) ∧ (∀ r t, 0 ≤ D r t → D r (D r t / 2).toNat = 2 * (t : Int) + (1 - D r t % 2))
theorem enc_in {τ D : tS} {b n : Nat} (hA : AllIn τ) (hD : DOk D n) (hb : b ≤ 4000) : AllIn (enc τ D b) := by
  intro q j
  have h := hA q j
  have h1 := hD.1 (j / 8) (j % 8)
  have m1 := msk8 (dBusy D j)
  have m2 := msk8 (dMet D j)
  have m3 := msk8 (dBye D)
  unfold zin at *
  unfold enc foC veC
  generalize D (j / 8) (j % 8) = x at h1
  split
  · split
    · split <;> omega
    · exact h
  · split
    · split
      · split <;> omega
      · exact h
    · split
      · split
        · omega
        · exact h
      · split
        · split
          · omega
          · exact h
        · split
          · split
            · omega
            · split
              · omega
              · exact h
          · exact h
theorem dMet_U {D : tS} {r t : Nat} {x : Int} (hr : r < 7) (ho : D r t = -2) (y : Nat) : dMet (tU D r t x) t y = (dMet D t y || decide (0 ≤ x ∧ x / 2 = (y : Int))) := by
  rw [Bool.eq_iff_iff, Bool.or_eq_true, dMet, dMet, anyN_iff, anyN_iff]
  simp only [decide_eq_true_eq]
  constructor
  · rintro ⟨i, hi, h⟩
    by_cases e : i = r
    · subst e
      simp [tU] at h
      exact Or.inr h
    · simp [tU, e] at h
      exact Or.inl ⟨i, hi, h⟩
  · rintro (⟨i, hi, h⟩ | h)
    · have e : i ≠ r := by
        rintro rfl
        rw [ho] at h
        omega
      exact ⟨i, hi, by simpa [tU, e] using h⟩
    · exact ⟨r, hr, by simpa [tU] using h⟩
theorem dMet_V {D : tS} {r t s : Nat} {x : Int} (h : s ≠ t) (y : Nat) : dMet (tU D r t x) s y = dMet D s y := by
  unfold dMet
  simp [tU, h]
theorem dBye_U {D : tS} {r t : Nat} {x : Int} (hr : r < 7) (ho : D r t = -2) : dBye (tU D r t x) t = (dBye D t || decide (x = -1)) := by
  rw [Bool.eq_iff_iff, Bool.or_eq_true, dBye, dBye, anyN_iff, anyN_iff]
  simp only [decide_eq_true_eq]
  constructor
  · rintro ⟨i, hi, h⟩
    by_cases e : i = r
    · subst e
      simp [tU] at h
      exact Or.inr h
    · simp [tU, e] at h
      exact Or.inl ⟨i, hi, h⟩
  · rintro (⟨i, hi, h⟩ | h)
    · have e : i ≠ r := by
        rintro rfl
        rw [ho] at h
        omega
      exact ⟨i, hi, by simpa [tU, e] using h⟩
    · exact ⟨r, hr, by simpa [tU] using h⟩
theorem dBye_V {D : tS} {r t s : Nat} {x : Int} (h : s ≠ t) : dBye (tU D r t x) s = dBye D s := by
  unfold dBye
  simp [tU, h]
def dG (D : tS) (r h a : Nat) : tS := tU (tU D r h (2 * (a : Int) + 1)) r a (2 * (h : Int))
def dB (D : tS) (r t : Nat) : tS := tU D r t (-1)
theorem dG_at (D : tS) (r h a i t : Nat) : dG D r h a i t = if i = r ∧ t = a then 2 * (h : Int) else if i = r ∧ t = h then 2 * (a : Int) + 1 else D i t := rfl
theorem dB_at (D : tS) (r s i t : Nat) : dB D r s i t = if i = r ∧ t = s then -1 else D i t := rfl
/-- what two that meet in a round must keep -/
def gOk (D : tS) (n r h a : Nat) : Prop := r < 7 ∧ h < n ∧ a < n ∧ h ≠ a ∧ D r h = -2 ∧ D r a = -2 ∧ dMet D h a = false ∧ dMet D a h = false
theorem dG_met {D : tS} {n r h a : Nat} (g : gOk D n r h a) (x y : Nat) : dMet (dG D r h a) x y = (dMet D x y ^^ decide ((x = h ∧ y = a) ∨ (x = a ∧ y = h))) := by
  obtain ⟨hr, h1, h2, h3, h4, h5, h6, h7⟩ := g
  unfold dG
  by_cases ea : x = a
  · subst ea
    have o2 : tU D r h (2 * (x : Int) + 1) r x = -2 := by simp [tU, h5]; omega
    rw [dMet_U hr o2, dMet_V (by omega)]
    by_cases ey : y = h
    · subst ey
      have : (2 * (y : Int) / 2 = (y : Int)) := by omega
      have e0 : (0 : Int) ≤ 2 * (y : Int) := by omega
      simp [h7, this, e0]
    · have e2 : ¬ (x = h) := by omega
      have e1 : ¬ (2 * (h : Int) / 2 = (y : Int)) := by omega
      have e3 : decide (0 ≤ 2 * (h : Int) ∧ 2 * (h : Int) / 2 = (y : Int)) = false := decide_eq_false (fun g => e1 g.2)
      rw [e3]
      simp [ey, e2]
  · rw [dMet_V ea]
    by_cases eh : x = h
    · subst eh
      rw [dMet_U hr h4]
      by_cases ey : y = a
      · subst ey
        have : ((2 * (y : Int) + 1) / 2 = (y : Int)) := by omega
        have e0 : (0 : Int) ≤ 2 * (y : Int) + 1 := by omega
        simp [h6, this, e0]
      · have e1 : ¬ ((2 * (a : Int) + 1) / 2 = (y : Int)) := by omega
        have e3 : decide (0 ≤ 2 * (a : Int) + 1 ∧ (2 * (a : Int) + 1) / 2 = (y : Int)) = false := decide_eq_false (fun g => e1 g.2)
        rw [e3]
        simp [ey, ea]
    · rw [dMet_V eh]
      simp [ea, eh]
theorem dG_bye {D : tS} {n r h a : Nat} (g : gOk D n r h a) (t : Nat) : dBye (dG D r h a) t = dBye D t := by
  obtain ⟨hr, h1, h2, h3, h4, h5, h6, h7⟩ := g
  unfold dG
  by_cases ea : t = a
  · subst ea
    have o2 : tU D r h (2 * (t : Int) + 1) r t = -2 := by simp [tU, h5]; omega
    rw [dBye_U hr o2, dBye_V (by omega)]
    have : ¬ (2 * (h : Int) = -1) := by omega
    simp [this]
  · rw [dBye_V ea]
    by_cases eh : t = h
    · subst eh
      rw [dBye_U hr h4]
      have : ¬ (2 * (a : Int) + 1 = -1) := by omega
      simp [this]
    · rw [dBye_V eh]
theorem dG_busy {D : tS} {n r h a : Nat} (g : gOk D n r h a) (i t : Nat) : dBusy (dG D r h a) i t = (dBusy D i t ^^ decide (i = r ∧ (t = h ∨ t = a))) := by
  obtain ⟨hr, h1, h2, h3, h4, h5, h6, h7⟩ := g
  unfold dBusy
  rw [dG_at]
  by_cases e : i = r
  · subst e
    by_cases ea : t = a
    · subst ea
      have : ¬ (2 * (h : Int) = -2) := by omega
      simp [h5, this]
    · by_cases eh : t = h
      · subst eh
        have : ¬ (2 * (a : Int) + 1 = -2) := by omega
        simp [ea, h4, this]
      · simp [ea, eh]
  · simp [e]
theorem dG_ok {D : tS} {n r h a : Nat} (hD : DOk D n) (hn : n ≤ 8) (g : gOk D n r h a) : DOk (dG D r h a) n := by
  obtain ⟨hr, h1, h2, h3, h4, h5, h6, h7⟩ := g
  refine ⟨fun i t => ?_, fun i t ht => ?_, fun i t h0 => ?_⟩
  · rw [dG_at]
    have := hD.1 i t
    split
    · omega
    · split <;> omega
  · rw [dG_at, if_neg (by omega), if_neg (by omega)]
    exact hD.2.1 i t ht
  · by_cases c1 : i = r ∧ t = a
    · obtain ⟨rfl, rfl⟩ := c1
      have e0 : dG D i h t i t = 2 * (h : Int) := by rw [dG_at, if_pos ⟨rfl, rfl⟩]
      rw [e0]
      have e : (2 * (h : Int) / 2).toNat = h := by omega
      rw [e, dG_at, if_neg (by omega), if_pos ⟨rfl, rfl⟩]
      omega
    · by_cases c2 : i = r ∧ t = h
      · obtain ⟨rfl, rfl⟩ := c2
        have e0 : dG D i t a i t = 2 * (a : Int) + 1 := by rw [dG_at, if_neg c1, if_pos ⟨rfl, rfl⟩]
        rw [e0]
        have e : ((2 * (a : Int) + 1) / 2).toNat = a := by omega
        rw [e, dG_at, if_pos ⟨rfl, rfl⟩]
        omega
      · have e0 : dG D r h a i t = D i t := by rw [dG_at, if_neg c1, if_neg c2]
        rw [e0] at h0 ⊢
        have s := hD.2.2 i t h0
        rw [dG_at]
        have n1 : ¬ (i = r ∧ (D i t / 2).toNat = a) := by
          rintro ⟨rfl, e⟩
          rw [e, h5] at s
          omega
        have n2 : ¬ (i = r ∧ (D i t / 2).toNat = h) := by
          rintro ⟨rfl, e⟩
          rw [e, h4] at s
          omega
        rw [if_neg n1, if_neg n2]
        exact s
/-- who has met whom, has been met -/
theorem dMet_sym {D : tS} {n : Nat} (hD : DOk D n) {a o : Nat} (h : dMet D a o = true) : dMet D o a = true := by
  rw [dMet, anyN_iff] at h ⊢
  obtain ⟨r, hr, h⟩ := h
  simp only [decide_eq_true_eq] at h
  have s := hD.2.2 r a h.1
  rw [h.2, Int.toNat_natCast] at s
  exact ⟨r, hr, by simp only [decide_eq_true_eq]; omega⟩
theorem dMet_symf {D : tS} {n : Nat} (hD : DOk D n) {a o : Nat} (h : dMet D a o = false) : dMet D o a = false := by
  cases e : dMet D o a
  · rfl
  · rw [dMet_sym hD e] at h
    exact h
theorem dB_ok {D : tS} {n r t : Nat} (hD : DOk D n) (ht : t < n) (h4 : D r t = -2) : DOk (dB D r t) n := by
  refine ⟨fun i s => ?_, fun i s hs => ?_, fun i s h0 => ?_⟩
  · rw [dB_at]
    have := hD.1 i s
    split
    · omega
    · exact this
  · rw [dB_at, if_neg (by omega)]
    exact hD.2.1 i s hs
  · by_cases c1 : i = r ∧ s = t
    · rw [dB_at, if_pos c1] at h0
      omega
    · have e0 : dB D r t i s = D i s := by rw [dB_at, if_neg c1]
      rw [e0] at h0 ⊢
      have q := hD.2.2 i s h0
      rw [dB_at]
      have n1 : ¬ (i = r ∧ (D i s / 2).toNat = t) := by
        rintro ⟨rfl, e⟩
        rw [e, h4] at q
        omega
      rw [if_neg n1]
      exact q
