/-! the relation after the wishes, the dates and the results (written by wip/gen/t47.py) -/
theorem rl_banO {τ : tS} {n R p f e : Nat} (h : RL τ n R p f e) {j : Nat} (hj : ¬ τ 38 j = 0) : RL (mbT τ j) n R p f e := by
  have : mbT τ j = tU τ 37 0 0 := by
    funext q i
    have h1 := h.kB.2.2.1 j
    simp only [mbT, tU, if_neg hj]
    by_cases e1 : q = 38 ∧ i = j
    · rw [if_pos e1, e1.1, e1.2]
      simp
      omega
    · rw [if_neg e1]
      by_cases e2 : q = 37 ∧ i = 2
      · rw [if_pos e2, e2.1, e2.2]
        simp
      · rw [if_neg e2]
  rw [this]
  exact h.t37 ⟨by decide, by decide⟩
def bnT0 (τ : tS) (t r : Nat) : tS := tU (tU τ 5 r ((((τ 5 r).toNat ||| 2 ^ t : Nat)) : Int)) 4 2 (τ 4 2 + 1)
theorem bn_in0 {τ : tS} {n R p f e : Nat} (h : RL τ n R p f e) {t r : Nat} (ht : t < 20) (hr : r < 39) (hj : τ 38 (2 * (39 * t + r)) = 0) : AllIn (bnT0 τ t r) ∧ (0 ≤ τ 37 2 ∧ τ 37 2 < 1560) := by
  have hc : cnt (fun j => decide (¬ τ 38 j = 0)) 1560 < 1560 := cnt_less _ (t := 2 * (39 * t + r)) (by omega) (by simp [hj])
  have hv := h.kV
  unfold kV at hv
  have hC := h.kC.1
  have hm : (τ 5 r).toNat < 2147483648 := by have h1 := h.A 5 r; unfold zin at h1; omega
  have hp : 2 ^ t < 2 ^ 31 := Nat.pow_lt_pow_right (by decide) (by omega)
  have ho := Nat.or_lt_two_pow (n := 31) hm hp
  exact ⟨in_U (in_U h.A ⟨by omega, by omega⟩) ⟨by omega, by omega⟩, by omega, by omega⟩
theorem rl_ban0 {τ : tS} {n R p f e : Nat} (h : RL τ n R p f e) {t r : Nat} (ht : t < 20) (hr : r < 39) (hj : τ 38 (2 * (39 * t + r)) = 0) : RL (mbT (bnT0 τ t r) (2 * (39 * t + r))) n R p f e := by
  obtain ⟨hA1, hb1, hb2⟩ := bn_in0 h ht hr hj
  have hj1 : bnT0 τ t r 38 (2 * (39 * t + r)) = 0 := by simp [bnT0, tU]; exact hj
  have h37 : bnT0 τ t r 37 2 = τ 37 2 := by simp [bnT0, tU]
  have he : ∀ q, ¬ (q = 4 ∨ q = 5 ∨ q = 37 ∨ q = 38) → mbT (bnT0 τ t r) (2 * (39 * t + r)) q = τ q := fun q hq => by
    funext i
    simp only [mbT, bnT0, tU]
    rw [if_neg (by omega), if_neg (by omega), if_neg (by omega), if_neg (by omega), if_neg (by omega)]
  have e4 : ∀ i, mbT (bnT0 τ t r) (2 * (39 * t + r)) 4 i = if i = 2 then τ 4 2 + 1 else τ 4 i := fun i => by simp [mbT, bnT0, tU]
  have e37 : ∀ i, ¬ i = 0 → mbT (bnT0 τ t r) (2 * (39 * t + r)) 37 i = if i = 2 then τ 37 2 + 1 else τ 37 i := fun i hi => by simp [mbT, bnT0, tU, hj, hi]
  have e38 : ∀ i, mbT (bnT0 τ t r) (2 * (39 * t + r)) 38 i = if i = 2 * (39 * t + r) then 1 else τ 38 i := fun i => by simp [mbT, bnT0, tU]
  have eb : ∀ i, mbT (bnT0 τ t r) (2 * (39 * t + r)) 5 i = if i = r then ((((τ 5 r).toNat ||| 2 ^ t : Nat)) : Int) else τ 5 i := fun i => by simp [mbT, bnT0, tU]
  have hA2 : AllIn (mbT (bnT0 τ t r) (2 * (39 * t + r))) := by
    refine in_U (in_U (in_U hA1 ⟨by decide, by decide⟩) ?_) ⟨by decide, by decide⟩
    rw [if_pos hj1, h37]
    exact ⟨by omega, by omega⟩
  obtain ⟨c1, c2, c3, c4, c5, c6, c7, c8, c9, c10, c11⟩ := h.kC
  obtain ⟨q1, q2, q3, q4, q5⟩ := h.kB
  refine ⟨hA2, h.bd, (by rw [he 1 (by decide)]; exact h.k1), (by rw [he 13 (by decide)]; exact h.k13), ?_, ?_, ?_, (by rw [he 7 (by decide), he 8 (by decide), he 39 (by decide), he 40 (by decide)]; exact h.kP), (by rw [he 9 (by decide), he 10 (by decide), he 11 (by decide), he 41 (by decide), he 42 (by decide), he 43 (by decide)]; exact h.kF), (by rw [he 2 (by decide), he 3 (by decide), he 44 (by decide), he 45 (by decide)]; exact h.kT), (by rw [he 3 (by decide), he 19 (by decide), he 20 (by decide), he 46 (by decide), he 47 (by decide), he 48 (by decide), he 18 (by decide)]; exact h.kG), kS_cg h.kS (fun q h1 h2 => he _ (by omega)) (fun q h1 h2 => he _ (by omega)), (by rw [he 28 (by decide), he 51 (by decide), he 27 (by decide)]; exact h.kW), (by rw [he 3 (by decide), he 46 (by decide), he 49 (by decide), he 51 (by decide)]; exact h.kL), (by rw [he 31 (by decide), he 46 (by decide), he 50 (by decide)]; exact h.kD), (by rw [he 30 (by decide), he 52 (by decide)]; exact h.kE), (by rw [he 36 (by decide)]; exact h.k36), (by rw [he 60 (by decide)]; exact h.k60), (by rw [he 54 (by decide)]; exact h.k54)⟩
  · refine ⟨?_, ?_, ?_, ?_, ?_⟩
    · intro j; rw [eb]; split
      · exact Int.natCast_nonneg _
      · exact q1 j
    · rw [he 6 (by decide)]; exact q2
    · intro j; rw [e38]; split
      · exact Or.inr rfl
      · exact q3 j
    · intro t2 r2 ht2 hr2
      rw [e38]
      rw [eb]
      have q0 := q4 t2 r2 ht2 hr2
      by_cases e1 : r2 = r
      · rw [if_pos e1, Int.toNat_natCast, Nat.testBit_or, bit2, Bool.or_eq_true, decide_eq_true_eq]
        subst e1
        by_cases e2 : t2 = t
        · subst e2
          rw [if_pos rfl]
          exact ⟨fun _ => by decide, fun _ => Or.inr rfl⟩
        · rw [if_neg (by omega), ← q0]
          constructor
          · rintro (g | g)
            · exact g
            · exact absurd g e2
          · exact Or.inl
      · rw [if_neg e1, if_neg (by omega)]
        exact q0
    · intro t2 r2 ht2 hr2
      rw [e38]
      rw [he 6 (by decide), if_neg (by omega)]
      exact q5 t2 r2 ht2 hr2
  · refine ⟨?_, ?_, ?_, ?_, ?_, ?_, ?_, ?_, ?_, ?_, ?_⟩
    · rw [e4, if_pos rfl, e37 2 (by decide), if_pos rfl, c1]
    · rw [e4, if_neg (by decide)]; exact c2
    · rw [e4, if_neg (by decide)]; exact c3
    · rw [e4, if_neg (by decide), e37 11 (by decide), if_neg (by decide)]; exact c4
    · rw [he 29 (by decide)]; exact c5
    · rw [e37 1 (by decide), if_neg (by decide)]; exact c6
    · rw [e37 4 (by decide), if_neg (by decide)]; exact c7
    · rw [e37 7 (by decide), if_neg (by decide)]; exact c8
    · rw [e37 12 (by decide), if_neg (by decide)]; exact c9
    · rw [e37 21 (by decide), if_neg (by decide)]; exact c10
    · rw [e37 11 (by decide), if_neg (by decide)]; exact c11
  · unfold kV
    rw [e37 2 (by decide), if_pos rfl, cnt_up (p := fun j => decide (¬ τ 38 j = 0)) (r := 2 * (39 * t + r)) (by omega) (fun i hi hne => by rw [e38, if_neg hne]) (by simp [hj]) (by rw [e38, if_pos rfl]; rfl)]
    have hv := h.kV
    unfold kV at hv
    omega
def bnT1 (τ : tS) (t r : Nat) : tS := tU (tU τ 6 r ((((τ 6 r).toNat ||| 2 ^ t : Nat)) : Int)) 4 2 (τ 4 2 + 1)
theorem bn_in1 {τ : tS} {n R p f e : Nat} (h : RL τ n R p f e) {t r : Nat} (ht : t < 20) (hr : r < 39) (hj : τ 38 (2 * (39 * t + r) + 1) = 0) : AllIn (bnT1 τ t r) ∧ (0 ≤ τ 37 2 ∧ τ 37 2 < 1560) := by
  have hc : cnt (fun j => decide (¬ τ 38 j = 0)) 1560 < 1560 := cnt_less _ (t := 2 * (39 * t + r) + 1) (by omega) (by simp [hj])
  have hv := h.kV
  unfold kV at hv
  have hC := h.kC.1
  have hm : (τ 6 r).toNat < 2147483648 := by have h1 := h.A 6 r; unfold zin at h1; omega
  have hp : 2 ^ t < 2 ^ 31 := Nat.pow_lt_pow_right (by decide) (by omega)
  have ho := Nat.or_lt_two_pow (n := 31) hm hp
  exact ⟨in_U (in_U h.A ⟨by omega, by omega⟩) ⟨by omega, by omega⟩, by omega, by omega⟩
theorem rl_ban1 {τ : tS} {n R p f e : Nat} (h : RL τ n R p f e) {t r : Nat} (ht : t < 20) (hr : r < 39) (hj : τ 38 (2 * (39 * t + r) + 1) = 0) : RL (mbT (bnT1 τ t r) (2 * (39 * t + r) + 1)) n R p f e := by
  obtain ⟨hA1, hb1, hb2⟩ := bn_in1 h ht hr hj
  have hj1 : bnT1 τ t r 38 (2 * (39 * t + r) + 1) = 0 := by simp [bnT1, tU]; exact hj
  have h37 : bnT1 τ t r 37 2 = τ 37 2 := by simp [bnT1, tU]
  have he : ∀ q, ¬ (q = 4 ∨ q = 6 ∨ q = 37 ∨ q = 38) → mbT (bnT1 τ t r) (2 * (39 * t + r) + 1) q = τ q := fun q hq => by
    funext i
    simp only [mbT, bnT1, tU]
    rw [if_neg (by omega), if_neg (by omega), if_neg (by omega), if_neg (by omega), if_neg (by omega)]
  have e4 : ∀ i, mbT (bnT1 τ t r) (2 * (39 * t + r) + 1) 4 i = if i = 2 then τ 4 2 + 1 else τ 4 i := fun i => by simp [mbT, bnT1, tU]
  have e37 : ∀ i, ¬ i = 0 → mbT (bnT1 τ t r) (2 * (39 * t + r) + 1) 37 i = if i = 2 then τ 37 2 + 1 else τ 37 i := fun i hi => by simp [mbT, bnT1, tU, hj, hi]
  have e38 : ∀ i, mbT (bnT1 τ t r) (2 * (39 * t + r) + 1) 38 i = if i = 2 * (39 * t + r) + 1 then 1 else τ 38 i := fun i => by simp [mbT, bnT1, tU]
  have eb : ∀ i, mbT (bnT1 τ t r) (2 * (39 * t + r) + 1) 6 i = if i = r then ((((τ 6 r).toNat ||| 2 ^ t : Nat)) : Int) else τ 6 i := fun i => by simp [mbT, bnT1, tU]
  have hA2 : AllIn (mbT (bnT1 τ t r) (2 * (39 * t + r) + 1)) := by
    refine in_U (in_U (in_U hA1 ⟨by decide, by decide⟩) ?_) ⟨by decide, by decide⟩
    rw [if_pos hj1, h37]
    exact ⟨by omega, by omega⟩
  obtain ⟨c1, c2, c3, c4, c5, c6, c7, c8, c9, c10, c11⟩ := h.kC
  obtain ⟨q1, q2, q3, q4, q5⟩ := h.kB
  refine ⟨hA2, h.bd, (by rw [he 1 (by decide)]; exact h.k1), (by rw [he 13 (by decide)]; exact h.k13), ?_, ?_, ?_, (by rw [he 7 (by decide), he 8 (by decide), he 39 (by decide), he 40 (by decide)]; exact h.kP), (by rw [he 9 (by decide), he 10 (by decide), he 11 (by decide), he 41 (by decide), he 42 (by decide), he 43 (by decide)]; exact h.kF), (by rw [he 2 (by decide), he 3 (by decide), he 44 (by decide), he 45 (by decide)]; exact h.kT), (by rw [he 3 (by decide), he 19 (by decide), he 20 (by decide), he 46 (by decide), he 47 (by decide), he 48 (by decide), he 18 (by decide)]; exact h.kG), kS_cg h.kS (fun q h1 h2 => he _ (by omega)) (fun q h1 h2 => he _ (by omega)), (by rw [he 28 (by decide), he 51 (by decide), he 27 (by decide)]; exact h.kW), (by rw [he 3 (by decide), he 46 (by decide), he 49 (by decide), he 51 (by decide)]; exact h.kL), (by rw [he 31 (by decide), he 46 (by decide), he 50 (by decide)]; exact h.kD), (by rw [he 30 (by decide), he 52 (by decide)]; exact h.kE), (by rw [he 36 (by decide)]; exact h.k36), (by rw [he 60 (by decide)]; exact h.k60), (by rw [he 54 (by decide)]; exact h.k54)⟩
  · refine ⟨?_, ?_, ?_, ?_, ?_⟩
    · rw [he 5 (by decide)]; exact q1
    · intro j; rw [eb]; split
      · exact Int.natCast_nonneg _
      · exact q2 j
    · intro j; rw [e38]; split
      · exact Or.inr rfl
      · exact q3 j
    · intro t2 r2 ht2 hr2
      rw [e38]
      rw [he 5 (by decide), if_neg (by omega)]
      exact q4 t2 r2 ht2 hr2
    · intro t2 r2 ht2 hr2
      rw [e38]
      rw [eb]
      have q0 := q5 t2 r2 ht2 hr2
      by_cases e1 : r2 = r
      · rw [if_pos e1, Int.toNat_natCast, Nat.testBit_or, bit2, Bool.or_eq_true, decide_eq_true_eq]
        subst e1
        by_cases e2 : t2 = t
        · subst e2
          rw [if_pos rfl]
          exact ⟨fun _ => by decide, fun _ => Or.inr rfl⟩
        · rw [if_neg (by omega), ← q0]
          constructor
          · rintro (g | g)
            · exact g
            · exact absurd g e2
          · exact Or.inl
      · rw [if_neg e1, if_neg (by omega)]
        exact q0
  · refine ⟨?_, ?_, ?_, ?_, ?_, ?_, ?_, ?_, ?_, ?_, ?_⟩
    · rw [e4, if_pos rfl, e37 2 (by decide), if_pos rfl, c1]
    · rw [e4, if_neg (by decide)]; exact c2
    · rw [e4, if_neg (by decide)]; exact c3
    · rw [e4, if_neg (by decide), e37 11 (by decide), if_neg (by decide)]; exact c4
    · rw [he 29 (by decide)]; exact c5
    · rw [e37 1 (by decide), if_neg (by decide)]; exact c6
    · rw [e37 4 (by decide), if_neg (by decide)]; exact c7
    · rw [e37 7 (by decide), if_neg (by decide)]; exact c8
    · rw [e37 12 (by decide), if_neg (by decide)]; exact c9
    · rw [e37 21 (by decide), if_neg (by decide)]; exact c10
    · rw [e37 11 (by decide), if_neg (by decide)]; exact c11
  · unfold kV
    rw [e37 2 (by decide), if_pos rfl, cnt_up (p := fun j => decide (¬ τ 38 j = 0)) (r := 2 * (39 * t + r) + 1) (by omega) (fun i hi hne => by rw [e38, if_neg hne]) (by simp [hj]) (by rw [e38, if_pos rfl]; rfl)]
    have hv := h.kV
    unfold kV at hv
    omega
theorem rl_share {τ : tS} {n R p f e : Nat} (h : RL τ n R p f e) {a b : Int} (ha : 0 ≤ a ∧ a < n) (hb : 0 ≤ b ∧ b < n) (hab : ¬ a = b) (hp : p < 6) : RL (msT (wiP τ a b) p a b) n R (p + 1) f e := by
  obtain ⟨b1, b2, b3, b4, b5, b6⟩ := h.bd
  obtain ⟨c1, c2, c3, c4, c5, c6, c7, c8, c9, c10, c11⟩ := h.kC
  have he : ∀ q, ¬ (q = 4 ∨ q = 7 ∨ q = 8 ∨ q = 37 ∨ q = 39 ∨ q = 40) → msT (wiP τ a b) p a b q = τ q := fun q hq => by
    funext i
    simp only [msT, wiP, tU]
    rw [if_neg (by omega), if_neg (by omega), if_neg (by omega), if_neg (by omega), if_neg (by omega), if_neg (by omega), if_neg (by omega)]
  have e4 : ∀ i, msT (wiP τ a b) p a b 4 i = if i = 5 then (p : Int) + 1 else τ 4 i := fun i => by simp [msT, wiP, tU, c2]
  have e37 : ∀ i, ¬ i = 0 → msT (wiP τ a b) p a b 37 i = if i = 4 then (p : Int) + 1 else τ 37 i := fun i hi => by simp [msT, wiP, tU, hi]
  have e7 : ∀ i, msT (wiP τ a b) p a b 7 i = if i = p then a else τ 7 i := fun i => by simp [msT, wiP, tU, c2]
  have e8 : ∀ i, msT (wiP τ a b) p a b 8 i = if i = p then b else τ 8 i := fun i => by simp [msT, wiP, tU, c2]
  have e39 : ∀ i, msT (wiP τ a b) p a b 39 i = if i = p then a else τ 39 i := fun i => by simp [msT, wiP, tU]
  have e40 : ∀ i, msT (wiP τ a b) p a b 40 i = if i = p then b else τ 40 i := fun i => by simp [msT, wiP, tU]
  have hA : AllIn (msT (wiP τ a b) p a b) := in_U (in_U (in_U (in_U (in_U (in_U (in_U h.A ⟨by omega, by omega⟩) ⟨by omega, by omega⟩) ⟨by omega, by omega⟩) ⟨by decide, by decide⟩) ⟨by omega, by omega⟩) ⟨by omega, by omega⟩) ⟨by omega, by omega⟩
  refine ⟨hA, ⟨b1, b2, b3, by omega, b5, b6⟩, (by rw [he 1 (by decide)]; exact h.k1), (by rw [he 13 (by decide)]; exact h.k13), (by rw [he 5 (by decide), he 6 (by decide), he 38 (by decide)]; exact h.kB), ?_, (by unfold kV; rw [he 38 (by decide), e37 2 (by decide), if_neg (by decide)]; exact h.kV), ?_, (by rw [he 9 (by decide), he 10 (by decide), he 11 (by decide), he 41 (by decide), he 42 (by decide), he 43 (by decide)]; exact h.kF), (by rw [he 2 (by decide), he 3 (by decide), he 44 (by decide), he 45 (by decide)]; exact h.kT), (by rw [he 3 (by decide), he 19 (by decide), he 20 (by decide), he 46 (by decide), he 47 (by decide), he 48 (by decide), he 18 (by decide)]; exact h.kG), kS_cg h.kS (fun q h1 h2 => he _ (by omega)) (fun q h1 h2 => he _ (by omega)), (by rw [he 28 (by decide), he 51 (by decide), he 27 (by decide)]; exact h.kW), (by rw [he 3 (by decide), he 46 (by decide), he 49 (by decide), he 51 (by decide)]; exact h.kL), (by rw [he 31 (by decide), he 46 (by decide), he 50 (by decide)]; exact h.kD), (by rw [he 30 (by decide), he 52 (by decide)]; exact h.kE), (by rw [he 36 (by decide)]; exact h.k36), (by rw [he 60 (by decide)]; exact h.k60), (by rw [he 54 (by decide)]; exact h.k54)⟩
  · unfold kC
    rw [e4, e4, e4, e4, e37 2 (by decide), e37 11 (by decide), e37 1 (by decide), e37 4 (by decide), e37 7 (by decide), e37 12 (by decide), e37 21 (by decide), he 29 (by decide), if_neg (by decide), if_pos rfl, if_neg (by decide), if_neg (by decide), if_neg (by decide), if_neg (by decide), if_neg (by decide), if_pos rfl, if_neg (by decide), if_neg (by decide), if_neg (by decide)]
    exact ⟨c1, by omega, c3, c4, c5, c6, by omega, c8, c9, c10, c11⟩
  · intro i hi
    rw [e7, e8, e39, e40]
    by_cases ei : i = p
    · rw [if_pos ei, if_pos ei, if_pos ei, if_pos ei]
      exact ⟨rfl, rfl, hab, ha, hb⟩
    · rw [if_neg ei, if_neg ei, if_neg ei, if_neg ei]
      exact h.kP i (by omega)
theorem rl_fix {τ : tS} {n R p f e : Nat} (h : RL τ n R p f e) {a b r : Int} (ha : 0 ≤ a ∧ a < n) (hb : 0 ≤ b ∧ b < n) (hr : 0 ≤ r ∧ r ≤ 38) (hf : f < 6) : RL (mfT (wiX τ a b r) f a b r) n R p (f + 1) e := by
  obtain ⟨b1, b2, b3, b4, b5, b6⟩ := h.bd
  obtain ⟨c1, c2, c3, c4, c5, c6, c7, c8, c9, c10, c11⟩ := h.kC
  have he : ∀ q, ¬ (q = 4 ∨ q = 9 ∨ q = 10 ∨ q = 11 ∨ q = 37 ∨ q = 41 ∨ q = 42 ∨ q = 43) → mfT (wiX τ a b r) f a b r q = τ q := fun q hq => by
    funext i
    simp only [mfT, wiX, tU]
    rw [if_neg (by omega), if_neg (by omega), if_neg (by omega), if_neg (by omega), if_neg (by omega), if_neg (by omega), if_neg (by omega), if_neg (by omega), if_neg (by omega)]
  have e4 : ∀ i, mfT (wiX τ a b r) f a b r 4 i = if i = 9 then (f : Int) + 1 else τ 4 i := fun i => by simp [mfT, wiX, tU, c3]
  have e37 : ∀ i, ¬ i = 0 → mfT (wiX τ a b r) f a b r 37 i = if i = 7 then (f : Int) + 1 else τ 37 i := fun i hi => by simp [mfT, wiX, tU, hi]
  have e9 : ∀ i, mfT (wiX τ a b r) f a b r 9 i = if i = f then a else τ 9 i := fun i => by simp [mfT, wiX, tU, c3]
  have e10 : ∀ i, mfT (wiX τ a b r) f a b r 10 i = if i = f then b else τ 10 i := fun i => by simp [mfT, wiX, tU, c3]
  have e11 : ∀ i, mfT (wiX τ a b r) f a b r 11 i = if i = f then r else τ 11 i := fun i => by simp [mfT, wiX, tU, c3]
  have e41 : ∀ i, mfT (wiX τ a b r) f a b r 41 i = if i = f then a else τ 41 i := fun i => by simp [mfT, wiX, tU]
  have e42 : ∀ i, mfT (wiX τ a b r) f a b r 42 i = if i = f then b else τ 42 i := fun i => by simp [mfT, wiX, tU]
  have e43 : ∀ i, mfT (wiX τ a b r) f a b r 43 i = if i = f then r else τ 43 i := fun i => by simp [mfT, wiX, tU]
  have hA : AllIn (mfT (wiX τ a b r) f a b r) := in_U (in_U (in_U (in_U (in_U (in_U (in_U (in_U (in_U h.A ⟨by omega, by omega⟩) ⟨by omega, by omega⟩) ⟨by omega, by omega⟩) ⟨by omega, by omega⟩) ⟨by decide, by decide⟩) ⟨by omega, by omega⟩) ⟨by omega, by omega⟩) ⟨by omega, by omega⟩) ⟨by omega, by omega⟩
  refine ⟨hA, ⟨b1, b2, b3, b4, by omega, b6⟩, (by rw [he 1 (by decide)]; exact h.k1), (by rw [he 13 (by decide)]; exact h.k13), (by rw [he 5 (by decide), he 6 (by decide), he 38 (by decide)]; exact h.kB), ?_, (by unfold kV; rw [he 38 (by decide), e37 2 (by decide), if_neg (by decide)]; exact h.kV), (by rw [he 7 (by decide), he 8 (by decide), he 39 (by decide), he 40 (by decide)]; exact h.kP), ?_, (by rw [he 2 (by decide), he 3 (by decide), he 44 (by decide), he 45 (by decide)]; exact h.kT), (by rw [he 3 (by decide), he 19 (by decide), he 20 (by decide), he 46 (by decide), he 47 (by decide), he 48 (by decide), he 18 (by decide)]; exact h.kG), kS_cg h.kS (fun q h1 h2 => he _ (by omega)) (fun q h1 h2 => he _ (by omega)), (by rw [he 28 (by decide), he 51 (by decide), he 27 (by decide)]; exact h.kW), (by rw [he 3 (by decide), he 46 (by decide), he 49 (by decide), he 51 (by decide)]; exact h.kL), (by rw [he 31 (by decide), he 46 (by decide), he 50 (by decide)]; exact h.kD), (by rw [he 30 (by decide), he 52 (by decide)]; exact h.kE), (by rw [he 36 (by decide)]; exact h.k36), (by rw [he 60 (by decide)]; exact h.k60), (by rw [he 54 (by decide)]; exact h.k54)⟩
  · unfold kC
    rw [e4, e4, e4, e4, e37 2 (by decide), e37 11 (by decide), e37 1 (by decide), e37 4 (by decide), e37 7 (by decide), e37 12 (by decide), e37 21 (by decide), he 29 (by decide), if_neg (by decide), if_neg (by decide), if_pos rfl, if_neg (by decide), if_neg (by decide), if_neg (by decide), if_neg (by decide), if_neg (by decide), if_pos rfl, if_neg (by decide), if_neg (by decide)]
    exact ⟨c1, c2, by omega, c4, c5, c6, c7, by omega, c9, c10, c11⟩
  · intro i hi
    rw [e9, e10, e11, e41, e42, e43]
    by_cases ei : i = f
    · rw [if_pos ei, if_pos ei, if_pos ei, if_pos ei, if_pos ei, if_pos ei]
      exact ⟨rfl, rfl, rfl, ha, hb, hr⟩
    · rw [if_neg ei, if_neg ei, if_neg ei, if_neg ei, if_neg ei, if_neg ei]
      exact h.kF i (by omega)
theorem rl_cap {τ : tS} {n R p f e : Nat} (h : RL τ n R p f e) {k : Int} (hk : 0 ≤ k ∧ k ≤ 19) : RL (tU (tU (tU τ 4 10 k) 37 0 0) 37 11 k) n R p f e := by
  obtain ⟨c1, c2, c3, c4, c5, c6, c7, c8, c9, c10, c11⟩ := h.kC
  have he : ∀ q, ¬ (q = 4 ∨ q = 37) → tU (tU (tU τ 4 10 k) 37 0 0) 37 11 k q = τ q := fun q hq => by
    funext i
    simp only [tU]
    rw [if_neg (by omega), if_neg (by omega), if_neg (by omega)]
  have e4 : ∀ i, tU (tU (tU τ 4 10 k) 37 0 0) 37 11 k 4 i = if i = 10 then k else τ 4 i := fun i => by simp [tU]
  have e37 : ∀ i, ¬ i = 0 → tU (tU (tU τ 4 10 k) 37 0 0) 37 11 k 37 i = if i = 11 then k else τ 37 i := fun i hi => by simp [tU, hi]
  have hA : AllIn (tU (tU (tU τ 4 10 k) 37 0 0) 37 11 k) := in_U (in_U (in_U h.A ⟨by omega, by omega⟩) ⟨by decide, by decide⟩) ⟨by omega, by omega⟩
  refine ⟨hA, h.bd, (by rw [he 1 (by decide)]; exact h.k1), (by rw [he 13 (by decide)]; exact h.k13), (by rw [he 5 (by decide), he 6 (by decide), he 38 (by decide)]; exact h.kB), ?_, (by unfold kV; rw [he 38 (by decide), e37 2 (by decide), if_neg (by decide)]; exact h.kV), (by rw [he 7 (by decide), he 8 (by decide), he 39 (by decide), he 40 (by decide)]; exact h.kP), (by rw [he 9 (by decide), he 10 (by decide), he 11 (by decide), he 41 (by decide), he 42 (by decide), he 43 (by decide)]; exact h.kF), (by rw [he 2 (by decide), he 3 (by decide), he 44 (by decide), he 45 (by decide)]; exact h.kT), (by rw [he 3 (by decide), he 19 (by decide), he 20 (by decide), he 46 (by decide), he 47 (by decide), he 48 (by decide), he 18 (by decide)]; exact h.kG), kS_cg h.kS (fun q h1 h2 => he _ (by omega)) (fun q h1 h2 => he _ (by omega)), (by rw [he 28 (by decide), he 51 (by decide), he 27 (by decide)]; exact h.kW), (by rw [he 3 (by decide), he 46 (by decide), he 49 (by decide), he 51 (by decide)]; exact h.kL), (by rw [he 31 (by decide), he 46 (by decide), he 50 (by decide)]; exact h.kD), (by rw [he 30 (by decide), he 52 (by decide)]; exact h.kE), (by rw [he 36 (by decide)]; exact h.k36), (by rw [he 60 (by decide)]; exact h.k60), (by rw [he 54 (by decide)]; exact h.k54)⟩
  unfold kC
  rw [e4, e4, e4, e4, e37 2 (by decide), e37 11 (by decide), e37 1 (by decide), e37 4 (by decide), e37 7 (by decide), e37 12 (by decide), e37 21 (by decide), he 29 (by decide), if_neg (by decide), if_neg (by decide), if_neg (by decide), if_pos rfl, if_neg (by decide), if_pos rfl, if_neg (by decide), if_neg (by decide), if_neg (by decide), if_neg (by decide), if_neg (by decide)]
  exact ⟨c1, c2, c3, rfl, c5, c6, c7, c8, c9, c10, hk.1⟩
