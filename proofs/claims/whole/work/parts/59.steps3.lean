/-! the relation after reserve, washOut, result, catchUp (written by wip/gen/t48.py) -/
theorem ins_cg {x : Int} : ∀ (k : Nat) (g h : Nat → Int), (∀ i, i < k → g i = h i) → ∀ i, i < k + 1 → insR x k g i = insR x k h i
  | 0, g, h, _, i, hi => by
    have : i = 0 := by omega
    subst this
    rw [insR, insR, ru_at, ru_at]
  | k + 1, g, h, hg, i, hi => by
    rw [insR, insR, hg k (by omega)]
    split
    · by_cases e : i < k + 1
      · exact ins_cg k _ _ (fun j hj => by rw [ru_ne _ _ (by omega), ru_ne _ _ (by omega)]; exact hg j (by omega)) i e
      · have : i = k + 1 := by omega
        subst this
        have key : ∀ (m : Nat) (g : Nat → Int) (i : Nat), m < i → insR x m g i = g i := by
          intro m
          induction m with
          | zero => intro g i hi; rw [insR, ru_ne _ _ (by omega)]
          | succ m ih =>
            intro g i hi
            rw [insR]
            split
            · rw [ih _ _ (by omega), ru_ne _ _ (by omega)]
            · rw [ru_ne _ _ (by omega)]
        rw [key k _ _ (by omega), key k _ _ (by omega), ru_at, ru_at]
    · by_cases e : i = k + 1
      · subst e; rw [ru_at, ru_at]
      · rw [ru_ne _ _ e, ru_ne _ _ e]; exact hg i (by omega)
theorem ins_ge {x : Int} (hx : 0 ≤ x) : ∀ (k : Nat) (g : Nat → Int), (∀ i, i < k → 0 ≤ g i) → ∀ i, i < k + 1 → 0 ≤ insR x k g i
  | 0, g, _, i, hi => by
    have : i = 0 := by omega
    subst this
    rw [insR, ru_at]; exact hx
  | k + 1, g, hg, i, hi => by
    rw [insR]
    have hgk := hg k (by omega)
    split
    · have key : ∀ (m : Nat) (g : Nat → Int) (i : Nat), m < i → insR x m g i = g i := by
        intro m
        induction m with
        | zero => intro g i hi; rw [insR, ru_ne _ _ (by omega)]
        | succ m ih =>
          intro g i hi
          rw [insR]
          split
          · rw [ih _ _ (by omega), ru_ne _ _ (by omega)]
          · rw [ru_ne _ _ (by omega)]
      by_cases e : i < k + 1
      · exact ins_ge hx k _ (fun j hj => by rw [ru_ne _ _ (by omega)]; exact hg j (by omega)) i e
      · have : i = k + 1 := by omega
        subst this
        rw [key k _ _ (by omega), ru_at]
        exact hgk
    · by_cases e : i = k + 1
      · subst e; rw [ru_at]; exact hx
      · rw [ru_ne _ _ e]; exact hg i (by omega)
theorem ins_in {x : Int} (hx : zin x) : ∀ (k : Nat) (g : Nat → Int), (∀ i, zin (g i)) → ∀ i, zin (insR x k g i)
  | 0, g, hg, i => by rw [insR]; exact ru_in hg hx i
  | k + 1, g, hg, i => by
    rw [insR]
    split
    · exact ins_in hx k _ (ru_in hg (hg k)) i
    · exact ru_in hg hx i
def rsT (τ : tS) (x : Int) (e : Nat) : tS := tU (tR τ 30 (insR x e (τ 30))) 29 3 ((e : Int) + 1)
def rsM (w : tS) (x : Int) (e : Nat) : tS := tU (tR (tU w 37 0 0) 52 (insR x e (w 52))) 37 21 ((e : Int) + 1)
theorem rl_reserve {τ : tS} {n R p f e : Nat} (h : RL τ n R p f e) {x : Int} (hx : 0 ≤ x ∧ x ≤ 99) (he6 : e < 6) : RL (rsM (rsT τ x e) x e) n R p f (e + 1) := by
  obtain ⟨b1, b2, b3, b4, b5, b6⟩ := h.bd
  obtain ⟨c1, c2, c3, c4, c5, c6, c7, c8, c9, c10, c11⟩ := h.kC
  have zx : zin x := ⟨by omega, by omega⟩
  have he : ∀ q, ¬ (q = 29 ∨ q = 30 ∨ q = 37 ∨ q = 52) → rsM (rsT τ x e) x e q = τ q := fun q hq => by
    funext i
    simp only [rsM, rsT, tR, tU]
    rw [if_neg (by omega), if_neg (by omega), if_neg (by omega), if_neg (by omega), if_neg (by omega)]
  have e29 : ∀ i, rsM (rsT τ x e) x e 29 i = if i = 3 then (e : Int) + 1 else τ 29 i := fun i => by simp [rsM, rsT, tR, tU]
  have e37 : ∀ i, ¬ i = 0 → rsM (rsT τ x e) x e 37 i = if i = 21 then (e : Int) + 1 else τ 37 i := fun i hi => by simp [rsM, rsT, tR, tU, hi]
  have e30 : rsM (rsT τ x e) x e 30 = insR x e (τ 30) := by funext i; simp [rsM, rsT, tR, tU]
  have e52 : rsM (rsT τ x e) x e 52 = insR x e (τ 52) := by
    have : rsT τ x e 52 = τ 52 := by funext i; simp [rsT, tR, tU]
    funext i
    simp [rsM, tR, tU, this]
  have hA1 : AllIn (rsT τ x e) := in_U (tR_in h.A (ins_in zx e _ (fun i => h.A 30 i))) ⟨by omega, by omega⟩
  have hA : AllIn (rsM (rsT τ x e) x e) := in_U (tR_in (in_U hA1 ⟨by decide, by decide⟩) (ins_in zx e _ (fun i => hA1 52 i))) ⟨by omega, by omega⟩
  refine ⟨hA, ⟨b1, b2, b3, b4, b5, by omega⟩, (by rw [he 1 (by decide)]; exact h.k1), (by rw [he 13 (by decide)]; exact h.k13), (by rw [he 5 (by decide), he 6 (by decide), he 38 (by decide)]; exact h.kB), ?_, (by unfold kV; rw [he 38 (by decide), e37 2 (by decide), if_neg (by decide)]; exact h.kV), (by rw [he 7 (by decide), he 8 (by decide), he 39 (by decide), he 40 (by decide)]; exact h.kP), (by rw [he 9 (by decide), he 10 (by decide), he 11 (by decide), he 41 (by decide), he 42 (by decide), he 43 (by decide)]; exact h.kF), (by rw [he 2 (by decide), he 3 (by decide), he 44 (by decide), he 45 (by decide)]; exact h.kT), (by rw [he 3 (by decide), he 19 (by decide), he 20 (by decide), he 46 (by decide), he 47 (by decide), he 48 (by decide), he 18 (by decide)]; exact h.kG), kS_cg h.kS (fun q h1 h2 => he _ (by omega)) (fun q h1 h2 => he _ (by omega)), (by rw [he 28 (by decide), he 51 (by decide), he 27 (by decide)]; exact h.kW), (by rw [he 3 (by decide), he 46 (by decide), he 49 (by decide), he 51 (by decide)]; exact h.kL), (by rw [he 31 (by decide), he 46 (by decide), he 50 (by decide)]; exact h.kD), ?_, (by rw [he 36 (by decide)]; exact h.k36), (by rw [he 60 (by decide)]; exact h.k60), (by rw [he 54 (by decide)]; exact h.k54)⟩
  · unfold kC
    rw [he 4 (by decide), e37 2 (by decide), e37 11 (by decide), e37 1 (by decide), e37 4 (by decide), e37 7 (by decide), e37 12 (by decide), e37 21 (by decide), e29, if_neg (by decide), if_neg (by decide), if_pos rfl, if_neg (by decide), if_neg (by decide), if_neg (by decide), if_neg (by decide), if_pos rfl]
    exact ⟨c1, c2, c3, c4, by omega, c6, c7, c8, c9, by omega, c11⟩
  · intro i hi
    rw [e30, e52]
    exact ⟨ins_cg e _ _ (fun j hj => (h.kE j hj).1) i hi, ins_ge hx.1 e _ (fun j hj => (h.kE j hj).2) i hi⟩
theorem mw_row (w : tS) (r : Nat) : ∀ T, T ≤ 20 → ∀ t, t < 20 → mwT w r T 49 (20 * r + t) = if t < T ∧ mwP w r t = true then 1 else w 49 (20 * r + t)
  | 0, _, t, _ => by rw [mwT, if_neg (by omega)]
  | T + 1, hT, t, ht => by
    have ih := mw_row w r T (by omega) t ht
    rw [mwT]
    by_cases e : mwP w r T = true
    · rw [if_pos e]
      simp only [tU]
      by_cases e1 : t = T
      · subst e1
        rw [if_pos ⟨trivial, rfl⟩, if_pos ⟨by omega, e⟩]
      · rw [if_neg (by omega), ih]
        by_cases e2 : t < T ∧ mwP w r t = true
        · rw [if_pos e2, if_pos ⟨by omega, e2.2⟩]
        · rw [if_neg e2, if_neg (fun g => e2 ⟨by omega, g.2⟩)]
    · rw [if_neg e, ih]
      by_cases e2 : t < T ∧ mwP w r t = true
      · rw [if_pos e2, if_pos ⟨by omega, e2.2⟩]
      · rw [if_neg e2, if_neg (fun g => e2 ⟨by
          by_cases e1 : t = T
          · subst e1; exact absurd g.2 e
          · omega, g.2⟩)]
theorem mw_out (w : tS) (r : Nat) {j : Nat} (hj : j < 20 * r ∨ 20 * r + 20 ≤ j) : ∀ T, T ≤ 20 → mwT w r T 49 j = w 49 j
  | 0, _ => rfl
  | T + 1, hT => by
    rw [mwT]
    split
    · simp only [tU]
      rw [if_neg (by omega), mw_out w r hj T (by omega)]
    · exact mw_out w r hj T (by omega)
theorem mw_01 (w : tS) (r : Nat) (h : ∀ j, w 49 j = 0 ∨ w 49 j = 1) (j : Nat) : ∀ T, mwT w r T 49 j = 0 ∨ mwT w r T 49 j = 1
  | 0 => h j
  | T + 1 => by
    rw [mwT]
    split
    · simp only [tU]
      split
      · exact Or.inr rfl
      · exact mw_01 w r h j T
    · exact mw_01 w r h j T
theorem rl_wash {τ : tS} {n R p f e : Nat} (h : RL τ n R p f e) {r : Nat} (hr : r < R) (h0 : τ 28 r = 0) (h4 : τ 27 3 < 4) : RL (mwT (mwW (woA τ (r : Int)) r) r n) n R p f e ∧ cnt (misP (woA τ (r : Int)) (r : Int)) n = cnt (mwP (woA τ (r : Int)) r) n := by
  obtain ⟨b1, b2, b3, b4, b5, b6⟩ := h.bd
  obtain ⟨w1, w2, w3, w4, w5, w6⟩ := h.kW
  have hC := h.kC
  have hw : ∀ q, ¬ (q = 27 ∨ q = 28 ∨ q = 37 ∨ q = 51) → mwW (woA τ (r : Int)) r q = τ q := fun q hq => by
    funext i
    simp only [mwW, woA, tU]
    rw [if_neg (by omega), if_neg (by omega), if_neg (by omega), if_neg (by omega)]
  have he : ∀ q, ¬ (q = 27 ∨ q = 28 ∨ q = 37 ∨ q = 49 ∨ q = 51) → mwT (mwW (woA τ (r : Int)) r) r n q = τ q := fun q hq => by
    funext i
    rw [mwT_ne _ _ _ _ (by omega), hw q (by omega)]
  have e28 : ∀ i, mwT (mwW (woA τ (r : Int)) r) r n 28 i = if i = r then 1 else τ 28 i := fun i => by
    rw [mwT_ne _ _ _ _ (by decide)]
    simp [mwW, woA, tU]
  have e27 : mwT (mwW (woA τ (r : Int)) r) r n 27 3 = τ 27 3 + 1 := by
    rw [mwT_ne _ _ _ _ (by decide)]
    simp [mwW, woA, tU]
  have e51 : ∀ i, mwT (mwW (woA τ (r : Int)) r) r n 51 i = if i = r then 1 else τ 51 i := fun i => by
    rw [mwT_ne _ _ _ _ (by decide)]
    simp [mwW, woA, tU]
  have e37 : ∀ i, ¬ i = 0 → mwT (mwW (woA τ (r : Int)) r) r n 37 i = τ 37 i := fun i hi => by
    rw [mwT_ne _ _ _ _ (by decide)]
    simp [mwW, woA, tU, hi]
  have h51 : τ 51 r = 0 := by rw [← w3 r (by omega)]; exact h0
  have hA : AllIn (mwT (mwW (woA τ (r : Int)) r) r n) := mwT_in (in_U (in_U (in_U (in_U h.A ⟨by decide, by decide⟩) ⟨by omega, by omega⟩) ⟨by decide, by decide⟩) ⟨by decide, by decide⟩) n
  have hp : ∀ t, t < n → (mwP (mwW (woA τ (r : Int)) r) r t = true ↔ (τ 3 (20 * r + t) = 1 ∧ τ 46 (20 * r + t) = 0)) := by
    intro t ht
    unfold mwP
    rw [decide_eq_true_eq, veM_E, hw 44 (by decide), hw 45 (by decide), hw 46 (by decide), (h.kT.2 r t hr ht).2.1]
  refine ⟨⟨hA, h.bd, (by rw [he 1 (by decide)]; exact h.k1), (by rw [he 13 (by decide)]; exact h.k13), (by rw [he 5 (by decide), he 6 (by decide), he 38 (by decide)]; exact h.kB), (by unfold kC; rw [he 4 (by decide), he 29 (by decide), e37 2 (by decide), e37 11 (by decide), e37 1 (by decide), e37 4 (by decide), e37 7 (by decide), e37 12 (by decide), e37 21 (by decide)]; exact hC), (by unfold kV; rw [he 38 (by decide), e37 2 (by decide)]; exact h.kV), (by rw [he 7 (by decide), he 8 (by decide), he 39 (by decide), he 40 (by decide)]; exact h.kP), (by rw [he 9 (by decide), he 10 (by decide), he 11 (by decide), he 41 (by decide), he 42 (by decide), he 43 (by decide)]; exact h.kF), (by rw [he 2 (by decide), he 3 (by decide), he 44 (by decide), he 45 (by decide)]; exact h.kT), (by rw [he 3 (by decide), he 19 (by decide), he 20 (by decide), he 46 (by decide), he 47 (by decide), he 48 (by decide), he 18 (by decide)]; exact h.kG), kS_cg h.kS (fun q h1 h2 => he _ (by omega)) (fun q h1 h2 => he _ (by omega)), ?_, ?_, (by rw [he 31 (by decide), he 46 (by decide), he 50 (by decide)]; exact h.kD), (by rw [he 30 (by decide), he 52 (by decide)]; exact h.kE), (by rw [he 36 (by decide)]; exact h.k36), (by rw [he 60 (by decide)]; exact h.k60), (by rw [he 54 (by decide)]; exact h.k54)⟩, ?_⟩
  · refine ⟨fun j => ?_, fun j => ?_, fun j hj => ?_, fun j h1 h2 => ?_, ?_, ?_⟩
    · rw [e28]; split
      · exact Or.inr rfl
      · exact w1 j
    · rw [e51]; split
      · exact Or.inr rfl
      · exact w2 j
    · rw [e28, e51]; split
      · rfl
      · exact w3 j hj
    · rw [e51, if_neg (by omega)]
      exact w4 j h1 h2
    · rw [e27, cnt_up (p := fun j => decide (¬ τ 51 j = 0)) (r := r) (by omega) (fun i hi hne => by rw [e51, if_neg hne]) (by simp [h51]) (by rw [e51, if_pos rfl]; rfl), w5]
      omega
    · rw [e27]; omega
  · refine ⟨fun j => mw_01 _ _ (by rw [hw 49 (by decide)]; exact h.kL.1) j n, fun r2 t hr2 ht => ?_, fun r2 t hr2 ht hne => ?_⟩
    · rw [he 3 (by decide), he 46 (by decide), e51]
      by_cases e1 : r2 = r
      · subst e1
        rw [mw_row _ _ n b2 t (by omega), if_pos rfl, hw 49 (by decide)]
        have l0 : τ 49 (20 * r2 + t) = 0 := Decidable.byContradiction (fun g => ((h.kL.2.1 r2 t hr2 ht).mp g).1 h51)
        rw [l0]
        by_cases e2 : mwP (mwW (woA τ (r2 : Int)) r2) r2 t = true
        · rw [if_pos ⟨ht, e2⟩]
          have := (hp t ht).mp e2
          exact ⟨fun _ => ⟨by decide, this.1, this.2⟩, fun _ => by decide⟩
        · rw [if_neg (fun g => e2 g.2)]
          exact ⟨fun g => absurd rfl g, fun g => absurd ((hp t ht).mpr ⟨g.2.1, g.2.2⟩) e2⟩
      · rw [mw_out _ _ (by omega) n b2, if_neg e1, hw 49 (by decide)]
        exact h.kL.2.1 r2 t hr2 ht
    · by_cases e1 : r2 = r
      · subst e1
        rw [mw_row _ _ n b2 t (by omega), if_neg (fun g => hne ⟨hr, g.1⟩), hw 49 (by decide)]
        exact h.kL.2.2 r2 t hr2 ht hne
      · rw [mw_out _ _ (by omega) n b2, hw 49 (by decide)]
        exact h.kL.2.2 r2 t hr2 ht hne
  · refine cnt_congr (fun t ht => ?_)
    have eT : ((r : Int) * 20 + (t : Int)).toNat = 20 * r + t := by omega
    unfold misP mwP
    rw [eT, Int.toNat_natCast, veM_E]
    have a3 : woA τ (r : Int) 3 = τ 3 := by funext i; simp [woA, tU]
    have a19 : woA τ (r : Int) 19 = τ 19 := by funext i; simp [woA, tU]
    have a44 : woA τ (r : Int) 44 = τ 44 := by funext i; simp [woA, tU]
    have a45 : woA τ (r : Int) 45 = τ 45 := by funext i; simp [woA, tU]
    have a46 : woA τ (r : Int) 46 = τ 46 := by funext i; simp [woA, tU]
    have a28 : woA τ (r : Int) 28 r = 1 := by simp [woA, tU]
    rw [a3, a19, a44, a45, a46, a28, (h.kT.2 r t hr ht).2.1]
    refine decide_eq_decide.mpr ?_
    have g := h.kG.2.2.1 r t hr ht
    constructor
    · rintro ⟨_, g1, g2⟩
      refine ⟨g1, Decidable.byContradiction (fun x => ?_)⟩
      have := g.2 x
      omega
    · rintro ⟨g1, g2⟩
      exact ⟨rfl, g1, g.1 g2⟩
