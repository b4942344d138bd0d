/-! the relation after each call (written by wip/gen/t46.py) -/
theorem cnt_0 {p : Nat → Bool} : ∀ n, (∀ i, i < n → p i = false) → cnt p n = 0
  | 0, _ => rfl
  | n + 1, h => by rw [cnt, cnt_0 n (fun i hi => h i (by omega)), h n (by omega)]; rfl
theorem fs_o (y : tS) (q : Nat) (hq : ¬ (q = 18 ∨ q = 19 ∨ (22 ≤ q ∧ q ≤ 29) ∨ q = 31)) : fsT y q = y q := by
  funext j
  simp only [fsT, reF, sdF, tF, tU]
  rw [if_neg (by omega), if_neg (by omega), if_neg (by omega), if_neg (by omega), if_neg (by omega), if_neg (by omega), if_neg (by omega), if_neg (by omega), if_neg (by omega), if_neg (by omega), if_neg (by omega)]
theorem cs_o (x : tS) (q : Nat) (hq : ¬ (q = 37 ∨ q = 46 ∨ q = 49 ∨ q = 50 ∨ q = 51)) : csT x q = x q := by
  funext j
  simp only [csT, cs1, tF, tU]
  rw [if_neg (by omega), if_neg (by omega), if_neg (by omega), if_neg (by omega), if_neg (by omega)]
theorem cs_37 (x : tS) (j : Nat) : csT x 37 j = if j = 21 then 0 else x 37 j := by simp [csT, cs1, tF, tU]
theorem cs_46 (x : tS) (j : Nat) : csT x 46 j = if j < 800 then 0 else x 46 j := by simp [csT, cs1, tF, tU]
theorem cs_49 (x : tS) (j : Nat) : csT x 49 j = if j < 800 then 0 else x 49 j := by simp [csT, cs1, tF, tU]
theorem cs_50 (x : tS) (j : Nat) : csT x 50 j = if j < 800 then -1 else x 50 j := by simp [csT, cs1, tF, tU]
theorem cs_51 (x : tS) (j : Nat) : csT x 51 j = if j < 40 then 0 else x 51 j := by simp [csT, cs1, tF, tU]
theorem fs_19 (y : tS) (j : Nat) : fsT y 19 j = if j < 760 then -1 else y 19 j := by simp [fsT, reF, sdF, tF, tU]
theorem fs_18 (y : tS) : fsT y 18 3 = 0 := by simp [fsT, reF, sdF, tF, tU]
theorem fs_27 (y : tS) : fsT y 27 3 = 0 := by simp [fsT, reF, sdF, tF, tU]
theorem fs_29 (y : tS) : fsT y 29 3 = 0 := by simp [fsT, reF, sdF, tF, tU]
theorem fs_28 (y : tS) (j : Nat) : fsT y 28 j = if j < 38 then 0 else y 28 j := by simp [fsT, reF, sdF, tF, tU]
theorem fs_31 (y : tS) (j : Nat) : fsT y 31 j = if j < 760 then -1 else y 31 j := by simp [fsT, reF, sdF, tF, tU]
theorem fs_S (y : tS) (q j : Nat) (hq : 22 ≤ q ∧ q ≤ 26) : fsT y q j = if j < 20 then 0 else y q j := by
  have : q = 22 ∨ q = 23 ∨ q = 24 ∨ q = 25 ∨ q = 26 := by omega
  rcases this with h | h | h | h | h <;> subst h <;> simp [fsT, reF, sdF, tF, tU]
theorem fs_in {y : tS} (h : AllIn y) : AllIn (fsT y) := by
  intro q j
  simp only [fsT, reF, sdF, tF, tU]
  have := h q j
  repeat' split
  all_goals first | exact this | exact ⟨by decide, by decide⟩
theorem cs_in {y : tS} (h : AllIn y) : AllIn (csT y) := by
  intro q j
  simp only [csT, cs1, tF, tU]
  have := h q j
  repeat' split
  all_goals first | exact this | exact ⟨by decide, by decide⟩
/-- a new season -/
theorem RL_season {x y : tS} {n R p f : Nat} (hx : ∀ q, q < 37 → x q = fsT y q) (hA : AllIn x) (bd : 4 ≤ n ∧ n ≤ 20 ∧ R ≤ 38 ∧ p ≤ 6 ∧ f ≤ 6) (g1 : k1 (y 1) n R) (g13 : y 13 0 = 8) (gB : kB (y 5) (y 6) (x 38)) (gV : kV (x 38) (x 37 2)) (gC : y 4 2 = x 37 2 ∧ y 4 5 = (p : Int) ∧ y 4 9 = (f : Int) ∧ y 4 10 = x 37 11 ∧ x 37 1 = (n : Int) ∧ x 37 4 = (p : Int) ∧ x 37 7 = (f : Int) ∧ x 37 12 = (R : Int) ∧ 0 ≤ x 37 11) (gP : kP (y 7) (y 8) (x 39) (x 40) n p) (gF : kF (y 9) (y 10) (y 11) (x 41) (x 42) (x 43) n f) (gT : kT (y 2) (y 3) (x 44) (x 45) n R) (z46 : ∀ j, x 46 j = 0 ∨ x 46 j = 1) (z49 : ∀ j, x 49 j = 0 ∨ x 49 j = 1) (z51 : ∀ j, x 51 j = 0 ∨ x 51 j = 1) (z28 : ∀ j, y 28 j = 0 ∨ y 28 j = 1) (s0 : ∀ q j, 22 ≤ q ∧ q ≤ 26 → 20 ≤ j → y q j = 0) (d31 : ∀ j, -1 ≤ y 31 j) (g36 : ∀ j, 0 ≤ y 36 j) (g60 : ∀ j, 160 ≤ j → x 60 j = 0) (g54 : ∀ j, x 54 j = 0 ∨ x 54 j = 1) : RL (csT x) n R p f 0 := by
  have c : ∀ q, q < 37 → csT x q = fsT y q := fun q hq => by rw [cs_o x q (by omega), hx q hq]
  have cy : ∀ q, q < 37 → ¬ (q = 18 ∨ q = 19 ∨ (22 ≤ q ∧ q ≤ 29) ∨ q = 31) → csT x q = y q := fun q hq h => by rw [c q hq, fs_o y q h]
  have f46 : ∀ j, j < 800 → csT x 46 j = 0 := fun j hj => by rw [cs_46, if_pos hj]
  have f49 : ∀ j, j < 800 → csT x 49 j = 0 := fun j hj => by rw [cs_49, if_pos hj]
  have f50 : ∀ j, j < 800 → csT x 50 j = -1 := fun j hj => by rw [cs_50, if_pos hj]
  have f51 : ∀ j, j < 40 → csT x 51 j = 0 := fun j hj => by rw [cs_51, if_pos hj]
  obtain ⟨b1, b2, b3, b4, b5⟩ := bd
  have r37 : ∀ j, ¬ j = 21 → csT x 37 j = x 37 j := fun j hj => by rw [cs_37, if_neg hj]
  refine ⟨cs_in hA, ⟨b1, b2, b3, b4, b5, by decide⟩, by rw [cy 1 (by decide) (by decide)]; exact g1, by rw [cy 13 (by decide) (by decide)]; exact g13, by rw [cy 5 (by decide) (by decide), cy 6 (by decide) (by decide), cs_o x 38 (by decide)]; exact gB, ?_, by rw [cs_o x 38 (by decide), r37 2 (by decide)]; exact gV, by rw [cy 7 (by decide) (by decide), cy 8 (by decide) (by decide), cs_o x 39 (by decide), cs_o x 40 (by decide)]; exact gP, by rw [cy 9 (by decide) (by decide), cy 10 (by decide) (by decide), cy 11 (by decide) (by decide), cs_o x 41 (by decide), cs_o x 42 (by decide), cs_o x 43 (by decide)]; exact gF, by rw [cy 2 (by decide) (by decide), cy 3 (by decide) (by decide), cs_o x 44 (by decide), cs_o x 45 (by decide)]; exact gT, ?_, ?_, ?_, ?_, ?_, fun i hi => by omega, by rw [cy 36 (by decide) (by decide)]; exact g36, by rw [cs_o x 60 (by decide)]; exact g60, by rw [cs_o x 54 (by decide)]; exact g54⟩
  · obtain ⟨a1, a2, a3, a4, a5, a6, a7, a8, a9⟩ := gC
    unfold kC
    rw [cy 4 (by decide) (by decide), r37 2 (by decide), r37 11 (by decide), r37 1 (by decide), r37 4 (by decide), r37 7 (by decide), r37 12 (by decide), c 29 (by decide), fs_29, cs_37, if_pos rfl]
    exact ⟨a1, a2, a3, a4, rfl, a5, a6, a7, a8, rfl, a9⟩
  · refine ⟨fun j => ?_, ?_, fun r t hr ht => ⟨fun _ => ?_, fun g => absurd (f46 _ (by omega)) g⟩, fun r t hr ht _ => f46 _ (by omega)⟩
    · rw [cs_46]
      split
      · exact Or.inl rfl
      · exact z46 j
    · rw [c 18 (by decide), fs_18, cnt_0 800 (fun i hi => by rw [f46 i hi]; rfl)]
      rfl
    · rw [c 19 (by decide), fs_19, if_pos (by omega)]
  · refine ⟨fun u q hu h2 h6 => ?_, fun u q hu h2 h6 => ?_⟩
    · have : sums (csT x) n R u q = 0 := sumI_0 R (fun r hr => sumI_0 n (fun t ht => by unfold cel; rw [if_pos (f46 _ (by omega))]))
      rw [this, c (20 + q) (by omega), fs_S _ _ _ (by omega), if_pos (by omega)]
    · rw [c (20 + q) (by omega), fs_S _ _ _ (by omega)]
      split
      · rfl
      · exact s0 _ _ (by omega) (by omega)
  · refine ⟨fun j => ?_, fun j => ?_, fun r hr => ?_, fun r _ hr => f51 r hr, ?_, ?_⟩
    · rw [c 28 (by decide), fs_28]
      split
      · exact Or.inl rfl
      · exact z28 j
    · rw [cs_51]
      split
      · exact Or.inl rfl
      · exact z51 j
    · rw [c 28 (by decide), fs_28, if_pos hr, f51 r (by omega)]
    · rw [c 27 (by decide), fs_27, cnt_0 40 (fun i hi => by rw [f51 i hi]; rfl)]
      rfl
    · rw [c 27 (by decide), fs_27]
      decide
  · refine ⟨fun j => ?_, fun r t hr ht => ⟨fun g => absurd (f49 _ (by omega)) g, fun g => absurd (f51 r (by omega)) g.1⟩, fun r t hr ht _ => f49 _ (by omega)⟩
    rw [cs_49]
    split
    · exact Or.inl rfl
    · exact z49 j
  · refine ⟨fun j => ?_, fun r t hr ht => ?_⟩
    · rw [c 31 (by decide), fs_31]
      split
      · decide
      · exact d31 j
    · rw [f50 _ (by omega), f46 _ (by omega), if_pos rfl, c 31 (by decide), fs_31, if_pos (by omega)]
def tmY (τ : tS) (k : Int) : tS := wiF (tF (tF (tU (tU τ 1 3 k) 1 4 0) 2 760 (-1)) 3 760 (-1))
def tmX (w : tS) (k : Int) : tS := tU (tU (tU (tU (tU (tF (tU (tU w 37 0 0) 37 1 k) 38 1560 0) 37 2 0) 37 4 0) 37 7 0) 37 11 0) 37 12 0
theorem rl_teams {τ : tS} {n R p f e : Nat} (h : RL τ n R p f e) {k : Nat} (hk : 4 ≤ k ∧ k ≤ 20) : RL (mtT (fsT (tmY τ (k : Int))) (k : Int)) k 0 0 0 0 := by
  have hb := h.bd
  have yo : ∀ q, ¬ (q = 1 ∨ q = 2 ∨ q = 3 ∨ q = 4 ∨ q = 5 ∨ q = 6) → tmY τ (k : Int) q = τ q := fun q hq => by
    funext j
    simp only [tmY, wiF, tF, tU]
    rw [if_neg (by omega), if_neg (by omega), if_neg (by omega), if_neg (by omega), if_neg (by omega), if_neg (by omega), if_neg (by omega), if_neg (by omega), if_neg (by omega), if_neg (by omega)]
  have xo : ∀ q, ¬ (q = 37 ∨ q = 38) → tmX (fsT (tmY τ (k : Int))) (k : Int) q = fsT (tmY τ (k : Int)) q := fun q hq => by
    funext j
    simp only [tmX, tF, tU]
    rw [if_neg (by omega), if_neg (by omega), if_neg (by omega), if_neg (by omega), if_neg (by omega), if_neg (by omega), if_neg (by omega), if_neg (by omega)]
  have xt : ∀ q, 39 ≤ q → tmX (fsT (tmY τ (k : Int))) (k : Int) q = τ q := fun q hq => by rw [xo q (by omega), fs_o _ q (by omega), yo q (by omega)]
  have yA : AllIn (tmY τ (k : Int)) := by
    intro q j
    simp only [tmY, wiF, tF, tU]
    have := h.A q j
    repeat' split
    all_goals first | exact this | exact ⟨by decide, by decide⟩ | exact ⟨by omega, by omega⟩
  have xA : AllIn (tmX (fsT (tmY τ (k : Int))) (k : Int)) := by
    intro q j
    have := fs_in yA q j
    simp only [tmX, tF, tU]
    repeat' split
    all_goals first | exact this | exact ⟨by decide, by decide⟩ | exact ⟨by omega, by omega⟩
  have x38 : ∀ j, tmX (fsT (tmY τ (k : Int))) (k : Int) 38 j = if j < 1560 then 0 else τ 38 j := fun j => by
    have e1 : fsT (tmY τ (k : Int)) 38 = τ 38 := by rw [fs_o _ 38 (by decide), yo 38 (by decide)]
    simp [tmX, tF, tU, e1]
  have y5 : ∀ j, tmY τ (k : Int) 5 j = if j < 39 then 0 else τ 5 j := fun j => by simp [tmY, wiF, tF, tU]
  have y6 : ∀ j, tmY τ (k : Int) 6 j = if j < 39 then 0 else τ 6 j := fun j => by simp [tmY, wiF, tF, tU]
  have key : mtT (fsT (tmY τ (k : Int))) (k : Int) = csT (tmX (fsT (tmY τ (k : Int))) (k : Int)) := rfl
  rw [key]
  refine RL_season (fun q hq => xo q (by omega)) xA ⟨hk.1, hk.2, by decide, by decide, by decide⟩ ?_ (by rw [yo 13 (by decide)]; exact h.k13) ?_ ?_ ?_ (fun i hi => by omega) (fun i hi => by omega) ⟨by rw [xt 45 (by decide)]; exact h.kT.1, fun r t hr => by omega⟩ (by rw [xt 46 (by decide)]; exact h.kG.1) (by rw [xt 49 (by decide)]; exact h.kL.1) (by rw [xt 51 (by decide)]; exact h.kW.2.1) (by rw [yo 28 (by decide)]; exact h.kW.1) (fun q j hq hj => ?_) (by rw [yo 31 (by decide)]; exact h.kD.1) (by rw [yo 36 (by decide)]; exact h.k36) (by rw [xt 60 (by decide)]; exact h.k60) (by rw [xt 54 (by decide)]; exact h.k54)
  · refine ⟨?_, ?_, ?_⟩
    · have := h.k1.1
      simp [tmY, wiF, tF, tU, this]
    · simp [tmY, wiF, tF, tU]
    · simp [tmY, wiF, tF, tU]
  · refine ⟨fun j => ?_, fun j => ?_, fun j => ?_, fun t r ht hr => ?_, fun t r ht hr => ?_⟩
    · rw [y5]; split
      · decide
      · exact h.kB.1 j
    · rw [y6]; split
      · decide
      · exact h.kB.2.1 j
    · rw [x38]; split
      · exact Or.inl rfl
      · exact h.kB.2.2.1 j
    · rw [y5, x38, if_pos hr, if_pos (by omega)]
      simp
    · rw [y6, x38, if_pos hr, if_pos (by omega)]
      simp
  · unfold kV
    rw [cnt_0 1560 (fun i hi => by rw [x38, if_pos hi]; rfl)]
    simp [tmX, tF, tU]
  · simp [tmX, tmY, wiF, tF, tU]
  · obtain ⟨q', rfl⟩ : ∃ q', q = 20 + q' := ⟨q - 20, by omega⟩
    rw [yo _ (by omega)]
    exact h.kS.2 j q' (by omega) (by omega) (by omega)
