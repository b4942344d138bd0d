/-! the relation after an exchange; what is broken is the same on both sides (written by wip/gen/t50.py) -/
theorem cnt_zero {p : Nat → Bool} : ∀ n, cnt p n = 0 → ∀ i, i < n → p i = false
  | 0, _, i, hi => by omega
  | n + 1, h, i, hi => by
    rw [cnt] at h
    by_cases e : i = n
    · subst e
      cases e1 : p i
      · rfl
      · rw [e1] at h; simp at h
    · exact cnt_zero n (by omega) i (by omega)
theorem rl_perm {τ τ' : tS} {n R p f e : Nat} (h : RL τ n R p f e) (he : ∀ q, ¬ (q = 2 ∨ q = 3 ∨ q = 37 ∨ q = 44 ∨ q = 45) → τ' q = τ q) (h37 : ∀ j, ¬ j = 0 → τ' 37 j = τ 37 j) (hA : AllIn τ') (z45 : ∀ j, τ' 45 j = 0 ∨ τ' 45 j = 1) (s : Nat → Nat) (hs : ∀ r, r < R → s r < R ∧ ∀ q t, (q = 2 ∨ q = 3 ∨ q = 44 ∨ q = 45) → t < n → τ' q (20 * r + t) = τ q (20 * s r + t)) (h0 : τ 18 3 ≤ 0) (h1 : τ 27 3 ≤ 0) : RL τ' n R p f e := by
  obtain ⟨b1, b2, b3, b4, b5, b6⟩ := h.bd
  have hC := h.kC
  have n46 : ∀ j, j < 800 → τ 46 j = 0 := fun j hj => by
    have h2 := h.kG.2.1
    have h3 := cnt_zero (p := fun j => decide (¬ τ 46 j = 0)) 800 (by omega) j hj
    simpa using h3
  have n51 : ∀ j, j < 40 → τ 51 j = 0 := fun j hj => by
    have h2 := h.kW.2.2.2.2.1
    have h3 := cnt_zero (p := fun j => decide (¬ τ 51 j = 0)) 40 (by omega) j hj
    simpa using h3
  have s0 : ∀ (w : tS), w 46 = τ 46 → ∀ u q, sums w n R u q = 0 := fun w hw u q => sumI_0 R (fun r hr => sumI_0 n (fun t ht => by unfold cel; rw [hw, if_pos (n46 _ (by omega))]))
  refine ⟨hA, h.bd, (by rw [he 1 (by decide)]; exact h.k1), (by rw [he 13 (by decide)]; exact h.k13), (by rw [he 5 (by decide), he 6 (by decide), he 38 (by decide)]; exact h.kB), (by unfold kC; rw [he 4 (by decide), he 29 (by decide), h37 2 (by decide), h37 11 (by decide), h37 1 (by decide), h37 4 (by decide), h37 7 (by decide), h37 12 (by decide), h37 21 (by decide)]; exact hC), (by unfold kV; rw [he 38 (by decide), h37 2 (by decide)]; exact h.kV), (by rw [he 7 (by decide), he 8 (by decide), he 39 (by decide), he 40 (by decide)]; exact h.kP), (by rw [he 9 (by decide), he 10 (by decide), he 11 (by decide), he 41 (by decide), he 42 (by decide), he 43 (by decide)]; exact h.kF), ⟨z45, ?_⟩, ⟨by rw [he 46 (by decide)]; exact h.kG.1, by rw [he 18 (by decide), he 46 (by decide)]; exact h.kG.2.1, ?_, by rw [he 46 (by decide)]; exact h.kG.2.2.2⟩, ⟨?_, ?_⟩, (by rw [he 28 (by decide), he 51 (by decide), he 27 (by decide)]; exact h.kW), ⟨by rw [he 49 (by decide)]; exact h.kL.1, ?_, by rw [he 49 (by decide)]; exact h.kL.2.2⟩, (by rw [he 31 (by decide), he 46 (by decide), he 50 (by decide)]; exact h.kD), (by rw [he 30 (by decide), he 52 (by decide)]; exact h.kE), (by rw [he 36 (by decide)]; exact h.k36), (by rw [he 60 (by decide)]; exact h.k60), (by rw [he 54 (by decide)]; exact h.k54)⟩
  · intro r t hr ht
    obtain ⟨g1, g2⟩ := hs r hr
    rw [g2 2 t (by omega) ht, g2 3 t (by omega) ht, g2 44 t (by omega) ht, g2 45 t (by omega) ht]
    exact h.kT.2 (s r) t g1 ht
  · intro r t hr ht
    rw [he 46 (by decide), he 19 (by decide)]
    exact ⟨fun g => (h.kG.2.2.1 r t hr ht).1 g, fun g => absurd (n46 _ (by omega)) g⟩
  · intro u q hu h2 h6
    rw [he (20 + q) (by omega), h.kS.1 u q hu h2 h6, s0 τ rfl, s0 τ' (he 46 (by decide))]
  · intro u q hu h2 h6
    rw [he (20 + q) (by omega)]
    exact h.kS.2 u q hu h2 h6
  · intro r t hr ht
    rw [he 49 (by decide), he 51 (by decide)]
    have g := h.kL.2.1 r t hr ht
    exact ⟨fun x => absurd (n51 r (by omega)) (g.mp x).1, fun x => absurd (n51 r (by omega)) x.1⟩
def swS (a b r : Nat) : Nat := if r = a then b else if r = b then a else r
theorem tX_o (τ : tS) (a b n q : Nat) (hq : ¬ (q = 2 ∨ q = 3)) : tX τ a b n q = τ q := by
  funext j
  unfold tX
  rw [if_neg (fun g => hq g.1), if_neg (fun g => hq g.1)]
theorem mX_o (τ : tS) (a b n q : Nat) (hq : ¬ (q = 44 ∨ q = 45)) : mX τ a b n q = τ q := by
  funext j
  unfold mX
  rw [if_neg (fun g => hq g.1), if_neg (fun g => hq g.1)]
theorem tX_c (τ : tS) {a b n q r t : Nat} (hn : n ≤ 20) (hq : q = 2 ∨ q = 3) (ht : t < n) : tX τ a b n q (20 * r + t) = τ q (20 * swS a b r + t) := by
  unfold tX swS
  by_cases e1 : r = a
  · rw [if_pos ⟨hq, by omega, by omega⟩, if_pos e1, show 20 * r + t - 20 * a + 20 * b = 20 * b + t by omega]
  · rw [if_neg (by omega), if_neg e1]
    by_cases e2 : r = b
    · rw [if_pos ⟨hq, by omega, by omega⟩, if_pos e2, show 20 * r + t - 20 * b + 20 * a = 20 * a + t by omega]
    · rw [if_neg (by omega), if_neg e2]
theorem mX_c (τ : tS) {a b n q r t : Nat} (hn : n ≤ 20) (hq : q = 44 ∨ q = 45) (ht : t < n) : mX τ a b n q (20 * r + t) = τ q (20 * swS a b r + t) := by
  unfold mX swS
  by_cases e1 : r = a
  · rw [if_pos ⟨hq, by omega, by omega⟩, if_pos e1, show 20 * r + t - 20 * a + 20 * b = 20 * b + t by omega]
  · rw [if_neg (by omega), if_neg e1]
    by_cases e2 : r = b
    · rw [if_pos ⟨hq, by omega, by omega⟩, if_pos e2, show 20 * r + t - 20 * b + 20 * a = 20 * a + t by omega]
    · rw [if_neg (by omega), if_neg e2]
theorem tX_i {τ : tS} {a b n : Nat} (h : AllIn τ) : AllIn (tX τ a b n) := by
  intro q j
  unfold tX
  split
  · exact h _ _
  · split
    · exact h _ _
    · exact h _ _
theorem mX_i {τ : tS} {a b n : Nat} (h : AllIn τ) : AllIn (mX τ a b n) := by
  intro q j
  unfold mX
  split
  · exact h _ _
  · split
    · exact h _ _
    · exact h _ _
theorem mX_z {τ : tS} {a b n : Nat} (h : ∀ j, τ 45 j = 0 ∨ τ 45 j = 1) (j : Nat) : mX τ a b n 45 j = 0 ∨ mX τ a b n 45 j = 1 := by
  unfold mX
  split
  · exact h _
  · split
    · exact h _
    · exact h _
theorem sw_lt {a b r R : Nat} (ha : a < R) (hb : b < R) (hr : r < R) : swS a b r < R := by
  unfold swS
  split
  · exact hb
  · split
    · exact ha
    · exact hr
theorem rl_swap {τ : tS} {n R p f e : Nat} (h : RL τ n R p f e) {a b : Nat} (ha : a < R) (hb : b < R) (h0 : τ 18 3 ≤ 0) (h1 : τ 27 3 ≤ 0) : RL (mX (tU (tX τ a b n) 37 0 0) a b n) n R p f e := by
  have hn := h.bd.2.1
  have u : ∀ q, ¬ q = 37 → tU (tX τ a b n) 37 0 0 q = tX τ a b n q := fun q hq => by funext j; simp only [tU]; rw [if_neg (fun g => hq g.1)]
  refine rl_perm h (fun q hq => by rw [mX_o _ _ _ _ _ (by omega), u q (by omega), tX_o _ _ _ _ _ (by omega)]) (fun j hj => by rw [mX_o _ _ _ _ _ (by omega)]; simp only [tU]; rw [if_neg (by omega), tX_o _ _ _ _ _ (by omega)]) (mX_i (in_U (tX_i h.A) ⟨by decide, by decide⟩)) (mX_z (by rw [u 45 (by decide), tX_o _ _ _ _ _ (by omega)]; exact h.kT.1)) (swS a b) (fun r hr => ⟨sw_lt ha hb hr, fun q t hq ht => ?_⟩) h0 h1
  by_cases e1 : q = 2 ∨ q = 3
  · rw [mX_o _ _ _ _ _ (by omega), u q (by omega), tX_c _ hn e1 ht]
  · rw [mX_c _ hn (by omega) ht, u q (by omega), tX_o _ _ _ _ _ e1]
theorem rl_swap2 {τ : tS} {n R p f e : Nat} (h : RL τ n R p f e) {a b : Nat} (ha : a < R) (hb : b < R) (h0 : τ 18 3 ≤ 0) (h1 : τ 27 3 ≤ 0) : RL (mX (mX (tU (tX (tX τ a b n) a b n) 37 0 0) a b n) a b n) n R p f e := by
  have hn := h.bd.2.1
  have u : ∀ q, ¬ q = 37 → tU (tX (tX τ a b n) a b n) 37 0 0 q = tX (tX τ a b n) a b n q := fun q hq => by funext j; simp only [tU]; rw [if_neg (fun g => hq g.1)]
  refine rl_perm h (fun q hq => by rw [mX_o _ _ _ _ _ (by omega), mX_o _ _ _ _ _ (by omega), u q (by omega), tX_o _ _ _ _ _ (by omega), tX_o _ _ _ _ _ (by omega)]) (fun j hj => by rw [mX_o _ _ _ _ _ (by omega), mX_o _ _ _ _ _ (by omega)]; simp only [tU]; rw [if_neg (by omega), tX_o _ _ _ _ _ (by omega), tX_o _ _ _ _ _ (by omega)]) (mX_i (mX_i (in_U (tX_i (tX_i h.A)) ⟨by decide, by decide⟩))) (mX_z (mX_z (by rw [u 45 (by decide), tX_o _ _ _ _ _ (by omega), tX_o _ _ _ _ _ (by omega)]; exact h.kT.1))) (fun r => swS a b (swS a b r)) (fun r hr => ⟨sw_lt ha hb (sw_lt ha hb hr), fun q t hq ht => ?_⟩) h0 h1
  by_cases e1 : q = 2 ∨ q = 3
  · rw [mX_o _ _ _ _ _ (by omega), mX_o _ _ _ _ _ (by omega), u q (by omega), tX_c _ hn e1 ht, tX_c _ hn e1 ht]
  · rw [mX_c _ hn (by omega) ht, mX_c _ hn (by omega) ht, u q (by omega), tX_o _ _ _ _ _ e1, tX_o _ _ _ _ _ e1]
theorem brok_same {τ : tS} {n R p f e : Nat} (h : RL τ n R p f e) : brokF τ n R p f = mbrokF τ n R p f := by
  obtain ⟨b1, b2, b3, b4, b5, b6⟩ := h.bd
  obtain ⟨c1, c2, c3, c4, c5, c6, c7, c8, c9, c10, c11⟩ := h.kC
  have cell : ∀ r t, r < R → t < n → veM τ (20 * r + t) = τ 3 (20 * r + t) ∧ τ 44 (20 * r + t) = τ 2 (20 * r + t) := fun r t hr ht => ⟨(h.kT.2 r t hr ht).2.1, (h.kT.2 r t hr ht).1⟩
  have hban : anyN (fun r => anyN (banP τ r) n) R = anyN (fun r => anyN (mbanP τ r) n) R := by
    refine anyN_congr (fun r hr => anyN_congr (fun t ht => ?_))
    have eT : ((r : Int) * 20 + (t : Int)).toNat = 20 * r + t := by omega
    unfold banP mbanP
    rw [eT, (cell r t hr ht).1]
    have q4 := h.kB.2.2.2.1 t r (by omega) (by omega)
    have q5 := h.kB.2.2.2.2 t r (by omega) (by omega)
    refine decide_eq_decide.mpr ?_
    rw [q4, q5]
  have hpair : anyN (fun i => anyN (pairP τ i) R) p = anyN (fun i => anyN (mpairP τ i) R) p := by
    refine anyN_congr (fun i hi => anyN_congr (fun r hr => ?_))
    obtain ⟨g1, g2, g3, g4, g5⟩ := h.kP i hi
    obtain ⟨x, hx⟩ := Int.eq_ofNat_of_zero_le g4.1
    obtain ⟨y, hy⟩ := Int.eq_ofNat_of_zero_le g5.1
    unfold pairP mpairP
    rw [g1, g2, hx, hy, show ((r : Int) * 20 + (x : Int)).toNat = 20 * r + x by omega, show ((r : Int) * 20 + (y : Int)).toNat = 20 * r + y by omega, show (20 * (r : Int) + (x : Int)).toNat = 20 * r + x by omega, show (20 * (r : Int) + (y : Int)).toNat = 20 * r + y by omega, (cell r x hr (by omega)).1, (cell r y hr (by omega)).1]
  have hfix : anyN (fixP τ) f = anyN (mfixP τ) f := by
    refine anyN_congr (fun i hi => ?_)
    obtain ⟨g1, g2, g3, g4, g5, g6⟩ := h.kF i hi
    obtain ⟨x, hx⟩ := Int.eq_ofNat_of_zero_le g4.1
    obtain ⟨y, hy⟩ := Int.eq_ofNat_of_zero_le g6.1
    unfold fixP mfixP
    rw [g1, g2, g3, hx, hy, h.k1.2.2, c9, show ((y : Int) * 20 + (x : Int)).toNat = 20 * y + x by omega, show (20 * (y : Int) + (x : Int)).toNat = 20 * y + x by omega]
    refine decide_eq_decide.mpr ?_
    by_cases e1 : y < R
    · rw [(cell y x e1 (by omega)).1, (cell y x e1 (by omega)).2]
    · exact ⟨fun _ => Or.inl (by omega), fun _ => Or.inl (by omega)⟩
  have hcap : (¬ τ 4 10 = 0 ∧ anyN (fun t => anyN (capP τ t) R) n = true) ↔ anyN (fun t => anyN (mcapP τ t) R) n = true := by
    have key : ∀ t r, t < n → r < R → awr (fun i : Nat => τ 3 ((i : Int) * 20 + (t : Int)).toNat) (r + 1) = awr (fun i : Nat => veM τ (20 * i + t)) (r + 1) := by
      intro t r ht hr
      refine awr_congr (fun i hi => ?_)
      rw [show ((i : Int) * 20 + (t : Int)).toNat = 20 * i + t by omega, (cell i t (by omega) ht).1]
    rw [anyN_iff, anyN_iff]
    constructor
    · rintro ⟨h0, t, ht, h2⟩
      obtain ⟨r, hr, h3⟩ := (anyN_iff _ _).mp h2
      refine ⟨t, ht, (anyN_iff _ _).mpr ⟨r, hr, ?_⟩⟩
      have h4 := of_decide_eq_true h3
      rw [key t r ht hr] at h4
      exact decide_eq_true ⟨by omega, by omega⟩
    · rintro ⟨t, ht, h2⟩
      obtain ⟨r, hr, h3⟩ := (anyN_iff _ _).mp h2
      have h4 := of_decide_eq_true h3
      refine ⟨by omega, t, ht, (anyN_iff _ _).mpr ⟨r, hr, decide_eq_true ?_⟩⟩
      rw [key t r ht hr]
      omega
  unfold brokF mbrokF
  rw [hban, hpair, hfix]
  by_cases e5 : anyN (fun t => anyN (mcapP τ t) R) n = true
  · rw [if_pos (hcap.mpr e5), if_pos e5]
  · rw [if_neg (fun g => e5 (hcap.mp g)), if_neg e5]
theorem brokF_cg {τ τ' : tS} (n R p f : Nat) (h : ∀ q, q < 12 → τ' q = τ q) : brokF τ' n R p f = brokF τ n R p f := by
  unfold brokF banP pairP fixP capP
  rw [h 1 (by omega), h 2 (by omega), h 3 (by omega), h 4 (by omega), h 5 (by omega), h 6 (by omega), h 7 (by omega), h 8 (by omega), h 9 (by omega), h 10 (by omega), h 11 (by omega)]
theorem mbrokF_cg {τ τ' : tS} (n R p f : Nat) (h : ∀ q, 38 ≤ q → q ≤ 45 → τ' q = τ q) (h11 : τ' 37 11 = τ 37 11) (h12 : τ' 37 12 = τ 37 12) : mbrokF τ' n R p f = mbrokF τ n R p f := by
  unfold mbrokF mbanP mpairP mfixP mcapP veM
  rw [h11, h12, h 38 (by omega) (by omega), h 39 (by omega) (by omega), h 40 (by omega) (by omega), h 41 (by omega) (by omega), h 42 (by omega) (by omega), h 43 (by omega) (by omega), h 44 (by omega) (by omega), h 45 (by omega) (by omega)]
theorem brk_same {τ : tS} {n R p f e : Nat} (h : RL τ n R p f e) {t : Nat} (ht : t < n) : cnt (brkP τ (t : Int)) (R - 1) = cnt (mbrP τ t) (R - 1) := by
  refine cnt_congr (fun i hi => ?_)
  unfold brkP mbrP
  rw [show (((i : Int) + 1) * 20 + (t : Int)).toNat = 20 * (i + 1) + t by omega, show ((i : Int) * 20 + (t : Int)).toNat = 20 * i + t by omega, veM_E, veM_E, (h.kT.2 (i + 1) t (by omega) ht).2.1, (h.kT.2 i t (by omega) ht).2.1]
  refine decide_eq_decide.mpr ?_
  have k := (h.kT.2 (i + 1) t (by omega) ht).2.1
  have : τ 3 (20 * (i + 1) + t) = -1 ∨ 0 ≤ τ 3 (20 * (i + 1) + t) := by
    rw [← k]
    unfold vE
    split
    · exact Or.inl rfl
    · split <;> exact Or.inr (by decide)
  omega
