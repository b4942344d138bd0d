/-! the relation after makePlain and make (written by wip/gen/t51.py) -/
def z45 (w : tS) : Prop := ∀ j, w 45 j = 0 ∨ w 45 j = 1
theorem z45_U {w : tS} {q j : Nat} {x : Int} (h : z45 w) (hx : q = 45 → x = 0 ∨ x = 1) : z45 (tU w q j x) := by
  intro i
  simp only [tU]
  split
  · rename_i g; exact hx g.1.symm
  · exact h i
theorem z45_ml {w : tS} {r h a : Int} (g : z45 w) : z45 (mlT w r h a) := z45_U (z45_U (z45_U (z45_U g (fun e => absurd e (by decide))) (fun _ => Or.inr rfl)) (fun e => absurd e (by decide))) (fun _ => Or.inl rfl)
theorem z45_mpR {w : tS} {r m : Nat} (g : z45 w) : ∀ k, z45 (mpR w r m k)
  | 0 => g
  | k + 1 => by
    rw [mpR, mpG]
    split <;> exact z45_ml (z45_mpR g k)
theorem z45_mpE {w : tS} {r m n : Nat} (g : z45 w) : z45 (mpE w r m n) := by
  unfold mpE
  split
  · split <;> exact z45_ml (z45_mpR g _)
  · exact z45_U (z45_U (z45_mpR g _) (fun e => absurd e (by decide))) (fun _ => Or.inl rfl)
theorem z45_mpS {w : tS} {m n : Nat} (g : z45 w) : ∀ r, z45 (mpS w m n r)
  | 0 => g
  | r + 1 => by rw [mpS]; exact z45_mpE (z45_mpS g r)
theorem z45_mrR {w : tS} {m r : Nat} (g : z45 w) : ∀ t, z45 (mrR w m r t)
  | 0 => g
  | t + 1 => by
    rw [mrR, mrC]
    refine z45_U (z45_U (z45_mrR g t) (fun e => absurd e (by decide))) (fun _ => ?_)
    split
    · exact Or.inr rfl
    · exact Or.inl rfl
theorem z45_mrA {w : tS} {m n : Nat} (g : z45 w) : ∀ r, z45 (mrA w m n r)
  | 0 => g
  | r + 1 => by rw [mrA]; exact z45_mrR (z45_mrA g r) n
theorem gR_kT {v w : tS} {n r t : Nat} (hn : n ≤ 20) (h : gR v w n r) (ht : t < n) : w 44 (20 * r + t) = v 2 (20 * r + t) ∧ vE (w 44 (20 * r + t)) (w 45 (20 * r + t)) = v 3 (20 * r + t) ∧ -1 ≤ v 2 (20 * r + t) ∧ v 2 (20 * r + t) < n ∧ ¬ v 2 (20 * r + t) = (t : Int) := by
  obtain ⟨g1, g2, g3⟩ := h
  have c := g3 t ht
  refine ⟨c.1, c.2, ?_⟩
  rcases g1 t (by omega) with g | ⟨u, a1, a2, a3, a4, a5⟩
  · omega
  · have := g2 u a1 (fun q => by unfold Un at q; omega)
    omega
def plX (w : tS) (m n R : Nat) : tS := tU (mrA (mpS (tU w 37 0 0) m n m) m n (R - m)) 37 12 (R : Int)
theorem rl_plain {τ : tS} {n R p f e : Nat} (h : RL τ n R p f e) {m R' : Nat} (hm : m = n - 1 + n % 2) (hR : R' = m ∨ R' = 2 * m) : RL (mmT (fsT (plA τ m n R')) m n R') n R' p f 0 ∧ AllIn (fsT (plA τ m n R')) := by
  obtain ⟨b1, b2, b3, b4, b5, b6⟩ := h.bd
  obtain ⟨c1, c2, c3, c4, c5, c6, c7, c8, c9, c10, c11⟩ := h.kC
  have hm2 : 0 < m ∧ m < 20 := ⟨by omega, by omega⟩
  have ho1 : okT (bgT τ n R') := okT_bgT h.A b2 (by omega)
  have ho2 : okT (plS (bgT τ n R') m n m) := okT_plS ho1 hm2 b2 (by omega) m (Nat.le_refl _)
  have ho3 : okT (plA τ m n R') := okT_rtS ho2 (by omega) b2 (R' - m) (by omega)
  have yo : ∀ q, ¬ (q = 1 ∨ q = 2 ∨ q = 3) → plA τ m n R' q = τ q := fun q hq => by
    funext j
    unfold plA
    rw [rtS_ne ho2 (by omega) b2 q j (by omega) (by omega) _ (by omega), plS_ne _ _ _ _ _ (by omega) (by omega), bgT_ne _ _ _ _ _ (by omega) (by omega) (by omega)]
  have y1 : ∀ j, plA τ m n R' 1 j = bgT τ n R' 1 j := fun j => by
    unfold plA
    rw [rtS_ne ho2 (by omega) b2 1 j (by decide) (by decide) _ (by omega), plS_ne _ _ _ _ _ (by decide) (by decide)]
  have fA := fs_in ho3.1
  refine ⟨?_, fA⟩
  have xo : ∀ q, ¬ (q = 37 ∨ q = 44 ∨ q = 45) → plX (fsT (plA τ m n R')) m n R' q = fsT (plA τ m n R') q := fun q hq => by
    funext j
    unfold plX
    simp only [tU]
    rw [if_neg (by omega), mrA_ne _ _ _ _ _ (by omega) (by omega), mpS_ne _ _ _ _ _ (by omega) (by omega)]
    simp only [tU]
    rw [if_neg (by omega)]
  have x37 : ∀ j, ¬ j = 0 → plX (fsT (plA τ m n R')) m n R' 37 j = if j = 12 then (R' : Int) else τ 37 j := fun j hj => by
    unfold plX
    simp only [tU]
    by_cases e1 : j = 12
    · rw [if_pos ⟨trivial, e1⟩, if_pos e1]
    · rw [if_neg (fun g => e1 g.2), if_neg e1, mrA_ne _ _ _ _ _ (by decide) (by decide), mpS_ne _ _ _ _ _ (by decide) (by decide)]
      simp only [tU]
      rw [if_neg (by omega), fs_o _ 37 (by decide), yo 37 (by decide)]
  have xt : ∀ q, 38 ≤ q → ¬ (q = 44 ∨ q = 45) → plX (fsT (plA τ m n R')) m n R' q = τ q := fun q hq h2 => by rw [xo q (by omega), fs_o _ q (by omega), yo q (by omega)]
  have xA : AllIn (plX (fsT (plA τ m n R')) m n R') := in_U (mrA_in (mpS_in (in_U fA ⟨by decide, by decide⟩) hm2 b2 m (Nat.le_refl _)) _) ⟨by omega, by omega⟩
  have z0 : z45 (tU (fsT (plA τ m n R')) 37 0 0) := z45_U (fun j => by rw [fs_o _ 45 (by decide), yo 45 (by decide)]; exact h.kT.1 j) (fun e => absurd e (by decide))
  have xz : z45 (plX (fsT (plA τ m n R')) m n R') := z45_U (z45_mrA (z45_mpS z0 m) _) (fun e => absurd e (by decide))
  -- the rounds
  have hU : ∀ r t, r < 38 → t < 20 → bgT τ n R' 3 (20 * r + t) = -1 ∧ bgT τ n R' 2 (20 * r + t) = -1 := fun r t hr ht => by
    have : 20 * r + t < 760 := by omega
    simp [bgT, tF, tU, this]
  obtain ⟨p1, p2⟩ := pl_rounds (v := bgT τ n R') (w := tU (fsT (plA τ m n R')) 37 0 0) b1 b2 hm (fun r t hr ht => hU r t (by omega) ht) m (Nat.le_refl _)
  obtain ⟨q1, q2⟩ := rt_rounds (v := plS (bgT τ n R') m n m) (w := mpS (tU (fsT (plA τ m n R')) 37 0 0) m n m) b2 hm2.1 (by omega) ho2 p1 (fun r t h1 h2 ht => by rw [(p2 3 _ (by omega)).1, (p2 2 _ (by omega)).1]; exact hU r t (by omega) ht) (R' - m) (by omega)
  have hk : kT (plA τ m n R' 2) (plA τ m n R' 3) (plX (fsT (plA τ m n R')) m n R' 44) (plX (fsT (plA τ m n R')) m n R' 45) n R' := by
    refine ⟨xz, fun r t hr ht => ?_⟩
    have g := gR_kT b2 (q1 r (by omega)) ht
    have e4 : ∀ q j, ¬ q = 37 → plX (fsT (plA τ m n R')) m n R' q j = mrA (mpS (tU (fsT (plA τ m n R')) 37 0 0) m n m) m n (R' - m) q j := fun q j hq => by
      unfold plX
      simp only [tU]
      rw [if_neg (fun g => hq g.1)]
    rw [e4 44 _ (by decide), e4 45 _ (by decide)]
    exact g
  have key : mmT (fsT (plA τ m n R')) m n R' = csT (plX (fsT (plA τ m n R')) m n R') := rfl
  rw [key]
  refine RL_season (fun q hq => xo q (by omega)) xA ⟨b1, b2, by omega, b4, b5⟩ ⟨?_, ?_, ?_⟩ (by rw [yo 13 (by decide)]; exact h.k13) (by rw [yo 5 (by decide), yo 6 (by decide), xt 38 (by decide) (by decide)]; exact h.kB) (by rw [xt 38 (by decide) (by decide), x37 2 (by decide), if_neg (by decide)]; exact h.kV) ?_ (by rw [yo 7 (by decide), yo 8 (by decide), xt 39 (by decide) (by decide), xt 40 (by decide) (by decide)]; exact h.kP) (by rw [yo 9 (by decide), yo 10 (by decide), yo 11 (by decide), xt 41 (by decide) (by decide), xt 42 (by decide) (by decide), xt 43 (by decide) (by decide)]; exact h.kF) hk (by rw [xt 46 (by decide) (by decide)]; exact h.kG.1) (by rw [xt 49 (by decide) (by decide)]; exact h.kL.1) (by rw [xt 51 (by decide) (by decide)]; exact h.kW.2.1) (by rw [yo 28 (by decide)]; exact h.kW.1) (fun q j hq hj => ?_) (by rw [yo 31 (by decide)]; exact h.kD.1) (by rw [yo 36 (by decide)]; exact h.k36) (by rw [xt 60 (by decide) (by decide)]; exact h.k60) (by rw [xt 54 (by decide) (by decide)]; exact h.k54)
  · rw [y1, bgT_ne _ _ _ _ _ (by omega) (by decide) (by decide)]; exact h.k1.1
  · rw [y1]; exact bgT_n _ _ _
  · rw [y1]; exact bgT_R _ _ _
  · rw [yo 4 (by decide), x37 2 (by decide), x37 11 (by decide), x37 1 (by decide), x37 4 (by decide), x37 7 (by decide), x37 12 (by decide), if_neg (by decide), if_neg (by decide), if_neg (by decide), if_neg (by decide), if_neg (by decide), if_pos rfl]
    exact ⟨c1, c2, c3, c4, c6, c7, c8, rfl, c11⟩
  · obtain ⟨q', rfl⟩ : ∃ q', q = 20 + q' := ⟨q - 20, by omega⟩
    rw [yo _ (by omega)]
    exact h.kS.2 j q' (by omega) (by omega) (by omega)
/-- a choice was hit -/
theorem chF_hit {nx : tS → Nat → sR} {ok : Nat → Bool} {ch : Nat → tS} {D : tS} : ∀ m c b, (chF nx ok ch D m c b).1 = 1 → ∃ c' b', c ≤ c' ∧ c' < c + m ∧ ok c' = true ∧ chF nx ok ch D m c b = nx (ch c') b'
  | 0, c, b, h => by rw [chF] at h; exact absurd h (by show ¬ (0 : Int) = 1; decide)
  | m + 1, c, b, h => by
    rw [chF] at h ⊢
    by_cases e : (tgF (ok c) D b (nx (ch c) (b - 1))).1 = 0
    · rw [if_pos e] at h ⊢
      obtain ⟨c', b', h1, h2, h3, h4⟩ := chF_hit m (c + 1) _ h
      exact ⟨c', b', by omega, by omega, h3, h4⟩
    · rw [if_neg e] at h ⊢
      cases e1 : ok c
      · rw [e1, tgF_no] at e
        exact absurd rfl e
      · rw [e1] at h e
        by_cases e2 : b = 0
        · have : tgF true D b (nx (ch c) (b - 1)) = (2, D, 0) := by unfold tgF; rw [if_pos rfl, if_pos e2]
          rw [this] at h
          exact absurd h (by show ¬ (2 : Int) = 1; decide)
        · rw [tgF_yes e2] at h ⊢
          by_cases e3 : (nx (ch c) (b - 1)).1 = 0
          · rw [if_pos e3] at h
            exact absurd h (by show ¬ (0 : Int) = 1; decide)
          · rw [if_neg e3]
            exact ⟨c, b - 1, Nat.le_refl _, by omega, e1, rfl⟩
/-- a draft that was found is full -/
theorem goF_full {τ : tS} {n all p f : Nat} (hn4 : 4 ≤ n) (hn8 : n ≤ 8) (ha7 : all ≤ 7) : ∀ k D fr b dp, DI D n all dp → (∀ r t, r < fr → t < n → ¬ D r t = -2) → (∀ i s, fr < i → D i s = -2) → (goF τ n all p f k D fr b).1 = 1 → DOk (goF τ n all p f k D fr b).2.1 n ∧ ∀ r t, r < all → t < n → ¬ (goF τ n all p f k D fr b).2.1 r t = -2 := by
  have done : ∀ (D : tS) fr, (∀ r t, r < fr → t < n → ¬ D r t = -2) → all ≤ rdF D n fr → ∀ r t, r < all → t < n → ¬ D r t = -2 := by
    intro D fr h1 h2 r t hr ht
    by_cases e : r < fr
    · exact h1 r t e ht
    · have h3 := rd_or D n fr
      have e1 : r = fr := by omega
      have e2 : rdF D n fr = fr + 1 := by omega
      intro g
      unfold rdF at e2
      rw [if_pos ((anyN_iff _ _).mpr ⟨t, ht, by rw [← e1]; exact decide_eq_true g⟩)] at e2
      omega
  intro k
  induction k with
  | zero =>
    intro D fr b dp hI h1 hO h
    rw [goF] at h ⊢
    by_cases e : all ≤ rdF D n fr
    · rw [if_pos e]
      exact ⟨hI.1, done D fr h1 e⟩
    · rw [if_neg e] at h
      exact absurd h (by show ¬ (0 : Int) = 1; decide)
  | succ k ih =>
    intro D fr b dp hI h1 hO h
    rw [goF] at h ⊢
    by_cases e : all ≤ rdF D n fr
    · rw [if_pos e]
      exact ⟨hI.1, done D fr h1 e⟩
    · rw [if_neg e] at h ⊢
      have hfree := rd_free (n := n) (by omega) hO
      have hlf := lf_ok hn8 hfree
      have hrd := rd_or D n fr
      obtain ⟨c', b', g1, g2, g3, g4⟩ := chF_hit _ _ _ h
      rw [g4] at h ⊢
      have h1' : ∀ r t, r < rdF D n fr → t < n → ¬ D r t = -2 := by
        intro r t hr ht
        by_cases e1 : r < fr
        · exact h1 r t e1 ht
        · have e3 : r = fr := by omega
          have e2 : rdF D n fr = fr + 1 := by omega
          intro g
          unfold rdF at e2
          rw [if_pos ((anyN_iff _ _).mpr ⟨t, ht, by rw [← e3]; exact decide_eq_true g⟩)] at e2
          omega
      generalize rdF D n fr = r at *
      generalize lfD D n r = t at *
      obtain ⟨s1, s2, s3⟩ := ok_step hn8 hI (by omega) (by omega) hlf.1 hlf.2.1 (fun i s hi => hO i s (by omega)) (by omega) g3
      refine ih (chD D n r t c') r b' (dp + 1) s2 (fun r2 t2 hr2 ht2 => ?_) s3 h
      have : chD D n r t c' r2 t2 = D r2 t2 := by
        unfold chD
        split
        · rw [dB_at, if_neg (by omega)]
        · split <;> rw [dG_at, if_neg (by omega), if_neg (by omega)]
      rw [this]
      exact h1' r2 t2 hr2 ht2
theorem enc_o (τ D : tS) (b q : Nat) (h : ¬ (q = 12 ∨ q = 14 ∨ q = 15 ∨ q = 16 ∨ q = 17)) : enc τ D b q = τ q := funext (fun j => enc_ne τ D b q j h)
theorem srT_o (τ : tS) (n all q : Nat) (h : ¬ (q = 12 ∨ q = 13)) : srT τ n all q = τ q := by
  funext j
  simp only [srT, tU]
  rw [if_neg (by omega), if_neg (by omega), if_neg (by omega)]
theorem rl_make1 {τ v w1 D : tS} {n R p f e all b : Nat} (h : RL τ n R p f e) (hn8 : n ≤ 8) (hall : all = n - 1 + n % 2) (hD : DOk D n) (hb : b ≤ 4000) (hfull : ∀ r t, r < all → t < n → ¬ D r t = -2) (hv : ∀ q, ¬ q = 62 → v q = fsT (toT (bgT (enc (srT τ n all) D b) n all) (enc (srT τ n all) D b) n all 0) q) (hF : SFr (tU v 37 0 0) w1 0) (hM : MR w1 D) : RL (mkE w1 n all) n all p f 0 := by
  obtain ⟨b1, b2, b3, b4, b5, b6⟩ := h.bd
  obtain ⟨c1, c2, c3, c4, c5, c6, c7, c8, c9, c10, c11⟩ := h.kC
  generalize hW : enc (srT τ n all) D b = W at hv
  have Wo : ∀ q, ¬ (q = 12 ∨ q = 13 ∨ q = 14 ∨ q = 15 ∨ q = 16 ∨ q = 17) → W q = τ q := fun q hq => by rw [← hW, enc_o _ _ _ _ (by omega), srT_o _ _ _ _ (by omega)]
  have W13 : W 13 0 = 8 := by
    rw [← hW, enc_ne _ _ _ _ _ (by decide)]
    have := h.k13
    simp [srT, tU, this]
  generalize hy : toT (bgT W n all) W n all 0 = y at hv
  have yo : ∀ q, ¬ (q = 1 ∨ q = 2 ∨ q = 3) → y q = W q := fun q hq => by
    funext j
    rw [← hy, toT_ne _ _ _ _ _ _ _ (by omega), bgT_ne _ _ _ _ _ (by omega) (by omega) (by omega)]
  have yt : ∀ q, ¬ (q = 1 ∨ q = 2 ∨ q = 3 ∨ q = 12 ∨ q = 13 ∨ q = 14 ∨ q = 15 ∨ q = 16 ∨ q = 17) → y q = τ q := fun q hq => by rw [yo q (by omega), Wo q (by omega)]
  have y1 : ∀ j, y 1 j = bgT W n all 1 j := fun j => by rw [← hy, toT_ne _ _ _ _ _ _ _ (by decide)]
  have xo : ∀ q, ¬ (q = 37 ∨ q = 44 ∨ q = 45) → mkT (tU w1 37 12 (all : Int)) n all 0 q = w1 q := fun q hq => by
    funext j
    rw [mkT_ne _ _ _ _ _ _ (by omega) (by omega)]
    simp only [tU]
    rw [if_neg (by omega)]
  have wq : ∀ q, ¬ (q = 37 ∨ (53 ≤ q ∧ q ≤ 57) ∨ q = 62) → w1 q = fsT y q := fun q hq => by
    funext j
    rw [hF.2.2.1 q j (by omega)]
    simp only [tU]
    rw [if_neg (by omega), hv q (by omega)]
  have w37 : ∀ j, ¬ j = 0 → w1 37 j = τ 37 j := fun j hj => by
    rw [hF.2.2.1 37 j (by omega)]
    simp only [tU]
    rw [if_neg (by omega), hv 37 (by decide), fs_o _ 37 (by decide), yt 37 (by decide)]
  have x37 : ∀ j, ¬ j = 0 → mkT (tU w1 37 12 (all : Int)) n all 0 37 j = if j = 12 then (all : Int) else τ 37 j := fun j hj => by
    rw [mkT_ne _ _ _ _ _ _ (by decide) (by decide)]
    simp only [tU]
    by_cases e1 : j = 12
    · rw [if_pos ⟨trivial, e1⟩, if_pos e1]
    · rw [if_neg (fun g => e1 g.2), if_neg e1, w37 j hj]
  have xt : ∀ q, 38 ≤ q → ¬ (q = 44 ∨ q = 45 ∨ (53 ≤ q ∧ q ≤ 57) ∨ q = 62) → mkT (tU w1 37 12 (all : Int)) n all 0 q = τ q := fun q hq h2 => by rw [xo q (by omega), wq q (by omega), fs_o _ q (by omega), yt q (by omega)]
  have xA : AllIn (mkT (tU w1 37 12 (all : Int)) n all 0) := mkT_in (in_U hF.1 ⟨by omega, by omega⟩)
  have key : mkE w1 n all = csT (mkT (tU w1 37 12 (all : Int)) n all 0) := rfl
  rw [key]
  refine RL_season (y := y) (fun q hq => by rw [xo q (by omega), wq q (by omega)]) xA ⟨b1, b2, by omega, b4, b5⟩ ⟨?_, ?_, ?_⟩ (by rw [yo 13 (by decide)]; exact W13) (by rw [yt 5 (by decide), yt 6 (by decide), xt 38 (by decide) (by decide)]; exact h.kB) (by rw [xt 38 (by decide) (by decide), x37 2 (by decide), if_neg (by decide)]; exact h.kV) ?_ (by rw [yt 7 (by decide), yt 8 (by decide), xt 39 (by decide) (by decide), xt 40 (by decide) (by decide)]; exact h.kP) (by rw [yt 9 (by decide), yt 10 (by decide), yt 11 (by decide), xt 41 (by decide) (by decide), xt 42 (by decide) (by decide), xt 43 (by decide) (by decide)]; exact h.kF) ⟨fun j => ?_, fun r t hr ht => ?_⟩ (by rw [xt 46 (by decide) (by decide)]; exact h.kG.1) (by rw [xt 49 (by decide) (by decide)]; exact h.kL.1) (by rw [xt 51 (by decide) (by decide)]; exact h.kW.2.1) (by rw [yt 28 (by decide)]; exact h.kW.1) (fun q j hq hj => ?_) (by rw [yt 31 (by decide)]; exact h.kD.1) (by rw [yt 36 (by decide)]; exact h.k36) (by rw [xt 60 (by decide) (by decide)]; exact h.k60) (by rw [xo 54 (by decide)]; exact hF.2.1)
  · rw [y1, bgT_ne _ _ _ _ _ (by omega) (by decide) (by decide), Wo 1 (by decide)]; exact h.k1.1
  · rw [y1]; exact bgT_n _ _ _
  · rw [y1]; exact bgT_R _ _ _
  · rw [yt 4 (by decide), x37 2 (by decide), x37 11 (by decide), x37 1 (by decide), x37 4 (by decide), x37 7 (by decide), x37 12 (by decide), if_neg (by decide), if_neg (by decide), if_neg (by decide), if_neg (by decide), if_neg (by decide), if_pos rfl]
    exact ⟨c1, c2, c3, c4, c6, c7, c8, rfl, c11⟩
  · unfold mkT
    split
    · rw [if_neg (by decide)]
      split
      · exact Or.inr rfl
      · exact Or.inl rfl
    · simp only [tU]
      rw [if_neg (by omega), wq 45 (by decide), fs_o _ 45 (by decide), yt 45 (by decide)]
      exact h.kT.1 j
  · have hy2 : y 2 (20 * r + t) = foC (D r t) := by
      rw [← hy]
      unfold toT
      rw [if_pos ⟨Or.inl rfl, by omega, Or.inl (by omega)⟩, ← hW, show (20 * r + t) / 20 * 8 + (20 * r + t) % 20 = r * 8 + t by omega]
      exact enc_14 _ _ _ _ _ (by omega) (by omega)
    have hy3 : y 3 (20 * r + t) = veC (D r t) := by
      rw [← hy]
      unfold toT
      rw [if_pos ⟨Or.inr rfl, by omega, Or.inl (by omega)⟩, ← hW, show (20 * r + t) / 20 * 8 + (20 * r + t) % 20 = r * 8 + t by omega]
      exact enc_15 _ _ _ _ _ (by omega) (by omega)
    have hm := hM r t (by omega) (by omega)
    have u53 : tU w1 37 12 (all : Int) 53 (20 * r + t) = w1 53 (20 * r + t) := by simp [tU]
    have u54 : tU w1 37 12 (all : Int) 54 (20 * r + t) = w1 54 (20 * r + t) := by simp [tU]
    have hx4 : mkT (tU w1 37 12 (all : Int)) n all 0 44 (20 * r + t) = triC (D r t) := by
      unfold mkT
      rw [if_pos ⟨Or.inl rfl, Or.inl (by omega), by omega⟩, if_pos rfl, u53, hm.1]
    have hx5 : mkT (tU w1 37 12 (all : Int)) n all 0 45 (20 * r + t) = if 0 ≤ triC (D r t) ∧ ¬ w1 54 (20 * r + t) = 0 then 1 else 0 := by
      unfold mkT
      rw [if_pos ⟨Or.inr rfl, Or.inl (by omega), by omega⟩, if_neg (by decide), u53, u54, hm.1]
    rw [hx4, hx5, hy2, hy3]
    have hd := hD.1 r t
    have hf := hfull r t hr ht
    by_cases e1 : D r t < 0
    · have e2 : D r t = -1 := by omega
      rw [e2]
      refine ⟨rfl, ?_, by decide, by show (-1 : Int) < n; omega, by show ¬ (-1 : Int) = t; omega⟩
      unfold vE
      rw [if_pos (by decide)]
      rfl
    · have h54 := hm.2 (by omega)
      have t1 : triC (D r t) = D r t / 2 := by unfold triC; rw [if_neg e1]
      have t2 : foC (D r t) = D r t / 2 := by unfold foC; rw [if_neg e1]
      have t3 : veC (D r t) = D r t % 2 := by unfold veC; rw [if_neg e1]
      rw [t1, t2, t3, h54]
      have hr2 := hD.2.2 r t (by omega)
      have hu : (D r t / 2).toNat < n := Decidable.byContradiction (fun g => by
        have := hD.2.1 r (D r t / 2).toNat (by omega)
        omega)
      refine ⟨rfl, ?_, by omega, by omega, fun g => ?_⟩
      · unfold vE
        rw [if_neg (by omega)]
        by_cases e3 : D r t % 2 = 0
        · rw [if_neg (show ¬ (0 ≤ D r t / 2 ∧ ¬ D r t % 2 = 0) from fun g => g.2 e3), if_pos rfl, e3]
        · rw [if_pos (show 0 ≤ D r t / 2 ∧ ¬ D r t % 2 = 0 from ⟨by omega, e3⟩), if_neg (by decide)]
          omega
      · have e4 : (D r t / 2).toNat = t := by omega
        rw [e4] at hr2
        omega
  · obtain ⟨q', rfl⟩ : ∃ q', q = 20 + q' := ⟨q - 20, by omega⟩
    rw [yt _ (by omega)]
    exact h.kS.2 j q' (by omega) (by omega) (by omega)
/-- a search that found nothing leaves what matters as it was -/
theorem rl_make0 {τ v w1 D : tS} {n R p f e all b : Nat} (h : RL τ n R p f e) (hv : ∀ q, ¬ q = 62 → v q = enc (srT τ n all) D b q) (hF : SFr (tU v 37 0 0) w1 0) : RL w1 n R p f e := by
  have wq : ∀ q j, ¬ (q = 12 ∨ q = 13 ∨ (14 ≤ q ∧ q ≤ 17) ∨ q = 37 ∨ (53 ≤ q ∧ q ≤ 57) ∨ q = 62) → w1 q j = τ q j := fun q j hq => by
    rw [hF.2.2.1 q j (by omega)]
    simp only [tU]
    rw [if_neg (by omega), hv q (by omega), enc_ne _ _ _ _ _ (by omega), srT_o _ _ _ _ (by omega)]
  refine h.irr hF.1 (fun q hq => funext (fun j => wq q j (by omega))) ?_ (wq 18 3 (by decide)) (wq 27 3 (by decide)) (wq 29 3 (by decide)) (fun j => by rw [wq 36 j (by omega)]; exact h.k36 j) (fun j hj => ?_) (fun j hj => by rw [wq 60 j (by omega)]; exact h.k60 j hj) hF.2.1
  · rw [hF.2.2.1 13 0 (by decide)]
    simp only [tU]
    rw [if_neg (by omega), hv 13 (by decide), enc_ne _ _ _ _ _ (by decide)]
    simp [srT, tU]
  · rw [hF.2.2.1 37 j (by omega)]
    simp only [tU]
    rw [if_neg (by omega), hv 37 (by decide), enc_ne _ _ _ _ _ (by decide), srT_o _ _ _ _ (by decide)]
