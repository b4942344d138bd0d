/-! the relation after catchUp, result, swapRounds (written by wip/gen/t49.py) -/
theorem PI_tF {H A : Nat → Nat} {g : Nat} {u : tS} (h : PI H A g u) : PI H A g (tF u 36 20 0) := by
  obtain ⟨h1, h2, h3, h4⟩ := h
  refine ⟨fun q j => ?_, fun j => ?_, fun i hi => ?_, ?_⟩
  · simp only [tF]
    split
    · exact ⟨by decide, by decide⟩
    · exact h1 q j
  · simp only [tF]
    split
    · decide
    · exact h2 j
  · simp only [tF]
    rw [if_neg (by omega), if_neg (by omega)]
    exact h3 i hi
  · simp only [tF]
    rw [if_neg (by omega)]
    exact h4
theorem kdT_in {u : tS} (h : AllIn u) : ∀ i, AllIn (kdT u i)
  | 0 => h
  | i + 1 => by rw [kdT]; exact in_U (kdT_in h i) (h _ _)
theorem rn_in {H A : Nat → Nat} {g : Nat} : ∀ (m c : Nat) (u : tS), c + m ≤ 7 → PI H A g u → AllIn (rnF H A g m c u).2 ∧ ∀ j, 0 ≤ (rnF H A g m c u).2 36 j
  | 0, _, u, _, h => ⟨h.1, h.2.1⟩
  | m + 1, c, u, hc, h => by
    rw [rnF]
    have hq := PI_pf (H := H) (A := A) (g := g) (c := c) (by omega) g 0 0 _ (PI_tF h)
    generalize pf H A c g 0 0 (tF u 36 20 0) = q at hq ⊢
    split
    · exact ⟨kdT_in hq.1 g, fun j => by show 0 ≤ kdT q.2 g 36 j; rw [kdT_ne _ _ _ (by decide)]; exact hq.2.1 j⟩
    · exact rn_in m (c + 1) q.2 (by omega) hq
theorem mk_in {w : tS} (h : AllIn w) : ∀ i, AllIn (mkdT w i)
  | 0 => h
  | i + 1 => by rw [mkdT]; exact in_U (mk_in h i) (h _ _)
theorem mcF_in {τ : tS} {g : Nat} : ∀ (c k : Nat) (f : Nat → Int), k + c ≤ 7 ∨ c = 0 → (∀ i, zin (f i)) → ∀ i, zin ((mcF τ g c k f).2 i)
  | 0, _, f, _, hf => hf
  | c + 1, k, f, hk, hf => by
    have hz1 : ∀ i, zin (ru f 0 (-1) i) := ru_in hf ⟨by decide, by decide⟩
    have hfr := mp_fr (τ := τ) (k := k) (by omega) g 0 _ hz1
    rw [mcF]
    split
    · exact hfr.1
    · exact mcF_in c (k + 1) _ (by omega) hfr.1
theorem mcW_in {w : tS} (h : AllIn w) : AllIn (mcW w) := in_U (lmT_in h 800 (Nat.le_refl _)) ⟨by decide, by decide⟩
theorem mcT_in {w : tS} {n e g : Nat} (h : AllIn w) (he : e ≤ 6) : AllIn (mcT (mcW w) g (mcQ w n e)) := by
  have hq : ∀ i, zin ((mcQ w n e).2 i) := by
    unfold mcQ
    exact mcF_in _ _ _ (by omega) (fun i => mcW_in h 59 i)
  unfold mcT
  split
  · exact tR_in (mcW_in h) hq
  · exact mk_in (tR_in (mcW_in h) hq) g
theorem mcT_o {w : tS} {g : Nat} (Q : Int × (Nat → Int)) (q : Nat) (hq : ¬ (q = 37 ∨ q = 50 ∨ q = 58 ∨ q = 59)) : mcT (mcW w) g Q q = w q := by
  funext j
  have e1 : mcW w q j = w q j := by
    simp only [mcW, tU]
    rw [if_neg (by omega), lmT_ne _ _ _ (by omega) (by omega)]
  unfold mcT
  split
  · rw [tR_ne _ _ _ (by omega), e1]
  · rw [mkdT_ne _ _ _ (by omega), tR_ne _ _ _ (by omega), e1]
theorem mcT_37 {w : tS} {g : Nat} (Q : Int × (Nat → Int)) (j : Nat) (hj : ¬ (j = 0 ∨ j = 28)) : mcT (mcW w) g Q 37 j = w 37 j := by
  have key : ∀ i, lmT w i 37 j = w 37 j := by
    intro i
    induction i with
    | zero => rw [lmT]; simp only [tU]; rw [if_neg (by omega)]
    | succ i ih =>
      rw [lmT]
      split
      · simp only [tU]
        rw [if_neg (by omega), if_neg (by omega)]
        exact ih
      · exact ih
  have e1 : mcW w 37 j = w 37 j := by
    simp only [mcW, tU]
    rw [if_neg (by omega)]
    exact key 800
  unfold mcT
  split
  · rw [tR_ne _ _ _ (by omega), e1]
  · rw [mkdT_ne _ _ _ (by omega), tR_ne _ _ _ (by omega), e1]
theorem cu_PI {τ : tS} {n R p f e : Nat} (h : RL τ n R p f e) (hg : cnt (lostP τ) 800 ≤ 14) : PI (cgH τ n R) (cgA τ n R) (cgG τ n R) (cgW τ n R) := by
  obtain ⟨b1, b2, b3, b4, b5, b6⟩ := h.bd
  obtain ⟨l1, l2⟩ := li_all h.lo hg b2 b3
  have hgG : cgG τ n R = cnt (lostP τ) 800 := by unfold cgG; rw [l1, Int.toNat_natCast]
  refine ⟨lgA_in h.A (lgI_0 τ) (in_U h.A ⟨by decide, by decide⟩) b2 R b3, fun j => ?_, fun i hi => ?_, ?_⟩
  · rw [cgW_ne _ _ (by decide) (by decide) (by decide) (by omega)]
    exact h.k36 j
  · rw [hgG] at hi
    obtain ⟨r, t, c1, c2, c3, c4, c5, c6, c7⟩ := l2 i hi
    have hm := of_decide_eq_true c3
    have eT : ((r : Int) * 20 + (t : Int)).toNat = 20 * r + t := by omega
    rw [eT] at hm
    have o1 := h.cl.opp r t c1 c2 (by rw [eT]; exact hm.2.1)
    rw [eT] at o1
    unfold cgH cgA
    rw [c6, c7, Int.toNat_natCast, Int.toNat_of_nonneg o1.1]
    refine ⟨rfl, rfl, by omega, by omega⟩
  · rw [l1, hgG]
theorem rl_catch {τ w : tS} {n R p f e : Nat} (h : RL τ n R p f e) (hg : cnt (lostP τ) 800 ≤ 14) (hw : ∀ q, ¬ q = 62 → w q = (crF τ n R e).2 q) (hw2 : ∀ j, zin (w 62 j)) : cnt (lostP w) 800 = cnt (lostP τ) 800 ∧ Mo w n R p f e ∧ (crF τ n R e).1 = (mcQ w n e).1 ∧ RL (mcT (mcW w) (cnt (lostP w) 800) (mcQ w n e)) n R p f e ∧ mcT (mcW w) (cnt (lostP w) 800) (mcQ w n e) 37 0 = 0 ∧ mcT (mcW w) (cnt (lostP w) 800) (mcQ w n e) 62 0 = w 62 0 := by
  obtain ⟨b1, b2, b3, b4, b5, b6⟩ := h.bd
  have hO : ∀ r t : Nat, r < R → t < n → τ 3 (20 * r + t) = 1 → 0 ≤ τ 2 (20 * r + t) ∧ τ 2 (20 * r + t) < (n : Int) ∧ ¬ τ 2 (20 * r + t) = (t : Int) := by
    intro r t hr ht h3
    have k := h.kT.2 r t hr ht
    have := vE_1 (k.2.1.trans h3)
    exact ⟨by rw [← k.1]; exact this, k.2.2.2.1, k.2.2.2.2⟩
  have s1 := cu_same b6 h.A h.lo hg b2 b3 (fun r t hr ht => (h.kT.2 r t hr ht).1) hO (fun i hi => (h.kE i hi).1)
  have fr : ∀ q, ¬ ((29 ≤ q ∧ q ≤ 36) ∨ q = 62) → w q = τ q := fun q hq => by rw [hw q (by omega)]; exact funext (fun j => s1.2.1 q j (by omega))
  have fr3 : ∀ q j, (q = 30 ∨ (q = 29 ∧ j ≠ 10)) → w q j = τ q j := fun q j hq => by rw [hw q (by omega)]; exact s1.2.2.1 q j hq
  have hin0 : AllIn (crF τ n R e).2 ∧ ∀ j, 0 ≤ (crF τ n R e).2 36 j := by
    unfold crF
    by_cases e1 : e + 1 - cgM τ n R = 0
    · rw [e1]
      have := cu_PI h hg
      exact ⟨this.1, this.2.1⟩
    · exact rn_in _ _ _ (by omega) (cu_PI h hg)
  have hin : AllIn w ∧ ∀ j, 0 ≤ w 36 j := by
    refine ⟨fun q j => ?_, by rw [hw 36 (by decide)]; exact hin0.2⟩
    by_cases e1 : q = 62
    · rw [e1]; exact hw2 j
    · rw [hw q e1]; exact hin0.1 q j
  have hlo : lostP w = lostP τ := by funext j; unfold lostP; rw [fr 49 (by omega)]
  have hL2 : hLo τ w n R := by
    refine ⟨fun r t hr ht => ?_, fun r t ht hne hr => ?_⟩
    · rw [hlo]; exact h.lo.1 r t hr ht
    · rw [hlo]; exact h.lo.2 r t ht hne hr
  have s2 := cu_same (v := τ) (w := w) b6 hin.1 hL2 (by rw [hlo]; exact hg) b2 b3 (fun r t hr ht => by rw [fr 44 (by omega)]; exact (h.kT.2 r t hr ht).1) hO (fun i hi => by rw [fr 52 (by omega)]; exact (h.kE i hi).1)
  obtain ⟨t1, t2, t3, t4⟩ := s2
  rw [← hw 31 (by decide)] at t4
  refine ⟨by rw [hlo], h.mo.cg hin.1 (fun q h1 h2 => fr q (by omega)), t1, ?_, ?_, ?_⟩
  · generalize hx : mcT (mcW w) (cnt (lostP w) 800) (mcQ w n e) = x at t4 ⊢
    have xo : ∀ q, ¬ (q = 37 ∨ q = 50 ∨ q = 58 ∨ q = 59) → x q = w q := fun q hq => by rw [← hx]; exact mcT_o _ q hq
    have he : ∀ q, ¬ ((29 ≤ q ∧ q ≤ 36) ∨ q = 37 ∨ q = 50 ∨ q = 58 ∨ q = 59 ∨ q = 62) → x q = τ q := fun q hq => by rw [xo q (by omega), fr q (by omega)]
    have x37 : ∀ j, ¬ (j = 0 ∨ j = 28) → x 37 j = τ 37 j := fun j hj => by rw [← hx, mcT_37 _ j hj, fr 37 (by omega)]
    have x30 : x 30 = τ 30 := by rw [xo 30 (by decide)]; exact funext (fun j => fr3 30 j (Or.inl rfl))
    have x29 : x 29 3 = τ 29 3 := by rw [xo 29 (by decide)]; exact fr3 29 3 (Or.inr ⟨rfl, by decide⟩)
    have hA : AllIn x := by rw [← hx]; exact mcT_in hin.1 b6
    have hC := h.kC
    refine ⟨hA, h.bd, (by rw [he 1 (by decide)]; exact h.k1), (by rw [he 13 (by decide)]; exact h.k13), (by rw [he 5 (by decide), he 6 (by decide), he 38 (by decide)]; exact h.kB), (by unfold kC; rw [he 4 (by decide), x29, x37 2 (by decide), x37 11 (by decide), x37 1 (by decide), x37 4 (by decide), x37 7 (by decide), x37 12 (by decide), x37 21 (by decide)]; exact hC), (by unfold kV; rw [he 38 (by decide), x37 2 (by decide)]; exact h.kV), (by rw [he 7 (by decide), he 8 (by decide), he 39 (by decide), he 40 (by decide)]; exact h.kP), (by rw [he 9 (by decide), he 10 (by decide), he 11 (by decide), he 41 (by decide), he 42 (by decide), he 43 (by decide)]; exact h.kF), (by rw [he 2 (by decide), he 3 (by decide), he 44 (by decide), he 45 (by decide)]; exact h.kT), (by rw [he 3 (by decide), he 19 (by decide), he 20 (by decide), he 46 (by decide), he 47 (by decide), he 48 (by decide), he 18 (by decide)]; exact h.kG), kS_cg h.kS (fun q h1 h2 => he _ (by omega)) (fun q h1 h2 => he _ (by omega)), (by rw [he 28 (by decide), he 51 (by decide), he 27 (by decide)]; exact h.kW), (by rw [he 3 (by decide), he 46 (by decide), he 49 (by decide), he 51 (by decide)]; exact h.kL), ⟨?_, ?_⟩, (by rw [x30, he 52 (by decide)]; exact h.kE), (by rw [xo 36 (by decide)]; exact hin.2), (by rw [he 60 (by decide)]; exact h.k60), (by rw [he 54 (by decide)]; exact h.k54)⟩
    · intro j
      rw [xo 31 (by decide)]
      rcases t4 j with ⟨g1, _⟩ | ⟨y, g1, g2, _, _⟩
      · rw [g1]; exact h.kD.1 j
      · have := (h.kE y g1).2
        omega
    · intro r t hr ht
      rw [xo 31 (by decide), he 46 (by decide)]
      rcases t4 (20 * r + t) with ⟨g1, g2⟩ | ⟨y, g1, g2, g3, g4⟩
      · rw [g1, g2, fr 50 (by omega)]; exact h.kD.2 r t hr ht
      · rw [g2, g3, fr 52 (by omega)]
        rw [hlo] at g4
        have g5 := ((h.kL.2.1 r t hr ht).mp (of_decide_eq_true g4)).2.2
        rw [if_pos g5, (h.kE y g1).1]
  · have e1 : mcW w 37 0 = 0 := by simp [mcW, tU]
    unfold mcT
    split
    · rw [tR_ne _ _ _ (by decide), e1]
    · rw [mkdT_ne _ _ _ (by decide), tR_ne _ _ _ (by decide), e1]
  · rw [mcT_o _ 62 (by decide)]
/-- what a result leaves in the class's rows -/
def resF (τ τ1 : tS) (r t a : Nat) (x y : Int) : Prop := (∀ q, ¬ (q = 18 ∨ q = 19 ∨ q = 20 ∨ (22 ≤ q ∧ q ≤ 26) ∨ q = 62) → τ1 q = τ q) ∧ (∀ j, τ1 19 j = if j = 20 * r + t then x else τ 19 j) ∧ (∀ j, τ1 20 j = if j = 20 * r + t then y else τ 20 j) ∧ τ1 18 3 = τ 18 3 + (if τ 46 (20 * r + t) = 0 then 1 else 0) ∧ (∀ u q, 2 ≤ q → q ≤ 6 → τ1 (20 + q) u = τ (20 + q) u - cel τ u q r t + ((if u = t then c6 q x y else 0) + (if u = a then c6 q y x else 0)))
theorem resF.out {τ τ1 : tS} {r t a : Nat} {x y b : Int} (h : resF τ τ1 r t a x y) : resF τ (tU τ1 62 0 b) r t a x y := by
  obtain ⟨h1, h2, h3, h4, h5⟩ := h
  have e : ∀ q, ¬ q = 62 → tU τ1 62 0 b q = τ1 q := fun q hq => by funext j; simp only [tU]; rw [if_neg (fun g => hq g.1)]
  refine ⟨fun q hq => by rw [e q (by omega), h1 q hq], fun j => by rw [e 19 (by decide)]; exact h2 j, fun j => by rw [e 20 (by decide)]; exact h3 j, by rw [e 18 (by decide)]; exact h4, fun u q g1 g2 => by rw [e (20 + q) (by omega)]; exact h5 u q g1 g2⟩
theorem reG_o (τ : tS) (r t : Nat) (x y : Int) (q : Nat) (hq : ¬ (q = 19 ∨ q = 20)) : reG τ (r : Int) (t : Int) x y q = τ q := by
  funext j
  simp only [reG, tU]
  rw [if_neg (by omega), if_neg (by omega)]
theorem res_new {τ : tS} {n R p f e : Nat} (h : RL τ n R p f e) {r t a : Nat} {x y : Int} (hr : r < R) (ht : t < n) (h46 : τ 46 (20 * r + t) = 0) : resF τ (sc1 (sc1 (reG (tU τ 18 3 (τ 18 3 + 1)) (r : Int) (t : Int) x y) (t : Int) x y 1) (a : Int) y x 1) r t a x y := by
  have eT : ((r : Int) * 20 + (t : Int)).toNat = 20 * r + t := by omega
  refine ⟨fun q hq => ?_, fun j => ?_, fun j => ?_, ?_, fun u q h2 h6 => ?_⟩
  · funext j
    rw [sc1_ne _ _ (by omega), sc1_ne _ _ (by omega), reG_o _ _ _ _ _ _ (by omega)]
    simp only [tU]
    rw [if_neg (by omega)]
  · rw [sc1_ne _ _ (by omega), sc1_ne _ _ (by omega)]
    simp [reG, tU, eT]
  · rw [sc1_ne _ _ (by omega), sc1_ne _ _ (by omega)]
    simp [reG, tU, eT]
  · rw [sc1_ne _ _ (by omega), sc1_ne _ _ (by omega), if_pos h46, reG_o _ _ _ _ _ _ (by omega)]
    simp [tU]
  · rw [sc1_at h2 h6 (Or.inl rfl), sc1_at h2 h6 (Or.inl rfl), reG_o _ _ _ _ _ _ (by omega)]
    have e0 : cel τ u q r t = 0 := by unfold cel; rw [if_pos h46]
    have e1 : tU τ 18 3 (τ 18 3 + 1) (20 + q) u = τ (20 + q) u := by simp only [tU]; rw [if_neg (by omega)]
    rw [e0, e1, Int.one_mul, Int.one_mul]
    omega
theorem res_old {τ : tS} {n R p f e : Nat} (h : RL τ n R p f e) {r t a : Nat} {x y : Int} (hr : r < R) (ht : t < n) (ha : τ 2 (20 * r + t) = (a : Int)) (h46 : ¬ τ 46 (20 * r + t) = 0) : resF τ (sc1 (sc1 (reG (sc1 (sc1 τ (t : Int) (τ 19 (20 * r + t)) (τ 20 (20 * r + t)) (-1)) (a : Int) (τ 20 (20 * r + t)) (τ 19 (20 * r + t)) (-1)) (r : Int) (t : Int) x y) (t : Int) x y 1) (a : Int) y x 1) r t a x y := by
  have eT : ((r : Int) * 20 + (t : Int)).toNat = 20 * r + t := by omega
  have g := (h.kG.2.2.1 r t hr ht).2 h46
  have k4 : (τ 44 (20 * r + t)).toNat = a := by rw [(h.kT.2 r t hr ht).1, ha, Int.toNat_natCast]
  refine ⟨fun q hq => ?_, fun j => ?_, fun j => ?_, ?_, fun u q h2 h6 => ?_⟩
  · funext j
    rw [sc1_ne _ _ (by omega), sc1_ne _ _ (by omega), reG_o _ _ _ _ _ _ (by omega), sc1_ne _ _ (by omega), sc1_ne _ _ (by omega)]
  · rw [sc1_ne _ _ (by omega), sc1_ne _ _ (by omega)]
    simp only [reG, tU, eT]
    rw [if_neg (by omega), sc1_ne _ _ (by omega), sc1_ne _ _ (by omega)]
    simp
  · rw [sc1_ne _ _ (by omega), sc1_ne _ _ (by omega)]
    simp only [reG, tU, eT]
    rw [if_neg (show ¬ ((20 : Nat) = 19 ∧ j = 20 * r + t) by omega), sc1_ne _ _ (by omega), sc1_ne _ _ (by omega)]
    simp
  · rw [sc1_ne _ _ (by omega), sc1_ne _ _ (by omega), if_neg h46, reG_o _ _ _ _ _ _ (by omega), sc1_ne _ _ (by omega), sc1_ne _ _ (by omega)]
    omega
  · rw [sc1_at h2 h6 (Or.inl rfl), sc1_at h2 h6 (Or.inl rfl), reG_o _ _ _ _ _ _ (by omega), sc1_at h2 h6 (Or.inr rfl), sc1_at h2 h6 (Or.inr rfl)]
    unfold cel
    rw [if_neg h46, k4, g.1, g.2.1]
    by_cases e1 : u = t
    · by_cases e2 : u = a
      · simp only [if_pos e1, if_pos e2]; omega
      · simp only [if_pos e1, if_neg e2]; omega
    · by_cases e2 : u = a
      · simp only [if_neg e1, if_pos e2]; omega
      · simp only [if_neg e1, if_neg e2]; omega
theorem rl_result {τ τ1 : tS} {n R p f e : Nat} (h : RL τ n R p f e) {r t a : Nat} {x y : Int} (hr : r < R) (ht : t < n) (hv : τ 3 (20 * r + t) = 1) (ha : τ 2 (20 * r + t) = (a : Int)) (hx : 0 ≤ x ∧ x ≤ 99) (hy : 0 ≤ y ∧ y ≤ 99) (hF : resF τ τ1 r t a x y) (hA1 : AllIn τ1) : RL (mrsT τ1 (20 * r + t) x y) n R p f e ∧ τ1 18 3 = ((cnt (playedGamesP (mrsT τ1 (20 * r + t) x y)) 800 : Nat) : Int) := by
  obtain ⟨b1, b2, b3, b4, b5, b6⟩ := h.bd
  obtain ⟨f1, f2, f3, f4, f5⟩ := hF
  have hC := h.kC
  have han : a < n := by have := (h.kT.2 r t hr ht).2.2.2.1; omega
  have he : ∀ q, ¬ (q = 18 ∨ q = 19 ∨ q = 20 ∨ (22 ≤ q ∧ q ≤ 26) ∨ q = 37 ∨ (46 ≤ q ∧ q ≤ 50) ∨ q = 62) → mrsT τ1 (20 * r + t) x y q = τ q := fun q hq => by
    funext j
    simp only [mrsT, tU]
    rw [if_neg (by omega), if_neg (by omega), if_neg (by omega), if_neg (by omega), if_neg (by omega), if_neg (by omega), f1 q (by omega)]
  have ec : ∀ q, q < 37 → mrsT τ1 (20 * r + t) x y q = τ1 q := fun q hq => by
    funext j
    simp only [mrsT, tU]
    rw [if_neg (by omega), if_neg (by omega), if_neg (by omega), if_neg (by omega), if_neg (by omega), if_neg (by omega)]
  have e37 : ∀ i, ¬ i = 0 → mrsT τ1 (20 * r + t) x y 37 i = τ 37 i := fun i hi => by
    rw [← f1 37 (by decide)]
    simp [mrsT, tU, hi]
  have e46 : ∀ j, mrsT τ1 (20 * r + t) x y 46 j = if j = 20 * r + t then 1 else τ 46 j := fun j => by rw [← f1 46 (by decide)]; simp [mrsT, tU]
  have e47 : ∀ j, mrsT τ1 (20 * r + t) x y 47 j = if j = 20 * r + t then x else τ 47 j := fun j => by rw [← f1 47 (by decide)]; simp [mrsT, tU]
  have e48 : ∀ j, mrsT τ1 (20 * r + t) x y 48 j = if j = 20 * r + t then y else τ 48 j := fun j => by rw [← f1 48 (by decide)]; simp [mrsT, tU]
  have e49 : ∀ j, mrsT τ1 (20 * r + t) x y 49 j = if j = 20 * r + t then 0 else τ 49 j := fun j => by rw [← f1 49 (by decide)]; simp [mrsT, tU]
  have e50 : ∀ j, mrsT τ1 (20 * r + t) x y 50 j = if j = 20 * r + t then -1 else τ 50 j := fun j => by rw [← f1 50 (by decide)]; simp [mrsT, tU]
  have hA : AllIn (mrsT τ1 (20 * r + t) x y) := mrsT_in hA1 ⟨by omega, by omega⟩ ⟨by omega, by omega⟩
  have ix : ∀ r2 t2, t2 < n → (20 * r2 + t2 = 20 * r + t ↔ (r2 = r ∧ t2 = t)) := fun r2 t2 h2 => by omega
  have hcn : τ1 18 3 = ((cnt (fun j => decide (¬ mrsT τ1 (20 * r + t) x y 46 j = 0)) 800 : Nat) : Int) := by
    rw [f4, h.kG.2.1]
    by_cases e1 : τ 46 (20 * r + t) = 0
    · have k9 := cnt_up (p := fun j => decide (¬ τ 46 j = 0)) (q := fun j => decide (¬ mrsT τ1 (20 * r + t) x y 46 j = 0)) (n := 800) (r := 20 * r + t) (by omega) (fun i hi hne => by rw [e46, if_neg hne]) (by simp [e1]) (by rw [e46, if_pos rfl]; rfl)
      rw [if_pos e1, k9]
      omega
    · have k9 : cnt (fun j => decide (¬ τ 46 j = 0)) 800 = cnt (fun j => decide (¬ mrsT τ1 (20 * r + t) x y 46 j = 0)) 800 := cnt_congr (fun i hi => by
        rw [e46]
        by_cases e2 : i = 20 * r + t
        · rw [if_pos e2, e2]; simp [e1]
        · rw [if_neg e2])
      rw [if_neg e1, Int.add_zero, k9]
  refine ⟨⟨hA, h.bd, (by rw [he 1 (by decide)]; exact h.k1), (by rw [he 13 (by decide)]; exact h.k13), (by rw [he 5 (by decide), he 6 (by decide), he 38 (by decide)]; exact h.kB), (by unfold kC; rw [he 4 (by decide), he 29 (by decide), e37 2 (by decide), e37 11 (by decide), e37 1 (by decide), e37 4 (by decide), e37 7 (by decide), e37 12 (by decide), e37 21 (by decide)]; exact hC), (by unfold kV; rw [he 38 (by decide), e37 2 (by decide)]; exact h.kV), (by rw [he 7 (by decide), he 8 (by decide), he 39 (by decide), he 40 (by decide)]; exact h.kP), (by rw [he 9 (by decide), he 10 (by decide), he 11 (by decide), he 41 (by decide), he 42 (by decide), he 43 (by decide)]; exact h.kF), (by rw [he 2 (by decide), he 3 (by decide), he 44 (by decide), he 45 (by decide)]; exact h.kT), ⟨?_, ?_, ?_, ?_⟩, ⟨?_, ?_⟩, (by rw [he 28 (by decide), he 51 (by decide), he 27 (by decide)]; exact h.kW), ⟨?_, ?_, ?_⟩, ⟨?_, ?_⟩, (by rw [he 30 (by decide), he 52 (by decide)]; exact h.kE), (by rw [he 36 (by decide)]; exact h.k36), (by rw [he 60 (by decide)]; exact h.k60), (by rw [he 54 (by decide)]; exact h.k54)⟩, hcn⟩
  · intro j; rw [e46]; split
    · exact Or.inr rfl
    · exact h.kG.1 j
  · rw [ec 18 (by decide)]; exact hcn
  · intro r2 t2 hr2 ht2
    have g := h.kG.2.2.1 r2 t2 hr2 ht2
    rw [he 3 (by decide), ec 19 (by decide), ec 20 (by decide), f2, f3, e46, e47, e48]
    by_cases e1 : 20 * r2 + t2 = 20 * r + t
    · simp only [if_pos e1]
      refine ⟨fun g => absurd g (by decide), fun _ => ⟨trivial, trivial, by rw [e1]; exact hv, hx, hy⟩⟩
    · simp only [if_neg e1]
      exact g
  · intro r2 t2 hr2 ht2 hne
    rw [e46, if_neg (by omega)]
    exact h.kG.2.2.2 r2 t2 hr2 ht2 hne
  · intro u q hu h2 h6
    have k9 : ∀ q2 j, 44 ≤ q2 → q2 ≤ 48 → ¬ j = 20 * r + t → mrsT τ1 (20 * r + t) x y q2 j = τ q2 j := fun q2 j g1 g2 g3 => by
      have : q2 = 44 ∨ q2 = 45 ∨ q2 = 46 ∨ q2 = 47 ∨ q2 = 48 := by omega
      rcases this with g | g | g | g | g <;> subst g
      · rw [he 44 (by decide)]
      · rw [he 45 (by decide)]
      · rw [e46, if_neg g3]
      · rw [e47, if_neg g3]
      · rw [e48, if_neg g3]
    rw [ec (20 + q) (by omega), f5 u q h2 h6, h.kS.1 u q hu h2 h6, sums_upd (w := τ) (w' := mrsT τ1 (20 * r + t) x y) b2 hr ht k9 u q]
    · have : cel (mrsT τ1 (20 * r + t) x y) u q r t = (if u = t then c6 q x y else 0) + (if u = a then c6 q y x else 0) := by
        unfold cel
        rw [e46, e47, e48, he 44 (by decide), if_pos rfl, if_pos rfl, if_pos rfl, if_neg (by decide), (h.kT.2 r t hr ht).1, ha, Int.toNat_natCast]
      rw [this]
  · intro u q hu h2 h6
    have e0 : cel τ u q r t = 0 := by
      unfold cel
      rw [(h.kT.2 r t hr ht).1, ha, Int.toNat_natCast, if_neg (show ¬ u = t by omega), if_neg (show ¬ u = a by omega)]
      split <;> rfl
    rw [ec (20 + q) (by omega), f5 u q h2 h6, h.kS.2 u q hu h2 h6, e0, if_neg (by omega), if_neg (by omega)]
    rfl
  · intro j; rw [e49]; split
    · exact Or.inl rfl
    · exact h.kL.1 j
  · intro r2 t2 hr2 ht2
    rw [he 3 (by decide), he 51 (by decide), e46, e49]
    by_cases e1 : 20 * r2 + t2 = 20 * r + t
    · rw [if_pos e1, if_pos e1]
      exact ⟨fun g => absurd rfl g, fun g => absurd g.2.2 (by decide)⟩
    · rw [if_neg e1, if_neg e1]
      exact h.kL.2.1 r2 t2 hr2 ht2
  · intro r2 t2 hr2 ht2 hne
    rw [e49, if_neg (by omega)]
    exact h.kL.2.2 r2 t2 hr2 ht2 hne
  · intro j
    rw [he 31 (by decide)]
    exact h.kD.1 j
  · intro r2 t2 hr2 ht2
    rw [he 31 (by decide), e46, e50]
    by_cases e1 : 20 * r2 + t2 = 20 * r + t
    · rw [if_pos e1, if_pos e1, if_neg (by decide)]
    · rw [if_neg e1, if_neg e1]
      exact h.kD.2 r2 t2 hr2 ht2
