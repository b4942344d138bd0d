/-! the games that are missing, listed on both sides, and the dates found for them (written by wip/gen/t44.py) -/
/-- what is lost (w) is what is missing (v) -/
def hLo (v w : tS) (n R : Nat) : Prop := (∀ r t, r < R → t < n → (lostP w (20 * r + t) = misP v (r : Int) t)) ∧ (∀ r t, t < 20 → ¬ (r < R ∧ t < n) → r < 40 → lostP w (20 * r + t) = false)
section ZL1
variable {v w : tS} {n R : Nat}
theorem cl_row (h : hLo v w n R) {r : Nat} (hr : r < R) : ∀ T, T ≤ n → cnt (lostP w) (20 * r + T) = cnt (lostP w) (20 * r) + cnt (misP v (r : Int)) T
  | 0, _ => rfl
  | T + 1, hT => by
    rw [show 20 * r + (T + 1) = (20 * r + T) + 1 from rfl, cnt, cnt, cl_row h hr T (by omega), h.1 r T hr (by omega)]
    omega
theorem cl_gap (h : hLo v w n R) {r : Nat} (hr : r < 40) {T0 : Nat} (h0 : ∀ t, T0 ≤ t → t < 20 → ¬ (r < R ∧ t < n)) : ∀ k, T0 + k ≤ 20 → cnt (lostP w) (20 * r + (T0 + k)) = cnt (lostP w) (20 * r + T0)
  | 0, _ => rfl
  | k + 1, hk => by
    rw [show 20 * r + (T0 + (k + 1)) = (20 * r + (T0 + k)) + 1 from rfl, cnt, cl_gap h hr h0 k (by omega), h.2 r (T0 + k) (by omega) (h0 (T0 + k) (by omega) (by omega)) hr]
    simp
theorem cl_next (h : hLo v w n R) (hn : n ≤ 20) (hR : R ≤ 38) {r : Nat} (hr : r < R) : cnt (lostP w) (20 * (r + 1)) = cnt (lostP w) (20 * r) + cnt (misP v (r : Int)) n := by
  have h1 := cl_gap h (r := r) (by omega) (T0 := n) (fun t h1 h2 => by omega) (20 - n) (by omega)
  rw [show 20 * r + (n + (20 - n)) = 20 * (r + 1) by omega] at h1
  rw [h1, cl_row h hr n (Nat.le_refl _)]
theorem cl_all (h : hLo v w n R) (hn : n ≤ 20) (hR : R ≤ 38) : ∀ k, R + k ≤ 40 → cnt (lostP w) (20 * (R + k)) = cnt (lostP w) (20 * R)
  | 0, _ => rfl
  | k + 1, hk => by
    have h1 := cl_gap h (r := R + k) (by omega) (T0 := 0) (fun t h1 h2 => by omega) 20 (by omega)
    rw [show 20 * (R + k) + (0 + 20) = 20 * (R + (k + 1)) by omega, show 20 * (R + k) + 0 = 20 * (R + k) from rfl, cl_all h hn hR k (by omega)] at h1
    exact h1
theorem mis_sum (h : hLo v w n R) (hn : n ≤ 20) (hR : R ≤ 38) : ∀ k, k ≤ R → sumI (fun r => ((cnt (misP v (r : Int)) n : Nat) : Int)) k = ((cnt (lostP w) (20 * k) : Nat) : Int)
  | 0, _ => rfl
  | k + 1, hk => by
    rw [sumI, mis_sum h hn hR k (by omega), cl_next h hn hR (by omega)]
    omega
theorem mis_lost (h : hLo v w n R) (hn : n ≤ 20) (hR : R ≤ 38) : misN v n R = ((cnt (lostP w) 800 : Nat) : Int) := by
  unfold misN
  rw [mis_sum h hn hR R (Nat.le_refl _), ← cl_all h hn hR (40 - R) (by omega), show 20 * (R + (40 - R)) = 800 by omega]
theorem lm_old {j i : Nat} (hi : i < cnt (lostP w) j) : lmT w (j + 1) 58 i = lmT w j 58 i := by
  rw [lmT]
  split
  · simp only [tU]
    rw [if_neg (by omega), if_neg (by omega)]
  · rfl
theorem lm_new {j : Nat} (h : lostP w j = true) : lmT w (j + 1) 58 (cnt (lostP w) j) = (j : Int) := by
  rw [lmT, if_pos h]
  simp [tU]
/-- the list u of the class against the first j cells of the reference -/
def liI (v w u : tS) (n R j : Nat) : Prop := u 29 10 = ((cnt (lostP w) j : Nat) : Int) ∧ ∀ i, i < cnt (lostP w) j → ∃ r t : Nat, r < R ∧ t < n ∧ misP v (r : Int) t = true ∧ lmT w j 58 i = ((20 * r + t : Nat) : Int) ∧ u 32 i = (r : Int) ∧ u 33 i = (t : Int) ∧ u 34 i = v 2 (20 * r + t)
theorem li_step (h : hLo v w n R) {u : tS} {r T : Nat} (hr : r < R) (hT : T < n) (hI : liI v w u n R (20 * r + T)) (h14 : cnt (lostP w) (20 * r + T + 1) ≤ 14) : liI v w (lgS v u r T) n R (20 * r + T + 1) := by
  obtain ⟨i1, i2⟩ := hI
  have hl := h.1 r T hr hT
  have eT : ((r : Int) * 20 + (T : Int)).toNat = 20 * r + T := by omega
  unfold lgS
  by_cases e : misP v (r : Int) T = true
  · have el : lostP w (20 * r + T) = true := by rw [hl]; exact e
    have ec : cnt (lostP w) (20 * r + T + 1) = cnt (lostP w) (20 * r + T) + 1 := by rw [cnt, el]; rfl
    rw [if_pos ⟨e, by omega⟩, i1, Int.toNat_natCast, eT]
    refine ⟨by simp [tU, ec], fun i hi => ?_⟩
    by_cases ei : i = cnt (lostP w) (20 * r + T)
    · refine ⟨r, T, hr, hT, e, ?_, ?_, ?_, ?_⟩
      · rw [ei]; exact lm_new el
      · simp [tU, ei]
      · simp [tU, ei]
      · simp [tU, ei]
    · obtain ⟨a, b, c1, c2, c3, c4, c5, c6, c7⟩ := i2 i (by omega)
      refine ⟨a, b, c1, c2, c3, ?_, ?_, ?_, ?_⟩
      · rw [lm_old (by omega)]; exact c4
      · simp [tU, ei]; exact c5
      · simp [tU, ei]; exact c6
      · simp [tU, ei]; exact c7
  · have el : lostP w (20 * r + T) = false := by rw [hl]; simpa using e
    have ec : cnt (lostP w) (20 * r + T + 1) = cnt (lostP w) (20 * r + T) := by rw [cnt, el]; rfl
    rw [if_neg (fun g => e g.1)]
    refine ⟨by rw [ec]; exact i1, fun i hi => ?_⟩
    rw [ec] at hi
    obtain ⟨a, b, c1, c2, c3, c4, c5, c6, c7⟩ := i2 i hi
    exact ⟨a, b, c1, c2, c3, by rw [lm_old hi]; exact c4, c5, c6, c7⟩
theorem li_skip {u : tS} {j : Nat} (hI : liI v w u n R j) (el : lostP w j = false) : liI v w u n R (j + 1) := by
  obtain ⟨i1, i2⟩ := hI
  have ec : cnt (lostP w) (j + 1) = cnt (lostP w) j := by rw [cnt, el]; rfl
  refine ⟨by rw [ec]; exact i1, fun i hi => ?_⟩
  rw [ec] at hi
  obtain ⟨a, b, c1, c2, c3, c4, c5, c6, c7⟩ := i2 i hi
  exact ⟨a, b, c1, c2, c3, by rw [lm_old hi]; exact c4, c5, c6, c7⟩
theorem li_row (h : hLo v w n R) (h14 : ∀ j, j ≤ 800 → cnt (lostP w) j ≤ 14) (hn : n ≤ 20) (hR : R ≤ 38) {u : tS} {r : Nat} (hr : r < R) (hI : liI v w u n R (20 * r)) : ∀ T, T ≤ n → liI v w (lgR v u r T) n R (20 * r + T)
  | 0, _ => hI
  | T + 1, hT => by
    rw [lgR]
    exact li_step h hr (by omega) (li_row h h14 hn hR hr hI T (by omega)) (h14 _ (by omega))
theorem li_gap (h : hLo v w n R) {u : tS} {r : Nat} (hr : r < 40) {T0 : Nat} (h0 : ∀ t, T0 ≤ t → t < 20 → ¬ (r < R ∧ t < n)) (hI : liI v w u n R (20 * r + T0)) : ∀ k, T0 + k ≤ 20 → liI v w u n R (20 * r + (T0 + k))
  | 0, _ => hI
  | k + 1, hk => li_skip (li_gap h hr h0 hI k (by omega)) (h.2 r (T0 + k) (by omega) (h0 (T0 + k) (by omega) (by omega)) hr)
theorem li_rows (h : hLo v w n R) (h14 : ∀ j, j ≤ 800 → cnt (lostP w) j ≤ 14) (hn : n ≤ 20) (hR : R ≤ 38) {u : tS} (hI : liI v w u n R 0) : ∀ r, r ≤ R → liI v w (lgA v u n r) n R (20 * r)
  | 0, _ => hI
  | r + 1, hr => by
    rw [lgA]
    have h1 := li_row h h14 hn hR (r := r) (by omega) (li_rows h h14 hn hR hI r (by omega)) n (Nat.le_refl _)
    have h2 := li_gap h (r := r) (by omega) (T0 := n) (fun t h1 h2 => by omega) h1 (20 - n) (by omega)
    rw [show 20 * r + (n + (20 - n)) = 20 * (r + 1) by omega] at h2
    exact h2
theorem li_end (h : hLo v w n R) (hR : R ≤ 38) {u : tS} (hI : liI v w u n R (20 * R)) : ∀ k, R + k ≤ 40 → liI v w u n R (20 * (R + k))
  | 0, _ => hI
  | k + 1, hk => by
    have h2 := li_gap h (r := R + k) (by omega) (T0 := 0) (fun t h1 h2 => by omega) (li_end h hR hI k (by omega)) 20 (by omega)
    rw [show 20 * (R + k) + (0 + 20) = 20 * (R + (k + 1)) by omega] at h2
    exact h2
theorem li_all (h : hLo v w n R) (hg : cnt (lostP w) 800 ≤ 14) (hn : n ≤ 20) (hR : R ≤ 38) : liI v w (cgW v n R) n R 800 := by
  have h14 : ∀ j, j ≤ 800 → cnt (lostP w) j ≤ 14 := fun j hj => Nat.le_trans (cnt_mono _ hj) hg
  have h0 : liI v w (tU v 29 10 0) n R 0 := ⟨by simp [tU, cnt], fun i hi => by simp [cnt] at hi⟩
  have h1 := li_end h hR (li_rows h h14 hn hR h0 R (Nat.le_refl _)) (40 - R) (by omega)
  rw [show 20 * (R + (40 - R)) = 800 by omega] at h1
  exact h1
theorem mxN_congr {f g : Nat → Nat} {k : Nat} (h : ∀ i, i < k → f i = g i) : mxN f k = mxN g k := by
  induction k with
  | zero => rfl
  | succ k ih => rw [mxN, mxN, ih (fun i hi => h i (by omega)), h k (by omega)]
/-- counts tried one behind the other -/
theorem rn_mc {τ : tS} {H A : Nat → Nat} {g : Nat} (hM : ∀ i h, i < g → h < g → (meetP τ i h = true ↔ (H i = H h ∨ H i = A h ∨ A i = H h ∨ A i = A h))) (hH : ∀ i, i < g → H i < 20 ∧ A i < 20 ∧ ¬ H i = A i) {e : Nat} (he : e ≤ 6) : ∀ (m c : Nat) (u : tS) (f : Nat → Int), m = e + 1 - c → (∀ i, zin (f i)) → (rnF H A g m c u).1 = (mcF τ g m c f).1 ∧ ((mcF τ g m c f).1 = -1 → ∀ q j, q ≠ 35 → q ≠ 36 → (rnF H A g m c u).2 q j = u q j) ∧ (¬ (mcF τ g m c f).1 = -1 → ∃ u', (rnF H A g m c u).2 = kdT u' g ∧ (∀ i, i < g → u' 35 i = (mcF τ g m c f).2 i ∧ 0 ≤ u' 35 i ∧ u' 35 i < (e : Int)) ∧ ∀ q j, q ≠ 35 → q ≠ 36 → u' q j = u q j)
  | 0, c, u, f, _, _ => ⟨rfl, fun _ q j _ _ => rfl, fun h => absurd rfl h⟩
  | m + 1, c, u, f, hm, hf => by
    have hc6 : c ≤ 6 := by omega
    have hz1 : ∀ i, zin (ru f 0 (-1) i) := ru_in hf ⟨by decide, by decide⟩
    have hfr := mp_fr (τ := τ) (k := c) (by omega) g 0 _ hz1
    have hB : mkB (tF u 36 20 0) H A (ru f 0 (-1)) 0 := by
      intro t d ht
      have : tF u 36 20 0 36 t = 0 := by simp [tF, ht]
      rw [this]
      constructor
      · intro h; simp at h
      · rintro ⟨i, h1, _⟩; omega
    obtain ⟨a1, a2, a3⟩ := pf_mp (τ := τ) (k := c) hM hH g 0 0 (tF u 36 20 0) (ru f 0 (-1)) (by omega) (by omega) (fun i hi => by omega) hB
    have hne : ∀ q j, q ≠ 35 → q ≠ 36 → (pf H A c g 0 0 (tF u 36 20 0)).2 q j = u q j := fun q j h1 h2 => by
      rw [pf_ne h1 h2]
      simp only [tF]
      rw [if_neg (fun z => h2 z.1)]
    have hrng := fun hs i h1 h2 => mp_rng (τ := τ) (k := c) (by omega) g 0 _ hz1 hs i h1 h2
    rw [rnF, mcF]
    generalize pf H A c g 0 0 (tF u 36 20 0) = q at a1 a2 a3 hne ⊢
    generalize mp τ c g 0 (ru f 0 (-1)) = q' at a1 a2 hrng hfr ⊢
    by_cases e1 : q.1 = true
    · have e2 : q'.1 = true := by rw [← a1]; exact e1
      rw [if_pos e1, if_pos e2]
      refine ⟨rfl, fun h => ?_, fun _ => ⟨q.2, rfl, fun i hi => ?_, hne⟩⟩
      · exfalso
        have : ((c : Int)) = -1 := h
        omega
      · have h1 := a2 e1 i (by omega) hi
        have h2 := hrng e2 i (by omega) (by omega)
        refine ⟨h1, ?_, ?_⟩
        · rw [h1]; omega
        · rw [h1]; omega
    · have e2 : ¬ q'.1 = true := by rw [← a1]; exact e1
      rw [if_neg e1, if_neg e2]
      obtain ⟨b1, b2, b3⟩ := rn_mc hM hH he m (c + 1) q.2 q'.2 (by omega) hfr.1
      refine ⟨b1, fun h q0 j h1 h2 => ?_, fun h => ?_⟩
      · rw [b2 h q0 j h1 h2, hne q0 j h1 h2]
      · obtain ⟨u', c1, c2, c3⟩ := b3 h
        exact ⟨u', c1, c2, fun q0 j h1 h2 => by rw [c3 q0 j h1 h2, hne q0 j h1 h2]⟩
/-- both answers to catchUp, and the dates they leave -/
theorem cu_same {e : Nat} (he : e ≤ 6) (hw : AllIn w) (h : hLo v w n R) (hg : cnt (lostP w) 800 ≤ 14) (hn : n ≤ 20) (hR : R ≤ 38) (hC : ∀ r t, r < R → t < n → w 44 (20 * r + t) = v 2 (20 * r + t)) (hO : ∀ r t : Nat, r < R → t < n → v 3 (20 * r + t) = 1 → 0 ≤ v 2 (20 * r + t) ∧ v 2 (20 * r + t) < (n : Int) ∧ ¬ v 2 (20 * r + t) = (t : Int)) (hd : ∀ i, i < e → v 30 i = w 52 i) :
    (crF v n R e).1 = (mcQ w n e).1 ∧ (∀ q j, ¬ (29 ≤ q ∧ q ≤ 36) → (crF v n R e).2 q j = v q j) ∧ (∀ q j, (q = 30 ∨ (q = 29 ∧ j ≠ 10)) → (crF v n R e).2 q j = v q j) ∧ (∀ j, ((crF v n R e).2 31 j = v 31 j ∧ mcT (mcW w) (cnt (lostP w) 800) (mcQ w n e) 50 j = w 50 j) ∨ (∃ x : Nat, x < e ∧ (crF v n R e).2 31 j = v 30 x ∧ mcT (mcW w) (cnt (lostP w) 800) (mcQ w n e) 50 j = w 52 x ∧ lostP w j = true)) := by
  have hl := li_all h hg hn hR
  obtain ⟨l1, l2⟩ := hl
  have hgG : cgG v n R = cnt (lostP w) 800 := by unfold cgG; rw [l1, Int.toNat_natCast]
  have h58 : ∀ i, mcW w 58 i = lmT w 800 58 i := fun i => by simp [mcW, tU]
  have h44 : ∀ j, mcW w 44 j = w 44 j := fun j => by
    simp only [mcW, tU]
    rw [if_neg (by omega), lmT_ne _ _ _ (by omega) (by omega)]
  -- the games, one by one
  have hgm : ∀ i, i < cnt (lostP w) 800 → ∃ r t a : Nat, r < R ∧ t < n ∧ a < n ∧ ¬ a = t ∧ misP v (r : Int) t = true ∧ mcW w 58 i = ((20 * r + t : Nat) : Int) ∧ cgW v n R 32 i = (r : Int) ∧ cgH v n R i = t ∧ cgA v n R i = a ∧ cgW v n R 33 i = (t : Int) ∧ cgW v n R 34 i = (a : Int) ∧ gH (mcW w) i = (t : Int) ∧ gA (mcW w) i = (a : Int) := by
    intro i hi
    obtain ⟨r, t, c1, c2, c3, c4, c5, c6, c7⟩ := l2 i hi
    have hm := of_decide_eq_true c3
    have eT : ((r : Int) * 20 + (t : Int)).toNat = 20 * r + t := by omega
    rw [eT] at hm
    obtain ⟨o1, o2, o3⟩ := hO r t c1 c2 hm.2.1
    obtain ⟨a, ha⟩ := Int.eq_ofNat_of_zero_le o1
    have e58 : mcW w 58 i = ((20 * r + t : Nat) : Int) := by rw [h58]; exact c4
    refine ⟨r, t, a, c1, c2, by omega, by omega, c3, e58, c5, ?_, ?_, c6, ?_, ?_, ?_⟩
    · unfold cgH; rw [c6, Int.toNat_natCast]
    · unfold cgA; rw [c7, ha]; rfl
    · rw [c7, ha]
    · unfold gH; rw [e58]; omega
    · unfold gA; rw [e58, Int.toNat_natCast, h44, hC r t c1 c2, ha]
  have hM : ∀ i k, i < cnt (lostP w) 800 → k < cnt (lostP w) 800 → (meetP (mcW w) i k = true ↔ (cgH v n R i = cgH v n R k ∨ cgH v n R i = cgA v n R k ∨ cgA v n R i = cgH v n R k ∨ cgA v n R i = cgA v n R k)) := by
    intro i k hi hk
    obtain ⟨r, t, a, _, _, _, _, _, _, _, p1, p2, _, _, p3, p4⟩ := hgm i hi
    obtain ⟨r', t', a', _, _, _, _, _, _, _, s1, s2, _, _, s3, s4⟩ := hgm k hk
    unfold meetP
    rw [decide_eq_true_eq, p1, p2, p3, p4, s1, s2, s3, s4]
    omega
  have hH : ∀ i, i < cnt (lostP w) 800 → cgH v n R i < 20 ∧ cgA v n R i < 20 ∧ ¬ cgH v n R i = cgA v n R i := by
    intro i hi
    obtain ⟨r, t, a, _, p0, p5, p6, _, _, _, p1, p2, _⟩ := hgm i hi
    rw [p1, p2]
    omega
  have hK : cgM v n R = mcK w n := by
    unfold cgM mcK
    rw [hgG]
    refine mxN_congr (fun t _ => cnt_congr (fun i hi => ?_))
    obtain ⟨r, t', a, _, _, _, _, _, _, _, _, _, p1, p2, p3, p4⟩ := hgm i hi
    unfold mgP mmgP
    rw [p1, p2, p3, p4]
  have hf0 : ∀ i, zin ((mcW w) 59 i) := fun i => by
    have : mcW w 59 i = w 59 i := by
      simp only [mcW, tU]
      rw [if_neg (by omega), lmT_ne _ _ _ (by omega) (by omega)]
    rw [this]
    exact hw 59 i
  obtain ⟨r1, r2, r3⟩ := rn_mc (τ := mcW w) hM hH he (e + 1 - cgM v n R) (cgM v n R) (cgW v n R) ((mcW w) 59) rfl hf0
  have hcr : crF v n R e = rnF (cgH v n R) (cgA v n R) (cnt (lostP w) 800) (e + 1 - cgM v n R) (cgM v n R) (cgW v n R) := by unfold crF; rw [hgG]
  have hmc : mcQ w n e = mcF (mcW w) (cnt (lostP w) 800) (e + 1 - cgM v n R) (cgM v n R) ((mcW w) 59) := by unfold mcQ; rw [hK]
  rw [hcr, hmc]
  generalize rnF (cgH v n R) (cgA v n R) (cnt (lostP w) 800) (e + 1 - cgM v n R) (cgM v n R) (cgW v n R) = q at r1 r2 r3 ⊢
  generalize mcF (mcW w) (cnt (lostP w) 800) (e + 1 - cgM v n R) (cgM v n R) ((mcW w) 59) = q' at r1 r2 r3 ⊢
  have h50 : ∀ j, mcW w 50 j = w 50 j := fun j => by
    simp only [mcW, tU]
    rw [if_neg (by omega), lmT_ne _ _ _ (by omega) (by omega)]
  have h52 : ∀ j, mcW w 52 j = w 52 j := fun j => by
    simp only [mcW, tU]
    rw [if_neg (by omega), lmT_ne _ _ _ (by omega) (by omega)]
  by_cases hq : q'.1 = -1
  · have hq2 := r2 hq
    refine ⟨r1, fun a j ha => ?_, fun a j ha => ?_, fun j => Or.inl ⟨?_, ?_⟩⟩
    · rw [hq2 a j (by omega) (by omega), cgW_ne _ _ (by omega) (by omega) (by omega) (by omega)]
    · rw [hq2 a j (by omega) (by omega), cgW_ne _ _ (by omega) (by omega) (by omega) (by omega)]
    · rw [hq2 31 j (by omega) (by omega), cgW_ne _ _ (by omega) (by omega) (by omega) (by omega)]
    · unfold mcT
      rw [if_pos hq, tR_ne _ _ _ (by decide), h50]
  · obtain ⟨u', c1, c2, c3⟩ := r3 hq
    rw [c1]
    have hu : ∀ a j, a ≠ 35 → a ≠ 36 → a ≠ 32 → a ≠ 33 → a ≠ 34 → ¬ (a = 29 ∧ j = 10) → u' a j = v a j := fun a j k1 k2 k3 k4 k5 k6 => by rw [c3 a j k1 k2, cgW_ne _ _ k3 k4 k5 k6]
    refine ⟨r1, fun a j ha => ?_, fun a j ha => ?_, ?_⟩
    · rw [kdT_ne _ _ _ (by omega), hu a j (by omega) (by omega) (by omega) (by omega) (by omega) (by omega)]
    · rw [kdT_ne _ _ _ (by omega), hu a j (by omega) (by omega) (by omega) (by omega) (by omega) (by omega)]
    · unfold mcT
      rw [if_neg hq]
      have key : ∀ k, k ≤ cnt (lostP w) 800 → ∀ j, (kdT u' k 31 j = v 31 j ∧ mkdT (tR (mcW w) 59 q'.2) k 50 j = w 50 j) ∨ (∃ x : Nat, x < e ∧ kdT u' k 31 j = v 30 x ∧ mkdT (tR (mcW w) 59 q'.2) k 50 j = w 52 x ∧ lostP w j = true) := by
        intro k
        induction k with
        | zero =>
          intro _ j
          refine Or.inl ⟨hu 31 j (by decide) (by decide) (by decide) (by decide) (by decide) (by omega), ?_⟩
          rw [mkdT, tR_ne _ _ _ (by decide), h50]
        | succ k ih =>
          intro hk j
          obtain ⟨r, t, a, p1, p2, p3, p4, p5, p6, p7, p8, p9, p10, p11, p12, p13⟩ := hgm k (by omega)
          obtain ⟨d1, d2, d3⟩ := c2 k (by omega)
          rw [kdT, mkdT, tR_at, tR_ne _ _ _ (by decide), tR_ne _ _ _ (by decide), p6, ← d1, h52]
          have e32 : u' 32 k = (r : Int) := by rw [c3 32 k (by decide) (by decide)]; exact p7
          have e33 : u' 33 k = (t : Int) := by rw [c3 33 k (by decide) (by decide)]; exact p10
          have ei : (u' 32 k * 20 + u' 33 k).toNat = 20 * r + t := by rw [e32, e33]; omega
          rw [ei, Int.toNat_natCast]
          obtain ⟨x, hx⟩ := Int.eq_ofNat_of_zero_le d2
          have hxe : x < e := by omega
          rw [hx]
          have e30 : u' 30 ((x : Nat) : Int).toNat = v 30 x := by rw [Int.toNat_natCast]; exact hu 30 x (by decide) (by decide) (by decide) (by decide) (by decide) (by omega)
          by_cases ej : j = 20 * r + t
          · refine Or.inr ⟨x, hxe, ?_, ?_, ?_⟩
            · simp only [tU]; rw [if_pos ⟨trivial, ej⟩]; exact e30
            · simp only [tU]; rw [if_pos ⟨trivial, ej⟩]; rfl
            · rw [ej, h.1 r t p1 p2]; exact p5
          · have := ih (by omega) j
            simp only [tU]
            rw [if_neg (fun z => ej z.2), if_neg (fun z => ej z.2)]
            exact this
      exact key _ (Nat.le_refl _)
end ZL1
