/-! the plain timetable on both sides (written by wip/gen/t43.py) -/
theorem tG_2 (v : tS) {r h a : Nat} (j : Nat) : tG v (r : Int) (h : Int) (a : Int) 2 j = if j = 20 * r + a then (h : Int) else if j = 20 * r + h then (a : Int) else v 2 j := by
  have e1 : ((r : Int) * 20 + (h : Int)).toNat = 20 * r + h := by omega
  have e2 : ((r : Int) * 20 + (a : Int)).toNat = 20 * r + a := by omega
  simp [tG, tP1, tU, e1, e2]
theorem tG_3 (v : tS) {r h a : Nat} (j : Nat) : tG v (r : Int) (h : Int) (a : Int) 3 j = if j = 20 * r + a then 0 else if j = 20 * r + h then 1 else v 3 j := by
  have e1 : ((r : Int) * 20 + (h : Int)).toNat = 20 * r + h := by omega
  have e2 : ((r : Int) * 20 + (a : Int)).toNat = 20 * r + a := by omega
  simp [tG, tP1, tU, e1, e2]
theorem ml_44 (w : tS) {r h a : Nat} (j : Nat) : mlT w (r : Int) (h : Int) (a : Int) 44 j = if j = 20 * r + a then (h : Int) else if j = 20 * r + h then (a : Int) else w 44 j := by
  have e1 : (20 * (r : Int) + (h : Int)).toNat = 20 * r + h := by omega
  have e2 : (20 * (r : Int) + (a : Int)).toNat = 20 * r + a := by omega
  simp [mlT, tU, e1, e2]
theorem ml_45 (w : tS) {r h a : Nat} (j : Nat) : mlT w (r : Int) (h : Int) (a : Int) 45 j = if j = 20 * r + a then 0 else if j = 20 * r + h then 1 else w 45 j := by
  have e1 : (20 * (r : Int) + (h : Int)).toNat = 20 * r + h := by omega
  have e2 : (20 * (r : Int) + (a : Int)).toNat = 20 * r + a := by omega
  simp [mlT, tU, e1, e2]
/-- who has an opponent is his opponent's, one at home and one away -/
def Rf (v : tS) (r : Nat) : Prop := ∀ t, t < 20 → (v 3 (20 * r + t) = -1 ∧ v 2 (20 * r + t) = -1) ∨ (∃ u : Nat, u < 20 ∧ ¬ u = t ∧ v 2 (20 * r + t) = (u : Int) ∧ v 2 (20 * r + u) = (t : Int) ∧ ((v 3 (20 * r + t) = 1 ∧ v 3 (20 * r + u) = 0) ∨ (v 3 (20 * r + t) = 0 ∧ v 3 (20 * r + u) = 1)))
def Cq (v w : tS) (r t : Nat) : Prop := w 44 (20 * r + t) = v 2 (20 * r + t) ∧ veM w (20 * r + t) = v 3 (20 * r + t)
def Un (v : tS) (r t : Nat) : Prop := v 3 (20 * r + t) = -1
theorem pl_step {v w : tS} {r h a : Nat} (hh : h < 20) (ha : a < 20) (hha : ¬ h = a) (hR : Rf v r) (hC : ∀ t, t < 20 → ¬ Un v r t → Cq v w r t) (fh : Un v r h) (fa : Un v r a) : Rf (tG v (r : Int) (h : Int) (a : Int)) r ∧ (∀ t, t < 20 → ¬ Un (tG v (r : Int) (h : Int) (a : Int)) r t → Cq (tG v (r : Int) (h : Int) (a : Int)) (mlT w (r : Int) (h : Int) (a : Int)) r t) ∧ (∀ t, t < 20 → (¬ Un (tG v (r : Int) (h : Int) (a : Int)) r t ↔ (t = h ∨ t = a ∨ ¬ Un v r t))) := by
  have c : ∀ t s : Nat, (20 * r + t = 20 * r + s ↔ t = s) := fun t s => by omega
  have k2 : ∀ t, tG v (r : Int) (h : Int) (a : Int) 2 (20 * r + t) = if t = a then (h : Int) else if t = h then (a : Int) else v 2 (20 * r + t) := fun t => by rw [tG_2]; simp only [c]
  have k3 : ∀ t, tG v (r : Int) (h : Int) (a : Int) 3 (20 * r + t) = if t = a then 0 else if t = h then 1 else v 3 (20 * r + t) := fun t => by rw [tG_3]; simp only [c]
  have k4 : ∀ t, mlT w (r : Int) (h : Int) (a : Int) 44 (20 * r + t) = if t = a then (h : Int) else if t = h then (a : Int) else w 44 (20 * r + t) := fun t => by rw [ml_44]; simp only [c]
  have k5 : ∀ t, mlT w (r : Int) (h : Int) (a : Int) 45 (20 * r + t) = if t = a then 0 else if t = h then 1 else w 45 (20 * r + t) := fun t => by rw [ml_45]; simp only [c]
  generalize tG v (r : Int) (h : Int) (a : Int) = v' at k2 k3 ⊢
  generalize mlT w (r : Int) (h : Int) (a : Int) = w' at k4 k5 ⊢
  have hah : ¬ a = h := fun g => hha g.symm
  refine ⟨fun t ht => ?_, fun t ht hu => ?_, fun t ht => ?_⟩
  · by_cases ea : t = a
    · refine Or.inr ⟨h, hh, fun g => hha (by omega), ?_, ?_, Or.inr ⟨?_, ?_⟩⟩
      · rw [k2, if_pos ea]
      · rw [k2, if_neg hha, if_pos rfl, ea]
      · rw [k3, if_pos ea]
      · rw [k3, if_neg hha, if_pos rfl]
    · by_cases eh : t = h
      · refine Or.inr ⟨a, ha, fun g => hha (by omega), ?_, ?_, Or.inl ⟨?_, ?_⟩⟩
        · rw [k2, if_neg ea, if_pos eh]
        · rw [k2, if_pos rfl, eh]
        · rw [k3, if_neg ea, if_pos eh]
        · rw [k3, if_pos rfl]
      · rcases hR t ht with g | ⟨u, g1, g2, g3, g4, g5⟩
        · refine Or.inl ?_
          rw [k3, k2, if_neg ea, if_neg eh, if_neg ea, if_neg eh]
          exact g
        · have uh : ¬ u = h := fun e => by
            subst e
            unfold Un at fh
            omega
          have ua : ¬ u = a := fun e => by
            subst e
            unfold Un at fa
            omega
          refine Or.inr ⟨u, g1, g2, ?_, ?_, ?_⟩
          · rw [k2, if_neg ea, if_neg eh]; exact g3
          · rw [k2, if_neg ua, if_neg uh]; exact g4
          · rw [k3, k3, if_neg ea, if_neg eh, if_neg ua, if_neg uh]; exact g5
  · unfold Cq veM
    rw [k2, k3, k4, k5]
    by_cases ea : t = a
    · rw [if_pos ea, if_pos ea, if_pos ea, if_pos ea, if_neg (by omega), if_pos rfl]
      exact ⟨rfl, rfl⟩
    · by_cases eh : t = h
      · rw [if_neg ea, if_neg ea, if_neg ea, if_neg ea, if_pos eh, if_pos eh, if_pos eh, if_pos eh, if_neg (by omega), if_neg (by decide)]
        exact ⟨rfl, rfl⟩
      · have hu' : ¬ Un v r t := by
          intro g
          apply hu
          unfold Un at g ⊢
          rw [k3, if_neg ea, if_neg eh]
          exact g
        rw [if_neg ea, if_neg ea, if_neg ea, if_neg ea, if_neg eh, if_neg eh, if_neg eh, if_neg eh]
        exact hC t ht hu'
  · unfold Un
    rw [k3]
    by_cases ea : t = a
    · rw [if_pos ea]
      exact ⟨fun _ => Or.inr (Or.inl ea), fun _ => by decide⟩
    · by_cases eh : t = h
      · rw [if_neg ea, if_pos eh]
        exact ⟨fun _ => Or.inl eh, fun _ => by decide⟩
      · rw [if_neg ea, if_neg eh]
        constructor
        · intro g; exact Or.inr (Or.inr g)
        · rintro (g | g | g)
          · exact absurd g eh
          · exact absurd g ea
          · exact g
theorem mod1 {r j m : Nat} (hr : r < m) (hj : j < m) : (r + j) % m = if r + j < m then r + j else r + j - m := by
  split
  · rename_i h; exact Nat.mod_eq_of_lt h
  · rename_i h; rw [Nat.mod_eq_sub_mod (by omega), Nat.mod_eq_of_lt (by omega)]
theorem mod2 {r j m : Nat} (hr : r < m) (hj : 0 < j) (hj2 : j < m) : (r + m - j) % m = if r < j then r + m - j else r - j := by
  split
  · rename_i h; exact Nat.mod_eq_of_lt (by omega)
  · rename_i h; rw [Nat.mod_eq_sub_mod (by omega), Nat.mod_eq_of_lt (by omega)]; omega
/-- the pairs 1 .. k of round r -/
def prS (r m k t : Nat) : Prop := ∃ j, 1 ≤ j ∧ j ≤ k ∧ (t = (r + j) % m ∨ t = (r + m - j) % m)
theorem pl_pairs {v w : tS} {r m : Nat} (hm : m % 2 = 1) (hm20 : m ≤ 20) (hr : r < m) (hU : ∀ t, t < 20 → v 3 (20 * r + t) = -1 ∧ v 2 (20 * r + t) = -1) : ∀ k, k ≤ (m - 1) / 2 → Rf (plR v r m k) r ∧ (∀ t, t < 20 → ¬ Un (plR v r m k) r t → Cq (plR v r m k) (mpR w r m k) r t) ∧ (∀ t, t < 20 → (¬ Un (plR v r m k) r t ↔ prS r m k t))
  | 0, _ => by
    refine ⟨fun t ht => Or.inl (hU t ht), fun t ht h => absurd (hU t ht).1 h, fun t ht => ⟨fun h => absurd (hU t ht).1 h, ?_⟩⟩
    rintro ⟨j, h1, h2, _⟩
    omega
  | k + 1, hk => by
    obtain ⟨a1, a2, a3⟩ := pl_pairs (w := w) hm hm20 hr hU k (by omega)
    have m1 := mod1 (r := r) (j := k + 1) (m := m) hr (by omega)
    have m2 := mod2 (r := r) (j := k + 1) (m := m) hr (by omega) (by omega)
    have l1 : (r + (k + 1)) % m < m := Nat.mod_lt _ (by omega)
    have l2 : (r + m - (k + 1)) % m < m := Nat.mod_lt _ (by omega)
    have hne : ¬ (r + (k + 1)) % m = (r + m - (k + 1)) % m := by
      rw [m1, m2]
      split <;> split <;> omega
    have f1 : Un (plR v r m k) r ((r + (k + 1)) % m) := by
      refine Classical.byContradiction (fun g => ?_)
      obtain ⟨j, h1, h2, h3⟩ := (a3 _ (by omega)).mp g
      have n1 := mod1 (r := r) (j := j) (m := m) hr (by omega)
      have n2 := mod2 (r := r) (j := j) (m := m) hr (by omega) (by omega)
      rw [m1, n1, n2] at h3
      rcases h3 with h3 | h3
      · split at h3 <;> split at h3 <;> omega
      · split at h3 <;> split at h3 <;> omega
    have f2 : Un (plR v r m k) r ((r + m - (k + 1)) % m) := by
      refine Classical.byContradiction (fun g => ?_)
      obtain ⟨j, h1, h2, h3⟩ := (a3 _ (by omega)).mp g
      have n1 := mod1 (r := r) (j := j) (m := m) hr (by omega)
      have n2 := mod2 (r := r) (j := j) (m := m) hr (by omega) (by omega)
      rw [m2, n1, n2] at h3
      rcases h3 with h3 | h3
      · split at h3 <;> split at h3 <;> omega
      · split at h3 <;> split at h3 <;> omega
    have hset : ∀ t, (prS r m (k + 1) t ↔ (t = (r + (k + 1)) % m ∨ t = (r + m - (k + 1)) % m ∨ prS r m k t)) := by
      intro t
      constructor
      · rintro ⟨j, h1, h2, h3⟩
        by_cases e : j = k + 1
        · subst e
          rcases h3 with h3 | h3
          · exact Or.inl h3
          · exact Or.inr (Or.inl h3)
        · exact Or.inr (Or.inr ⟨j, h1, by omega, h3⟩)
      · rintro (h | h | ⟨j, h1, h2, h3⟩)
        · exact ⟨k + 1, by omega, Nat.le_refl _, Or.inl h⟩
        · exact ⟨k + 1, by omega, Nat.le_refl _, Or.inr h⟩
        · exact ⟨j, h1, by omega, h3⟩
    rw [plR, mpR]
    unfold plG mpG
    by_cases e : (k + 1) % 2 = 1
    · rw [if_pos e, if_pos e]
      obtain ⟨b1, b2, b3⟩ := pl_step (w := mpR w r m k) (by omega) (by omega) hne a1 a2 f1 f2
      refine ⟨b1, b2, fun t ht => ?_⟩
      rw [b3 t ht, hset t, a3 t ht]
    · rw [if_neg e, if_neg e]
      obtain ⟨b1, b2, b3⟩ := pl_step (w := mpR w r m k) (by omega) (by omega) (fun g => hne g.symm) a1 a2 f2 f1
      refine ⟨b1, b2, fun t ht => ?_⟩
      rw [b3 t ht, hset t, a3 t ht]
      constructor
      · rintro (h | h | h)
        · exact Or.inr (Or.inl h)
        · exact Or.inl h
        · exact Or.inr (Or.inr h)
      · rintro (h | h | h)
        · exact Or.inr (Or.inl h)
        · exact Or.inl h
        · exact Or.inr (Or.inr h)
/-- a round that is the same on both sides -/
def gR (v w : tS) (n r : Nat) : Prop := Rf v r ∧ (∀ t, t < 20 → ¬ Un v r t → t < n) ∧ (∀ t, t < n → Cq v w r t)
theorem pr_all {r m t : Nat} (hm : m % 2 = 1) (hr : r < m) (ht : t < m) (hne : ¬ t = r) : prS r m ((m - 1) / 2) t := by
  by_cases h : r < t
  · by_cases h2 : t - r ≤ (m - 1) / 2
    · exact ⟨t - r, by omega, h2, Or.inl (by rw [mod1 hr (by omega)]; split <;> omega)⟩
    · exact ⟨m - (t - r), by omega, by omega, Or.inr (by rw [mod2 hr (by omega) (by omega)]; split <;> omega)⟩
  · by_cases h2 : r - t ≤ (m - 1) / 2
    · exact ⟨r - t, by omega, h2, Or.inr (by rw [mod2 hr (by omega) (by omega)]; split <;> omega)⟩
    · exact ⟨m - (r - t), by omega, by omega, Or.inl (by rw [mod1 hr (by omega)]; split <;> omega)⟩
theorem pr_lt {r m k t : Nat} (hm : 0 < m) (h : prS r m k t) : t < m := by
  obtain ⟨j, h1, h2, h3⟩ := h
  have l1 : (r + j) % m < m := Nat.mod_lt _ hm
  have l2 : (r + m - j) % m < m := Nat.mod_lt _ hm
  rcases h3 with h3 | h3 <;> omega
theorem pr_not {r m : Nat} (hr : r < m) : ¬ prS r m ((m - 1) / 2) r := by
  rintro ⟨j, h1, h2, h3⟩
  rw [mod1 hr (by omega), mod2 hr (by omega) (by omega)] at h3
  rcases h3 with h3 | h3
  · split at h3 <;> omega
  · split at h3 <;> omega
theorem pl_round {v w : tS} {r m n : Nat} (hn4 : 4 ≤ n) (hn : n ≤ 20) (hm : m = n - 1 + n % 2) (hr : r < m) (hU : ∀ t, t < 20 → v 3 (20 * r + t) = -1 ∧ v 2 (20 * r + t) = -1) : gR (plE v r m n) (mpE w r m n) n r := by
  obtain ⟨a1, a2, a3⟩ := pl_pairs (w := w) (m := m) (by omega) (by omega) hr hU ((m - 1) / 2) (Nat.le_refl _)
  unfold plE mpE
  by_cases e : n % 2 = 0
  · rw [if_pos e, if_pos e]
    have f1 : Un (plR v r m ((m - 1) / 2)) r r := Classical.byContradiction (fun g => pr_not hr ((a3 r (by omega)).mp g))
    have f2 : Un (plR v r m ((m - 1) / 2)) r (n - 1) := Classical.byContradiction (fun g => by
      have := pr_lt (by omega) ((a3 (n - 1) (by omega)).mp g)
      omega)
    by_cases e2 : r % 2 = 0
    · rw [if_pos e2, if_pos e2]
      obtain ⟨b1, b2, b3⟩ := pl_step (w := mpR w r m ((m - 1) / 2)) (h := r) (a := n - 1) (by omega) (by omega) (by omega) a1 a2 f1 f2
      refine ⟨b1, fun t ht hu => ?_, fun t ht => b2 t (by omega) ((b3 t (by omega)).mpr ?_)⟩
      · rcases (b3 t ht).mp hu with h | h | h
        · omega
        · omega
        · have := pr_lt (by omega) ((a3 t ht).mp h)
          omega
      · by_cases e3 : t = r
        · exact Or.inl e3
        · by_cases e4 : t = n - 1
          · exact Or.inr (Or.inl e4)
          · exact Or.inr (Or.inr ((a3 t (by omega)).mpr (pr_all (by omega) hr (by omega) e3)))
    · rw [if_neg e2, if_neg e2]
      obtain ⟨b1, b2, b3⟩ := pl_step (w := mpR w r m ((m - 1) / 2)) (h := n - 1) (a := r) (by omega) (by omega) (by omega) a1 a2 f2 f1
      refine ⟨b1, fun t ht hu => ?_, fun t ht => b2 t (by omega) ((b3 t (by omega)).mpr ?_)⟩
      · rcases (b3 t ht).mp hu with h | h | h
        · omega
        · omega
        · have := pr_lt (by omega) ((a3 t ht).mp h)
          omega
      · by_cases e3 : t = r
        · exact Or.inr (Or.inl e3)
        · by_cases e4 : t = n - 1
          · exact Or.inl e4
          · exact Or.inr (Or.inr ((a3 t (by omega)).mpr (pr_all (by omega) hr (by omega) e3)))
  · rw [if_neg e, if_neg e]
    refine ⟨a1, fun t ht hu => ?_, fun t ht => ?_⟩
    · have := pr_lt (by omega) ((a3 t ht).mp hu)
      omega
    · have e1 : (20 * (r : Int) + (r : Int)).toNat = 20 * r + r := by omega
      rw [e1]
      by_cases e3 : t = r
      · subst e3
        have f1 : Un (plR v t m ((m - 1) / 2)) t t := Classical.byContradiction (fun g => pr_not hr ((a3 t (by omega)).mp g))
        unfold Un at f1
        have g2 : plR v t m ((m - 1) / 2) 2 (20 * t + t) = -1 := by
          rcases a1 t (by omega) with g | ⟨u, g1, g2, g3, g4, g5⟩
          · exact g.2
          · omega
        unfold Cq veM
        rw [f1, g2]
        simp [tU]
      · have hc := a2 t (by omega) ((a3 t (by omega)).mpr (pr_all (by omega) hr (by omega) e3))
        have hj : ¬ 20 * r + t = 20 * r + r := by omega
        unfold Cq veM at hc ⊢
        simp only [tU]
        simp [e3]
        exact hc
theorem tG_o (v : tS) {r h a : Nat} (hh : h < 20) (ha : a < 20) (q j : Nat) (hj : j < 20 * r ∨ 20 * r + 20 ≤ j) : tG v (r : Int) (h : Int) (a : Int) q j = v q j := tG_out v ⟨by omega, by omega⟩ ⟨by omega, by omega⟩ q j hj
theorem ml_o (w : tS) {r h a : Nat} (hh : h < 20) (ha : a < 20) (q j : Nat) (hj : j < 20 * r ∨ 20 * r + 20 ≤ j) : mlT w (r : Int) (h : Int) (a : Int) q j = w q j := by
  by_cases q4 : q = 44
  · subst q4; rw [ml_44, if_neg (by omega), if_neg (by omega)]
  · by_cases q5 : q = 45
    · subst q5; rw [ml_45, if_neg (by omega), if_neg (by omega)]
    · exact mlT_ne _ _ _ _ _ _ q4 q5
theorem plR_o (v : tS) {r m : Nat} (hm : 0 < m ∧ m ≤ 20) (q j : Nat) (hj : j < 20 * r ∨ 20 * r + 20 ≤ j) : ∀ k, plR v r m k q j = v q j
  | 0 => rfl
  | k + 1 => by
    have l1 : (r + (k + 1)) % m < m := Nat.mod_lt _ hm.1
    have l2 : (r + m - (k + 1)) % m < m := Nat.mod_lt _ hm.1
    rw [plR, plG]
    split <;> rw [tG_o _ (by omega) (by omega) q j hj, plR_o v hm q j hj k]
theorem mpR_o (w : tS) {r m : Nat} (hm : 0 < m ∧ m ≤ 20) (q j : Nat) (hj : j < 20 * r ∨ 20 * r + 20 ≤ j) : ∀ k, mpR w r m k q j = w q j
  | 0 => rfl
  | k + 1 => by
    have l1 : (r + (k + 1)) % m < m := Nat.mod_lt _ hm.1
    have l2 : (r + m - (k + 1)) % m < m := Nat.mod_lt _ hm.1
    rw [mpR, mpG]
    split <;> rw [ml_o _ (by omega) (by omega) q j hj, mpR_o w hm q j hj k]
theorem plE_o (v : tS) {r m n : Nat} (hm : 0 < m ∧ m ≤ 20) (hr : r < 20) (hn : 0 < n ∧ n ≤ 20) (q j : Nat) (hj : j < 20 * r ∨ 20 * r + 20 ≤ j) : plE v r m n q j = v q j := by
  unfold plE
  split
  · split <;> rw [tG_o _ (by omega) (by omega) q j hj, plR_o v hm q j hj]
  · exact plR_o v hm q j hj _
theorem mpE_o (w : tS) {r m n : Nat} (hm : 0 < m ∧ m ≤ 20) (hr : r < 20) (hn : 0 < n ∧ n ≤ 20) (q j : Nat) (hj : j < 20 * r ∨ 20 * r + 20 ≤ j) : mpE w r m n q j = w q j := by
  unfold mpE
  split
  · split <;> rw [ml_o _ (by omega) (by omega) q j hj, mpR_o w hm q j hj]
  · have e1 : (20 * (r : Int) + (r : Int)).toNat = 20 * r + r := by omega
    rw [e1]
    simp only [tU]
    rw [if_neg (by omega), if_neg (by omega), mpR_o w hm q j hj]
theorem gR_cg {v w v' w' : tS} {n r : Nat} (h : gR v w n r) (hn : n ≤ 20) (h2 : ∀ q t, (q = 2 ∨ q = 3) → t < 20 → v' q (20 * r + t) = v q (20 * r + t)) (h4 : ∀ q t, (q = 44 ∨ q = 45) → t < 20 → w' q (20 * r + t) = w q (20 * r + t)) : gR v' w' n r := by
  obtain ⟨g1, g2, g3⟩ := h
  refine ⟨fun t ht => ?_, fun t ht hu => ?_, fun t ht => ?_⟩
  · rw [h2 3 t (Or.inr rfl) ht, h2 2 t (Or.inl rfl) ht]
    rcases g1 t ht with g | ⟨u, a1, a2, a3, a4, a5⟩
    · exact Or.inl g
    · refine Or.inr ⟨u, a1, a2, a3, ?_, ?_⟩
      · rw [h2 2 u (Or.inl rfl) a1]; exact a4
      · rw [h2 3 u (Or.inr rfl) a1]; exact a5
  · refine g2 t ht (fun g => hu ?_)
    unfold Un at g ⊢
    rw [h2 3 t (Or.inr rfl) ht]; exact g
  · have := g3 t ht
    unfold Cq veM at this ⊢
    rw [h2 3 t (Or.inr rfl) (by omega), h2 2 t (Or.inl rfl) (by omega), h4 44 t (Or.inl rfl) (by omega), h4 45 t (Or.inr rfl) (by omega)]
    exact this
theorem pl_rounds {v w : tS} {m n : Nat} (hn4 : 4 ≤ n) (hn : n ≤ 20) (hm : m = n - 1 + n % 2) (hU : ∀ r t, r < m → t < 20 → v 3 (20 * r + t) = -1 ∧ v 2 (20 * r + t) = -1) : ∀ k, k ≤ m → (∀ r, r < k → gR (plS v m n k) (mpS w m n k) n r) ∧ (∀ q j, 20 * k ≤ j → plS v m n k q j = v q j ∧ mpS w m n k q j = w q j)
  | 0, _ => ⟨fun r h => by omega, fun q j _ => ⟨rfl, rfl⟩⟩
  | k + 1, hk => by
    obtain ⟨a1, a2⟩ := pl_rounds (w := w) hn4 hn hm hU k (by omega)
    have hm2 : 0 < m ∧ m ≤ 20 := ⟨by omega, by omega⟩
    rw [plS, mpS]
    refine ⟨fun r hr => ?_, fun q j hj => ?_⟩
    · by_cases e : r = k
      · subst e
        refine pl_round hn4 hn hm (by omega) (fun t ht => ?_)
        rw [(a2 3 _ (by omega)).1, (a2 2 _ (by omega)).1]
        exact hU r t (by omega) ht
      · refine gR_cg (a1 r (by omega)) hn (fun q t _ ht => plE_o _ hm2 (by omega) ⟨by omega, hn⟩ q _ (by omega)) (fun q t _ ht => mpE_o _ hm2 (by omega) ⟨by omega, hn⟩ q _ (by omega))
    · rw [plE_o _ hm2 (by omega) ⟨by omega, hn⟩ q j (by omega), mpE_o _ hm2 (by omega) ⟨by omega, hn⟩ q j (by omega)]
      exact a2 q j (by omega)
/-- the return round r of round k, team by team -/
theorem lr_cells {v : tS} {r k n : Nat} (hn : n ≤ 20) (hkr : ¬ k = r) (hR : Rf v k) (hU : ∀ t, t < 20 → v 3 (20 * r + t) = -1 ∧ v 2 (20 * r + t) = -1) : ∀ T, T ≤ n → ∀ t, t < 20 → lrR v r k T 3 (20 * r + t) = (if v 3 (20 * k + t) = 1 ∧ t < T then 0 else if v 3 (20 * k + t) = 0 ∧ v 2 (20 * k + t) < (T : Int) then 1 else -1) ∧ lrR v r k T 2 (20 * r + t) = (if (v 3 (20 * k + t) = 1 ∧ t < T) ∨ (v 3 (20 * k + t) = 0 ∧ v 2 (20 * k + t) < (T : Int)) then v 2 (20 * k + t) else -1)
  | 0, _, t, ht => by
    rw [lrR]
    have hu := hU t ht
    have h0 : ¬ (v 3 (20 * k + t) = 0 ∧ v 2 (20 * k + t) < ((0 : Nat) : Int)) := by
      rcases hR t ht with g | ⟨u, g1, g2, g3, g4, g5⟩ <;> omega
    rw [if_neg (by omega), if_neg h0, if_neg (by intro g; rcases g with g | g; omega; exact h0 g)]
    exact hu
  | T + 1, hT, t, ht => by
    have ih := lr_cells hn hkr hR hU T (by omega)
    have eT : ((k : Int) * 20 + (T : Int)).toNat = 20 * k + T := by omega
    rw [lrR, lrS, eT]
    have hT20 : T < 20 := by omega
    rcases hR T hT20 with g | ⟨u, g1, g2, g3, g4, g5⟩
    · rw [if_neg (by omega)]
      obtain ⟨i1, i2⟩ := ih t ht
      have hx : (v 3 (20 * k + t) = 1 ∧ t < T + 1 ↔ v 3 (20 * k + t) = 1 ∧ t < T) := by
        by_cases e : t = T
        · subst e; omega
        · omega
      have hy : (v 3 (20 * k + t) = 0 ∧ v 2 (20 * k + t) < ((T + 1 : Nat) : Int) ↔ v 3 (20 * k + t) = 0 ∧ v 2 (20 * k + t) < (T : Int)) := by
        rcases hR t ht with q | ⟨s, q1, q2, q3, q4, q5⟩
        · omega
        · by_cases e : s = T
          · subst e; omega
          · omega
      simp only [hx, hy]
      exact ⟨i1, i2⟩
    · have hs := hR t ht
      obtain ⟨i1, i2⟩ := ih t ht
      by_cases hom : v 3 (20 * k + T) = 1
      · rw [if_pos hom, g3, tG_2, tG_3]
        by_cases e1 : t = T
        · subst e1
          rw [if_pos rfl, if_pos rfl, if_pos ⟨hom, by omega⟩, if_pos (Or.inl ⟨hom, by omega⟩), g3]
          exact ⟨rfl, rfl⟩
        · rw [if_neg (show ¬ 20 * r + t = 20 * r + T by omega), if_neg (show ¬ 20 * r + t = 20 * r + T by omega)]
          by_cases e2 : t = u
          · subst e2
            rw [if_pos rfl, if_pos rfl, if_neg (by omega), if_pos (by omega), if_pos (by omega), g4]
            exact ⟨rfl, rfl⟩
          · rw [if_neg (show ¬ 20 * r + t = 20 * r + u by omega), if_neg (show ¬ 20 * r + t = 20 * r + u by omega)]
            have hx : (v 3 (20 * k + t) = 1 ∧ t < T + 1 ↔ v 3 (20 * k + t) = 1 ∧ t < T) := by omega
            have hy : (v 3 (20 * k + t) = 0 ∧ v 2 (20 * k + t) < ((T + 1 : Nat) : Int) ↔ v 3 (20 * k + t) = 0 ∧ v 2 (20 * k + t) < (T : Int)) := by
              rcases hs with q | ⟨s, q1, q2, q3, q4, q5⟩
              · omega
              · by_cases e : s = T
                · subst e
                  rw [g3] at q4
                  omega
                · omega
            simp only [hx, hy]
            exact ⟨i1, i2⟩
      · rw [if_neg hom]
        have hx : (v 3 (20 * k + t) = 1 ∧ t < T + 1 ↔ v 3 (20 * k + t) = 1 ∧ t < T) := by
          by_cases e : t = T
          · subst e; omega
          · omega
        have hy : (v 3 (20 * k + t) = 0 ∧ v 2 (20 * k + t) < ((T + 1 : Nat) : Int) ↔ v 3 (20 * k + t) = 0 ∧ v 2 (20 * k + t) < (T : Int)) := by
          rcases hs with q | ⟨s, q1, q2, q3, q4, q5⟩
          · omega
          · by_cases e : s = T
            · subst e; omega
            · omega
        simp only [hx, hy]
        exact ⟨i1, i2⟩
theorem mr_cells {w : tS} {m k : Nat} (hm : 0 < m) : ∀ T, T ≤ 20 → ∀ q t, t < 20 → (q = 44 ∨ q = 45) → mrR w m k T q (20 * (m + k) + t) = (if t < T then (if q = 44 then w 44 (20 * k + t) else if 0 ≤ w 44 (20 * k + t) ∧ w 45 (20 * k + t) = 0 then 1 else 0) else w q (20 * (m + k) + t)) ∧ ∀ j, j < 20 * (m + k) ∨ 20 * (m + k) + 20 ≤ j → mrR w m k T q j = w q j
  | 0, _, q, t, ht, hq => by rw [mrR, if_neg (by omega)]; exact ⟨rfl, fun _ _ => rfl⟩
  | T + 1, hT, q, t, ht, hq => by
    have ih := mr_cells (w := w) (k := k) hm T (by omega)
    rw [mrR, mrC]
    have r4 : mrR w m k T 44 (20 * k + T) = w 44 (20 * k + T) := (ih 44 t ht (Or.inl rfl)).2 _ (by omega)
    have r5 : mrR w m k T 45 (20 * k + T) = w 45 (20 * k + T) := (ih 45 t ht (Or.inr rfl)).2 _ (by omega)
    rw [r4, r5]
    refine ⟨?_, fun j hj => ?_⟩
    · by_cases e : t = T
      · subst e
        rw [if_pos (show t < t + 1 by omega)]
        rcases hq with hq | hq <;> subst hq <;> simp [tU]
      · have h9 := (ih q t ht hq).1
        simp only [tU]
        rw [if_neg (by omega), if_neg (by omega), h9]
        by_cases e2 : t < T
        · rw [if_pos e2, if_pos (show t < T + 1 by omega)]
        · rw [if_neg e2, if_neg (show ¬ t < T + 1 by omega)]
    · simp only [tU]
      rw [if_neg (by omega), if_neg (by omega)]
      exact (ih q t ht hq).2 j hj
theorem rt_round {v w : tS} {m n k : Nat} (hn : n ≤ 20) (hm : 0 < m) (hg : gR v w n k) (hU : ∀ t, t < 20 → v 3 (20 * (m + k) + t) = -1 ∧ v 2 (20 * (m + k) + t) = -1) : gR (lrR v (m + k) k n) (mrR w m k n) n (m + k) := by
  obtain ⟨g1, g2, g3⟩ := hg
  have hc := lr_cells (r := m + k) (k := k) hn (by omega) g1 hU n (Nat.le_refl _)
  have key : ∀ t, t < 20 → (v 3 (20 * k + t) = -1 ∧ v 2 (20 * k + t) = -1 ∧ lrR v (m + k) k n 3 (20 * (m + k) + t) = -1 ∧ lrR v (m + k) k n 2 (20 * (m + k) + t) = -1) ∨ (∃ u : Nat, u < n ∧ t < n ∧ ¬ u = t ∧ v 2 (20 * k + t) = (u : Int) ∧ v 2 (20 * k + u) = (t : Int) ∧ lrR v (m + k) k n 2 (20 * (m + k) + t) = (u : Int) ∧ ((v 3 (20 * k + t) = 1 ∧ v 3 (20 * k + u) = 0 ∧ lrR v (m + k) k n 3 (20 * (m + k) + t) = 0) ∨ (v 3 (20 * k + t) = 0 ∧ v 3 (20 * k + u) = 1 ∧ lrR v (m + k) k n 3 (20 * (m + k) + t) = 1))) := by
    intro t ht
    obtain ⟨c1, c2⟩ := hc t ht
    rcases g1 t ht with g | ⟨u, a1, a2, a3, a4, a5⟩
    · refine Or.inl ⟨g.1, g.2, ?_, ?_⟩
      · rw [c1, if_neg (by omega), if_neg (by omega)]
      · rw [c2, if_neg (by omega)]
    · have tn : t < n := g2 t ht (fun q => by unfold Un at q; omega)
      have un : u < n := g2 u a1 (fun q => by unfold Un at q; omega)
      rcases a5 with a5 | a5
      · refine Or.inr ⟨u, un, tn, a2, a3, a4, ?_, Or.inl ⟨a5.1, a5.2, ?_⟩⟩
        · rw [c2, if_pos (Or.inl ⟨a5.1, tn⟩), a3]
        · rw [c1, if_pos ⟨a5.1, tn⟩]
      · refine Or.inr ⟨u, un, tn, a2, a3, a4, ?_, Or.inr ⟨a5.1, a5.2, ?_⟩⟩
        · rw [c2, if_pos (Or.inr ⟨a5.1, by omega⟩), a3]
        · rw [c1, if_neg (by omega), if_pos ⟨a5.1, by omega⟩]
  refine ⟨fun t ht => ?_, fun t ht hu => ?_, fun t ht => ?_⟩
  · rcases key t ht with g | ⟨u, b1, b2, b3, b4, b5, b6, b7⟩
    · exact Or.inl ⟨g.2.2.1, g.2.2.2⟩
    · refine Or.inr ⟨u, by omega, b3, b6, ?_, ?_⟩
      · rcases key u (by omega) with g | ⟨s, d1, d2, d3, d4, d5, d6, d7⟩
        · omega
        · rw [d6]; omega
      · rcases key u (by omega) with g | ⟨s, d1, d2, d3, d4, d5, d6, d7⟩
        · omega
        · omega
  · rcases key t ht with g | ⟨u, b1, b2, b3, b4, b5, b6, b7⟩
    · exact absurd g.2.2.1 hu
    · exact b2
  · have h4 := (mr_cells (w := w) (k := k) hm n hn 44 t (by omega) (Or.inl rfl)).1
    have h5 := (mr_cells (w := w) (k := k) hm n hn 45 t (by omega) (Or.inr rfl)).1
    rw [if_pos ht, if_pos rfl] at h4
    rw [if_pos ht, if_neg (by decide)] at h5
    have hq := g3 t ht
    unfold Cq veM at hq ⊢
    rw [h4, h5]
    rcases key t (by omega) with g | ⟨u, b1, b2, b3, b4, b5, b6, b7⟩
    · rw [g.2.2.1, g.2.2.2]
      have : w 44 (20 * k + t) = -1 := by rw [hq.1]; exact g.2.1
      rw [this]
      exact ⟨rfl, rfl⟩
    · have e4 : w 44 (20 * k + t) = (u : Int) := by rw [hq.1]; exact b4
      rw [b6, e4]
      refine ⟨rfl, ?_⟩
      rw [if_neg (by omega)]
      have q2 := hq.2
      rw [e4, if_neg (by omega)] at q2
      rcases b7 with b7 | b7
      · rw [b7.1] at q2
        rw [b7.2.2]
        have : ¬ w 45 (20 * k + t) = 0 := fun z => by rw [if_pos z] at q2; exact absurd q2 (by decide)
        rw [if_neg (show ¬ (0 ≤ (u : Int) ∧ w 45 (20 * k + t) = 0) from fun z => this z.2), if_pos rfl]
      · rw [b7.1] at q2
        rw [b7.2.2]
        have : w 45 (20 * k + t) = 0 := Classical.byContradiction (fun z => by rw [if_neg z] at q2; exact absurd q2 (by decide))
        rw [if_pos (show 0 ≤ (u : Int) ∧ w 45 (20 * k + t) = 0 from ⟨by omega, this⟩), if_neg (by decide)]
theorem rt_rounds {v w : tS} {m n : Nat} (hn : n ≤ 20) (hm : 0 < m) (hm19 : m ≤ 19) (ho : okT v) (hG : ∀ r, r < m → gR v w n r) (hU : ∀ r t, m ≤ r → r < 2 * m → t < 20 → v 3 (20 * r + t) = -1 ∧ v 2 (20 * r + t) = -1) : ∀ i, i ≤ m → (∀ r, r < m + i → gR (rtS v m n i) (mrA w m n i) n r) ∧ (∀ q j, (q = 2 ∨ q = 3 → 20 * (m + i) ≤ j → rtS v m n i q j = v q j))
  | 0, _ => ⟨fun r hr => hG r (by omega), fun q j _ _ => rfl⟩
  | i + 1, hi => by
    obtain ⟨a1, a2⟩ := rt_rounds (w := w) hn hm hm19 ho hG hU i (by omega)
    rw [rtS, mrA]
    have hok := okT_row (okT_rtS (m := m) (n := n) ho (by omega) hn i (by omega)) (k := i) (n := n) (by omega) hn
    have hlo : ∀ q j, j < 20 * (m + i) ∨ 20 * (m + i) + 20 ≤ j → lrR (rtS v m n i) (m + i) i n q j = rtS v m n i q j := fun q j hj => lrR_out hok hn q j (Or.inr hj) n (Nat.le_refl _)
    have hmo : ∀ q j, (q = 44 ∨ q = 45) → j < 20 * (m + i) ∨ 20 * (m + i) + 20 ≤ j → mrR (mrA w m n i) m i n q j = mrA w m n i q j := fun q j hq hj => (mr_cells (w := mrA w m n i) (k := i) hm n hn q 0 (by omega) hq).2 j hj
    refine ⟨fun r hr => ?_, fun q j hq hj => ?_⟩
    · by_cases e : r = m + i
      · subst e
        refine rt_round hn hm (a1 i (by omega)) (fun t ht => ?_)
        rw [a2 3 _ (Or.inr rfl) (by omega), a2 2 _ (Or.inl rfl) (by omega)]
        exact hU (m + i) t (by omega) (by omega) ht
      · exact gR_cg (a1 r (by omega)) hn (fun q t _ ht => hlo q _ (by omega)) (fun q t hq ht => hmo q _ hq (by omega))
    · rw [hlo q j (by omega)]
      exact a2 q j hq (by omega)
