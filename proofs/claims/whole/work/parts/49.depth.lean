/-! the draft's rows under a choice, and how deep a draft can be (written by wip/gen/t38.py) -/
section ZC2
variable {w D : tS} {n : Nat}
theorem chD_at {r t c x : Nat} (hx : c / 2 = x) (hxn : ¬ x = n) (hxt : ¬ x = t) (i u : Nat) : chD D n r t c i u = if i = r ∧ u = t then 2 * (x : Int) + (1 - ((c % 2 : Nat) : Int)) else if i = r ∧ u = x then 2 * (t : Int) + ((c % 2 : Nat) : Int) else D i u := by
  unfold chD
  rw [if_neg (by omega), hx]
  by_cases e : c % 2 = 0
  · rw [if_pos e, dG_at, e]
    repeat' split
    all_goals omega
  · have e1 : c % 2 = 1 := by omega
    rw [if_neg e, dG_at, e1]
    repeat' split
    all_goals omega
theorem tri_v {x s : Int} (hx : 0 ≤ x) (hs : s = 0 ∨ s = 1) : triC (2 * x + s) = x ∧ (2 * x + s) % 2 = s := by
  unfold triC
  rw [if_neg (by omega)]
  omega
theorem MR_G {r t c x : Nat} (h : MR w D) (hr : r < 8) (ht : t < 20) (hx20 : x < 20) (hx : c / 2 = x) (hxn : ¬ x = n) (hxt : ¬ x = t) : MR (coT w r t x (c % 2)) (chD D n r t c) := by
  intro i u hi hu
  have hm := h i u hi hu
  have c1 : ∀ v, v < 20 → (20 * i + u = 20 * r + v ↔ (i = r ∧ u = v)) := fun v hv => by omega
  have e53 : coT w r t x (c % 2) 53 (20 * i + u) = if i = r ∧ u = x then (t : Int) else if i = r ∧ u = t then (x : Int) else w 53 (20 * i + u) := by
    simp only [coT, tU, c1 t ht, c1 x hx20]
    simp
  have e54 : coT w r t x (c % 2) 54 (20 * i + u) = if i = r ∧ u = x then (if c % 2 = 1 then 1 else 0) else if i = r ∧ u = t then (if c % 2 = 0 then 1 else 0) else w 54 (20 * i + u) := by
    simp only [coT, tU, c1 t ht, c1 x hx20]
    simp
  rw [e53, e54, chD_at hx hxn hxt]
  by_cases g1 : i = r ∧ u = x
  · have g2 : ¬ (i = r ∧ u = t) := fun g => hxt (by omega)
    rw [if_pos g1, if_pos g1, if_neg g2, if_pos g1]
    have k := tri_v (x := (t : Int)) (s := ((c % 2 : Nat) : Int)) (by omega) (by omega)
    refine ⟨k.1.symm, fun _ => ?_⟩
    rw [k.2]
    split <;> omega
  · rw [if_neg g1, if_neg g1, if_neg g1]
    by_cases g2 : i = r ∧ u = t
    · rw [if_pos g2, if_pos g2, if_pos g2]
      have k := tri_v (x := (x : Int)) (s := 1 - ((c % 2 : Nat) : Int)) (by omega) (by omega)
      refine ⟨k.1.symm, fun _ => ?_⟩
      rw [k.2]
      split <;> omega
    · rw [if_neg g2, if_neg g2, if_neg g2]
      exact hm
theorem MR_B {r t : Nat} (h : MR w D) (ht : t < 20) : MR (tU w 53 (20 * r + t) (-1)) (dB D r t) := by
  intro i u hi hu
  have hm := h i u hi hu
  have c1 : (20 * i + u = 20 * r + t ↔ (i = r ∧ u = t)) := by omega
  rw [dB_at]
  by_cases g1 : i = r ∧ u = t
  · rw [if_pos g1]
    refine ⟨?_, fun g => absurd g (by decide)⟩
    simp only [tU]
    rw [if_pos ⟨trivial, c1.mpr g1⟩]
    rfl
  · rw [if_neg g1]
    have e : ∀ q, tU w 53 (20 * r + t) (-1) q (20 * i + u) = w q (20 * i + u) := fun q => by
      simp only [tU]
      rw [if_neg (fun g => g1 (c1.mp g.2))]
    rw [e, e]
    exact hm
/-- a choice taken back -/
theorem MR_take {r t c : Nat} (hn : n ≤ 8) (hr : r < 8) (ht : t < n) (ho : D r t = -2) (hc : c ≤ 2 * n) (h : MR w (chD D n r t c)) (hx : c / 2 ≠ n → c / 2 ≠ t ∧ D r (c / 2) = -2) : MR (tbT w r t) D ∧ w 53 (20 * r + t) < 20 := by
  have h53 := (h r t hr (by omega)).1
  by_cases hb : c / 2 = n
  · have hD2 : chD D n r t c = dB D r t := by unfold chD; rw [if_pos hb]
    rw [hD2] at h h53
    rw [dB_at, if_pos ⟨rfl, rfl⟩] at h53
    have h53' : w 53 (20 * r + t) = -1 := by rw [h53]; rfl
    refine ⟨fun i u hi hu => ?_, by omega⟩
    have hm := h i u hi hu
    unfold tbT
    rw [if_neg (by omega)]
    have c1 : (20 * i + u = 20 * r + t ↔ (i = r ∧ u = t)) := by omega
    by_cases g1 : i = r ∧ u = t
    · rw [g1.1, g1.2, ho]
      refine ⟨?_, fun g => absurd g (by decide)⟩
      simp [tU, triC]
    · rw [dB_at, if_neg g1] at hm
      have e : ∀ q, tU w 53 (20 * r + t) (-2) q (20 * i + u) = w q (20 * i + u) := fun q => by
        simp only [tU]
        rw [if_neg (fun g => g1 (c1.mp g.2))]
      rw [e, e]
      exact hm
  · obtain ⟨hxt, hox⟩ := hx hb
    have hx8 : c / 2 < n := by omega
    generalize hxx : c / 2 = x at *
    have k := tri_v (x := (x : Int)) (s := 1 - ((c % 2 : Nat) : Int)) (by omega) (by omega)
    rw [chD_at hxx hb hxt, if_pos ⟨rfl, rfl⟩, k.1] at h53
    refine ⟨fun i u hi hu => ?_, by omega⟩
    have hm := h i u hi hu
    unfold tbT
    rw [if_pos (by omega), h53, Int.toNat_natCast]
    have c1 : (20 * i + u = 20 * r + t ↔ (i = r ∧ u = t)) := by omega
    have c2 : (20 * i + u = 20 * r + x ↔ (i = r ∧ u = x)) := by omega
    by_cases g1 : i = r ∧ u = t
    · rw [g1.1, g1.2, ho]
      refine ⟨?_, fun g => absurd g (by decide)⟩
      simp [tU, triC]
    · by_cases g2 : i = r ∧ u = x
      · rw [g2.1, g2.2, hox]
        refine ⟨?_, fun g => absurd g (by decide)⟩
        simp [tU, triC]
      · rw [chD_at hxx hb hxt, if_neg g1, if_neg g2] at hm
        have e : ∀ q, tU (tU w 53 (20 * r + t) (-2)) 53 (20 * r + x) (-2) q (20 * i + u) = w q (20 * i + u) := fun q => by
          simp only [tU]
          rw [if_neg (fun g => g2 (c2.mp g.2)), if_neg (fun g => g1 (c1.mp g.2))]
        rw [e, e]
        exact hm
end ZC2
/-- sums of naturals -/
def sN (g : Nat → Nat) : Nat → Nat
  | 0 => 0
  | n + 1 => sN g n + g n
theorem sN_congr {g h : Nat → Nat} {n : Nat} (e : ∀ i, i < n → g i = h i) : sN g n = sN h n := by
  induction n with
  | zero => rfl
  | succ n ih => rw [sN, sN, ih (fun i hi => e i (by omega)), e n (by omega)]
theorem sN_le {g : Nat → Nat} {M n : Nat} (h : ∀ i, i < n → g i ≤ M) : sN g n ≤ n * M := by
  induction n with
  | zero => simp [sN]
  | succ n ih =>
    have := ih (fun i hi => h i (by omega))
    have := h n (by omega)
    rw [sN, Nat.succ_mul]
    omega
theorem sN_lt {g : Nat → Nat} {M n t : Nat} (h : ∀ i, i < n → g i ≤ M) (ht : t < n) (hl : g t < M) : sN g n < n * M := by
  induction n with
  | zero => omega
  | succ n ih =>
    have h1 := h n (by omega)
    rw [sN, Nat.succ_mul]
    by_cases e : t = n
    · subst e
      have := sN_le (g := g) (M := M) (n := t) (fun i hi => h i (by omega))
      omega
    · have := ih (fun i hi => h i (by omega)) (by omega)
      omega
theorem sN_up {g h : Nat → Nat} {n t k : Nat} (ht : t < n) (e : ∀ i, i < n → ¬ i = t → h i = g i) (et : h t = g t + k) : sN h n = sN g n + k := by
  induction n with
  | zero => omega
  | succ n ih =>
    rw [sN, sN]
    by_cases e1 : t = n
    · subst e1
      rw [sN_congr (fun i hi => e i (by omega) (by omega)), et]
      omega
    · rw [ih (by omega) (fun i hi => e i (by omega)), e n (by omega) (fun x => e1 x.symm)]
      omega
theorem sN_up2 {g h : Nat → Nat} {n t x : Nat} (ht : t < n) (hx : x < n) (htx : ¬ t = x) (e : ∀ i, i < n → ¬ i = t → ¬ i = x → h i = g i) (et : h t = g t + 1) (ex : h x = g x + 1) : sN h n = sN g n + 2 := by
  have a1 : sN (fun i => if i = t then g t + 1 else g i) n = sN g n + 1 := sN_up ht (fun i hi hit => if_neg hit) (if_pos rfl)
  have a2 : sN h n = sN (fun i => if i = t then g t + 1 else g i) n + 1 := by
    refine sN_up hx (fun i hi hix => ?_) ?_
    · show h i = if i = t then g t + 1 else g i
      by_cases e2 : i = t
      · rw [if_pos e2, e2, et]
      · rw [if_neg e2]; exact e i hi e2 hix
    · show h x = (if x = t then g t + 1 else g x) + 1
      rw [if_neg (fun q => htx q.symm), ex]
  omega
theorem cnt_congr {p q : Nat → Bool} {n : Nat} (h : ∀ i, i < n → p i = q i) : cnt p n = cnt q n := by
  induction n with
  | zero => rfl
  | succ n ih => rw [cnt, cnt, ih (fun i hi => h i (by omega)), h n (by omega)]
theorem cnt_up {p q : Nat → Bool} {n r : Nat} (hr : r < n) (h : ∀ i, i < n → ¬ i = r → q i = p i) (hp : p r = false) (hq : q r = true) : cnt q n = cnt p n + 1 := by
  induction n with
  | zero => omega
  | succ n ih =>
    rw [cnt, cnt]
    by_cases e : r = n
    · subst e
      rw [cnt_congr (fun i hi => h i (by omega) (by omega)), hp, hq]
      simp
    · rw [ih (by omega) (fun i hi => h i (by omega)), h n (by omega) (fun x => e x.symm)]
      omega
theorem cnt_bd {p : Nat → Bool} {all : Nat} : ∀ n, (∀ i, all ≤ i → p i = false) → cnt p n ≤ all
  | 0, _ => Nat.zero_le _
  | n + 1, h => by
    have := cnt_bd n h
    rw [cnt]
    by_cases e : all ≤ n
    · rw [h n e]; simpa using this
    · have := cnt_le p n
      split <;> omega
def dCol (D : tS) (t : Nat) : Nat := cnt (fun r => dBusy D r t) 7 + (if dBye D t = true then 1 else 0)
def DI (D : tS) (n all dp : Nat) : Prop := DOk D n ∧ (∀ r t, all ≤ r → D r t = -2) ∧ (n % 2 = 0 → ∀ t, dBye D t = false) ∧ sN (dCol D) n = 2 * dp
theorem DI_G {D : tS} {n all dp r h a : Nat} (hn : n ≤ 8) (hI : DI D n all dp) (g : gOk D n r h a) (hr : r < all) : DI (dG D r h a) n all (dp + 1) := by
  obtain ⟨i1, i2, i3, i4⟩ := hI
  obtain ⟨g1, g2, g3, g4, g5, g6, g7, g8⟩ := id g
  refine ⟨dG_ok i1 hn g, fun i t hi => ?_, fun e t => ?_, ?_⟩
  · rw [dG_at, if_neg (by omega), if_neg (by omega)]
    exact i2 i t hi
  · rw [dG_bye g]
    exact i3 e t
  · have key : ∀ t, (t = h ∨ t = a) → D r t = -2 → dCol (dG D r h a) t = dCol D t + 1 := by
      intro t ht ho
      unfold dCol
      have k1 : ∀ i, i < 7 → ¬ i = r → dBusy (dG D r h a) i t = dBusy D i t := fun i hi hir => by
        rw [dG_busy g, decide_eq_false (fun q => hir q.1), Bool.xor_false]
      have k2 : dBusy (dG D r h a) r t = true := by
        rw [dG_busy g, decide_eq_true ⟨rfl, ht⟩]
        simp [dBusy, ho]
      rw [dG_bye g, cnt_up (p := fun i => dBusy D i t) (q := fun i => dBusy (dG D r h a) i t) g1 k1 (by simp [dBusy, ho]) k2]
      omega
    have k3 : ∀ i, i < n → ¬ i = h → ¬ i = a → dCol (dG D r h a) i = dCol D i := fun i hi h1 h2 => by
      have k4 : ∀ j, j < 7 → dBusy (dG D r h a) j i = dBusy D j i := fun j hj => by
        rw [dG_busy g, decide_eq_false (fun q => by omega), Bool.xor_false]
      unfold dCol
      rw [dG_bye g, cnt_congr (p := fun r_1 => dBusy (dG D r h a) r_1 i) k4]
    rw [sN_up2 g2 g3 g4 k3 (key h (Or.inl rfl) g5) (key a (Or.inr rfl) g6), i4]
    omega
theorem dB_bye2 {D : tS} {n r t : Nat} (g : bOk D n r t) (s : Nat) : dBye (dB D r t) s = if s = t then true else dBye D s := by
  unfold dB
  by_cases e : s = t
  · rw [if_pos e, e, dBye_U g.1 g.2.2.1]
    simp
  · rw [if_neg e, dBye_V e]
theorem DI_B {D : tS} {n all dp r t : Nat} (hI : DI D n all dp) (g : bOk D n r t) (hr : r < all) (hn2 : n % 2 = 1) : DI (dB D r t) n all (dp + 1) := by
  obtain ⟨i1, i2, i3, i4⟩ := hI
  refine ⟨dB_ok i1 g.2.1 g.2.2.1, fun i s hi => ?_, fun e => by omega, ?_⟩
  · rw [dB_at, if_neg (by omega)]
    exact i2 i s hi
  · have k3 : ∀ i, i < n → ¬ i = t → dCol (dB D r t) i = dCol D i := fun i hi hit => by
      have k4 : ∀ j, j < 7 → dBusy (dB D r t) j i = dBusy D j i := fun j hj => by
        unfold dBusy
        rw [dB_at, if_neg (fun q => hit q.2)]
      unfold dCol
      rw [dB_bye2 g, if_neg hit, cnt_congr (p := fun r_1 => dBusy (dB D r t) r_1 i) k4]
    have k5 : dCol (dB D r t) t = dCol D t + 2 := by
      have k6 : ∀ i, i < 7 → ¬ i = r → dBusy (dB D r t) i t = dBusy D i t := fun i hi hir => by
        unfold dBusy
        rw [dB_at, if_neg (fun q => hir q.1)]
      unfold dCol
      rw [dB_bye2 g, if_pos rfl, if_pos rfl, g.2.2.2, cnt_up (p := fun i => dBusy D i t) (q := fun i => dBusy (dB D r t) i t) g.1 k6 (by simp [dBusy, g.2.2.1]) (by simp [dBusy, dB_at])]
      simp
    rw [sN_up (k := 2) g.2.1 k3 k5, i4]
    omega
theorem DI_dp {D : tS} {n all dp r t : Nat} (hI : DI D n all dp) (hall : all = n - 1 + n % 2) (hn4 : 4 ≤ n) (hn8 : n ≤ 8) (hr : r < all) (ht : t < n) (ho : D r t = -2) : dp ≤ 27 := by
  obtain ⟨i1, i2, i3, i4⟩ := hI
  have hb : ∀ i, cnt (fun r => dBusy D r i) 7 ≤ all := fun i => cnt_bd 7 (fun j hj => by simp [dBusy, i2 j i hj])
  have hm : ∀ i, i < n → dCol D i ≤ all + n % 2 := by
    intro i hi
    have := hb i
    unfold dCol
    by_cases e : n % 2 = 0
    · rw [i3 e i]
      simp
      omega
    · split <;> omega
  have hs : dCol D t < all + n % 2 := by
    have h1 : cnt (fun r => dBusy D r t) 7 < all := by
      have h7 : all ≤ 7 := by omega
      have c1 := cnt_less (fun r => dBusy D r t) (t := r) (n := all) hr (by simp [dBusy, ho])
      have c2 : ∀ k, cnt (fun r => dBusy D r t) (all + k) = cnt (fun r => dBusy D r t) all := by
        intro k
        induction k with
        | zero => rfl
        | succ k ih =>
          rw [show all + (k + 1) = (all + k) + 1 from rfl, cnt, ih]
          simp [dBusy, i2 (all + k) t (by omega)]
      have := c2 (7 - all)
      rw [show all + (7 - all) = 7 by omega] at this
      omega
    unfold dCol
    by_cases e : n % 2 = 0
    · rw [i3 e t]
      simp
      omega
    · split <;> omega
  have hl := sN_lt hm ht hs
  rw [i4] at hl
  have : n = 4 ∨ n = 5 ∨ n = 6 ∨ n = 7 ∨ n = 8 := by omega
  rcases this with e | e | e | e | e <;> subst e <;> subst hall <;> omega
theorem DI_0 (n all : Nat) : DI D0 n all 0 := by
  refine ⟨D0_ok n, fun _ _ _ => rfl, fun _ t => by simp [dBye, D0, anyN], ?_⟩
  have : ∀ i, i < n → dCol D0 i = 0 := fun i _ => by simp [dCol, dBusy, dBye, D0, anyN, cnt]
  have h2 := sN_le (g := dCol D0) (M := 0) (n := n) (fun i hi => by rw [this i hi]; exact Nat.le_refl _)
  omega
/-- what a choice that can be made does to the draft -/
theorem ok_step {τ D : tS} {n all p f r t c dp : Nat} (hn : n ≤ 8) (hI : DI D n all dp) (hr7 : r < 7) (hr : r < all) (ht : t < n) (ho : D r t = -2) (hO : ∀ i s, r < i → D i s = -2) (hc : c ≤ 2 * n) (hok : okF τ D n p f r t c = true) : (c / 2 ≠ n → c / 2 ≠ t ∧ D r (c / 2) = -2) ∧ DI (chD D n r t c) n all (dp + 1) ∧ ∀ i s, r < i → chD D n r t c i s = -2 := by
  unfold okF at hok
  by_cases hb : c / 2 = n
  · rw [if_pos hb] at hok
    have hk := of_decide_eq_true hok
    have e : chD D n r t c = dB D r t := by unfold chD; rw [if_pos hb]
    refine ⟨fun g => absurd hb g, ?_, ?_⟩
    · rw [e]
      exact DI_B hI ⟨hr7, ht, ho, hk.2.1⟩ hr hk.1
    · rw [e]
      exact fun i s hi => dB_later hO (Nat.le_refl _) i s hi
  · rw [if_neg hb] at hok
    have hk := of_decide_eq_true hok
    have hx : c / 2 < n := by omega
    have hms := dMet_symf hI.1 hk.2.2.1
    refine ⟨fun _ => ⟨hk.1, hk.2.1⟩, ?_, ?_⟩
    · unfold chD
      rw [if_neg hb]
      split
      · exact DI_G hn hI ⟨hr7, ht, hx, fun e => hk.1 e.symm, ho, hk.2.1, hk.2.2.1, hms⟩ hr
      · exact DI_G hn hI ⟨hr7, hx, ht, hk.1, hk.2.1, ho, hms, hk.2.2.1⟩ hr
    · unfold chD
      rw [if_neg hb]
      split
      · exact fun i s hi => dG_later hO (Nat.le_refl _) i s hi
      · exact fun i s hi => dG_later hO (Nat.le_refl _) i s hi
theorem dnF_none {p : Nat → Bool} {n : Nat} (h : ∀ j, j < n → p j = false) : ∀ c, c ≤ n → dnF p n c = -1
  | 0, _ => rfl
  | c + 1, hc => by rw [dnF, h _ (by omega), if_neg (by decide), dnF_none h c (by omega)]
theorem dnF_some {p : Nat → Bool} {n t : Nat} (hp : p t = true) (hl : ∀ j, j < t → p j = false) : ∀ c, c ≤ n → n - c ≤ t → t < n → dnF p n c = (t : Int)
  | 0, _, h, ht => by omega
  | c + 1, hc, h, ht => by
    rw [dnF]
    by_cases e : n - (c + 1) = t
    · rw [e, if_pos hp]
    · rw [hl _ (by omega), if_neg (by decide)]
      exact dnF_some hp hl c (by omega) (by omega) ht
theorem mr_op {w D : tS} (h : MR w D) {r t : Nat} (hr : r < 8) (ht : t < 20) : opP w r t = decide (D r t = -2) := by
  unfold opP
  rw [mr_53 h hr ht]
  refine decide_eq_decide.mpr ?_
  unfold triC
  split <;> omega
theorem mr_lf {w D : tS} {n r : Nat} (h : MR w D) (hn : n ≤ 8) (hr : r < 8) (hx : ∃ t, t < n ∧ D r t = -2) : dnF (opP w r) n n = ((lfD D n r : Nat) : Int) := by
  obtain ⟨l1, l2, l3⟩ := lf_ok hn hx
  refine dnF_some ?_ (fun j hj => ?_) n (Nat.le_refl _) (by omega) l1
  · rw [mr_op h hr (by omega)]
    exact decide_eq_true l2
  · rw [mr_op h hr (by omega)]
    exact decide_eq_false (l3 j hj)
theorem mr_rd {w D : tS} {n r : Nat} (h : MR w D) (hn : n ≤ 8) (hr : r < 8) : (if dnF (opP w r) n n < 0 then r + 1 else r) = rdF D n r := by
  unfold rdF
  by_cases e : ∃ t, t < n ∧ D r t = -2
  · rw [mr_lf h hn hr e, if_neg (by omega), if_pos]
    rw [anyN_iff]
    obtain ⟨t, h1, h2⟩ := e
    exact ⟨t, h1, decide_eq_true h2⟩
  · rw [dnF_none (fun j hj => ?_) n (Nat.le_refl _), if_pos (by decide), if_neg]
    · intro g
      obtain ⟨t, h1, h2⟩ := (anyN_iff _ _).mp g
      exact e ⟨t, h1, of_decide_eq_true h2⟩
    · rw [mr_op h hr (by omega)]
      exact decide_eq_false (fun g => e ⟨j, hj, g⟩)
theorem chF_skip {nx : tS → Nat → sR} {ok : Nat → Bool} {ch : Nat → tS} {D : tS} {m2 b : Nat} : ∀ m1 c, (∀ i, c ≤ i → i < c + m1 → ok i = false) → chF nx ok ch D (m1 + m2) c b = chF nx ok ch D m2 (c + m1) b
  | 0, c, _ => by rw [Nat.zero_add]; rfl
  | m1 + 1, c, h => by
    rw [show m1 + 1 + m2 = (m1 + m2) + 1 by omega, chF, h c (Nat.le_refl _) (by omega), tgF_no, if_pos rfl, chF_skip m1 (c + 1) (fun i h1 h2 => h i (by omega) (by omega)), show c + 1 + m1 = c + (m1 + 1) by omega]
/-- the next choice, among those from c on -/
theorem ncF_cases (ok : Nat → Bool) (N : Nat) : ∀ m, m ≤ N → (ncF ok N m = -1 ∧ ∀ i, N - m ≤ i → i < N → ok i = false) ∨ (∃ c, N - m ≤ c ∧ c < N ∧ ncF ok N m = (c : Int) ∧ ok c = true ∧ ∀ i, N - m ≤ i → i < c → ok i = false)
  | 0, _ => Or.inl ⟨rfl, fun i h1 h2 => by omega⟩
  | m + 1, hm => by
    rw [ncF]
    by_cases e : ok (N - (m + 1)) = true
    · rw [if_pos e]
      exact Or.inr ⟨N - (m + 1), Nat.le_refl _, by omega, rfl, e, fun i h1 h2 => by omega⟩
    · rw [if_neg e]
      have e2 : ok (N - (m + 1)) = false := by simpa using e
      rcases ncF_cases ok N m (by omega) with ⟨a1, a2⟩ | ⟨c, b1, b2, b3, b4, b5⟩
      · refine Or.inl ⟨a1, fun i h1 h2 => ?_⟩
        by_cases q : i = N - (m + 1)
        · rw [q]; exact e2
        · exact a2 i (by omega) h2
      · refine Or.inr ⟨c, by omega, b2, b3, b4, fun i h1 h2 => ?_⟩
        by_cases q : i = N - (m + 1)
        · rw [q]; exact e2
        · exact b5 i (by omega) h2
