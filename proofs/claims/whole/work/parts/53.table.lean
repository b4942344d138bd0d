/-! the table on both sides (written by wip/gen/t42.py) -/
theorem pigeon : ∀ (n : Nat) (f : Nat → Nat), (∀ i, i < n → f i < n) → (∀ i j, i < n → j < n → f i = f j → i = j) → ∀ k, k < n → ∃ i, i < n ∧ f i = k
  | 0, _, _, _, k, hk => by omega
  | n + 1, f, hf, hi, k, hk => by
    have hv := hf n (by omega)
    have hne : ∀ i, i < n → ¬ f i = f n := fun i h g => by have := hi i n (by omega) (by omega) g; omega
    have ih := pigeon n (fun i => if f i = n then f n else f i) (fun i h => by
      show (if f i = n then f n else f i) < n
      have h1 := hf i (by omega)
      have h2 := hne i h
      split <;> omega) (fun i j h1 h2 g => by
      have g' : (if f i = n then f n else f i) = (if f j = n then f n else f j) := g
      have a1 := hne i h1
      have a2 := hne j h2
      by_cases e1 : f i = n
      · by_cases e2 : f j = n
        · exact hi i j (by omega) (by omega) (by omega)
        · rw [if_pos e1, if_neg e2] at g'
          omega
      · by_cases e2 : f j = n
        · rw [if_neg e1, if_pos e2] at g'
          omega
        · rw [if_neg e1, if_neg e2] at g'
          exact hi i j (by omega) (by omega) g')
    by_cases e : k = f n
    · exact ⟨n, by omega, e.symm⟩
    · by_cases e2 : k = n
      · obtain ⟨i, h1, h2⟩ := ih (f n) (by omega)
        have h2' : (if f i = n then f n else f i) = f n := h2
        have a1 := hne i h1
        by_cases e3 : f i = n
        · exact ⟨i, by omega, by omega⟩
        · rw [if_neg e3] at h2'
          omega
      · obtain ⟨i, h1, h2⟩ := ih k (by omega)
        have h2' : (if f i = n then f n else f i) = k := h2
        by_cases e3 : f i = n
        · rw [if_pos e3] at h2'
          omega
        · rw [if_neg e3] at h2'
          exact ⟨i, by omega, h2'⟩
theorem cnt_sub {p q : Nat → Bool} : ∀ n, (∀ i, i < n → p i = true → q i = true) → cnt p n ≤ cnt q n
  | 0, _ => Nat.le_refl _
  | n + 1, h => by
    have h1 := cnt_sub n (fun i hi => h i (by omega))
    have h2 := h n (by omega)
    rw [cnt, cnt]
    cases e1 : p n
    · simp; omega
    · rw [h2 e1]; simp; omega
theorem cnt_sub_lt {p q : Nat → Bool} {k : Nat} : ∀ n, (∀ i, i < n → p i = true → q i = true) → k < n → p k = false → q k = true → cnt p n < cnt q n
  | 0, _, hk, _, _ => by omega
  | n + 1, h, hk, hp, hq => by
    rw [cnt, cnt]
    by_cases e : k = n
    · subst e
      have h1 := cnt_sub (p := p) (q := q) k (fun i hi => h i (by omega))
      rw [hp, hq]
      simp
      omega
    · have h1 := cnt_sub_lt n (fun i hi => h i (by omega)) (by omega) hp hq
      have h2 := h n (by omega)
      cases e1 : p n
      · simp; omega
      · rw [h2 e1]; simp; omega
section ZT1
variable {τ : tS}
theorem bef_iff (a b : Nat) : befP τ a b = true ↔ (3 * τ 22 b + τ 23 b < 3 * τ 22 a + τ 23 a ∨ (3 * τ 22 a + τ 23 a = 3 * τ 22 b + τ 23 b ∧ (τ 25 b - τ 26 b < τ 25 a - τ 26 a ∨ (τ 25 a - τ 26 a = τ 25 b - τ 26 b ∧ (τ 25 b < τ 25 a ∨ (τ 25 a = τ 25 b ∧ a < b)))))) := by
  unfold befP
  rw [decide_eq_true_eq]
  split
  · omega
  · split
    · omega
    · split <;> omega
theorem plc_lt {a b n : Nat} (ha : a < n) (h : befP τ a b = true) (hab : ¬ a = b) : cnt (plcP τ a) n < cnt (plcP τ b) n := by
  refine cnt_sub_lt n (fun i hi hp => ?_) ha ?_ ?_
  · have h1 := of_decide_eq_true hp
    refine decide_eq_true ⟨fun g => ?_, ?_⟩
    · subst g
      have h2 := (bef_iff _ _).mp h1.2
      have h3 := (bef_iff _ _).mp h
      omega
    · have h2 := (bef_iff _ _).mp h1.2
      have h3 := (bef_iff _ _).mp h
      rw [bef_iff]
      omega
  · exact decide_eq_false (fun g => g.1 rfl)
  · exact decide_eq_true ⟨hab, h⟩
theorem plc_inj {a b n : Nat} (ha : a < n) (hb : b < n) (h : cnt (plcP τ a) n = cnt (plcP τ b) n) : a = b := by
  by_cases e : a = b
  · exact e
  · exfalso
    by_cases e1 : befP τ a b = true
    · have := plc_lt ha e1 e; omega
    · have e2 : befP τ b a = true := by
        rw [bef_iff]
        rw [bef_iff] at e1
        omega
      have := plc_lt hb e2 (fun g => e g.symm); omega
theorem plc_sur {n k : Nat} (hk : k < n) : ∃ t, t < n ∧ cnt (plcP τ t) n = k :=
  pigeon n (fun t => cnt (plcP τ t) n) (fun i hi => cnt_less (plcP τ i) hi (decide_eq_false (fun g => g.1 rfl))) (fun i j hi hj h => plc_inj hi hj h) k hk
theorem ordR_at {f g : Nat → Int} {n t0 k : Nat} (hk : cnt (mplP f t0) n = k) (hu : ∀ t, t < n → cnt (mplP f t) n = k → t = t0) : ∀ T, t0 < T → T ≤ n → ordR f g n T k = (t0 : Int)
  | 0, h, _ => by omega
  | T + 1, h, hT => by
    rw [ordR]
    by_cases e : cnt (mplP f T) n = k
    · have := hu T (by omega) e
      subst this
      rw [e, ru_at]
    · rw [ru_ne _ _ (fun g => e g.symm)]
      refine ordR_at hk hu T ?_ (by omega)
      by_cases e2 : t0 = T
      · subst e2; exact absurd hk e
      · omega
/-- the table's rows, place by place -/
theorem tb_same {f g : Nat → Int} {n k : Nat} (hS : ∀ t q, t < n → q < 8 → f (8 * t + q) = fldF τ t q) (hk : k < n) : ∃ t0 : Nat, t0 < n ∧ ordR f g n n k = (t0 : Int) ∧ ∀ q, q < 8 → f (8 * t0 + q) = tbF τ n k q := by
  have hb : ∀ a b, a < n → b < n → mbefP f a b = befP τ a b := by
    intro a b ha hb
    have a7 := hS a 7 ha (by omega)
    have b7 := hS b 7 hb (by omega)
    have a5 := hS a 5 ha (by omega)
    have b5 := hS b 5 hb (by omega)
    have a6 := hS a 6 ha (by omega)
    have b6 := hS b 6 hb (by omega)
    simp [fldF] at a7 b7 a5 b5 a6 b6
    rw [Bool.eq_iff_iff, bef_iff]
    unfold mbefP
    rw [decide_eq_true_eq, a7, b7, a5, b5, a6, b6]
    split
    · omega
    · split
      · omega
      · split <;> omega
  have hp : ∀ t, t < n → cnt (mplP f t) n = cnt (plcP τ t) n := fun t ht => cnt_congr (fun i hi => by
    unfold mplP plcP
    rw [hb i t hi ht])
  obtain ⟨t0, h1, h2⟩ := plc_sur (τ := τ) hk
  refine ⟨t0, h1, ordR_at (by rw [hp t0 h1]; exact h2) (fun t ht h => ?_) n h1 (Nat.le_refl _), fun q hq => ?_⟩
  · rw [hp t ht] at h
    exact plc_inj (τ := τ) (n := n) ht h1 (by omega)
  · rw [hS t0 q h1 hq, tbF, fst0_some _ n t0 h1 (fun j hj g => ?_) (decide_eq_true h2)]
    · rfl
    · have := of_decide_eq_true g
      have := plc_inj (τ := τ) (n := n) (a := j) (b := t0) (by omega) h1 (by omega)
      omega
end ZT1
/-- what one game adds to the field q of a team with s goals to g -/
def c6 (q : Nat) (s g : Int) : Int := if q = 1 then 1 else if q = 2 then (if g < s then 1 else 0) else if q = 3 then (if s = g then 1 else 0) else if q = 4 then (if s < g then 1 else 0) else if q = 5 then s else if q = 6 then g else 0
def cel (w : tS) (u q r t : Nat) : Int := if w 46 (20 * r + t) = 0 then 0 else (if u = t then c6 q (w 47 (20 * r + t)) (w 48 (20 * r + t)) else 0) + (if u = (w 44 (20 * r + t)).toNat then c6 q (w 48 (20 * r + t)) (w 47 (20 * r + t)) else 0)
theorem ct_6 (f : Nat → Int) (t u q : Nat) (s g : Int) (hq : q < 7) : ctR f t s g (8 * u + q) = f (8 * u + q) + (if u = t then c6 q s g else 0) := by
  unfold ctR
  by_cases e : u = t
  · subst e
    have h : q = 0 ∨ q = 1 ∨ q = 2 ∨ q = 3 ∨ q = 4 ∨ q = 5 ∨ q = 6 := by omega
    rcases h with h | h | h | h | h | h | h <;> subst h <;> simp [c6]
    all_goals (repeat' split)
    all_goals omega
  · rw [if_neg (by omega), if_neg (by omega), if_neg (by omega), if_neg (by omega), if_neg (by omega), if_neg (by omega), if_neg (by omega), if_neg e]
    omega
theorem ct_7 (f : Nat → Int) (t u : Nat) (s g : Int) (h : f (8 * u + 7) = 3 * f (8 * u + 2) + f (8 * u + 3)) : ctR f t s g (8 * u + 7) = 3 * ctR f t s g (8 * u + 2) + ctR f t s g (8 * u + 3) := by
  rw [ct_6 _ _ _ 2 _ _ (by omega), ct_6 _ _ _ 3 _ _ (by omega)]
  unfold ctR
  by_cases e : u = t
  · subst e
    rw [if_neg (by omega), if_neg (by omega), if_neg (by omega), if_neg (by omega), if_neg (by omega), if_neg (by omega), if_pos rfl, if_pos rfl, if_pos rfl]
    simp [c6]
  · rw [if_neg (by omega), if_neg (by omega), if_neg (by omega), if_neg (by omega), if_neg (by omega), if_neg (by omega), if_neg (by omega), if_neg e, if_neg e, h]
    omega
theorem lt2_sum (w : tS) (f : Nat → Int) (r u q : Nat) (hq : q < 7) : ∀ T, lt2 w f r T (8 * u + q) = f (8 * u + q) + sumI (cel w u q r) T
  | 0 => by rw [lt2, sumI]; omega
  | T + 1 => by
    rw [lt2, sumI, cel]
    have ih := lt2_sum w f r u q hq T
    split
    · rw [ih]; omega
    · rw [ct_6 _ _ _ _ _ _ hq, ct_6 _ _ _ _ _ _ hq, ih]; omega
theorem lt3_sum (w : tS) (f : Nat → Int) (n u q : Nat) (hq : q < 7) : ∀ R, lt3 w f n R (8 * u + q) = f (8 * u + q) + sumI (fun r => sumI (cel w u q r) n) R
  | 0 => by rw [lt3, sumI]; omega
  | R + 1 => by
    rw [lt3, sumI, lt2_sum _ _ _ _ _ hq, lt3_sum w f n u q hq R]
    omega
theorem lt2_7 (w : tS) (f : Nat → Int) (r u : Nat) (h : f (8 * u + 7) = 3 * f (8 * u + 2) + f (8 * u + 3)) : ∀ T, lt2 w f r T (8 * u + 7) = 3 * lt2 w f r T (8 * u + 2) + lt2 w f r T (8 * u + 3)
  | 0 => h
  | T + 1 => by
    rw [lt2]
    split
    · exact lt2_7 w f r u h T
    · exact ct_7 _ _ _ _ _ (ct_7 _ _ _ _ _ (lt2_7 w f r u h T))
theorem lt3_7 (w : tS) (f : Nat → Int) (n u : Nat) (h : f (8 * u + 7) = 3 * f (8 * u + 2) + f (8 * u + 3)) : ∀ R, lt3 w f n R (8 * u + 7) = 3 * lt3 w f n R (8 * u + 2) + lt3 w f n R (8 * u + 3)
  | 0 => h
  | R + 1 => lt2_7 _ _ _ _ (lt3_7 w f n u h R) n
theorem lt1_at (g : Nat → Int) {n u q : Nat} (hn : n ≤ 20) (hu : u < n) (hq : q < 8) : lt1 (lt0 g 160) n (8 * u + q) = if q = 0 then (u : Int) else 0 := by
  unfold lt1 lt0
  by_cases e : q = 0
  · subst e
    rw [if_pos ⟨by omega, by omega⟩, if_pos rfl, show (8 * u + 0) / 8 = u by omega]
  · rw [if_neg (by omega), if_pos (by omega), if_neg e]
def sums (w : tS) (n R u q : Nat) : Int := sumI (fun r => sumI (cel w u q r) n) R
theorem sumI_congr {f g : Nat → Int} {n : Nat} (h : ∀ i, i < n → f i = g i) : sumI f n = sumI g n := by
  induction n with
  | zero => rfl
  | succ n ih => rw [sumI, sumI, ih (fun i hi => h i (by omega)), h n (by omega)]
theorem sumI_add (f g : Nat → Int) : ∀ n, sumI (fun i => f i + g i) n = sumI f n + sumI g n
  | 0 => by simp [sumI]
  | n + 1 => by
    rw [sumI, sumI, sumI, sumI_add f g n]
    omega
theorem sumI_upd {f g : Nat → Int} {n k : Nat} (hk : k < n) (h : ∀ i, i < n → ¬ i = k → g i = f i) : sumI g n = sumI f n - f k + g k := by
  induction n with
  | zero => omega
  | succ n ih =>
    rw [sumI, sumI]
    by_cases e : k = n
    · subst e
      rw [sumI_congr (fun i hi => h i (by omega) (by omega))]
      omega
    · rw [ih (by omega) (fun i hi => h i (by omega)), h n (by omega) (fun g => e g.symm)]
      omega
theorem cel_1 (w : tS) (u r t : Nat) : cel w u 1 r t = cel w u 2 r t + cel w u 3 r t + cel w u 4 r t := by
  unfold cel c6
  simp
  repeat' split
  all_goals omega
theorem sums_1 (w : tS) (n R u : Nat) : sums w n R u 1 = sums w n R u 2 + sums w n R u 3 + sums w n R u 4 := by
  unfold sums
  rw [← sumI_add, ← sumI_add]
  refine sumI_congr (fun r _ => ?_)
  show sumI (cel w u 1 r) n = sumI (cel w u 2 r) n + sumI (cel w u 3 r) n + sumI (cel w u 4 r) n
  rw [← sumI_add, ← sumI_add]
  exact sumI_congr (fun t _ => cel_1 w u r t)
theorem cel_0 (w : tS) (u r t : Nat) : cel w u 0 r t = 0 := by
  unfold cel c6
  simp
theorem sumI_0 {f : Nat → Int} : ∀ n, (∀ i, i < n → f i = 0) → sumI f n = 0
  | 0, _ => rfl
  | n + 1, h => by rw [sumI, sumI_0 n (fun i hi => h i (by omega)), h n (by omega)]; rfl
/-- the fields of the class against the reference's rows -/
theorem fld_same {τ w : tS} {n R : Nat} (hn : n ≤ 20) (hS : ∀ u q, u < n → 2 ≤ q → q ≤ 6 → τ (20 + q) u = sums w n R u q) (t q : Nat) (ht : t < n) (hq : q < 8) : ltF w n R (8 * t + q) = fldF τ t q := by
  have b := fun q hq => lt1_at (w 60) hn ht (q := q) hq
  have k6 : ∀ q, q < 7 → ltF w n R (8 * t + q) = (if q = 0 then (t : Int) else 0) + sums w n R t q := fun q hq => by
    unfold ltF sums
    rw [lt3_sum _ _ _ _ _ hq, b q (by omega)]
  have k7 : ltF w n R (8 * t + 7) = 3 * ltF w n R (8 * t + 2) + ltF w n R (8 * t + 3) := by
    unfold ltF
    refine lt3_7 _ _ _ _ ?_ R
    rw [b 7 (by omega), b 2 (by omega), b 3 (by omega)]
    rfl
  have s2 : τ 22 t = sums w n R t 2 := hS t 2 ht (by omega) (by omega)
  have s3 : τ 23 t = sums w n R t 3 := hS t 3 ht (by omega) (by omega)
  have s4 : τ 24 t = sums w n R t 4 := hS t 4 ht (by omega) (by omega)
  have s5 : τ 25 t = sums w n R t 5 := hS t 5 ht (by omega) (by omega)
  have s6 : τ 26 t = sums w n R t 6 := hS t 6 ht (by omega) (by omega)
  have h : q = 0 ∨ q = 1 ∨ q = 2 ∨ q = 3 ∨ q = 4 ∨ q = 5 ∨ q = 6 ∨ q = 7 := by omega
  have z0 : sums w n R t 0 = 0 := sumI_0 R (fun r _ => sumI_0 n (fun u _ => cel_0 w t r u))
  have s1 := sums_1 w n R t
  unfold fldF
  rcases h with h | h | h | h | h | h | h | h <;> subst h
  · rw [k6 0 (by omega), if_pos rfl, if_pos rfl, z0]; omega
  · rw [k6 1 (by omega)]; simp; omega
  · rw [k6 2 (by omega)]; simp; omega
  · rw [k6 3 (by omega)]; simp; omega
  · rw [k6 4 (by omega)]; simp; omega
  · rw [k6 5 (by omega)]; simp; omega
  · rw [k6 6 (by omega)]; simp; omega
  · rw [k7, k6 2 (by omega), k6 3 (by omega)]; simp; omega
theorem sc1_at {τ : tS} {h : Nat} {own oth x : Int} {q : Nat} (h2 : 2 ≤ q) (h6 : q ≤ 6) (hx : x = 1 ∨ x = -1) (u : Nat) : sc1 τ (h : Int) own oth x (20 + q) u = τ (20 + q) u + (if u = h then x * c6 q own oth else 0) := by
  unfold sc1 scW c6
  simp only [tU, Int.toNat_natCast]
  have h : q = 2 ∨ q = 3 ∨ q = 4 ∨ q = 5 ∨ q = 6 := by omega
  rcases hx with hx | hx <;> subst hx <;> rcases h with h | h | h | h | h <;> subst h <;> simp
  all_goals (repeat' split)
  all_goals (try simp_all)
  all_goals (try omega)
theorem sc1_ne {τ : tS} {t own oth x : Int} (a j : Nat) (h : a < 22 ∨ 26 < a) : sc1 τ t own oth x a j = τ a j := by
  unfold sc1 scW
  simp only [tU]
  rw [if_neg (by omega), if_neg (by omega), if_neg]
  split
  · omega
  · split <;> omega
theorem sums_upd {w w' : tS} {n R r0 t0 : Nat} (hn : n ≤ 20) (hr : r0 < R) (ht : t0 < n) (h : ∀ q j, 44 ≤ q → q ≤ 48 → ¬ j = 20 * r0 + t0 → w' q j = w q j) (u q : Nat) : sums w' n R u q = sums w n R u q - cel w u q r0 t0 + cel w' u q r0 t0 := by
  have hc : ∀ r t, t < n → ¬ (r = r0 ∧ t = t0) → cel w' u q r t = cel w u q r t := by
    intro r t htn hne
    have e : ¬ 20 * r + t = 20 * r0 + t0 := by omega
    unfold cel
    rw [h 46 _ (by omega) (by omega) e, h 47 _ (by omega) (by omega) e, h 48 _ (by omega) (by omega) e, h 44 _ (by omega) (by omega) e]
  unfold sums
  rw [sumI_upd (f := fun r => sumI (cel w u q r) n) (g := fun r => sumI (cel w' u q r) n) hr (fun i hi hir => sumI_congr (fun t htn => hc i t htn (fun g => hir g.1))), sumI_upd (f := cel w u q r0) (g := cel w' u q r0) ht (fun i hi hit => hc r0 i hi (fun g => hit g.2))]
  omega
