/-! what holds between the class's rows and the reference's between two calls (written by wip/gen/t45.py) -/
def vE (a b : Int) : Int := if a < 0 then -1 else if b = 0 then 0 else 1
theorem veM_E (τ : tS) (j : Nat) : veM τ j = vE (τ 44 j) (τ 45 j) := rfl
def k1 (a : Nat → Int) (n R : Nat) : Prop := a 0 = 20 ∧ a 3 = (n : Int) ∧ a 4 = (R : Int)
def kB (a5 a6 a38 : Nat → Int) : Prop := (∀ j, 0 ≤ a5 j) ∧ (∀ j, 0 ≤ a6 j) ∧ (∀ j, a38 j = 0 ∨ a38 j = 1) ∧ (∀ t r, t < 20 → r < 39 → ((a5 r).toNat.testBit t = true ↔ ¬ a38 (2 * (39 * t + r)) = 0)) ∧ (∀ t r, t < 20 → r < 39 → ((a6 r).toNat.testBit t = true ↔ ¬ a38 (2 * (39 * t + r) + 1) = 0))
def kC (a4 a29 a37 : Nat → Int) (n R p f e : Nat) : Prop := a4 2 = a37 2 ∧ a4 5 = (p : Int) ∧ a4 9 = (f : Int) ∧ a4 10 = a37 11 ∧ a29 3 = (e : Int) ∧ a37 1 = (n : Int) ∧ a37 4 = (p : Int) ∧ a37 7 = (f : Int) ∧ a37 12 = (R : Int) ∧ a37 21 = (e : Int) ∧ 0 ≤ a37 11
def kV (a38 : Nat → Int) (c : Int) : Prop := c = ((cnt (fun j => decide (¬ a38 j = 0)) 1560 : Nat) : Int)
def kP (a7 a8 a39 a40 : Nat → Int) (n p : Nat) : Prop := ∀ i, i < p → a39 i = a7 i ∧ a40 i = a8 i ∧ ¬ a7 i = a8 i ∧ (0 ≤ a7 i ∧ a7 i < n) ∧ (0 ≤ a8 i ∧ a8 i < n)
def kF (a9 a10 a11 a41 a42 a43 : Nat → Int) (n f : Nat) : Prop := ∀ i, i < f → a41 i = a9 i ∧ a42 i = a10 i ∧ a43 i = a11 i ∧ (0 ≤ a9 i ∧ a9 i < n) ∧ (0 ≤ a10 i ∧ a10 i < n) ∧ (0 ≤ a11 i ∧ a11 i ≤ 38)
def kT (a2 a3 a44 a45 : Nat → Int) (n R : Nat) : Prop := (∀ j, a45 j = 0 ∨ a45 j = 1) ∧ ∀ r t, r < R → t < n → a44 (20 * r + t) = a2 (20 * r + t) ∧ vE (a44 (20 * r + t)) (a45 (20 * r + t)) = a3 (20 * r + t) ∧ -1 ≤ a2 (20 * r + t) ∧ a2 (20 * r + t) < n ∧ ¬ a2 (20 * r + t) = (t : Int)
def kG (a3 a19 a20 a46 a47 a48 : Nat → Int) (c : Int) (n R : Nat) : Prop := (∀ j, a46 j = 0 ∨ a46 j = 1) ∧ c = ((cnt (fun j => decide (¬ a46 j = 0)) 800 : Nat) : Int) ∧ (∀ r t, r < R → t < n → (a46 (20 * r + t) = 0 → a19 (20 * r + t) = -1) ∧ (¬ a46 (20 * r + t) = 0 → a19 (20 * r + t) = a47 (20 * r + t) ∧ a20 (20 * r + t) = a48 (20 * r + t) ∧ a3 (20 * r + t) = 1 ∧ (0 ≤ a47 (20 * r + t) ∧ a47 (20 * r + t) ≤ 99) ∧ (0 ≤ a48 (20 * r + t) ∧ a48 (20 * r + t) ≤ 99))) ∧ (∀ r t, r < 40 → t < 20 → ¬ (r < R ∧ t < n) → a46 (20 * r + t) = 0)
def kS (τ : tS) (n R : Nat) : Prop := (∀ u q, u < n → 2 ≤ q → q ≤ 6 → τ (20 + q) u = sums τ n R u q) ∧ (∀ u q, n ≤ u → 2 ≤ q → q ≤ 6 → τ (20 + q) u = 0)
def kW (a28 a51 : Nat → Int) (c : Int) (R : Nat) : Prop := (∀ j, a28 j = 0 ∨ a28 j = 1) ∧ (∀ j, a51 j = 0 ∨ a51 j = 1) ∧ (∀ r, r < 38 → a28 r = a51 r) ∧ (∀ r, R ≤ r → r < 40 → a51 r = 0) ∧ c = ((cnt (fun j => decide (¬ a51 j = 0)) 40 : Nat) : Int) ∧ c ≤ 4
def kL (a3 a46 a49 a51 : Nat → Int) (n R : Nat) : Prop := (∀ j, a49 j = 0 ∨ a49 j = 1) ∧ (∀ r t, r < R → t < n → (¬ a49 (20 * r + t) = 0 ↔ (¬ a51 r = 0 ∧ a3 (20 * r + t) = 1 ∧ a46 (20 * r + t) = 0))) ∧ (∀ r t, r < 40 → t < 20 → ¬ (r < R ∧ t < n) → a49 (20 * r + t) = 0)
def kD (a31 a46 a50 : Nat → Int) (n R : Nat) : Prop := (∀ j, -1 ≤ a31 j) ∧ ∀ r t, r < R → t < n → a50 (20 * r + t) = if a46 (20 * r + t) = 0 then a31 (20 * r + t) else -1
def kE (a30 a52 : Nat → Int) (e : Nat) : Prop := ∀ i, i < e → a30 i = a52 i ∧ 0 ≤ a30 i
def RL (τ : tS) (n R p f e : Nat) : Prop := (AllIn τ) ∧ (4 ≤ n ∧ n ≤ 20 ∧ R ≤ 38 ∧ p ≤ 6 ∧ f ≤ 6 ∧ e ≤ 6) ∧ (k1 (τ 1) n R) ∧ (τ 13 0 = 8) ∧ (kB (τ 5) (τ 6) (τ 38)) ∧ (kC (τ 4) (τ 29) (τ 37) n R p f e) ∧ (kV (τ 38) (τ 37 2)) ∧ (kP (τ 7) (τ 8) (τ 39) (τ 40) n p) ∧ (kF (τ 9) (τ 10) (τ 11) (τ 41) (τ 42) (τ 43) n f) ∧ (kT (τ 2) (τ 3) (τ 44) (τ 45) n R) ∧ (kG (τ 3) (τ 19) (τ 20) (τ 46) (τ 47) (τ 48) (τ 18 3) n R) ∧ (kS τ n R) ∧ (kW (τ 28) (τ 51) (τ 27 3) R) ∧ (kL (τ 3) (τ 46) (τ 49) (τ 51) n R) ∧ (kD (τ 31) (τ 46) (τ 50) n R) ∧ (kE (τ 30) (τ 52) e) ∧ (∀ j, 0 ≤ τ 36 j) ∧ (∀ j, 160 ≤ j → τ 60 j = 0) ∧ (∀ j, τ 54 j = 0 ∨ τ 54 j = 1)
theorem RL.A {τ : tS} {n R p f e : Nat} (h : RL τ n R p f e) : AllIn τ := h.1
theorem RL.bd {τ : tS} {n R p f e : Nat} (h : RL τ n R p f e) : 4 ≤ n ∧ n ≤ 20 ∧ R ≤ 38 ∧ p ≤ 6 ∧ f ≤ 6 ∧ e ≤ 6 := h.2.1
theorem RL.k1 {τ : tS} {n R p f e : Nat} (h : RL τ n R p f e) : k1 (τ 1) n R := h.2.2.1
theorem RL.k13 {τ : tS} {n R p f e : Nat} (h : RL τ n R p f e) : τ 13 0 = 8 := h.2.2.2.1
theorem RL.kB {τ : tS} {n R p f e : Nat} (h : RL τ n R p f e) : kB (τ 5) (τ 6) (τ 38) := h.2.2.2.2.1
theorem RL.kC {τ : tS} {n R p f e : Nat} (h : RL τ n R p f e) : kC (τ 4) (τ 29) (τ 37) n R p f e := h.2.2.2.2.2.1
theorem RL.kV {τ : tS} {n R p f e : Nat} (h : RL τ n R p f e) : kV (τ 38) (τ 37 2) := h.2.2.2.2.2.2.1
theorem RL.kP {τ : tS} {n R p f e : Nat} (h : RL τ n R p f e) : kP (τ 7) (τ 8) (τ 39) (τ 40) n p := h.2.2.2.2.2.2.2.1
theorem RL.kF {τ : tS} {n R p f e : Nat} (h : RL τ n R p f e) : kF (τ 9) (τ 10) (τ 11) (τ 41) (τ 42) (τ 43) n f := h.2.2.2.2.2.2.2.2.1
theorem RL.kT {τ : tS} {n R p f e : Nat} (h : RL τ n R p f e) : kT (τ 2) (τ 3) (τ 44) (τ 45) n R := h.2.2.2.2.2.2.2.2.2.1
theorem RL.kG {τ : tS} {n R p f e : Nat} (h : RL τ n R p f e) : kG (τ 3) (τ 19) (τ 20) (τ 46) (τ 47) (τ 48) (τ 18 3) n R := h.2.2.2.2.2.2.2.2.2.2.1
theorem RL.kS {τ : tS} {n R p f e : Nat} (h : RL τ n R p f e) : kS τ n R := h.2.2.2.2.2.2.2.2.2.2.2.1
theorem RL.kW {τ : tS} {n R p f e : Nat} (h : RL τ n R p f e) : kW (τ 28) (τ 51) (τ 27 3) R := h.2.2.2.2.2.2.2.2.2.2.2.2.1
theorem RL.kL {τ : tS} {n R p f e : Nat} (h : RL τ n R p f e) : kL (τ 3) (τ 46) (τ 49) (τ 51) n R := h.2.2.2.2.2.2.2.2.2.2.2.2.2.1
theorem RL.kD {τ : tS} {n R p f e : Nat} (h : RL τ n R p f e) : kD (τ 31) (τ 46) (τ 50) n R := h.2.2.2.2.2.2.2.2.2.2.2.2.2.2.1
theorem RL.kE {τ : tS} {n R p f e : Nat} (h : RL τ n R p f e) : kE (τ 30) (τ 52) e := h.2.2.2.2.2.2.2.2.2.2.2.2.2.2.2.1
theorem RL.k36 {τ : tS} {n R p f e : Nat} (h : RL τ n R p f e) : ∀ j, 0 ≤ τ 36 j := h.2.2.2.2.2.2.2.2.2.2.2.2.2.2.2.2.1
theorem RL.k60 {τ : tS} {n R p f e : Nat} (h : RL τ n R p f e) : ∀ j, 160 ≤ j → τ 60 j = 0 := h.2.2.2.2.2.2.2.2.2.2.2.2.2.2.2.2.2.1
theorem RL.k54 {τ : tS} {n R p f e : Nat} (h : RL τ n R p f e) : ∀ j, τ 54 j = 0 ∨ τ 54 j = 1 := h.2.2.2.2.2.2.2.2.2.2.2.2.2.2.2.2.2.2
theorem sums_cg {w w' : tS} (h : ∀ q, 44 ≤ q → q ≤ 48 → q ≠ 45 → w' q = w q) (n R u q : Nat) : sums w' n R u q = sums w n R u q := by
  unfold sums cel
  rw [h 44 (by omega) (by omega) (by omega), h 46 (by omega) (by omega) (by omega), h 47 (by omega) (by omega) (by omega), h 48 (by omega) (by omega) (by omega)]
theorem kS_cg {τ τ' : tS} {n R : Nat} (h : kS τ n R) (h1 : ∀ q, 22 ≤ q → q ≤ 26 → τ' q = τ q) (h2 : ∀ q, 44 ≤ q → q ≤ 48 ∧ q ≠ 45 → τ' q = τ q) : kS τ' n R := by
  refine ⟨fun u q hu hq hq6 => ?_, fun u q hu hq hq6 => ?_⟩
  · rw [h1 (20 + q) (by omega) (by omega), sums_cg (fun q a b c => h2 q a ⟨b, c⟩)]
    exact h.1 u q hu hq hq6
  · rw [h1 (20 + q) (by omega) (by omega)]
    exact h.2 u q hu hq hq6
theorem vE_1 {a b : Int} (h : vE a b = 1) : 0 ≤ a := by
  unfold vE at h
  by_cases e : a < 0
  · rw [if_pos e] at h; omega
  · omega
section ZR1
variable {τ : tS} {n R p f e : Nat}
theorem RL.pl (h : RL τ n R p f e) : plOk τ n R := by
  intro r t hr ht hp
  have g := (h.kG.2.2.1 r t hr ht).2 hp
  have k := h.kT.2 r t hr ht
  have := vE_1 (k.2.1.trans g.2.2.1)
  exact ⟨⟨this, by rw [k.1]; exact k.2.2.2.1⟩, g.2.2.2.1, g.2.2.2.2⟩
theorem RL.st (h : RL τ n R p f e) (q j : Nat) (hq : 22 ≤ q ∧ q ≤ 26) : -1000000 ≤ τ q j ∧ τ q j ≤ 1000000 := by
  obtain ⟨b1, b2, b3, b4, b5, b6⟩ := h.bd
  obtain ⟨q', rfl⟩ : ∃ q', q = 20 + q' := ⟨q - 20, by omega⟩
  by_cases e1 : j < n
  · have h1 := bdR_3 h.pl b2 (bd1 τ b2 h.k60) R (Nat.le_refl _) (8 * j + q')
    have h2 := fld_same (τ := τ) b2 h.kS.1 j q' e1 (by omega)
    unfold ltF at h2
    rw [h2] at h1
    have h3 := h1.1 (by omega)
    have h4 : fldF τ j q' = τ (20 + q') j := by
      have : q' = 2 ∨ q' = 3 ∨ q' = 4 ∨ q' = 5 ∨ q' = 6 := by omega
      rcases this with g | g | g | g | g <;> subst g <;> simp [fldF]
    rw [h4] at h3
    omega
  · rw [h.kS.2 j q' (by omega) (by omega) (by omega)]
    omega
theorem RL.cl (h : RL τ n R p f e) : Cl τ n R p f e := by
  obtain ⟨b1, b2, b3, b4, b5, b6⟩ := h.bd
  obtain ⟨c1, c2, c3, c4, c5, c6, c7, c8, c9, c10, c11⟩ := h.kC
  refine ⟨h.A, h.k1.1, h.k13, h.k1.2.1, b1, b2, h.k1.2.2, b3, h.kB.1, h.kB.2.1, c2, b4, fun i hi => (h.kP i hi).2.2.2, c3, b5, fun i hi => (h.kF i hi).2.2.2, h.kW.1, c5, b6, h.k36, fun r t hr ht h3 => ?_, h.st⟩
  have eT : ((r : Int) * 20 + (t : Int)).toNat = 20 * r + t := by omega
  rw [eT] at h3 ⊢
  have k := h.kT.2 r t hr ht
  have := vE_1 (k.2.1.trans h3)
  exact ⟨by rw [← k.1]; exact this, k.2.2.2.1⟩
theorem RL.mo (h : RL τ n R p f e) : Mo τ n R p f e := by
  obtain ⟨b1, b2, b3, b4, b5, b6⟩ := h.bd
  obtain ⟨c1, c2, c3, c4, c5, c6, c7, c8, c9, c10, c11⟩ := h.kC
  refine ⟨h.A, c6, b1, b2, c9, b3, c7, b4, c8, b5, c10, b6, fun i hi => ?_, fun i hi => ?_, h.kB.2.2.1, h.kT.1, h.kG.1, h.kL.1, h.kW.2.1, h.k54, fun r t hr ht => ?_⟩
  · have g := h.kP i hi
    rw [g.1, g.2.1]
    exact g.2.2.2
  · have g := h.kF i hi
    rw [g.1, g.2.1, g.2.2.1]
    exact g.2.2.2
  · have k := h.kT.2 r t hr ht
    rw [k.1]
    exact ⟨k.2.2.1, k.2.2.2.1⟩
theorem Mo.cg {w : tS} (h : Mo τ n R p f e) (hA : AllIn w) (g : ∀ q, 37 ≤ q → q ≤ 54 → w q = τ q) : Mo w n R p f e := by
  refine ⟨hA, ?_, h.n4, h.n20, ?_, h.R38, ?_, h.p6, ?_, h.f6, ?_, h.e6, ?_, ?_, ?_, ?_, ?_, ?_, ?_, ?_, ?_⟩
  · rw [g 37 (by omega) (by omega)]; exact h.n
  · rw [g 37 (by omega) (by omega)]; exact h.R
  · rw [g 37 (by omega) (by omega)]; exact h.p
  · rw [g 37 (by omega) (by omega)]; exact h.f
  · rw [g 37 (by omega) (by omega)]; exact h.e
  · rw [g 39 (by omega) (by omega), g 40 (by omega) (by omega)]; exact h.pr
  · rw [g 41 (by omega) (by omega), g 42 (by omega) (by omega), g 43 (by omega) (by omega)]; exact h.fx
  · rw [g 38 (by omega) (by omega)]; exact h.z38
  · rw [g 45 (by omega) (by omega)]; exact h.z45
  · rw [g 46 (by omega) (by omega)]; exact h.z46
  · rw [g 49 (by omega) (by omega)]; exact h.z49
  · rw [g 51 (by omega) (by omega)]; exact h.z51
  · rw [g 54 (by omega) (by omega)]; exact h.z54
  · rw [g 44 (by omega) (by omega)]; exact h.foe
theorem RL.lo (h : RL τ n R p f e) : hLo τ τ n R := by
  obtain ⟨b1, b2, b3, b4, b5, b6⟩ := h.bd
  refine ⟨fun r t hr ht => ?_, fun r t ht hne hr => ?_⟩
  · have eT : ((r : Int) * 20 + (t : Int)).toNat = 20 * r + t := by omega
    unfold lostP misP
    rw [eT, Int.toNat_natCast]
    refine decide_eq_decide.mpr ?_
    rw [h.kL.2.1 r t hr ht, ← h.kW.2.2.1 r (by omega)]
    have g := h.kG.2.2.1 r t hr ht
    have z := h.kW.1 r
    constructor
    · rintro ⟨a1, a2, a3⟩
      exact ⟨by omega, a2, g.1 a3⟩
    · rintro ⟨a1, a2, a3⟩
      refine ⟨by omega, a2, Decidable.byContradiction (fun x => ?_)⟩
      have := g.2 x
      omega
  · exact decide_eq_false (fun g => g (h.kL.2.2 r t hr ht hne))
theorem cnt_block {P Q : Nat → Bool} (h : ∀ r t, t < 20 → Q r = false → r < 40 → P (20 * r + t) = false) : ∀ k, k ≤ 40 → cnt P (20 * k) ≤ 20 * cnt Q k
  | 0, _ => Nat.zero_le _
  | k + 1, hk => by
    have ih := cnt_block h k (by omega)
    have row : ∀ T, T ≤ 20 → cnt P (20 * k + T) ≤ cnt P (20 * k) + (if Q k = true then T else 0) := by
      intro T
      induction T with
      | zero => intro _; simp
      | succ T iT =>
        intro hT
        have := iT (by omega)
        rw [show 20 * k + (T + 1) = (20 * k + T) + 1 from rfl, cnt]
        cases e : Q k
        · rw [h k T (by omega) e (by omega)]
          rw [e] at this
          simp at this ⊢
          exact this
        · rw [e] at this
          simp at this ⊢
          split <;> omega
    have r20 := row 20 (Nat.le_refl _)
    rw [show 20 * (k + 1) = 20 * k + 20 by omega, show cnt Q (k + 1) = cnt Q k + (if Q k = true then 1 else 0) from rfl]
    cases e : Q k
    · rw [e] at r20
      simp at r20 ⊢
      omega
    · rw [e] at r20
      simp at r20 ⊢
      omega
theorem RL.few (h : RL τ n R p f e) : cnt (lostP τ) 800 < 400 := by
  have hb := cnt_block (P := lostP τ) (Q := fun j => decide (¬ τ 51 j = 0)) (fun r t ht hq hr => by
    have hq' : τ 51 r = 0 := by simpa using hq
    by_cases e1 : r < R ∧ t < n
    · refine decide_eq_false (fun g => ?_)
      exact ((h.kL.2.1 r t e1.1 e1.2).mp g).1 hq'
    · exact decide_eq_false (fun g => g (h.kL.2.2 r t hr ht e1))) 40 (Nat.le_refl _)
  have h4 := h.kW.2.2.2.2
  rw [h4.1] at h4
  have := h4.2
  rw [show 20 * 40 = 800 from rfl] at hb
  omega
theorem RL.wr (h : RL τ n R p f e) {w : tS} (g : ∀ q, 37 ≤ q → q ≤ 43 → w q = τ q) : WR τ w n p f := by
  refine ⟨?_, ?_, fun i hi => ?_, fun i hi => ?_, ?_⟩
  · rw [g 38 (by omega) (by omega)]; exact h.kB.2.2.2.1
  · rw [g 38 (by omega) (by omega)]; exact h.kB.2.2.2.2
  · rw [g 39 (by omega) (by omega), g 40 (by omega) (by omega)]; exact h.kP i hi
  · rw [g 41 (by omega) (by omega), g 42 (by omega) (by omega), g 43 (by omega) (by omega)]
    have k := h.kF i hi
    exact ⟨k.1, k.2.1, k.2.2.1⟩
  · rw [g 37 (by omega) (by omega)]; exact h.kC.2.2.2.1.symm
end ZR1
/-- rows that the relation does not speak of may change -/
theorem RL.irr {τ τ' : tS} {n R p f e : Nat} (h : RL τ n R p f e) (hA : AllIn τ') (he : ∀ q, ¬ (q = 12 ∨ (14 ≤ q ∧ q ≤ 18) ∨ q = 27 ∨ q = 29 ∨ (32 ≤ q ∧ q ≤ 37) ∨ (53 ≤ q ∧ q ≤ 62) ∨ q = 13) → τ' q = τ q) (h13 : τ' 13 0 = τ 13 0) (h18 : τ' 18 3 = τ 18 3) (h27 : τ' 27 3 = τ 27 3) (h29 : τ' 29 3 = τ 29 3) (h36 : ∀ j, 0 ≤ τ' 36 j) (h37 : ∀ j, ¬ (j = 0 ∨ j = 28) → τ' 37 j = τ 37 j) (h60 : ∀ j, 160 ≤ j → τ' 60 j = 0) (h54 : ∀ j, τ' 54 j = 0 ∨ τ' 54 j = 1) : RL τ' n R p f e := by
  have hC := h.kC
  refine ⟨hA, h.bd, (by rw [he 1 (by decide)]; exact h.k1), (by rw [h13]; exact h.k13), (by rw [he 5 (by decide), he 6 (by decide), he 38 (by decide)]; exact h.kB), (by show τ' 4 2 = τ' 37 2 ∧ τ' 4 5 = (p : Int) ∧ τ' 4 9 = (f : Int) ∧ τ' 4 10 = τ' 37 11 ∧ τ' 29 3 = (e : Int) ∧ τ' 37 1 = (n : Int) ∧ τ' 37 4 = (p : Int) ∧ τ' 37 7 = (f : Int) ∧ τ' 37 12 = (R : Int) ∧ τ' 37 21 = (e : Int) ∧ 0 ≤ τ' 37 11; rw [he 4 (by decide), h29, h37 2 (by decide), h37 11 (by decide), h37 1 (by decide), h37 4 (by decide), h37 7 (by decide), h37 12 (by decide), h37 21 (by decide)]; exact hC), (by rw [h37 2 (by decide), he 38 (by decide)]; exact h.kV), (by rw [he 7 (by decide), he 8 (by decide), he 39 (by decide), he 40 (by decide)]; exact h.kP), (by rw [he 9 (by decide), he 10 (by decide), he 11 (by decide), he 41 (by decide), he 42 (by decide), he 43 (by decide)]; exact h.kF), (by rw [he 2 (by decide), he 3 (by decide), he 44 (by decide), he 45 (by decide)]; exact h.kT), (by rw [h18, he 3 (by decide), he 19 (by decide), he 20 (by decide), he 46 (by decide), he 47 (by decide), he 48 (by decide)]; exact h.kG), kS_cg h.kS (fun q h1 h2 => he _ (by omega)) (fun q h1 h2 => he _ (by omega)), (by rw [h27, he 28 (by decide), he 51 (by decide)]; exact h.kW), (by rw [he 3 (by decide), he 46 (by decide), he 49 (by decide), he 51 (by decide)]; exact h.kL), (by rw [he 31 (by decide), he 46 (by decide), he 50 (by decide)]; exact h.kD), (by rw [he 30 (by decide), he 52 (by decide)]; exact h.kE), h36, h60, h54⟩
theorem RL.t37 {τ : tS} {n R p f e : Nat} (h : RL τ n R p f e) {x : Int} (hx : zin x) : RL (tU τ 37 0 x) n R p f e := by
  have g : ∀ q, ¬ q = 37 → tU τ 37 0 x q = τ q := fun q hq => by funext j; simp only [tU]; rw [if_neg (fun z => hq z.1)]
  refine h.irr (in_U h.A hx) (fun q hq => g q (by omega)) (by rw [g 13 (by decide)]) (by rw [g 18 (by decide)]) (by rw [g 27 (by decide)]) (by rw [g 29 (by decide)]) (by rw [g 36 (by decide)]; exact h.k36) (fun j hj => by simp only [tU]; rw [if_neg (by omega)]) (by rw [g 60 (by decide)]; exact h.k60) (by rw [g 54 (by decide)]; exact h.k54)
