/-! loops of the class: WashOuts.forget, breaks, away runs, exchange (written by wip/gen/t4.py) -/
/-- locals of which some are forgotten -/
def zfg : List Value → List Value → Prop
  | [], _ => True
  | v :: vs, w :: ws => (v = .null ∨ v = w) ∧ zfg vs ws
  | _ :: _, [] => False
theorem zfg_at : ∀ (vs ws : List Value), zfg vs ws → ∀ (i : Nat) (v : Value), vs[i]? = some v → v ≠ .null → ws[i]? = some v
  | [], _, _, i, v, h, _ => by simp at h
  | w :: vs, [], h, _, _, _, _ => h.elim
  | w :: vs, u :: ws, h, 0, v, hi, hn => by
    simp at hi
    subst hi
    rcases h.1 with e | e
    · exact absurd e hn
    · simp [e]
  | w :: vs, u :: ws, h, i + 1, v, hi, hn => by
    simp at hi ⊢
    exact zfg_at vs ws h.2 i v hi hn
theorem zE4 {l : Launch} {d : Nat} {M : zM} {pc : Nat} {ls ls' st : List Value} {τ τ' : tS} {cs : Nat × Nat} {r : zR} (k : zV l d M pc ls' st τ' cs r) (h : zfg ls' ls) (h3 : τ = τ') : zV l d M pc ls st τ cs r := by
  subst h3
  intro p e s m args below meth c D tc A hX ad H locs lsM hL hls
  exact k p e s m args below meth c D tc A hX ad H locs lsM hL ⟨hls.1, hls.2.1, fun i v hi hn => hls.2.2 i v (zfg_at ls' ls h i v hi hn) hn⟩
/-- how many of the first n -/
def cnt (p : Nat → Bool) : Nat → Nat
  | 0 => 0
  | n + 1 => cnt p n + (if p n then 1 else 0)
theorem cnt_le (p : Nat → Bool) : ∀ n, cnt p n ≤ n
  | 0 => Nat.le_refl _
  | n + 1 => by
    have := cnt_le p n
    unfold cnt
    split <;> omega
def sumI (f : Nat → Int) : Nat → Int
  | 0 => 0
  | n + 1 => sumI f n + f n
def anyN (p : Nat → Bool) : Nat → Bool
  | 0 => false
  | n + 1 => anyN p n || p n
theorem anyN_iff (p : Nat → Bool) : ∀ n, anyN p n = true ↔ ∃ i, i < n ∧ p i = true
  | 0 => by simp [anyN]
  | n + 1 => by
    rw [anyN, Bool.or_eq_true, anyN_iff p n]
    constructor
    · rintro (⟨i, h1, h2⟩ | h)
      · exact ⟨i, by omega, h2⟩
      · exact ⟨n, by omega, h⟩
    · rintro ⟨i, h1, h2⟩
      by_cases e : i = n
      · subst e; exact Or.inr h2
      · exact Or.inl ⟨i, by omega, h2⟩
/-- of how many places behind each other, the last one r - 1, the value is 0 -/
def awr (v : Nat → Int) : Nat → Nat
  | 0 => 0
  | r + 1 => if v r = 0 then awr v r + 1 else 0
theorem awr_le (v : Nat → Int) : ∀ n, awr v n ≤ n
  | 0 => Nat.le_refl _
  | n + 1 => by
    have := awr_le v n
    unfold awr
    split <;> omega
def AllIn (τ : tS) : Prop := ∀ q j, zin (τ q j)
theorem wo_forget {l : Launch} {d : Nat} {τ : tS} : zF l (d + 1) M_wo_forget [.ref 27] (τ) (none) (tU (tF τ 28 38 0) 27 3 0) := by
  refine zMet_of (ls := [.ref 27, .null]) pn_wo rfl (by simp [vi, Value.category]) rfl rfl ?_
  refine zi_iconst d_wo_forget_0 ?_
  refine zi_istore_n d_wo_forget_1 (by decide) rfl ?_
  have key := zup (P := fun (i : Nat) => zV l (d + 1) M_wo_forget 2 [.ref 27, vi (i : Int)] [] (tF τ 28 i 0) (0, 0) (.inl none, (SH, zq (tU (tF τ 28 38 0) 27 3 0)), 0, 0)) (38) ?_ ?_ 0 (by omega)
  · exact zE4 key (by refine ⟨?_, ?_, trivial⟩ <;> first | exact Or.inl rfl | exact Or.inr rfl) (tF_0 τ 28 0).symm
  · intro i hi hk
    refine zi_iload_n d_wo_forget_2 rfl ?_
    refine zi_bipush d_wo_forget_3 (by decide) ?_
    refine zi_icmp_ge 21 d_wo_forget_5 (by decide) (by first | assumption | exact ⟨by omega, by omega⟩) (by first | assumption | exact ⟨by omega, by omega⟩) (fun h5 => ?_) (fun h5 => ?_)
    · exact absurd h5 (by omega)
    · refine zr_aload_n d_wo_forget_8 rfl ?_
      refine zi_getr (j := 2) d_wo_forget_9 zC5 fl_wo_9 (by decide) rfl rfl ?_
      refine zi_iload_n d_wo_forget_12 rfl ?_
      refine zi_iconst d_wo_forget_13 ?_
      refine zi_zast d_wo_forget_14 rfl (by decide) (by omega) (by omega) (by omega) ?_
      refine zi_iinc d_wo_forget_15 (by decide) rfl rfl ?_
      refine zr_goto 2 d_wo_forget_18 (by decide) ?_
      exact zE4 hk (by refine ⟨?_, ?_, trivial⟩ <;> first | exact Or.inl rfl | exact Or.inr rfl) (by rw [Int.toNat_natCast]; exact tF_step τ 28 i 0)
  · refine zi_iload_n d_wo_forget_2 rfl ?_
    refine zi_bipush d_wo_forget_3 (by decide) ?_
    refine zi_icmp_ge 21 d_wo_forget_5 (by decide) (by first | assumption | exact ⟨by omega, by omega⟩) (by first | assumption | exact ⟨by omega, by omega⟩) (fun h5 => ?_) (fun h5 => ?_)
    · refine zr_aload_n d_wo_forget_21 rfl ?_
      refine zi_iconst d_wo_forget_22 ?_
      refine zi_puti (j := 3) d_wo_forget_23 zC5 fl_wo_23 (by decide) rfl rfl rfl rfl ?_
      exact zk_vret rfl d_wo_forget_26 (Nat.zero_le _) (Nat.zero_le _) rfl
    · exact absurd h5 (by omega)
def brkP (τ : tS) (t : Int) (i : Nat) : Bool := decide (¬ τ 3 (((i : Int) + 1) * 20 + t).toNat = -1 ∧ τ 3 (((i : Int) + 1) * 20 + t).toNat = τ 3 ((i : Int) * 20 + t).toNat)
theorem tt1_breaksOf {l : Launch} {d : Nat} {τ : tS} {t : Int} {R : Nat} (hA : AllIn τ) (hw : τ 1 0 = 20) (ht : 0 ≤ t ∧ t < 20) (hR : τ 1 4 = (R : Int)) (hR2 : R ≤ 38) : zF l (d + 2) M_tt_breaksOf [.ref 1, vi t] (τ) (some (vi ((cnt (brkP τ t) (R - 1) : Nat) : Int))) (τ) := by
  refine zMet_of (ls := [.ref 1, vi t, .null, .null, .null]) pn_tt rfl (by simp [vi, Value.category]) rfl rfl ?_
  refine zi_iconst d_tt_breaksOf_0 ?_
  refine zi_istore_n d_tt_breaksOf_1 (by decide) rfl ?_
  refine zi_iconst d_tt_breaksOf_2 ?_
  refine zi_istore_n d_tt_breaksOf_3 (by decide) rfl ?_
  have key := zup (P := fun (i : Nat) => zV l (d + 2) M_tt_breaksOf 4 [.ref 1, vi t, vi ((cnt (brkP τ t) i : Nat) : Int), vi ((i : Int) + 1), .null] [] (τ) (0, 0) (.inl (some (vi ((cnt (brkP τ t) (R - 1) : Nat) : Int))), (SH, zq τ), 0, 0)) (R - 1) ?_ ?_ 0 (by omega)
  · exact zE4 key (by refine ⟨?_, ?_, ?_, ?_, ?_, trivial⟩ <;> first | exact Or.inl rfl | exact Or.inr rfl) rfl
  · intro i hi hk
    refine zi_iload_n d_tt_breaksOf_4 rfl ?_
    refine zr_aload_n d_tt_breaksOf_5 rfl ?_
    refine zi_getiE (j := 4) (x := (R : Int)) d_tt_breaksOf_6 zC4 fl_tt_25 (by decide) rfl rfl (hR) ?_
    refine zi_icmp_ge 48 d_tt_breaksOf_9 (by decide) (by first | assumption | exact ⟨by omega, by omega⟩) (by first | assumption | exact ⟨by omega, by omega⟩) (fun h9 => ?_) (fun h9 => ?_)
    · exact absurd h9 (by omega)
    · refine zr_aload_n d_tt_breaksOf_12 rfl ?_
      refine zi_iload_n d_tt_breaksOf_13 rfl ?_
      refine zi_iload_n d_tt_breaksOf_14 rfl ?_
      refine c_tt_breaksOf_15 rfl rfl (tt1_venueAt hw ⟨by omega, by omega⟩ ht) ?_
      refine zi_istore d_tt_breaksOf_18 (by decide) rfl ?_
      refine zi_iload d_tt_breaksOf_20 rfl ?_
      refine zi_iconst d_tt_breaksOf_22 ?_
      refine zi_icmp_eq 42 d_tt_breaksOf_23 (by decide) (hA _ _) (by first | assumption | exact ⟨by omega, by omega⟩) (fun h23 => ?_) (fun h23 => ?_)
      · refine zi_iinc d_tt_breaksOf_42 (by decide) rfl rfl ?_
        refine zr_goto 4 d_tt_breaksOf_45 (by decide) ?_
        exact zE4 hk (by refine ⟨?_, ?_, ?_, ?_, ?_, trivial⟩ <;> first | exact Or.inl rfl | exact Or.inr rfl | (refine Or.inr (congrArg vi ?_); simp only [cnt]; split <;> rename_i hp <;> simp only [brkP, decide_eq_true_eq] at hp <;> omega)) rfl
      · refine zi_iload d_tt_breaksOf_26 rfl ?_
        refine zr_aload_n d_tt_breaksOf_28 rfl ?_
        refine zi_iload_n d_tt_breaksOf_29 rfl ?_
        refine zi_iconst d_tt_breaksOf_30 ?_
        refine zi_isub d_tt_breaksOf_31 ?_
        rw [show (i : Int) + 1 - 1 = i by omega]
        refine zi_iload_n d_tt_breaksOf_32 rfl ?_
        refine c_tt_breaksOf_33 rfl rfl (tt1_venueAt hw ⟨by omega, by omega⟩ ht) ?_
        refine zi_icmp_ne 42 d_tt_breaksOf_36 (by decide) (hA _ _) (hA _ _) (fun h36 => ?_) (fun h36 => ?_)
        · refine zi_iinc d_tt_breaksOf_42 (by decide) rfl rfl ?_
          refine zr_goto 4 d_tt_breaksOf_45 (by decide) ?_
          exact zE4 hk (by refine ⟨?_, ?_, ?_, ?_, ?_, trivial⟩ <;> first | exact Or.inl rfl | exact Or.inr rfl | (refine Or.inr (congrArg vi ?_); simp only [cnt]; split <;> rename_i hp <;> simp only [brkP, decide_eq_true_eq] at hp <;> omega)) rfl
        · refine zi_iinc d_tt_breaksOf_39 (by decide) rfl rfl ?_
          refine zi_iinc d_tt_breaksOf_42 (by decide) rfl rfl ?_
          refine zr_goto 4 d_tt_breaksOf_45 (by decide) ?_
          exact zE4 hk (by refine ⟨?_, ?_, ?_, ?_, ?_, trivial⟩ <;> first | exact Or.inl rfl | exact Or.inr rfl | (refine Or.inr (congrArg vi ?_); simp only [cnt]; split <;> rename_i hp <;> simp only [brkP, decide_eq_true_eq] at hp <;> omega)) rfl
  · refine zi_iload_n d_tt_breaksOf_4 rfl ?_
    refine zr_aload_n d_tt_breaksOf_5 rfl ?_
    refine zi_getiE (j := 4) (x := (R : Int)) d_tt_breaksOf_6 zC4 fl_tt_25 (by decide) rfl rfl (hR) ?_
    refine zi_icmp_ge 48 d_tt_breaksOf_9 (by decide) (by first | assumption | exact ⟨by omega, by omega⟩) (by first | assumption | exact ⟨by omega, by omega⟩) (fun h9 => ?_) (fun h9 => ?_)
    · refine zi_iload_n d_tt_breaksOf_48 rfl ?_
      exact zk_iret rfl d_tt_breaksOf_49 (Nat.zero_le _) (Nat.zero_le _) (by first | rfl | omega | (split <;> omega) | simp_all) rfl
    · exact absurd h9 (by omega)
theorem tt1_breaksOfAll {l : Launch} {d : Nat} {τ : tS} {R n : Nat} (hA : AllIn τ) (hw : τ 1 0 = 20) (hR : τ 1 4 = (R : Int)) (hR2 : R ≤ 38) (hn : τ 1 3 = (n : Int)) (hn2 : n ≤ 20) : zF l (d + 3) M_tt_breaksOfAll [.ref 1] (τ) (some (vi (sumI (fun t => ((cnt (brkP τ (t : Int)) (R - 1) : Nat) : Int)) n))) (τ) := by
  refine zMet_of (ls := [.ref 1, .null, .null]) pn_tt rfl (by simp [vi, Value.category]) rfl rfl ?_
  refine zi_iconst d_tt_breaksOfAll_0 ?_
  refine zi_istore_n d_tt_breaksOfAll_1 (by decide) rfl ?_
  refine zi_iconst d_tt_breaksOfAll_2 ?_
  refine zi_istore_n d_tt_breaksOfAll_3 (by decide) rfl ?_
  have key := zup (P := fun (i : Nat) => zV l (d + 3) M_tt_breaksOfAll 4 [.ref 1, vi (sumI (fun t => ((cnt (brkP τ (t : Int)) (R - 1) : Nat) : Int)) i), vi (i : Int)] [] (τ) (0, 0) (.inl (some (vi (sumI (fun t => ((cnt (brkP τ (t : Int)) (R - 1) : Nat) : Int)) n))), (SH, zq τ), 0, 0)) (n) ?_ ?_ 0 (by omega)
  · exact zE4 key (by refine ⟨?_, ?_, ?_, trivial⟩ <;> first | exact Or.inl rfl | exact Or.inr rfl) rfl
  · intro i hi hk
    refine zi_iload_n d_tt_breaksOfAll_4 rfl ?_
    refine zr_aload_n d_tt_breaksOfAll_5 rfl ?_
    refine zi_getiE (j := 3) (x := (n : Int)) d_tt_breaksOfAll_6 zC4 fl_tt_22 (by decide) rfl rfl (hn) ?_
    refine zi_icmp_ge 26 d_tt_breaksOfAll_9 (by decide) (by first | assumption | exact ⟨by omega, by omega⟩) (by first | assumption | exact ⟨by omega, by omega⟩) (fun h9 => ?_) (fun h9 => ?_)
    · exact absurd h9 (by omega)
    · refine zi_iload_n d_tt_breaksOfAll_12 rfl ?_
      refine zr_aload_n d_tt_breaksOfAll_13 rfl ?_
      refine zi_iload_n d_tt_breaksOfAll_14 rfl ?_
      refine c_tt_breaksOfAll_15 rfl rfl (tt1_breaksOf hA hw ⟨by omega, by omega⟩ hR hR2) ?_
      refine zi_iadd d_tt_breaksOfAll_18 ?_
      refine zi_istore_n d_tt_breaksOfAll_19 (by decide) rfl ?_
      refine zi_iinc d_tt_breaksOfAll_20 (by decide) rfl rfl ?_
      refine zr_goto 4 d_tt_breaksOfAll_23 (by decide) ?_
      exact zE4 hk (by refine ⟨?_, ?_, ?_, trivial⟩ <;> first | exact Or.inl rfl | exact Or.inr rfl) rfl
  · refine zi_iload_n d_tt_breaksOfAll_4 rfl ?_
    refine zr_aload_n d_tt_breaksOfAll_5 rfl ?_
    refine zi_getiE (j := 3) (x := (n : Int)) d_tt_breaksOfAll_6 zC4 fl_tt_22 (by decide) rfl rfl (hn) ?_
    refine zi_icmp_ge 26 d_tt_breaksOfAll_9 (by decide) (by first | assumption | exact ⟨by omega, by omega⟩) (by first | assumption | exact ⟨by omega, by omega⟩) (fun h9 => ?_) (fun h9 => ?_)
    · refine zi_iload_n d_tt_breaksOfAll_26 rfl ?_
      exact zk_iret rfl d_tt_breaksOfAll_27 (Nat.zero_le _) (Nat.zero_le _) (by first | rfl | omega | (split <;> omega) | simp_all) rfl
    · exact absurd h9 (by omega)
theorem tt1_awayRun {l : Launch} {d : Nat} {τ : tS} {t : Int} {r : Nat} (hA : AllIn τ) (hw : τ 1 0 = 20) (ht : 0 ≤ t ∧ t < 20) (hr : r ≤ 38) : zF l (d + 2) M_tt_awayRun [.ref 1, vi ((r : Int) - 1), vi t] τ (some (vi ((awr (fun i : Nat => τ 3 ((i : Int) * 20 + t).toNat) r : Nat) : Int))) τ := by
  refine zMet_of (ls := [.ref 1, vi ((r : Int) - 1), vi t, .null]) pn_tt rfl (by simp [vi, Value.category]) rfl rfl ?_
  refine zi_iload_n d_tt_awayRun_0 rfl ?_
  refine zi_istore_n d_tt_awayRun_1 (by decide) rfl ?_
  have key : ∀ k : Nat, k ≤ r → awr (fun i : Nat => τ 3 ((i : Int) * 20 + t).toNat) r = (r - k) + awr (fun i : Nat => τ 3 ((i : Int) * 20 + t).toNat) k → zV l (d + 2) M_tt_awayRun 2 [.ref 1, vi ((r : Int) - 1), vi t, vi ((k : Int) - 1)] [] τ (0, 0) (.inl (some (vi ((awr (fun i : Nat => τ 3 ((i : Int) * 20 + t).toNat) r : Nat) : Int))), (SH, zq τ), 0, 0) := by
    intro k
    induction k with
    | zero =>
      intro hk he
      simp only [awr] at he
      refine zi_iload_n d_tt_awayRun_2 rfl ?_
      refine zi_if_lt 21 d_tt_awayRun_3 (by decide) (by first | assumption | exact ⟨by omega, by omega⟩) (fun h3 => ?_) (fun h3 => ?_)
      · refine zi_iload_n d_tt_awayRun_21 rfl ?_
        refine zi_iload_n d_tt_awayRun_22 rfl ?_
        refine zi_isub d_tt_awayRun_23 ?_
        exact zk_iret rfl d_tt_awayRun_24 (Nat.zero_le _) (Nat.zero_le _) (by first | rfl | omega | (split <;> omega) | simp_all) rfl
      · exact absurd h3 (by omega)
    | succ k ih =>
      intro hk he
      have e1 : ((k + 1 : Nat) : Int) - 1 = (k : Int) := by omega
      rw [e1]
      refine zi_iload_n d_tt_awayRun_2 rfl ?_
      refine zi_if_lt 21 d_tt_awayRun_3 (by decide) (by first | assumption | exact ⟨by omega, by omega⟩) (fun h3 => ?_) (fun h3 => ?_)
      · exact absurd h3 (by omega)
      · refine zr_aload_n d_tt_awayRun_6 rfl ?_
        refine zi_iload_n d_tt_awayRun_7 rfl ?_
        refine zi_iload_n d_tt_awayRun_8 rfl ?_
        refine c_tt_awayRun_9 rfl rfl (tt1_venueAt hw ⟨by omega, by omega⟩ ht) ?_
        refine zi_if_ne 21 d_tt_awayRun_12 (by decide) (hA _ _) (fun h12 => ?_) (fun h12 => ?_)
        · rw [awr, if_neg h12] at he
          refine zi_iload_n d_tt_awayRun_21 rfl ?_
          refine zi_iload_n d_tt_awayRun_22 rfl ?_
          refine zi_isub d_tt_awayRun_23 ?_
          exact zk_iret rfl d_tt_awayRun_24 (Nat.zero_le _) (Nat.zero_le _) (by first | rfl | omega | (split <;> omega) | simp_all) rfl
        · refine zi_iinc d_tt_awayRun_15 (by decide) rfl rfl ?_
          refine zr_goto 2 d_tt_awayRun_18 (by decide) ?_
          exact zE4 (ih (by omega) (by rw [awr, if_pos h12] at he; omega)) (by refine ⟨?_, ?_, ?_, ?_, trivial⟩ <;> first | exact Or.inl rfl | exact Or.inr rfl | exact Or.inr (congrArg vi (by omega))) rfl
  exact zE4 (key r (Nat.le_refl _) (by omega)) (by refine ⟨?_, ?_, ?_, ?_, trivial⟩ <;> first | exact Or.inl rfl | exact Or.inr rfl) rfl
theorem tt13_awayRun {l : Launch} {d : Nat} {τ : tS} {t : Int} {r : Nat} (hA : AllIn τ) (hw : τ 13 0 = 8) (ht : 0 ≤ t ∧ t < 8) (hr : r ≤ 7) : zF l (d + 2) M_tt_awayRun [.ref 13, vi ((r : Int) - 1), vi t] τ (some (vi ((awr (fun i : Nat => τ 15 ((i : Int) * 8 + t).toNat) r : Nat) : Int))) τ := by
  refine zMet_of (ls := [.ref 13, vi ((r : Int) - 1), vi t, .null]) pn_tt rfl (by simp [vi, Value.category]) rfl rfl ?_
  refine zi_iload_n d_tt_awayRun_0 rfl ?_
  refine zi_istore_n d_tt_awayRun_1 (by decide) rfl ?_
  have key : ∀ k : Nat, k ≤ r → awr (fun i : Nat => τ 15 ((i : Int) * 8 + t).toNat) r = (r - k) + awr (fun i : Nat => τ 15 ((i : Int) * 8 + t).toNat) k → zV l (d + 2) M_tt_awayRun 2 [.ref 13, vi ((r : Int) - 1), vi t, vi ((k : Int) - 1)] [] τ (0, 0) (.inl (some (vi ((awr (fun i : Nat => τ 15 ((i : Int) * 8 + t).toNat) r : Nat) : Int))), (SH, zq τ), 0, 0) := by
    intro k
    induction k with
    | zero =>
      intro hk he
      simp only [awr] at he
      refine zi_iload_n d_tt_awayRun_2 rfl ?_
      refine zi_if_lt 21 d_tt_awayRun_3 (by decide) (by first | assumption | exact ⟨by omega, by omega⟩) (fun h3 => ?_) (fun h3 => ?_)
      · refine zi_iload_n d_tt_awayRun_21 rfl ?_
        refine zi_iload_n d_tt_awayRun_22 rfl ?_
        refine zi_isub d_tt_awayRun_23 ?_
        exact zk_iret rfl d_tt_awayRun_24 (Nat.zero_le _) (Nat.zero_le _) (by first | rfl | omega | (split <;> omega) | simp_all) rfl
      · exact absurd h3 (by omega)
    | succ k ih =>
      intro hk he
      have e1 : ((k + 1 : Nat) : Int) - 1 = (k : Int) := by omega
      rw [e1]
      refine zi_iload_n d_tt_awayRun_2 rfl ?_
      refine zi_if_lt 21 d_tt_awayRun_3 (by decide) (by first | assumption | exact ⟨by omega, by omega⟩) (fun h3 => ?_) (fun h3 => ?_)
      · exact absurd h3 (by omega)
      · refine zr_aload_n d_tt_awayRun_6 rfl ?_
        refine zi_iload_n d_tt_awayRun_7 rfl ?_
        refine zi_iload_n d_tt_awayRun_8 rfl ?_
        refine c_tt_awayRun_9 rfl rfl (tt13_venueAt hw ⟨by omega, by omega⟩ ht) ?_
        refine zi_if_ne 21 d_tt_awayRun_12 (by decide) (hA _ _) (fun h12 => ?_) (fun h12 => ?_)
        · rw [awr, if_neg h12] at he
          refine zi_iload_n d_tt_awayRun_21 rfl ?_
          refine zi_iload_n d_tt_awayRun_22 rfl ?_
          refine zi_isub d_tt_awayRun_23 ?_
          exact zk_iret rfl d_tt_awayRun_24 (Nat.zero_le _) (Nat.zero_le _) (by first | rfl | omega | (split <;> omega) | simp_all) rfl
        · refine zi_iinc d_tt_awayRun_15 (by decide) rfl rfl ?_
          refine zr_goto 2 d_tt_awayRun_18 (by decide) ?_
          exact zE4 (ih (by omega) (by rw [awr, if_pos h12] at he; omega)) (by refine ⟨?_, ?_, ?_, ?_, trivial⟩ <;> first | exact Or.inl rfl | exact Or.inr rfl | exact Or.inr (congrArg vi (by omega))) rfl
  exact zE4 (key r (Nat.le_refl _) (by omega)) (by refine ⟨?_, ?_, ?_, ?_, trivial⟩ <;> first | exact Or.inl rfl | exact Or.inr rfl) rfl
