/-! allowed games; standings; dates (written by wip/gen/t7.py) -/
theorem ma_xc : zI (.code Lib.Math.max.name Lib.Math.max.code 2 (some .int)) := zI_at 865 (by decide +kernel) rfl
theorem ma_nc : zI (.code Lib.Math.min.name Lib.Math.min.code 2 (some .int)) := zI_at 872 (by decide +kernel) rfl
theorem ma_xs : zI (.static Lib.Math.max.name) := zI_at 864 (by decide +kernel) rfl
theorem ma_ns : zI (.static Lib.Math.min.name) := zI_at 871 (by decide +kernel) rfl
section ZMM
variable {l : Launch} {d : Nat} {M : zM} {pc : Nat} {ls st : List Value} {τ : tS} {r : zR}
theorem zi_mmax {a b : Int} {index : Nat} (hd : decode M.2.1 pc = .ok (.invokestatic index, 3)) (hl : zI (.methodLink M.1.cls index Lib.Math.max.name)) (ha : zin a) (hb : zin b) (hre : Nat.ble st.length 4 = true) (k : zV l (d + 1) M (pc + 3) ls (vi (if a < b then b else a) :: st) τ (0, 0) r) : zV l (d + 1) M pc ls (vi b :: vi a :: st) τ (0, 0) r := by
  intro p e s m args below meth c D tc A hX ad H locs lsM hL hls
  have hre' := Nat.le_of_ble_eq_true hre
  refine va_mmax hX.1 hX.2.1 (by rw [hX.2.2.1, hls.1]) hX.own (hX.T.w hl) (hX.T.w ma_xs) (hX.T.w in_ma) (hX.T.w ma_xc) (by show 1 ≤ d + 1; omega) (by show _ ≤ 64 * (d + 1); have := zsum ad st; omega) (Nat.zero_le _) (Nat.zero_le _) hd ?_
  have e1 : (if Int32.ofInt a < Int32.ofInt b then Int32.ofInt b else Int32.ofInt a) = Int32.ofInt (if a < b then b else a) := by
    by_cases h : a < b
    · rw [if_pos h, if_pos ((zin_lt ha hb).mpr h)]
    · rw [if_neg h, if_neg (fun g => h ((zin_lt ha hb).mp g))]
  rw [e1]
  exact k p e s m args below meth c D tc A hX ad H locs lsM hL hls
theorem zi_mmin {a b : Int} {index : Nat} (hd : decode M.2.1 pc = .ok (.invokestatic index, 3)) (hl : zI (.methodLink M.1.cls index Lib.Math.min.name)) (ha : zin a) (hb : zin b) (hre : Nat.ble st.length 4 = true) (k : zV l (d + 1) M (pc + 3) ls (vi (if b < a then b else a) :: st) τ (0, 0) r) : zV l (d + 1) M pc ls (vi b :: vi a :: st) τ (0, 0) r := by
  intro p e s m args below meth c D tc A hX ad H locs lsM hL hls
  have hre' := Nat.le_of_ble_eq_true hre
  refine va_mmin hX.1 hX.2.1 (by rw [hX.2.2.1, hls.1]) hX.own (hX.T.w hl) (hX.T.w ma_ns) (hX.T.w in_ma) (hX.T.w ma_nc) (by show 1 ≤ d + 1; omega) (by show _ ≤ 64 * (d + 1); have := zsum ad st; omega) (Nat.zero_le _) (Nat.zero_le _) hd ?_
  have e1 : (if Int32.ofInt b < Int32.ofInt a then Int32.ofInt b else Int32.ofInt a) = Int32.ofInt (if b < a then b else a) := by
    by_cases h : b < a
    · rw [if_pos h, if_pos ((zin_lt hb ha).mpr h)]
    · rw [if_neg h, if_neg (fun g => h ((zin_lt hb ha).mp g))]
  rw [e1]
  exact k p e s m args below meth c D tc A hX ad H locs lsM hL hls
end ZMM
def alwP (τ : tS) (p f r h a : Nat) : Bool := decide (¬ (τ 5 r).toNat.testBit h = true ∧ ¬ (τ 6 r).toNat.testBit a = true ∧ ¬ anyN (fixA τ (r : Int) (h : Int) (a : Int)) f = true ∧ ¬ anyN (grdP τ (r : Int) (h : Int)) p = true ∧ (τ 4 10 = 0 ∨ ((awr (fun i : Nat => τ 15 ((i : Int) * 8 + (a : Int)).toNat) r : Nat) : Int) < τ 4 10))
theorem wi_allowGame {l : Launch} {d : Nat} {τ : tS} {p f : Nat} (hA : AllIn τ) (hw : τ 13 0 = 8) (hM5 : ∀ j, 0 ≤ τ 5 j) (hM6 : ∀ j, 0 ≤ τ 6 j) (hp5 : τ 4 5 = (p : Int)) (hp6 : p ≤ 6) (hP : ∀ i, i < p → (0 ≤ τ 7 i ∧ τ 7 i < 8) ∧ (0 ≤ τ 8 i ∧ τ 8 i < 8)) (hf9 : τ 4 9 = (f : Int)) (hf6 : f ≤ 6) {r h a : Nat} (hr : r < 7) (hh : h < 8) (ha : a < 8) : zF l (d + 3) M_wi_allowGame [.ref 4, .ref 13, vi (r : Int), vi (h : Int), vi (a : Int)] (τ) (some (vi (if alwP τ p f r h a then 1 else 0))) (τ) := by
  refine zMet_of (ls := [.ref 4, .ref 13, vi (r : Int), vi (h : Int), vi (a : Int)]) pn_wi rfl (by simp [vi, Value.category]) rfl rfl ?_
  refine zr_aload_n d_wi_allowGame_0 rfl ?_
  refine zi_getr (j := 0) d_wi_allowGame_1 zC6 fl_wi_9 (by decide) rfl rfl ?_
  refine zi_iload_n d_wi_allowGame_4 rfl ?_
  refine zi_ialdE (x := (((τ 5 r).toNat : Nat) : Int)) d_wi_allowGame_5 rfl (by decide) (by omega) (by omega) (by rw [Int.toNat_natCast]; exact (Int.toNat_of_nonneg (hM5 r)).symm) ?_
  refine zi_iload_n d_wi_allowGame_6 rfl ?_
  refine c_wi_allowGame_7 rfl (lr_hasBit (by have h8 := hA 5 r; have h9 := hM5 r; unfold zin at h8; omega) (by omega)) ?_
  refine zi_if_ne 75 d_wi_allowGame_10 (by decide) (by split <;> exact ⟨by decide, by decide⟩) (fun h10 => ?_) (fun h10 => ?_)
  · refine zi_iconst d_wi_allowGame_75 ?_
    exact zk_zret rfl d_wi_allowGame_76 (Nat.zero_le _) (Nat.zero_le _) (by omega) (by unfold alwP; grind) rfl
  · refine zr_aload_n d_wi_allowGame_13 rfl ?_
    refine zi_getr (j := 1) d_wi_allowGame_14 zC6 fl_wi_15 (by decide) rfl rfl ?_
    refine zi_iload_n d_wi_allowGame_17 rfl ?_
    refine zi_ialdE (x := (((τ 6 r).toNat : Nat) : Int)) d_wi_allowGame_18 rfl (by decide) (by omega) (by omega) (by rw [Int.toNat_natCast]; exact (Int.toNat_of_nonneg (hM6 r)).symm) ?_
    refine zi_iload d_wi_allowGame_19 rfl ?_
    refine c_wi_allowGame_21 rfl (lr_hasBit (by have h8 := hA 6 r; have h9 := hM6 r; unfold zin at h8; omega) (by omega)) ?_
    refine zi_if_ne 75 d_wi_allowGame_24 (by decide) (by split <;> exact ⟨by decide, by decide⟩) (fun h24 => ?_) (fun h24 => ?_)
    · refine zi_iconst d_wi_allowGame_75 ?_
      exact zk_zret rfl d_wi_allowGame_76 (Nat.zero_le _) (Nat.zero_le _) (by omega) (by unfold alwP; grind) rfl
    · refine zr_aload_n d_wi_allowGame_27 rfl ?_
      refine zi_iload_n d_wi_allowGame_28 rfl ?_
      refine zi_iload_n d_wi_allowGame_29 rfl ?_
      refine zi_iload d_wi_allowGame_30 rfl ?_
      refine c_wi_allowGame_32 rfl rfl (wi_fixedAllowGame hA hf9 hf6 ⟨by omega, by omega⟩ ⟨by omega, by omega⟩ ⟨by omega, by omega⟩) ?_
      refine zi_if_eq 75 d_wi_allowGame_35 (by decide) (by split <;> exact ⟨by decide, by decide⟩) (fun h35 => ?_) (fun h35 => ?_)
      · refine zi_iconst d_wi_allowGame_75 ?_
        exact zk_zret rfl d_wi_allowGame_76 (Nat.zero_le _) (Nat.zero_le _) (by omega) (by unfold alwP; grind) rfl
      · refine zr_aload_n d_wi_allowGame_38 rfl ?_
        refine zr_aload_n d_wi_allowGame_39 rfl ?_
        refine zi_iload_n d_wi_allowGame_40 rfl ?_
        refine zi_iload_n d_wi_allowGame_41 rfl ?_
        refine c_wi_allowGame_42 rfl rfl (wi_groundIsTaken hA hw hp5 hp6 hP ⟨by omega, by omega⟩ ⟨by omega, by omega⟩) ?_
        refine zi_if_ne 75 d_wi_allowGame_45 (by decide) (by split <;> exact ⟨by decide, by decide⟩) (fun h45 => ?_) (fun h45 => ?_)
        · refine zi_iconst d_wi_allowGame_75 ?_
          exact zk_zret rfl d_wi_allowGame_76 (Nat.zero_le _) (Nat.zero_le _) (by omega) (by unfold alwP; grind) rfl
        · refine zr_aload_n d_wi_allowGame_48 rfl ?_
          refine zi_geti (j := 10) d_wi_allowGame_49 zC6 fl_wi_49 (by decide) rfl rfl ?_
          refine zi_if_eq 71 d_wi_allowGame_52 (by decide) (hA _ _) (fun h52 => ?_) (fun h52 => ?_)
          · refine zi_iconst d_wi_allowGame_71 ?_
            refine zr_goto 76 d_wi_allowGame_72 (by decide) ?_
            exact zk_zret rfl d_wi_allowGame_76 (Nat.zero_le _) (Nat.zero_le _) (by omega) (by unfold alwP; grind) rfl
          · refine zr_aload_n d_wi_allowGame_55 rfl ?_
            refine zi_iload_n d_wi_allowGame_56 rfl ?_
            refine zi_iconst d_wi_allowGame_57 ?_
            refine zi_isub d_wi_allowGame_58 ?_
            refine zi_iload d_wi_allowGame_59 rfl ?_
            refine c_wi_allowGame_61 rfl rfl (tt13_awayRunE (r := r) (by omega) hA hw ⟨by omega, by omega⟩ (by omega)) ?_
            refine zr_aload_n d_wi_allowGame_64 rfl ?_
            refine zi_geti (j := 10) d_wi_allowGame_65 zC6 fl_wi_49 (by decide) rfl rfl ?_
            have haw := awr_le (fun i : Nat => τ 15 ((i : Int) * 8 + (a : Int)).toNat) r
            refine zi_icmp_ge 75 d_wi_allowGame_68 (by decide) (by first | assumption | exact ⟨by omega, by omega⟩) (hA _ _) (fun h68 => ?_) (fun h68 => ?_)
            · refine zi_iconst d_wi_allowGame_75 ?_
              exact zk_zret rfl d_wi_allowGame_76 (Nat.zero_le _) (Nat.zero_le _) (by omega) (by unfold alwP; grind) rfl
            · refine zi_iconst d_wi_allowGame_71 ?_
              refine zr_goto 76 d_wi_allowGame_72 (by decide) ?_
              exact zk_zret rfl d_wi_allowGame_76 (Nat.zero_le _) (Nat.zero_le _) (by omega) (by unfold alwP; grind) rfl
def befP (τ : tS) (a b : Nat) : Bool := decide (if ¬ 3 * τ 22 a + τ 23 a = 3 * τ 22 b + τ 23 b then 3 * τ 22 b + τ 23 b < 3 * τ 22 a + τ 23 a else if ¬ τ 25 a - τ 26 a = τ 25 b - τ 26 b then τ 25 b - τ 26 b < τ 25 a - τ 26 a else if ¬ τ 25 a = τ 25 b then τ 25 b < τ 25 a else a < b)
def plcP (τ : tS) (t o : Nat) : Bool := decide (¬ o = t ∧ befP τ o t = true)
def fst0 (p : Nat → Bool) : Nat → Option Nat
  | 0 => none
  | n + 1 => match fst0 p n with
    | some i => some i
    | none => if p n then some n else none
theorem fst0_none (p : Nat → Bool) : ∀ n, (∀ j, j < n → ¬ p j = true) → fst0 p n = none
  | 0, _ => rfl
  | n + 1, h => by
    rw [fst0, fst0_none p n (fun j hj => h j (by omega))]
    simp [h n (by omega)]
theorem fst0_some (p : Nat → Bool) : ∀ n i, i < n → (∀ j, j < i → ¬ p j = true) → p i = true → fst0 p n = some i
  | 0, i, h, _, _ => by omega
  | n + 1, i, h, h1, h2 => by
    by_cases e : i < n
    · rw [fst0, fst0_some p n i e h1 h2]
    · have : i = n := by omega
      subst this
      rw [fst0, fst0_none p i h1]
      simp [h2]
theorem sd_standsBefore {l : Launch} {d : Nat} {τ : tS} (hA : AllIn τ) (hB : ∀ q j, 22 ≤ q ∧ q ≤ 26 → -1000000 ≤ τ q j ∧ τ q j ≤ 1000000) {a b : Nat} (ha : a < 20) (hb : b < 20) : zF l (d + 2) M_sd_standsBefore [.ref 21, vi (a : Int), vi (b : Int)] (τ) (some (vi (if befP τ a b then 1 else 0))) (τ) := by
  refine zMet_of (ls := [.ref 21, vi (a : Int), vi (b : Int)]) pn_sd rfl (by simp [vi, Value.category]) rfl rfl ?_
  refine zr_aload_n d_sd_standsBefore_0 rfl ?_
  refine zi_iload_n d_sd_standsBefore_1 rfl ?_
  refine c_sd_standsBefore_2 rfl rfl (sd_points ⟨by omega, by omega⟩) ?_
  refine zr_aload_n d_sd_standsBefore_5 rfl ?_
  refine zi_iload_n d_sd_standsBefore_6 rfl ?_
  refine c_sd_standsBefore_7 rfl rfl (sd_points ⟨by omega, by omega⟩) ?_
  show zV _ _ _ _ _ (vi _ :: vi _ :: _) _ _ _
  simp only [Int.toNat_natCast]
  refine zi_icmp_eq 32 d_sd_standsBefore_10 (by decide) (by have e1 := hB 22 a (by decide); have e2 := hB 23 a (by decide); have e3 := hB 25 a (by decide); have e4 := hB 26 a (by decide); have e5 := hB 22 b (by decide); have e6 := hB 23 b (by decide); have e7 := hB 25 b (by decide); have e8 := hB 26 b (by decide); exact ⟨by omega, by omega⟩) (by have e1 := hB 22 a (by decide); have e2 := hB 23 a (by decide); have e3 := hB 25 a (by decide); have e4 := hB 26 a (by decide); have e5 := hB 22 b (by decide); have e6 := hB 23 b (by decide); have e7 := hB 25 b (by decide); have e8 := hB 26 b (by decide); exact ⟨by omega, by omega⟩) (fun h10 => ?_) (fun h10 => ?_)
  · refine zr_aload_n d_sd_standsBefore_32 rfl ?_
    refine zi_iload_n d_sd_standsBefore_33 rfl ?_
    refine c_sd_standsBefore_34 rfl rfl (sd_difference ⟨by omega, by omega⟩) ?_
    refine zr_aload_n d_sd_standsBefore_37 rfl ?_
    refine zi_iload_n d_sd_standsBefore_38 rfl ?_
    refine c_sd_standsBefore_39 rfl rfl (sd_difference ⟨by omega, by omega⟩) ?_
    show zV _ _ _ _ _ (vi _ :: vi _ :: _) _ _ _
    simp only [Int.toNat_natCast]
    refine zi_icmp_eq 64 d_sd_standsBefore_42 (by decide) (by have e1 := hB 22 a (by decide); have e2 := hB 23 a (by decide); have e3 := hB 25 a (by decide); have e4 := hB 26 a (by decide); have e5 := hB 22 b (by decide); have e6 := hB 23 b (by decide); have e7 := hB 25 b (by decide); have e8 := hB 26 b (by decide); exact ⟨by omega, by omega⟩) (by have e1 := hB 22 a (by decide); have e2 := hB 23 a (by decide); have e3 := hB 25 a (by decide); have e4 := hB 26 a (by decide); have e5 := hB 22 b (by decide); have e6 := hB 23 b (by decide); have e7 := hB 25 b (by decide); have e8 := hB 26 b (by decide); exact ⟨by omega, by omega⟩) (fun h42 => ?_) (fun h42 => ?_)
    · refine zr_aload_n d_sd_standsBefore_64 rfl ?_
      refine zi_getr (j := 3) d_sd_standsBefore_65 zC3 fl_sd_21 (by decide) rfl rfl ?_
      refine zi_iload_n d_sd_standsBefore_68 rfl ?_
      refine zi_ialdE (x := τ 25 a) d_sd_standsBefore_69 rfl (by decide) (by omega) (by omega) (by rw [Int.toNat_natCast]) ?_
      refine zr_aload_n d_sd_standsBefore_70 rfl ?_
      refine zi_getr (j := 3) d_sd_standsBefore_71 zC3 fl_sd_21 (by decide) rfl rfl ?_
      refine zi_iload_n d_sd_standsBefore_74 rfl ?_
      refine zi_ialdE (x := τ 25 b) d_sd_standsBefore_75 rfl (by decide) (by omega) (by omega) (by rw [Int.toNat_natCast]) ?_
      refine zi_icmp_eq 100 d_sd_standsBefore_76 (by decide) (hA _ _) (hA _ _) (fun h76 => ?_) (fun h76 => ?_)
      · refine zi_iload_n d_sd_standsBefore_100 rfl ?_
        refine zi_iload_n d_sd_standsBefore_101 rfl ?_
        refine zi_icmp_ge 109 d_sd_standsBefore_102 (by decide) (by first | assumption | exact ⟨by omega, by omega⟩) (by first | assumption | exact ⟨by omega, by omega⟩) (fun h102 => ?_) (fun h102 => ?_)
        · refine zi_iconst d_sd_standsBefore_109 ?_
          exact zk_zret rfl d_sd_standsBefore_110 (Nat.zero_le _) (Nat.zero_le _) (by omega) (by unfold befP; grind) rfl
        · refine zi_iconst d_sd_standsBefore_105 ?_
          refine zr_goto 110 d_sd_standsBefore_106 (by decide) ?_
          exact zk_zret rfl d_sd_standsBefore_110 (Nat.zero_le _) (Nat.zero_le _) (by omega) (by unfold befP; grind) rfl
      · refine zr_aload_n d_sd_standsBefore_79 rfl ?_
        refine zi_getr (j := 3) d_sd_standsBefore_80 zC3 fl_sd_21 (by decide) rfl rfl ?_
        refine zi_iload_n d_sd_standsBefore_83 rfl ?_
        refine zi_ialdE (x := τ 25 a) d_sd_standsBefore_84 rfl (by decide) (by omega) (by omega) (by rw [Int.toNat_natCast]) ?_
        refine zr_aload_n d_sd_standsBefore_85 rfl ?_
        refine zi_getr (j := 3) d_sd_standsBefore_86 zC3 fl_sd_21 (by decide) rfl rfl ?_
        refine zi_iload_n d_sd_standsBefore_89 rfl ?_
        refine zi_ialdE (x := τ 25 b) d_sd_standsBefore_90 rfl (by decide) (by omega) (by omega) (by rw [Int.toNat_natCast]) ?_
        refine zi_icmp_le 98 d_sd_standsBefore_91 (by decide) (hA _ _) (hA _ _) (fun h91 => ?_) (fun h91 => ?_)
        · refine zi_iconst d_sd_standsBefore_98 ?_
          exact zk_zret rfl d_sd_standsBefore_99 (Nat.zero_le _) (Nat.zero_le _) (by omega) (by unfold befP; grind) rfl
        · refine zi_iconst d_sd_standsBefore_94 ?_
          refine zr_goto 99 d_sd_standsBefore_95 (by decide) ?_
          exact zk_zret rfl d_sd_standsBefore_99 (Nat.zero_le _) (Nat.zero_le _) (by omega) (by unfold befP; grind) rfl
    · refine zr_aload_n d_sd_standsBefore_45 rfl ?_
      refine zi_iload_n d_sd_standsBefore_46 rfl ?_
      refine c_sd_standsBefore_47 rfl rfl (sd_difference ⟨by omega, by omega⟩) ?_
      refine zr_aload_n d_sd_standsBefore_50 rfl ?_
      refine zi_iload_n d_sd_standsBefore_51 rfl ?_
      refine c_sd_standsBefore_52 rfl rfl (sd_difference ⟨by omega, by omega⟩) ?_
      show zV _ _ _ _ _ (vi _ :: vi _ :: _) _ _ _
      simp only [Int.toNat_natCast]
      refine zi_icmp_le 62 d_sd_standsBefore_55 (by decide) (by have e1 := hB 22 a (by decide); have e2 := hB 23 a (by decide); have e3 := hB 25 a (by decide); have e4 := hB 26 a (by decide); have e5 := hB 22 b (by decide); have e6 := hB 23 b (by decide); have e7 := hB 25 b (by decide); have e8 := hB 26 b (by decide); exact ⟨by omega, by omega⟩) (by have e1 := hB 22 a (by decide); have e2 := hB 23 a (by decide); have e3 := hB 25 a (by decide); have e4 := hB 26 a (by decide); have e5 := hB 22 b (by decide); have e6 := hB 23 b (by decide); have e7 := hB 25 b (by decide); have e8 := hB 26 b (by decide); exact ⟨by omega, by omega⟩) (fun h55 => ?_) (fun h55 => ?_)
      · refine zi_iconst d_sd_standsBefore_62 ?_
        exact zk_zret rfl d_sd_standsBefore_63 (Nat.zero_le _) (Nat.zero_le _) (by omega) (by unfold befP; grind) rfl
      · refine zi_iconst d_sd_standsBefore_58 ?_
        refine zr_goto 63 d_sd_standsBefore_59 (by decide) ?_
        exact zk_zret rfl d_sd_standsBefore_63 (Nat.zero_le _) (Nat.zero_le _) (by omega) (by unfold befP; grind) rfl
  · refine zr_aload_n d_sd_standsBefore_13 rfl ?_
    refine zi_iload_n d_sd_standsBefore_14 rfl ?_
    refine c_sd_standsBefore_15 rfl rfl (sd_points ⟨by omega, by omega⟩) ?_
    refine zr_aload_n d_sd_standsBefore_18 rfl ?_
    refine zi_iload_n d_sd_standsBefore_19 rfl ?_
    refine c_sd_standsBefore_20 rfl rfl (sd_points ⟨by omega, by omega⟩) ?_
    show zV _ _ _ _ _ (vi _ :: vi _ :: _) _ _ _
    simp only [Int.toNat_natCast]
    refine zi_icmp_le 30 d_sd_standsBefore_23 (by decide) (by have e1 := hB 22 a (by decide); have e2 := hB 23 a (by decide); have e3 := hB 25 a (by decide); have e4 := hB 26 a (by decide); have e5 := hB 22 b (by decide); have e6 := hB 23 b (by decide); have e7 := hB 25 b (by decide); have e8 := hB 26 b (by decide); exact ⟨by omega, by omega⟩) (by have e1 := hB 22 a (by decide); have e2 := hB 23 a (by decide); have e3 := hB 25 a (by decide); have e4 := hB 26 a (by decide); have e5 := hB 22 b (by decide); have e6 := hB 23 b (by decide); have e7 := hB 25 b (by decide); have e8 := hB 26 b (by decide); exact ⟨by omega, by omega⟩) (fun h23 => ?_) (fun h23 => ?_)
    · refine zi_iconst d_sd_standsBefore_30 ?_
      exact zk_zret rfl d_sd_standsBefore_31 (Nat.zero_le _) (Nat.zero_le _) (by omega) (by unfold befP; grind) rfl
    · refine zi_iconst d_sd_standsBefore_26 ?_
      refine zr_goto 31 d_sd_standsBefore_27 (by decide) ?_
      exact zk_zret rfl d_sd_standsBefore_31 (Nat.zero_le _) (Nat.zero_le _) (by omega) (by unfold befP; grind) rfl
theorem sd_placeOf {l : Launch} {d : Nat} {τ : tS} (hA : AllIn τ) (hB : ∀ q j, 22 ≤ q ∧ q ≤ 26 → -1000000 ≤ τ q j ∧ τ q j ≤ 1000000) {t n : Nat} (ht : t < 20) (hn : n ≤ 20) : zF l (d + 3) M_sd_placeOf [.ref 21, vi (t : Int), vi (n : Int)] (τ) (some (vi ((cnt (plcP τ t) n : Nat) : Int))) (τ) := by
  refine zMet_of (ls := [.ref 21, vi (t : Int), vi (n : Int), .null, .null]) pn_sd rfl (by simp [vi, Value.category]) rfl rfl ?_
  refine zi_iconst d_sd_placeOf_0 ?_
  refine zi_istore_n d_sd_placeOf_1 (by decide) rfl ?_
  refine zi_iconst d_sd_placeOf_2 ?_
  refine zi_istore d_sd_placeOf_3 (by decide) rfl ?_
  have key := zup (P := fun (i : Nat) => zV l (d + 3) M_sd_placeOf 5 [.ref 21, vi (t : Int), vi (n : Int), vi ((cnt (plcP τ t) i : Nat) : Int), vi (i : Int)] [] (τ) (0, 0) (.inl (some (vi ((cnt (plcP τ t) n : Nat) : Int))), (SH, zq τ), 0, 0)) (n) ?_ ?_ 0 (by omega)
  · exact zE4 key (by refine ⟨?_, ?_, ?_, ?_, ?_, trivial⟩ <;> first | exact Or.inl rfl | exact Or.inr rfl) rfl
  · intro i hi hk
    refine zi_iload d_sd_placeOf_5 rfl ?_
    refine zi_iload_n d_sd_placeOf_7 rfl ?_
    refine zi_icmp_ge 36 d_sd_placeOf_8 (by decide) (by first | assumption | exact ⟨by omega, by omega⟩) (by first | assumption | exact ⟨by omega, by omega⟩) (fun h8 => ?_) (fun h8 => ?_)
    · exact absurd h8 (by omega)
    · refine zi_iload d_sd_placeOf_11 rfl ?_
      refine zi_iload_n d_sd_placeOf_13 rfl ?_
      refine zi_icmp_eq 30 d_sd_placeOf_14 (by decide) (by first | assumption | exact ⟨by omega, by omega⟩) (by first | assumption | exact ⟨by omega, by omega⟩) (fun h14 => ?_) (fun h14 => ?_)
      · refine zi_iinc d_sd_placeOf_30 (by decide) rfl rfl ?_
        refine zr_goto 5 d_sd_placeOf_33 (by decide) ?_
        exact zE4 hk (by refine ⟨?_, ?_, ?_, ?_, ?_, trivial⟩ <;> first | exact Or.inl rfl | exact Or.inr rfl | (refine Or.inr (congrArg vi ?_); simp only [cnt, plcP]; grind)) rfl
      · refine zr_aload_n d_sd_placeOf_17 rfl ?_
        refine zi_iload d_sd_placeOf_18 rfl ?_
        refine zi_iload_n d_sd_placeOf_20 rfl ?_
        refine c_sd_placeOf_21 rfl rfl (sd_standsBefore hA hB (by omega) ht) ?_
        refine zi_if_eq 30 d_sd_placeOf_24 (by decide) (by split <;> exact ⟨by decide, by decide⟩) (fun h24 => ?_) (fun h24 => ?_)
        · refine zi_iinc d_sd_placeOf_30 (by decide) rfl rfl ?_
          refine zr_goto 5 d_sd_placeOf_33 (by decide) ?_
          exact zE4 hk (by refine ⟨?_, ?_, ?_, ?_, ?_, trivial⟩ <;> first | exact Or.inl rfl | exact Or.inr rfl | (refine Or.inr (congrArg vi ?_); simp only [cnt, plcP]; grind)) rfl
        · refine zi_iinc d_sd_placeOf_27 (by decide) rfl rfl ?_
          refine zi_iinc d_sd_placeOf_30 (by decide) rfl rfl ?_
          refine zr_goto 5 d_sd_placeOf_33 (by decide) ?_
          exact zE4 hk (by refine ⟨?_, ?_, ?_, ?_, ?_, trivial⟩ <;> first | exact Or.inl rfl | exact Or.inr rfl | (refine Or.inr (congrArg vi ?_); simp only [cnt, plcP]; grind)) rfl
  · refine zi_iload d_sd_placeOf_5 rfl ?_
    refine zi_iload_n d_sd_placeOf_7 rfl ?_
    refine zi_icmp_ge 36 d_sd_placeOf_8 (by decide) (by first | assumption | exact ⟨by omega, by omega⟩) (by first | assumption | exact ⟨by omega, by omega⟩) (fun h8 => ?_) (fun h8 => ?_)
    · refine zi_iload_n d_sd_placeOf_36 rfl ?_
      exact zk_iret rfl d_sd_placeOf_37 (Nat.zero_le _) (Nat.zero_le _) (by first | rfl | omega | (split <;> omega) | simp_all) rfl
    · exact absurd h8 (by omega)
theorem sd_teamAt {l : Launch} {d : Nat} {τ : tS} (hA : AllIn τ) (hB : ∀ q j, 22 ≤ q ∧ q ≤ 26 → -1000000 ≤ τ q j ∧ τ q j ≤ 1000000) {n k : Nat} (hk : k < 20) (hn : n ≤ 20) : zF l (d + 4) M_sd_teamAt [.ref 21, vi (k : Int), vi (n : Int)] τ (some (vi (((fst0 (fun t => decide (cnt (plcP τ t) n = k)) n).getD 0 : Nat) : Int))) τ := by
  refine zMet_of (ls := [.ref 21, vi (k : Int), vi (n : Int), .null]) pn_sd rfl (by simp [vi, Value.category]) rfl rfl ?_
  refine zi_iconst d_sd_teamAt_0 ?_
  refine zi_istore_n d_sd_teamAt_1 (by decide) rfl ?_
  have key := zfirst (P := fun (t : Nat) => zV l (d + 4) M_sd_teamAt 2 [.ref 21, vi (k : Int), vi (n : Int), vi (t : Int)] [] τ (0, 0) (.inl (some (vi (((fst0 (fun t => decide (cnt (plcP τ t) n = k)) n).getD 0 : Nat) : Int))), (SH, zq τ), 0, 0)) (fun t => decide (cnt (plcP τ t) n = k) = true) n ?_ ?_ ?_
  · exact zE4 key (by refine ⟨?_, ?_, ?_, ?_, trivial⟩ <;> first | exact Or.inl rfl | exact Or.inr rfl) rfl
  · intro t ht hp hct hkt
    simp only [decide_eq_true_eq] at hct
    refine zi_iload_n d_sd_teamAt_2 rfl ?_
    refine zi_iload_n d_sd_teamAt_3 rfl ?_
    refine zi_icmp_ge 25 d_sd_teamAt_4 (by decide) (by first | assumption | exact ⟨by omega, by omega⟩) (by first | assumption | exact ⟨by omega, by omega⟩) (fun h4 => ?_) (fun h4 => ?_)
    · exact absurd h4 (by omega)
    · refine zr_aload_n d_sd_teamAt_7 rfl ?_
      refine zi_iload_n d_sd_teamAt_8 rfl ?_
      refine zi_iload_n d_sd_teamAt_9 rfl ?_
      refine c_sd_teamAt_10 rfl rfl (sd_placeOf hA hB (by omega) hn) ?_
      refine zi_iload_n d_sd_teamAt_13 rfl ?_
      have hc := cnt_le (plcP τ t) n
      refine zi_icmp_ne 19 d_sd_teamAt_14 (by decide) (by first | assumption | exact ⟨by omega, by omega⟩) (by first | assumption | exact ⟨by omega, by omega⟩) (fun h14 => ?_) (fun h14 => ?_)
      · refine zi_iinc d_sd_teamAt_19 (by decide) rfl rfl ?_
        refine zr_goto 2 d_sd_teamAt_22 (by decide) ?_
        exact zE4 hkt (by refine ⟨?_, ?_, ?_, ?_, trivial⟩ <;> first | exact Or.inl rfl | exact Or.inr rfl) rfl
      · exact absurd (Int.ofNat.inj h14) hct
  · intro t ht hp hct
    have hf := fst0_some _ n t ht hp hct
    simp only [decide_eq_true_eq] at hct
    refine zi_iload_n d_sd_teamAt_2 rfl ?_
    refine zi_iload_n d_sd_teamAt_3 rfl ?_
    refine zi_icmp_ge 25 d_sd_teamAt_4 (by decide) (by first | assumption | exact ⟨by omega, by omega⟩) (by first | assumption | exact ⟨by omega, by omega⟩) (fun h4 => ?_) (fun h4 => ?_)
    · exact absurd h4 (by omega)
    · refine zr_aload_n d_sd_teamAt_7 rfl ?_
      refine zi_iload_n d_sd_teamAt_8 rfl ?_
      refine zi_iload_n d_sd_teamAt_9 rfl ?_
      refine c_sd_teamAt_10 rfl rfl (sd_placeOf hA hB (by omega) hn) ?_
      refine zi_iload_n d_sd_teamAt_13 rfl ?_
      have hc := cnt_le (plcP τ t) n
      refine zi_icmp_ne 19 d_sd_teamAt_14 (by decide) (by first | assumption | exact ⟨by omega, by omega⟩) (by first | assumption | exact ⟨by omega, by omega⟩) (fun h14 => ?_) (fun h14 => ?_)
      · exact absurd (by rw [hct]) h14
      · refine zi_iload_n d_sd_teamAt_17 rfl ?_
        exact zk_iret rfl d_sd_teamAt_18 (Nat.zero_le _) (Nat.zero_le _) (by rw [hf]; rfl) rfl
  · intro hno
    have hf := fst0_none _ n hno
    refine zi_iload_n d_sd_teamAt_2 rfl ?_
    refine zi_iload_n d_sd_teamAt_3 rfl ?_
    refine zi_icmp_ge 25 d_sd_teamAt_4 (by decide) (by first | assumption | exact ⟨by omega, by omega⟩) (by first | assumption | exact ⟨by omega, by omega⟩) (fun h4 => ?_) (fun h4 => ?_)
    · refine zi_iconst d_sd_teamAt_25 ?_
      exact zk_iret rfl d_sd_teamAt_26 (Nat.zero_le _) (Nat.zero_le _) (by rw [hf]; rfl) rfl
    · exact absurd h4 (by omega)
def fldF (τ : tS) (t f : Nat) : Int := if f = 0 then t else if f = 1 then τ 22 t + τ 23 t + τ 24 t else if f = 2 then τ 22 t else if f = 3 then τ 23 t else if f = 4 then τ 24 t else if f = 5 then τ 25 t else if f = 6 then τ 26 t else 3 * τ 22 t + τ 23 t
theorem sd_fieldOf {l : Launch} {d : Nat} {τ : tS} {t f : Nat} (ht : t < 20) (hf : f < 8) : zF l (d + 2) M_sd_fieldOf [.ref 21, vi (t : Int), vi (f : Int)] τ (some (vi (fldF τ t f))) τ := by
  refine zMet_of (ls := [.ref 21, vi (t : Int), vi (f : Int)]) pn_sd rfl (by simp [vi, Value.category]) rfl rfl ?_
  refine zi_iload_n d_sd_fieldOf_0 rfl ?_
  match f, hf with
  | 0, _ =>
    refine zr_tabIn 44 d_sd_fieldOf_1 (by decide) (by decide) (off := 43) rfl (by decide) ?_
    refine zi_iload_n d_sd_fieldOf_44 rfl ?_
    exact zk_iret rfl d_sd_fieldOf_45 (Nat.zero_le _) (Nat.zero_le _) (by first | rfl | omega | (split <;> omega) | simp_all) rfl
  | 1, _ =>
    refine zr_tabIn 46 d_sd_fieldOf_1 (by decide) (by decide) (off := 45) rfl (by decide) ?_
    refine zr_aload_n d_sd_fieldOf_46 rfl ?_
    refine zi_getr (j := 0) d_sd_fieldOf_47 zC3 fl_sd_9 (by decide) rfl rfl ?_
    refine zi_iload_n d_sd_fieldOf_50 rfl ?_
    refine zi_ialdE (x := τ 22 t) d_sd_fieldOf_51 rfl (by decide) (by omega) (by omega) (by rw [Int.toNat_natCast]) ?_
    refine zr_aload_n d_sd_fieldOf_52 rfl ?_
    refine zi_getr (j := 1) d_sd_fieldOf_53 zC3 fl_sd_15 (by decide) rfl rfl ?_
    refine zi_iload_n d_sd_fieldOf_56 rfl ?_
    refine zi_ialdE (x := τ 23 t) d_sd_fieldOf_57 rfl (by decide) (by omega) (by omega) (by rw [Int.toNat_natCast]) ?_
    refine zi_iadd d_sd_fieldOf_58 ?_
    refine zr_aload_n d_sd_fieldOf_59 rfl ?_
    refine zi_getr (j := 2) d_sd_fieldOf_60 zC3 fl_sd_18 (by decide) rfl rfl ?_
    refine zi_iload_n d_sd_fieldOf_63 rfl ?_
    refine zi_ialdE (x := τ 24 t) d_sd_fieldOf_64 rfl (by decide) (by omega) (by omega) (by rw [Int.toNat_natCast]) ?_
    refine zi_iadd d_sd_fieldOf_65 ?_
    exact zk_iret rfl d_sd_fieldOf_66 (Nat.zero_le _) (Nat.zero_le _) (by first | rfl | omega | (split <;> omega) | simp_all) rfl
  | 2, _ =>
    refine zr_tabIn 67 d_sd_fieldOf_1 (by decide) (by decide) (off := 66) rfl (by decide) ?_
    refine zr_aload_n d_sd_fieldOf_67 rfl ?_
    refine zi_getr (j := 0) d_sd_fieldOf_68 zC3 fl_sd_9 (by decide) rfl rfl ?_
    refine zi_iload_n d_sd_fieldOf_71 rfl ?_
    refine zi_ialdE (x := τ 22 t) d_sd_fieldOf_72 rfl (by decide) (by omega) (by omega) (by rw [Int.toNat_natCast]) ?_
    exact zk_iret rfl d_sd_fieldOf_73 (Nat.zero_le _) (Nat.zero_le _) (by first | rfl | omega | (split <;> omega) | simp_all) rfl
  | 3, _ =>
    refine zr_tabIn 74 d_sd_fieldOf_1 (by decide) (by decide) (off := 73) rfl (by decide) ?_
    refine zr_aload_n d_sd_fieldOf_74 rfl ?_
    refine zi_getr (j := 1) d_sd_fieldOf_75 zC3 fl_sd_15 (by decide) rfl rfl ?_
    refine zi_iload_n d_sd_fieldOf_78 rfl ?_
    refine zi_ialdE (x := τ 23 t) d_sd_fieldOf_79 rfl (by decide) (by omega) (by omega) (by rw [Int.toNat_natCast]) ?_
    exact zk_iret rfl d_sd_fieldOf_80 (Nat.zero_le _) (Nat.zero_le _) (by first | rfl | omega | (split <;> omega) | simp_all) rfl
  | 4, _ =>
    refine zr_tabIn 81 d_sd_fieldOf_1 (by decide) (by decide) (off := 80) rfl (by decide) ?_
    refine zr_aload_n d_sd_fieldOf_81 rfl ?_
    refine zi_getr (j := 2) d_sd_fieldOf_82 zC3 fl_sd_18 (by decide) rfl rfl ?_
    refine zi_iload_n d_sd_fieldOf_85 rfl ?_
    refine zi_ialdE (x := τ 24 t) d_sd_fieldOf_86 rfl (by decide) (by omega) (by omega) (by rw [Int.toNat_natCast]) ?_
    exact zk_iret rfl d_sd_fieldOf_87 (Nat.zero_le _) (Nat.zero_le _) (by first | rfl | omega | (split <;> omega) | simp_all) rfl
  | 5, _ =>
    refine zr_tabIn 88 d_sd_fieldOf_1 (by decide) (by decide) (off := 87) rfl (by decide) ?_
    refine zr_aload_n d_sd_fieldOf_88 rfl ?_
    refine zi_getr (j := 3) d_sd_fieldOf_89 zC3 fl_sd_21 (by decide) rfl rfl ?_
    refine zi_iload_n d_sd_fieldOf_92 rfl ?_
    refine zi_ialdE (x := τ 25 t) d_sd_fieldOf_93 rfl (by decide) (by omega) (by omega) (by rw [Int.toNat_natCast]) ?_
    exact zk_iret rfl d_sd_fieldOf_94 (Nat.zero_le _) (Nat.zero_le _) (by first | rfl | omega | (split <;> omega) | simp_all) rfl
  | 6, _ =>
    refine zr_tabIn 95 d_sd_fieldOf_1 (by decide) (by decide) (off := 94) rfl (by decide) ?_
    refine zr_aload_n d_sd_fieldOf_95 rfl ?_
    refine zi_getr (j := 4) d_sd_fieldOf_96 zC3 fl_sd_24 (by decide) rfl rfl ?_
    refine zi_iload_n d_sd_fieldOf_99 rfl ?_
    refine zi_ialdE (x := τ 26 t) d_sd_fieldOf_100 rfl (by decide) (by omega) (by omega) (by rw [Int.toNat_natCast]) ?_
    exact zk_iret rfl d_sd_fieldOf_101 (Nat.zero_le _) (Nat.zero_le _) (by first | rfl | omega | (split <;> omega) | simp_all) rfl
  | 7, _ =>
    refine zr_tabOut 102 d_sd_fieldOf_1 (Or.inr (by decide)) (by decide) ?_
    refine zr_aload_n d_sd_fieldOf_102 rfl ?_
    refine zi_iload_n d_sd_fieldOf_103 rfl ?_
    refine c_sd_fieldOf_104 rfl rfl (sd_points ⟨by omega, by omega⟩) ?_
    exact zk_iret rfl d_sd_fieldOf_107 (Nat.zero_le _) (Nat.zero_le _) (by simp [fldF]) rfl
