/-! the reference: breaks and what is broken (written by wip/gen/t26.py) -/
def b2i (b : Bool) : Int := if b = true then 1 else 0
theorem b2i_in (b : Bool) : zin (b2i b) := by cases b <;> exact ⟨by decide, by decide⟩
theorem b2i_0 (b : Bool) : b2i b = 0 ∨ b2i b = 1 := by cases b <;> simp [b2i]
theorem ixm (a i : Nat) : (20 * (a : Int) + (i : Int)).toNat = 20 * a + i := by omega
theorem veM_in (τ : tS) (j : Nat) : zin (veM τ j) := by unfold veM; split; exact ⟨by decide, by decide⟩; split <;> exact ⟨by decide, by decide⟩
def mbrP (τ : tS) (t i : Nat) : Bool := decide (0 ≤ veM τ (20 * (i + 1) + t) ∧ veM τ (20 * (i + 1) + t) = veM τ (20 * i + t))
def mbanP (τ : tS) (r t : Nat) : Bool := decide ((veM τ (20 * r + t) = 1 ∧ ¬ τ 38 (2 * (39 * t + r)) = 0) ∨ (veM τ (20 * r + t) = 0 ∧ ¬ τ 38 (2 * (39 * t + r) + 1) = 0))
def mpairP (τ : tS) (i r : Nat) : Bool := decide (veM τ (20 * (r : Int) + τ 39 i).toNat = 1 ∧ veM τ (20 * (r : Int) + τ 40 i).toNat = 1)
def mfixP (τ : tS) (i : Nat) : Bool := decide (¬ τ 43 i < τ 37 12 ∨ ¬ τ 44 (20 * τ 43 i + τ 41 i).toNat = τ 42 i ∨ ¬ veM τ (20 * τ 43 i + τ 41 i).toNat = 1)
def mcapP (τ : tS) (t r : Nat) : Bool := decide (0 < τ 37 11 ∧ τ 37 11 < ((awr (fun i : Nat => veM τ (20 * i + t)) (r + 1) : Nat) : Int))
theorem flg1 {B q : Bool} {a : Int} (h : ¬ b2i B = 0 → a = 1) (h2 : b2i B = 0 → a = b2i q) : a = b2i (B || q) := by cases B <;> simp_all [b2i]
theorem flg2 {F : Bool} {Q : Nat → Bool} {t : Nat} {a : Int} (h : ¬ b2i (F || anyN Q t) = 0 → a = 1) (h2 : b2i (F || anyN Q t) = 0 → a = b2i (Q t)) : a = b2i (F || anyN Q (t + 1)) := (flg1 h h2).trans (congrArg b2i (Bool.or_assoc _ _ _))
theorem flg3 {Q : Nat → Bool} {t : Nat} {a : Int} (h : ¬ b2i (anyN Q t) = 0 → a = 1) (h2 : b2i (anyN Q t) = 0 → a = b2i (Q t)) : a = b2i (anyN Q (t + 1)) := flg1 h h2
theorem in_b2i {a : Int} {b : Bool} (h : a = b2i b) : vi a = vi (b2i b) := by rw [h]
theorem md_breaksOf {l : Launch} {d : Nat} {τ : tS} {n R p f e : Nat} (C : Mo τ n R p f e) {t : Nat} (ht : t < 20) : zF l (d + 2) M_md_breaksOf [.ref 37, vi (t : Int)] (τ) (some (vi ((cnt (mbrP τ t) (R - 1) : Nat) : Int))) (τ) := by
  refine zMet_of (ls := [.ref 37, vi (t : Int), .null, .null]) pn_md rfl (by simp [vi, Value.category]) rfl rfl ?_
  have hA := C.A
  have hn := C.n
  have hn4 := C.n4
  have hn20 := C.n20
  have hR := C.R
  have hR38 := C.R38
  refine zi_iconst d_md_breaksOf_0 ?_
  refine zi_istore_n d_md_breaksOf_1 (by decide) rfl ?_
  refine zi_iconst d_md_breaksOf_2 ?_
  refine zi_istore_n d_md_breaksOf_3 (by decide) rfl ?_
  have key := zup (P := fun (i : Nat) => zV l (d + 2) M_md_breaksOf 4 [.ref 37, vi (t : Int), vi ((cnt (mbrP τ t) i : Nat) : Int), vi ((i : Int) + 1)] [] (τ) (0, 0) (.inl (some (vi ((cnt (mbrP τ t) (R - 1) : Nat) : Int))), (SH, zq τ), 0, 0)) (R - 1) ?_ ?_ 0 (by omega)
  · exact zE4 key (by refine ⟨?_, ?_, ?_, ?_, trivial⟩ <;> first | exact Or.inl rfl | exact Or.inr rfl) rfl
  · intro i hi hk
    have hcl := cnt_le (mbrP τ t) i
    refine zi_iload_n d_md_breaksOf_4 rfl ?_
    refine zr_aload_n d_md_breaksOf_5 rfl ?_
    refine zi_getiE (j := 12) (x := (R : Int)) d_md_breaksOf_6 zC8 fl_md_94 (by decide) rfl rfl (hR) ?_
    refine zi_icmp_ge 52 d_md_breaksOf_9 (by decide) (by first | assumption | exact ⟨by omega, by omega⟩) (by first | assumption | exact ⟨by omega, by omega⟩) (fun h9 => ?_) (fun h9 => ?_)
    · exact absurd h9 (by omega)
    · refine zr_aload_n d_md_breaksOf_12 rfl ?_
      refine zi_iload_n d_md_breaksOf_13 rfl ?_
      refine zi_iload_n d_md_breaksOf_14 rfl ?_
      refine c_md_breaksOf_15 rfl rfl (md_venueOf hA ⟨by omega, by omega⟩ ⟨by omega, by omega⟩) ?_
      show zV _ _ _ _ _ (vi _ :: _) _ _ _
      rw [show (20 * ((i : Int) + 1) + (t : Int)).toNat = 20 * (i + 1) + t by omega]
      refine zi_if_lt 44 d_md_breaksOf_18 (by decide) (veM_in _ _) (fun h18 => ?_) (fun h18 => ?_)
      · refine zi_iload_n d_md_breaksOf_44 rfl ?_
        refine zi_istore_n d_md_breaksOf_45 (by decide) rfl ?_
        refine zi_iinc d_md_breaksOf_46 (by decide) rfl rfl ?_
        refine zr_goto 4 d_md_breaksOf_49 (by decide) ?_
        exact zE4 hk (by refine ⟨?_, ?_, ?_, ?_, trivial⟩ <;> first | exact Or.inl rfl | exact Or.inr rfl | exact Or.inr (congrArg vi (by rw [cnt]; unfold mbrP; grind))) rfl
      · refine zr_aload_n d_md_breaksOf_21 rfl ?_
        refine zi_iload_n d_md_breaksOf_22 rfl ?_
        refine zi_iload_n d_md_breaksOf_23 rfl ?_
        refine c_md_breaksOf_24 rfl rfl (md_venueOf hA ⟨by omega, by omega⟩ ⟨by omega, by omega⟩) ?_
        show zV _ _ _ _ _ (vi _ :: _) _ _ _
        rw [show (20 * ((i : Int) + 1) + (t : Int)).toNat = 20 * (i + 1) + t by omega]
        refine zr_aload_n d_md_breaksOf_27 rfl ?_
        refine zi_iload_n d_md_breaksOf_28 rfl ?_
        refine zi_iload_n d_md_breaksOf_29 rfl ?_
        refine zi_iconst d_md_breaksOf_30 ?_
        refine zi_isub d_md_breaksOf_31 ?_
        refine c_md_breaksOf_32 rfl rfl (md_venueOf hA ⟨by omega, by omega⟩ ⟨by omega, by omega⟩) ?_
        show zV _ _ _ _ _ (vi _ :: _) _ _ _
        rw [show (20 * ((i : Int) + 1 - 1) + (t : Int)).toNat = 20 * i + t by omega]
        refine zi_icmp_ne 44 d_md_breaksOf_35 (by decide) (veM_in _ _) (veM_in _ _) (fun h35 => ?_) (fun h35 => ?_)
        · refine zi_iload_n d_md_breaksOf_44 rfl ?_
          refine zi_istore_n d_md_breaksOf_45 (by decide) rfl ?_
          refine zi_iinc d_md_breaksOf_46 (by decide) rfl rfl ?_
          refine zr_goto 4 d_md_breaksOf_49 (by decide) ?_
          exact zE4 hk (by refine ⟨?_, ?_, ?_, ?_, trivial⟩ <;> first | exact Or.inl rfl | exact Or.inr rfl | exact Or.inr (congrArg vi (by rw [cnt]; unfold mbrP; grind))) rfl
        · refine zi_iload_n d_md_breaksOf_38 rfl ?_
          refine zi_iconst d_md_breaksOf_39 ?_
          refine zi_iadd d_md_breaksOf_40 ?_
          refine zr_goto 45 d_md_breaksOf_41 (by decide) ?_
          refine zi_istore_n d_md_breaksOf_45 (by decide) rfl ?_
          refine zi_iinc d_md_breaksOf_46 (by decide) rfl rfl ?_
          refine zr_goto 4 d_md_breaksOf_49 (by decide) ?_
          exact zE4 hk (by refine ⟨?_, ?_, ?_, ?_, trivial⟩ <;> first | exact Or.inl rfl | exact Or.inr rfl | exact Or.inr (congrArg vi (by rw [cnt]; unfold mbrP; grind))) rfl
  · refine zi_iload_n d_md_breaksOf_4 rfl ?_
    refine zr_aload_n d_md_breaksOf_5 rfl ?_
    refine zi_getiE (j := 12) (x := (R : Int)) d_md_breaksOf_6 zC8 fl_md_94 (by decide) rfl rfl (hR) ?_
    refine zi_icmp_ge 52 d_md_breaksOf_9 (by decide) (by first | assumption | exact ⟨by omega, by omega⟩) (by first | assumption | exact ⟨by omega, by omega⟩) (fun h9 => ?_) (fun h9 => ?_)
    · refine zi_iload_n d_md_breaksOf_52 rfl ?_
      exact zk_iret rfl d_md_breaksOf_53 (Nat.zero_le _) (Nat.zero_le _) (by first | rfl | omega | (split <;> omega) | simp_all) rfl
    · exact absurd h9 (by omega)
def mbkF (τ : tS) (R : Nat) (x : Int) (t : Nat) : Int := if x = -1 ∨ (t : Int) = x then ((cnt (mbrP τ t) (R - 1) : Nat) : Int) else 0
theorem mbr_37 (τ : tS) (j : Nat) (x : Int) : mbrP (tU τ 37 j x) = mbrP τ := by
  funext t i
  unfold mbrP
  rw [ve_37, ve_37]
theorem Mo.th {τ : tS} {n R p f e : Nat} (h : Mo τ n R p f e) {x : Int} (hx : zin x) : Mo (tU τ 37 0 x) n R p f e := by
  refine ⟨in_37 h.A hx, ?_, h.n4, h.n20, ?_, h.R38, ?_, h.p6, ?_, h.f6, ?_, h.e6, ?_, ?_, ?_, ?_, ?_, ?_, ?_, ?_, ?_⟩
  · simpa [tU] using h.n
  · simpa [tU] using h.R
  · simpa [tU] using h.p
  · simpa [tU] using h.f
  · simpa [tU] using h.e
  · simpa [tU] using h.pr
  · simpa [tU] using h.fx
  · simpa [tU] using h.z38
  · simpa [tU] using h.z45
  · simpa [tU] using h.z46
  · simpa [tU] using h.z49
  · simpa [tU] using h.z51
  · simpa [tU] using h.z54
  · simpa [tU] using h.foe
theorem md_breaks {l : Launch} {d : Nat} {τ : tS} {n R p f e : Nat} (C : Mo τ n R p f e) {x : Int} (zx : zin x) (h : x = -1 ∨ (0 ≤ x ∧ x < n)) : zF l (d + 4) M_md_breaks [.ref 37, vi x] (τ) (some (vi (sumI (mbkF τ R x) n))) (tU τ 37 0 0) := by
  refine zMet_of (ls := [.ref 37, vi x, .null, .null]) pn_md rfl (by simp [vi, Value.category]) rfl rfl ?_
  have hA := C.A
  have hn := C.n
  have hn4 := C.n4
  have hn20 := C.n20
  have hR := C.R
  have hR38 := C.R38
  refine zr_aload_n d_md_breaks_0 rfl ?_
  refine zi_iload_n d_md_breaks_1 rfl ?_
  refine zi_iconst d_md_breaks_2 ?_
  refine zi_icmp_eq 18 d_md_breaks_3 (by decide) zx ⟨by decide, by decide⟩ (fun h3 => ?_) (fun h3 => ?_)
  · refine zi_iconst d_md_breaks_18 ?_
    refine zi_iconst d_md_breaks_19 ?_
    refine zi_iconst d_md_breaks_20 ?_
    refine zi_iconst d_md_breaks_21 ?_
    refine c_md_breaks_22 rfl rfl (md_refused ⟨by decide, by decide⟩ ⟨by decide, by decide⟩ ⟨by decide, by decide⟩ ⟨by decide, by decide⟩) ?_
    show zV _ _ _ _ _ (vi 0 :: _) (tU τ 37 0 0) _ _
    refine zi_if_eq 30 d_md_breaks_25 (by decide) (by first | assumption | exact ⟨by omega, by omega⟩) (fun h25 => ?_) (fun h25 => ?_)
    · refine zi_iconst d_md_breaks_30 ?_
      refine zi_istore_n d_md_breaks_31 (by decide) rfl ?_
      refine zi_iconst d_md_breaks_32 ?_
      refine zi_istore_n d_md_breaks_33 (by decide) rfl ?_
      have key := zup (P := fun (i : Nat) => zV l (d + 4) M_md_breaks 34 [.ref 37, vi x, vi (sumI (mbkF τ R x) i), vi (i : Int)] [] (tU τ 37 0 0) (0, 0) (.inl (some (vi (sumI (mbkF τ R x) n))), (SH, zq (tU τ 37 0 0)), 0, 0)) (n) ?_ ?_ 0 (by omega)
      · exact zE4 key (by refine ⟨?_, ?_, ?_, ?_, trivial⟩ <;> first | exact Or.inl rfl | exact Or.inr rfl) rfl
      · intro i hi hk
        refine zi_iload_n d_md_breaks_34 rfl ?_
        refine zr_aload_n d_md_breaks_35 rfl ?_
        refine zi_getiE (j := 1) (x := (n : Int)) d_md_breaks_36 zC8 fl_md_7 (by decide) rfl rfl (by simp [tU]; exact hn) ?_
        refine zi_icmp_ge 70 d_md_breaks_39 (by decide) (by first | assumption | exact ⟨by omega, by omega⟩) (by first | assumption | exact ⟨by omega, by omega⟩) (fun h39 => ?_) (fun h39 => ?_)
        · exact absurd h39 (by omega)
        · refine zi_iload_n d_md_breaks_42 rfl ?_
          refine zi_iconst d_md_breaks_43 ?_
          refine zi_icmp_eq 52 d_md_breaks_44 (by decide) zx ⟨by decide, by decide⟩ (fun h44 => ?_) (fun h44 => ?_)
          · refine zi_iload_n d_md_breaks_52 rfl ?_
            refine zr_aload_n d_md_breaks_53 rfl ?_
            refine zi_iload_n d_md_breaks_54 rfl ?_
            refine c_md_breaks_55 rfl rfl (md_breaksOf (C.th ⟨by decide, by decide⟩) (by omega)) ?_
            show zV _ _ _ _ _ (vi _ :: _) _ _ _
            rw [mbr_37]
            refine zi_iadd d_md_breaks_58 ?_
            refine zr_goto 63 d_md_breaks_59 (by decide) ?_
            refine zi_istore_n d_md_breaks_63 (by decide) rfl ?_
            refine zi_iinc d_md_breaks_64 (by decide) rfl rfl ?_
            refine zr_goto 34 d_md_breaks_67 (by decide) ?_
            exact zE4 hk (by refine ⟨?_, ?_, ?_, ?_, trivial⟩ <;> first | exact Or.inl rfl | exact Or.inr rfl | exact Or.inr (congrArg vi (by rw [sumI]; unfold mbkF; grind))) rfl
          · refine zi_iload_n d_md_breaks_47 rfl ?_
            refine zi_iload_n d_md_breaks_48 rfl ?_
            refine zi_icmp_ne 62 d_md_breaks_49 (by decide) ⟨by omega, by omega⟩ zx (fun h49 => ?_) (fun h49 => ?_)
            · refine zi_iload_n d_md_breaks_62 rfl ?_
              refine zi_istore_n d_md_breaks_63 (by decide) rfl ?_
              refine zi_iinc d_md_breaks_64 (by decide) rfl rfl ?_
              refine zr_goto 34 d_md_breaks_67 (by decide) ?_
              exact zE4 hk (by refine ⟨?_, ?_, ?_, ?_, trivial⟩ <;> first | exact Or.inl rfl | exact Or.inr rfl | exact Or.inr (congrArg vi (by rw [sumI]; unfold mbkF; grind))) rfl
            · refine zi_iload_n d_md_breaks_52 rfl ?_
              refine zr_aload_n d_md_breaks_53 rfl ?_
              refine zi_iload_n d_md_breaks_54 rfl ?_
              refine c_md_breaks_55 rfl rfl (md_breaksOf (C.th ⟨by decide, by decide⟩) (by omega)) ?_
              show zV _ _ _ _ _ (vi _ :: _) _ _ _
              rw [mbr_37]
              refine zi_iadd d_md_breaks_58 ?_
              refine zr_goto 63 d_md_breaks_59 (by decide) ?_
              refine zi_istore_n d_md_breaks_63 (by decide) rfl ?_
              refine zi_iinc d_md_breaks_64 (by decide) rfl rfl ?_
              refine zr_goto 34 d_md_breaks_67 (by decide) ?_
              exact zE4 hk (by refine ⟨?_, ?_, ?_, ?_, trivial⟩ <;> first | exact Or.inl rfl | exact Or.inr rfl | exact Or.inr (congrArg vi (by rw [sumI]; unfold mbkF; grind))) rfl
      · refine zi_iload_n d_md_breaks_34 rfl ?_
        refine zr_aload_n d_md_breaks_35 rfl ?_
        refine zi_getiE (j := 1) (x := (n : Int)) d_md_breaks_36 zC8 fl_md_7 (by decide) rfl rfl (by simp [tU]; exact hn) ?_
        refine zi_icmp_ge 70 d_md_breaks_39 (by decide) (by first | assumption | exact ⟨by omega, by omega⟩) (by first | assumption | exact ⟨by omega, by omega⟩) (fun h39 => ?_) (fun h39 => ?_)
        · refine zi_iload_n d_md_breaks_70 rfl ?_
          exact zk_iret rfl d_md_breaks_71 (Nat.zero_le _) (Nat.zero_le _) (by first | rfl | omega | (split <;> omega) | simp_all) rfl
        · exact absurd h39 (by omega)
    · exact absurd h25 (by decide)
  · refine zr_aload_n d_md_breaks_6 rfl ?_
    refine zi_iload_n d_md_breaks_7 rfl ?_
    refine c_md_breaks_8 rfl rfl (md_isTeam C zx) ?_
    refine zi_if_ne 18 d_md_breaks_11 (by decide) (by split <;> exact ⟨by decide, by decide⟩) (fun h11 => ?_) (fun h11 => ?_)
    · refine zi_iconst d_md_breaks_18 ?_
      refine zi_iconst d_md_breaks_19 ?_
      refine zi_iconst d_md_breaks_20 ?_
      refine zi_iconst d_md_breaks_21 ?_
      refine c_md_breaks_22 rfl rfl (md_refused ⟨by decide, by decide⟩ ⟨by decide, by decide⟩ ⟨by decide, by decide⟩ ⟨by decide, by decide⟩) ?_
      show zV _ _ _ _ _ (vi 0 :: _) (tU τ 37 0 0) _ _
      refine zi_if_eq 30 d_md_breaks_25 (by decide) (by first | assumption | exact ⟨by omega, by omega⟩) (fun h25 => ?_) (fun h25 => ?_)
      · refine zi_iconst d_md_breaks_30 ?_
        refine zi_istore_n d_md_breaks_31 (by decide) rfl ?_
        refine zi_iconst d_md_breaks_32 ?_
        refine zi_istore_n d_md_breaks_33 (by decide) rfl ?_
        have key := zup (P := fun (i : Nat) => zV l (d + 4) M_md_breaks 34 [.ref 37, vi x, vi (sumI (mbkF τ R x) i), vi (i : Int)] [] (tU τ 37 0 0) (0, 0) (.inl (some (vi (sumI (mbkF τ R x) n))), (SH, zq (tU τ 37 0 0)), 0, 0)) (n) ?_ ?_ 0 (by omega)
        · exact zE4 key (by refine ⟨?_, ?_, ?_, ?_, trivial⟩ <;> first | exact Or.inl rfl | exact Or.inr rfl) rfl
        · intro i hi hk
          refine zi_iload_n d_md_breaks_34 rfl ?_
          refine zr_aload_n d_md_breaks_35 rfl ?_
          refine zi_getiE (j := 1) (x := (n : Int)) d_md_breaks_36 zC8 fl_md_7 (by decide) rfl rfl (by simp [tU]; exact hn) ?_
          refine zi_icmp_ge 70 d_md_breaks_39 (by decide) (by first | assumption | exact ⟨by omega, by omega⟩) (by first | assumption | exact ⟨by omega, by omega⟩) (fun h39 => ?_) (fun h39 => ?_)
          · exact absurd h39 (by omega)
          · refine zi_iload_n d_md_breaks_42 rfl ?_
            refine zi_iconst d_md_breaks_43 ?_
            refine zi_icmp_eq 52 d_md_breaks_44 (by decide) zx ⟨by decide, by decide⟩ (fun h44 => ?_) (fun h44 => ?_)
            · refine zi_iload_n d_md_breaks_52 rfl ?_
              refine zr_aload_n d_md_breaks_53 rfl ?_
              refine zi_iload_n d_md_breaks_54 rfl ?_
              refine c_md_breaks_55 rfl rfl (md_breaksOf (C.th ⟨by decide, by decide⟩) (by omega)) ?_
              show zV _ _ _ _ _ (vi _ :: _) _ _ _
              rw [mbr_37]
              refine zi_iadd d_md_breaks_58 ?_
              refine zr_goto 63 d_md_breaks_59 (by decide) ?_
              refine zi_istore_n d_md_breaks_63 (by decide) rfl ?_
              refine zi_iinc d_md_breaks_64 (by decide) rfl rfl ?_
              refine zr_goto 34 d_md_breaks_67 (by decide) ?_
              exact zE4 hk (by refine ⟨?_, ?_, ?_, ?_, trivial⟩ <;> first | exact Or.inl rfl | exact Or.inr rfl | exact Or.inr (congrArg vi (by rw [sumI]; unfold mbkF; grind))) rfl
            · refine zi_iload_n d_md_breaks_47 rfl ?_
              refine zi_iload_n d_md_breaks_48 rfl ?_
              refine zi_icmp_ne 62 d_md_breaks_49 (by decide) ⟨by omega, by omega⟩ zx (fun h49 => ?_) (fun h49 => ?_)
              · refine zi_iload_n d_md_breaks_62 rfl ?_
                refine zi_istore_n d_md_breaks_63 (by decide) rfl ?_
                refine zi_iinc d_md_breaks_64 (by decide) rfl rfl ?_
                refine zr_goto 34 d_md_breaks_67 (by decide) ?_
                exact zE4 hk (by refine ⟨?_, ?_, ?_, ?_, trivial⟩ <;> first | exact Or.inl rfl | exact Or.inr rfl | exact Or.inr (congrArg vi (by rw [sumI]; unfold mbkF; grind))) rfl
              · refine zi_iload_n d_md_breaks_52 rfl ?_
                refine zr_aload_n d_md_breaks_53 rfl ?_
                refine zi_iload_n d_md_breaks_54 rfl ?_
                refine c_md_breaks_55 rfl rfl (md_breaksOf (C.th ⟨by decide, by decide⟩) (by omega)) ?_
                show zV _ _ _ _ _ (vi _ :: _) _ _ _
                rw [mbr_37]
                refine zi_iadd d_md_breaks_58 ?_
                refine zr_goto 63 d_md_breaks_59 (by decide) ?_
                refine zi_istore_n d_md_breaks_63 (by decide) rfl ?_
                refine zi_iinc d_md_breaks_64 (by decide) rfl rfl ?_
                refine zr_goto 34 d_md_breaks_67 (by decide) ?_
                exact zE4 hk (by refine ⟨?_, ?_, ?_, ?_, trivial⟩ <;> first | exact Or.inl rfl | exact Or.inr rfl | exact Or.inr (congrArg vi (by rw [sumI]; unfold mbkF; grind))) rfl
        · refine zi_iload_n d_md_breaks_34 rfl ?_
          refine zr_aload_n d_md_breaks_35 rfl ?_
          refine zi_getiE (j := 1) (x := (n : Int)) d_md_breaks_36 zC8 fl_md_7 (by decide) rfl rfl (by simp [tU]; exact hn) ?_
          refine zi_icmp_ge 70 d_md_breaks_39 (by decide) (by first | assumption | exact ⟨by omega, by omega⟩) (by first | assumption | exact ⟨by omega, by omega⟩) (fun h39 => ?_) (fun h39 => ?_)
          · refine zi_iload_n d_md_breaks_70 rfl ?_
            exact zk_iret rfl d_md_breaks_71 (Nat.zero_le _) (Nat.zero_le _) (by first | rfl | omega | (split <;> omega) | simp_all) rfl
          · exact absurd h39 (by omega)
      · exact absurd h25 (by decide)
    · exfalso
      grind
theorem md_breaksX {l : Launch} {d : Nat} {τ : tS} {n R p f e : Nat} (C : Mo τ n R p f e) {x : Int} (zx : zin x) (h : ¬ (x = -1 ∨ (0 ≤ x ∧ x < n))) : zF l (d + 4) M_md_breaks [.ref 37, vi x] (τ) (some (vi 0)) (tU τ 37 0 1) := by
  refine zMet_of (ls := [.ref 37, vi x, .null, .null]) pn_md rfl (by simp [vi, Value.category]) rfl rfl ?_
  have hA := C.A
  have hn := C.n
  have hn4 := C.n4
  have hn20 := C.n20
  have hR := C.R
  have hR38 := C.R38
  refine zr_aload_n d_md_breaks_0 rfl ?_
  refine zi_iload_n d_md_breaks_1 rfl ?_
  refine zi_iconst d_md_breaks_2 ?_
  refine zi_icmp_eq 18 d_md_breaks_3 (by decide) zx ⟨by decide, by decide⟩ (fun h3 => ?_) (fun h3 => ?_)
  · exfalso
    grind
  · refine zr_aload_n d_md_breaks_6 rfl ?_
    refine zi_iload_n d_md_breaks_7 rfl ?_
    refine c_md_breaks_8 rfl rfl (md_isTeam C zx) ?_
    refine zi_if_ne 18 d_md_breaks_11 (by decide) (by split <;> exact ⟨by decide, by decide⟩) (fun h11 => ?_) (fun h11 => ?_)
    · exfalso
      grind
    · refine zi_iconst d_md_breaks_14 ?_
      refine zr_goto 19 d_md_breaks_15 (by decide) ?_
      refine zi_iconst d_md_breaks_19 ?_
      refine zi_iconst d_md_breaks_20 ?_
      refine zi_iconst d_md_breaks_21 ?_
      refine c_md_breaks_22 rfl rfl (md_refused ⟨by decide, by decide⟩ ⟨by decide, by decide⟩ ⟨by decide, by decide⟩ ⟨by decide, by decide⟩) ?_
      show zV _ _ _ _ _ (vi 1 :: _) (tU τ 37 0 1) _ _
      refine zi_if_eq 30 d_md_breaks_25 (by decide) (by first | assumption | exact ⟨by omega, by omega⟩) (fun h25 => ?_) (fun h25 => ?_)
      · exact absurd h25 (by decide)
      · refine zi_iconst d_md_breaks_28 ?_
        exact zk_iret rfl d_md_breaks_29 (Nat.zero_le _) (Nat.zero_le _) (by first | rfl | omega | (split <;> omega) | simp_all) rfl
theorem md_breaksBan {l : Launch} {d : Nat} {τ : tS} {n R p f e : Nat} (C : Mo τ n R p f e) : zF l (d + 2) M_md_breaksBan [.ref 37] (τ) (some (vi (b2i (anyN (fun r => anyN (mbanP τ r) n) R)))) (τ) := by
  refine zMet_of (ls := [.ref 37, .null, .null, .null, .null]) pn_md rfl (by simp [vi, Value.category]) rfl rfl ?_
  have hA := C.A
  have hn := C.n
  have hn4 := C.n4
  have hn20 := C.n20
  have hR := C.R
  have hR38 := C.R38
  refine zi_iconst d_md_breaksBan_0 ?_
  refine zi_istore_n d_md_breaksBan_1 (by decide) rfl ?_
  refine zi_iconst d_md_breaksBan_2 ?_
  refine zi_istore_n d_md_breaksBan_3 (by decide) rfl ?_
  have key := zup (P := fun (i : Nat) => zV l (d + 2) M_md_breaksBan 4 [.ref 37, vi (b2i (anyN (fun r => anyN (mbanP τ r) n) i)), vi (i : Int), .null, .null] [] τ (0, 0) (.inl (some (vi (b2i (anyN (fun r => anyN (mbanP τ r) n) R)))), (SH, zq τ), 0, 0)) R ?_ ?_ 0 (by omega)
  · exact zE4 key (by refine ⟨?_, ?_, ?_, ?_, ?_, trivial⟩ <;> first | exact Or.inl rfl | exact Or.inr rfl) rfl
  · intro i hi hk
    refine zi_iload_n d_md_breaksBan_4 rfl ?_
    refine zr_aload_n d_md_breaksBan_5 rfl ?_
    refine zi_getiE (j := 12) (x := (R : Int)) d_md_breaksBan_6 zC8 fl_md_94 (by decide) rfl rfl (hR) ?_
    refine zi_icmp_ge 83 d_md_breaksBan_9 (by decide) (by first | assumption | exact ⟨by omega, by omega⟩) (by first | assumption | exact ⟨by omega, by omega⟩) (fun h9 => ?_) (fun h9 => ?_)
    · exact absurd h9 (by omega)
    · refine zi_iconst d_md_breaksBan_12 ?_
      refine zi_istore_n d_md_breaksBan_13 (by decide) rfl ?_
      have inn := zup (P := fun (t : Nat) => zV l (d + 2) M_md_breaksBan 14 [.ref 37, vi (b2i (anyN (fun r => anyN (mbanP τ r) n) i || anyN (mbanP τ i) t)), vi (i : Int), vi (t : Int), .null] [] τ (0, 0) (.inl (some (vi (b2i (anyN (fun r => anyN (mbanP τ r) n) R)))), (SH, zq τ), 0, 0)) n ?_ ?_ 0 (by omega)
      · exact zE4 inn (by refine ⟨?_, ?_, ?_, ?_, ?_, trivial⟩ <;> first | exact Or.inl rfl | exact Or.inr rfl | exact Or.inr (congrArg vi (by rw [anyN, Bool.or_false]))) rfl
      · intro t ht hkt
        refine zi_iload_n d_md_breaksBan_14 rfl ?_
        refine zr_aload_n d_md_breaksBan_15 rfl ?_
        refine zi_getiE (j := 1) (x := (n : Int)) d_md_breaksBan_16 zC8 fl_md_7 (by decide) rfl rfl (hn) ?_
        refine zi_icmp_ge 77 d_md_breaksBan_19 (by decide) (by first | assumption | exact ⟨by omega, by omega⟩) (by first | assumption | exact ⟨by omega, by omega⟩) (fun h19 => ?_) (fun h19 => ?_)
        · exact absurd h19 (by omega)
        · refine zr_aload_n d_md_breaksBan_22 rfl ?_
          refine zi_iload_n d_md_breaksBan_23 rfl ?_
          refine zi_iload_n d_md_breaksBan_24 rfl ?_
          refine c_md_breaksBan_25 rfl rfl (md_venueOf hA ⟨by omega, by omega⟩ ⟨by omega, by omega⟩) ?_
          show zV _ _ _ _ _ (vi _ :: _) _ _ _
          rw [ixm]
          refine zi_istore d_md_breaksBan_28 (by decide) rfl ?_
          refine zi_iload_n d_md_breaksBan_30 rfl ?_
          refine zi_if_ne 65 d_md_breaksBan_31 (by decide) (b2i_in _) (fun h31 => ?_) (fun h31 => ?_)
          · refine zi_iconst d_md_breaksBan_65 ?_
            refine zr_goto 70 d_md_breaksBan_66 (by decide) ?_
            refine zi_istore_n d_md_breaksBan_70 (by decide) rfl ?_
            refine zi_iinc d_md_breaksBan_71 (by decide) rfl rfl ?_
            refine zr_goto 14 d_md_breaksBan_74 (by decide) ?_
            exact zE4 hkt (by refine ⟨?_, ?_, ?_, ?_, ?_, trivial⟩ <;> first | exact Or.inl rfl | exact Or.inr rfl | exact Or.inr (congrArg vi (by refine (flg2 (fun g => ?_) (fun g => ?_)).symm; (first | rfl | exact absurd h31 g); (first | exact absurd g h31 | (clear hk hkt; unfold b2i mbanP; grind))))) rfl
          · refine zi_iload d_md_breaksBan_34 rfl ?_
            refine zi_iconst d_md_breaksBan_36 ?_
            refine zi_icmp_ne 50 d_md_breaksBan_37 (by decide) (veM_in _ _) ⟨by decide, by decide⟩ (fun h37 => ?_) (fun h37 => ?_)
            · refine zi_iload d_md_breaksBan_50 rfl ?_
              refine zi_if_ne 69 d_md_breaksBan_52 (by decide) (veM_in _ _) (fun h52 => ?_) (fun h52 => ?_)
              · refine zi_iconst d_md_breaksBan_69 ?_
                refine zi_istore_n d_md_breaksBan_70 (by decide) rfl ?_
                refine zi_iinc d_md_breaksBan_71 (by decide) rfl rfl ?_
                refine zr_goto 14 d_md_breaksBan_74 (by decide) ?_
                exact zE4 hkt (by refine ⟨?_, ?_, ?_, ?_, ?_, trivial⟩ <;> first | exact Or.inl rfl | exact Or.inr rfl | exact Or.inr (congrArg vi (by refine (flg2 (fun g => ?_) (fun g => ?_)).symm; (first | rfl | exact absurd h31 g); (first | exact absurd g h31 | (clear hk hkt; unfold b2i mbanP; grind))))) rfl
              · refine zr_aload_n d_md_breaksBan_55 rfl ?_
                refine zi_iload_n d_md_breaksBan_56 rfl ?_
                refine zi_iload_n d_md_breaksBan_57 rfl ?_
                refine zi_iconst d_md_breaksBan_58 ?_
                refine c_md_breaksBan_59 rfl rfl (md_isBanned C.z38 ⟨by omega, by omega⟩ ⟨by omega, by omega⟩ (Or.inr rfl)) ?_
                show zV _ _ _ _ _ (vi _ :: _) _ _ _
                rw [show (2 * (39 * (t : Int) + (i : Int)) + 1).toNat = 2 * (39 * t + i) + 1 by omega]
                refine zi_if_eq 69 d_md_breaksBan_62 (by decide) (hA _ _) (fun h62 => ?_) (fun h62 => ?_)
                · refine zi_iconst d_md_breaksBan_69 ?_
                  refine zi_istore_n d_md_breaksBan_70 (by decide) rfl ?_
                  refine zi_iinc d_md_breaksBan_71 (by decide) rfl rfl ?_
                  refine zr_goto 14 d_md_breaksBan_74 (by decide) ?_
                  exact zE4 hkt (by refine ⟨?_, ?_, ?_, ?_, ?_, trivial⟩ <;> first | exact Or.inl rfl | exact Or.inr rfl | exact Or.inr (congrArg vi (by refine (flg2 (fun g => ?_) (fun g => ?_)).symm; (first | rfl | exact absurd h31 g); (first | exact absurd g h31 | (clear hk hkt; unfold b2i mbanP; grind))))) rfl
                · refine zi_iconst d_md_breaksBan_65 ?_
                  refine zr_goto 70 d_md_breaksBan_66 (by decide) ?_
                  refine zi_istore_n d_md_breaksBan_70 (by decide) rfl ?_
                  refine zi_iinc d_md_breaksBan_71 (by decide) rfl rfl ?_
                  refine zr_goto 14 d_md_breaksBan_74 (by decide) ?_
                  exact zE4 hkt (by refine ⟨?_, ?_, ?_, ?_, ?_, trivial⟩ <;> first | exact Or.inl rfl | exact Or.inr rfl | exact Or.inr (congrArg vi (by refine (flg2 (fun g => ?_) (fun g => ?_)).symm; (first | rfl | exact absurd h31 g); (first | exact absurd g h31 | (clear hk hkt; unfold b2i mbanP; grind))))) rfl
            · refine zr_aload_n d_md_breaksBan_40 rfl ?_
              refine zi_iload_n d_md_breaksBan_41 rfl ?_
              refine zi_iload_n d_md_breaksBan_42 rfl ?_
              refine zi_iconst d_md_breaksBan_43 ?_
              refine c_md_breaksBan_44 rfl rfl (md_isBanned C.z38 ⟨by omega, by omega⟩ ⟨by omega, by omega⟩ (Or.inl rfl)) ?_
              show zV _ _ _ _ _ (vi _ :: _) _ _ _
              rw [show (2 * (39 * (t : Int) + (i : Int)) + 0).toNat = 2 * (39 * t + i) by omega]
              refine zi_if_ne 65 d_md_breaksBan_47 (by decide) (hA _ _) (fun h47 => ?_) (fun h47 => ?_)
              · refine zi_iconst d_md_breaksBan_65 ?_
                refine zr_goto 70 d_md_breaksBan_66 (by decide) ?_
                refine zi_istore_n d_md_breaksBan_70 (by decide) rfl ?_
                refine zi_iinc d_md_breaksBan_71 (by decide) rfl rfl ?_
                refine zr_goto 14 d_md_breaksBan_74 (by decide) ?_
                exact zE4 hkt (by refine ⟨?_, ?_, ?_, ?_, ?_, trivial⟩ <;> first | exact Or.inl rfl | exact Or.inr rfl | exact Or.inr (congrArg vi (by refine (flg2 (fun g => ?_) (fun g => ?_)).symm; (first | rfl | exact absurd h31 g); (first | exact absurd g h31 | (clear hk hkt; unfold b2i mbanP; grind))))) rfl
              · refine zi_iload d_md_breaksBan_50 rfl ?_
                refine zi_if_ne 69 d_md_breaksBan_52 (by decide) (veM_in _ _) (fun h52 => ?_) (fun h52 => ?_)
                · refine zi_iconst d_md_breaksBan_69 ?_
                  refine zi_istore_n d_md_breaksBan_70 (by decide) rfl ?_
                  refine zi_iinc d_md_breaksBan_71 (by decide) rfl rfl ?_
                  refine zr_goto 14 d_md_breaksBan_74 (by decide) ?_
                  exact zE4 hkt (by refine ⟨?_, ?_, ?_, ?_, ?_, trivial⟩ <;> first | exact Or.inl rfl | exact Or.inr rfl | exact Or.inr (congrArg vi (by refine (flg2 (fun g => ?_) (fun g => ?_)).symm; (first | rfl | exact absurd h31 g); (first | exact absurd g h31 | (clear hk hkt; unfold b2i mbanP; grind))))) rfl
                · refine zr_aload_n d_md_breaksBan_55 rfl ?_
                  refine zi_iload_n d_md_breaksBan_56 rfl ?_
                  refine zi_iload_n d_md_breaksBan_57 rfl ?_
                  refine zi_iconst d_md_breaksBan_58 ?_
                  refine c_md_breaksBan_59 rfl rfl (md_isBanned C.z38 ⟨by omega, by omega⟩ ⟨by omega, by omega⟩ (Or.inr rfl)) ?_
                  show zV _ _ _ _ _ (vi _ :: _) _ _ _
                  rw [show (2 * (39 * (t : Int) + (i : Int)) + 1).toNat = 2 * (39 * t + i) + 1 by omega]
                  refine zi_if_eq 69 d_md_breaksBan_62 (by decide) (hA _ _) (fun h62 => ?_) (fun h62 => ?_)
                  · refine zi_iconst d_md_breaksBan_69 ?_
                    refine zi_istore_n d_md_breaksBan_70 (by decide) rfl ?_
                    refine zi_iinc d_md_breaksBan_71 (by decide) rfl rfl ?_
                    refine zr_goto 14 d_md_breaksBan_74 (by decide) ?_
                    exact zE4 hkt (by refine ⟨?_, ?_, ?_, ?_, ?_, trivial⟩ <;> first | exact Or.inl rfl | exact Or.inr rfl | exact Or.inr (congrArg vi (by refine (flg2 (fun g => ?_) (fun g => ?_)).symm; (first | rfl | exact absurd h31 g); (first | exact absurd g h31 | (clear hk hkt; unfold b2i mbanP; grind))))) rfl
                  · refine zi_iconst d_md_breaksBan_65 ?_
                    refine zr_goto 70 d_md_breaksBan_66 (by decide) ?_
                    refine zi_istore_n d_md_breaksBan_70 (by decide) rfl ?_
                    refine zi_iinc d_md_breaksBan_71 (by decide) rfl rfl ?_
                    refine zr_goto 14 d_md_breaksBan_74 (by decide) ?_
                    exact zE4 hkt (by refine ⟨?_, ?_, ?_, ?_, ?_, trivial⟩ <;> first | exact Or.inl rfl | exact Or.inr rfl | exact Or.inr (congrArg vi (by refine (flg2 (fun g => ?_) (fun g => ?_)).symm; (first | rfl | exact absurd h31 g); (first | exact absurd g h31 | (clear hk hkt; unfold b2i mbanP; grind))))) rfl
      · refine zi_iload_n d_md_breaksBan_14 rfl ?_
        refine zr_aload_n d_md_breaksBan_15 rfl ?_
        refine zi_getiE (j := 1) (x := (n : Int)) d_md_breaksBan_16 zC8 fl_md_7 (by decide) rfl rfl (hn) ?_
        refine zi_icmp_ge 77 d_md_breaksBan_19 (by decide) (by first | assumption | exact ⟨by omega, by omega⟩) (by first | assumption | exact ⟨by omega, by omega⟩) (fun h19 => ?_) (fun h19 => ?_)
        · refine zi_iinc d_md_breaksBan_77 (by decide) rfl rfl ?_
          refine zr_goto 4 d_md_breaksBan_80 (by decide) ?_
          exact zE4 hk (by refine ⟨?_, ?_, ?_, ?_, ?_, trivial⟩ <;> first | exact Or.inl rfl | exact Or.inr rfl) rfl
        · exact absurd h19 (by omega)
  · refine zi_iload_n d_md_breaksBan_4 rfl ?_
    refine zr_aload_n d_md_breaksBan_5 rfl ?_
    refine zi_getiE (j := 12) (x := (R : Int)) d_md_breaksBan_6 zC8 fl_md_94 (by decide) rfl rfl (hR) ?_
    refine zi_icmp_ge 83 d_md_breaksBan_9 (by decide) (by first | assumption | exact ⟨by omega, by omega⟩) (by first | assumption | exact ⟨by omega, by omega⟩) (fun h9 => ?_) (fun h9 => ?_)
    · refine zi_iload_n d_md_breaksBan_83 rfl ?_
      exact zk_zret rfl d_md_breaksBan_84 (Nat.zero_le _) (Nat.zero_le _) (b2i_0 _) rfl rfl
    · exact absurd h9 (by omega)
theorem md_breaksPair {l : Launch} {d : Nat} {τ : tS} {n R p f e : Nat} (C : Mo τ n R p f e) : zF l (d + 2) M_md_breaksPair [.ref 37] (τ) (some (vi (b2i (anyN (fun r => anyN (mpairP τ r) R) p)))) (τ) := by
  refine zMet_of (ls := [.ref 37, .null, .null, .null]) pn_md rfl (by simp [vi, Value.category]) rfl rfl ?_
  have hA := C.A
  have hn := C.n
  have hn4 := C.n4
  have hn20 := C.n20
  have hR := C.R
  have hR38 := C.R38
  have hp6 := C.p6
  refine zi_iconst d_md_breaksPair_0 ?_
  refine zi_istore_n d_md_breaksPair_1 (by decide) rfl ?_
  refine zi_iconst d_md_breaksPair_2 ?_
  refine zi_istore_n d_md_breaksPair_3 (by decide) rfl ?_
  have key := zup (P := fun (i : Nat) => zV l (d + 2) M_md_breaksPair 4 [.ref 37, vi (b2i (anyN (fun r => anyN (mpairP τ r) R) i)), vi (i : Int), .null] [] τ (0, 0) (.inl (some (vi (b2i (anyN (fun r => anyN (mpairP τ r) R) p)))), (SH, zq τ), 0, 0)) p ?_ ?_ 0 (by omega)
  · exact zE4 key (by refine ⟨?_, ?_, ?_, ?_, trivial⟩ <;> first | exact Or.inl rfl | exact Or.inr rfl) rfl
  · intro i hi hk
    refine zi_iload_n d_md_breaksPair_4 rfl ?_
    refine zr_aload_n d_md_breaksPair_5 rfl ?_
    refine zi_getiE (j := 4) (x := (p : Int)) d_md_breaksPair_6 zC8 fl_md_107 (by decide) rfl rfl (C.p) ?_
    refine zi_icmp_ge 74 d_md_breaksPair_9 (by decide) (by first | assumption | exact ⟨by omega, by omega⟩) (by first | assumption | exact ⟨by omega, by omega⟩) (fun h9 => ?_) (fun h9 => ?_)
    · exact absurd h9 (by omega)
    · refine zi_iconst d_md_breaksPair_12 ?_
      refine zi_istore_n d_md_breaksPair_13 (by decide) rfl ?_
      have inn := zup (P := fun (t : Nat) => zV l (d + 2) M_md_breaksPair 14 [.ref 37, vi (b2i (anyN (fun r => anyN (mpairP τ r) R) i || anyN (mpairP τ i) t)), vi (i : Int), vi (t : Int)] [] τ (0, 0) (.inl (some (vi (b2i (anyN (fun r => anyN (mpairP τ r) R) p)))), (SH, zq τ), 0, 0)) R ?_ ?_ 0 (by omega)
      · exact zE4 inn (by refine ⟨?_, ?_, ?_, ?_, trivial⟩ <;> first | exact Or.inl rfl | exact Or.inr rfl | exact Or.inr (congrArg vi (by rw [anyN, Bool.or_false]))) rfl
      · intro t ht hkt
        refine zi_iload_n d_md_breaksPair_14 rfl ?_
        refine zr_aload_n d_md_breaksPair_15 rfl ?_
        refine zi_getiE (j := 12) (x := (R : Int)) d_md_breaksPair_16 zC8 fl_md_94 (by decide) rfl rfl (hR) ?_
        refine zi_icmp_ge 68 d_md_breaksPair_19 (by decide) (by first | assumption | exact ⟨by omega, by omega⟩) (by first | assumption | exact ⟨by omega, by omega⟩) (fun h19 => ?_) (fun h19 => ?_)
        · exact absurd h19 (by omega)
        · refine zi_iload_n d_md_breaksPair_22 rfl ?_
          refine zi_if_ne 56 d_md_breaksPair_23 (by decide) (b2i_in _) (fun h23 => ?_) (fun h23 => ?_)
          · refine zi_iconst d_md_breaksPair_56 ?_
            refine zr_goto 61 d_md_breaksPair_57 (by decide) ?_
            refine zi_istore_n d_md_breaksPair_61 (by decide) rfl ?_
            refine zi_iinc d_md_breaksPair_62 (by decide) rfl rfl ?_
            refine zr_goto 14 d_md_breaksPair_65 (by decide) ?_
            exact zE4 hkt (by refine ⟨?_, ?_, ?_, ?_, trivial⟩ <;> first | exact Or.inl rfl | exact Or.inr rfl | exact Or.inr (congrArg vi (by refine (flg2 (fun g => ?_) (fun g => ?_)).symm; (first | rfl | exact absurd h23 g); (first | exact absurd g h23 | (clear hk hkt; unfold b2i mpairP; grind))))) rfl
          · refine zr_aload_n d_md_breaksPair_26 rfl ?_
            refine zr_aload_n d_md_breaksPair_27 rfl ?_
            refine zi_getr (j := 5) d_md_breaksPair_28 zC8 fl_md_17 (by decide) rfl rfl ?_
            refine zi_iload_n d_md_breaksPair_31 rfl ?_
            have b1 := C.pr i hi
            refine zi_ialdE (x := τ 39 i) d_md_breaksPair_32 rfl (by decide) (by omega) (by omega) (by rw [Int.toNat_natCast]) ?_
            refine zi_iload_n d_md_breaksPair_33 rfl ?_
            refine c_md_breaksPair_34 rfl rfl (md_venueOf hA ⟨by omega, by omega⟩ ⟨by omega, by omega⟩) ?_
            refine zi_iconst d_md_breaksPair_37 ?_
            refine zi_icmp_ne 60 d_md_breaksPair_38 (by decide) (veM_in _ _) ⟨by decide, by decide⟩ (fun h38 => ?_) (fun h38 => ?_)
            · refine zi_iconst d_md_breaksPair_60 ?_
              refine zi_istore_n d_md_breaksPair_61 (by decide) rfl ?_
              refine zi_iinc d_md_breaksPair_62 (by decide) rfl rfl ?_
              refine zr_goto 14 d_md_breaksPair_65 (by decide) ?_
              exact zE4 hkt (by refine ⟨?_, ?_, ?_, ?_, trivial⟩ <;> first | exact Or.inl rfl | exact Or.inr rfl | exact Or.inr (congrArg vi (by refine (flg2 (fun g => ?_) (fun g => ?_)).symm; (first | rfl | exact absurd h23 g); (first | exact absurd g h23 | (clear hk hkt; unfold b2i mpairP; grind))))) rfl
            · refine zr_aload_n d_md_breaksPair_41 rfl ?_
              refine zr_aload_n d_md_breaksPair_42 rfl ?_
              refine zi_getr (j := 6) d_md_breaksPair_43 zC8 fl_md_21 (by decide) rfl rfl ?_
              refine zi_iload_n d_md_breaksPair_46 rfl ?_
              refine zi_ialdE (x := τ 40 i) d_md_breaksPair_47 rfl (by decide) (by omega) (by omega) (by rw [Int.toNat_natCast]) ?_
              refine zi_iload_n d_md_breaksPair_48 rfl ?_
              refine c_md_breaksPair_49 rfl rfl (md_venueOf hA ⟨by omega, by omega⟩ ⟨by omega, by omega⟩) ?_
              refine zi_iconst d_md_breaksPair_52 ?_
              refine zi_icmp_ne 60 d_md_breaksPair_53 (by decide) (veM_in _ _) ⟨by decide, by decide⟩ (fun h53 => ?_) (fun h53 => ?_)
              · refine zi_iconst d_md_breaksPair_60 ?_
                refine zi_istore_n d_md_breaksPair_61 (by decide) rfl ?_
                refine zi_iinc d_md_breaksPair_62 (by decide) rfl rfl ?_
                refine zr_goto 14 d_md_breaksPair_65 (by decide) ?_
                exact zE4 hkt (by refine ⟨?_, ?_, ?_, ?_, trivial⟩ <;> first | exact Or.inl rfl | exact Or.inr rfl | exact Or.inr (congrArg vi (by refine (flg2 (fun g => ?_) (fun g => ?_)).symm; (first | rfl | exact absurd h23 g); (first | exact absurd g h23 | (clear hk hkt; unfold b2i mpairP; grind))))) rfl
              · refine zi_iconst d_md_breaksPair_56 ?_
                refine zr_goto 61 d_md_breaksPair_57 (by decide) ?_
                refine zi_istore_n d_md_breaksPair_61 (by decide) rfl ?_
                refine zi_iinc d_md_breaksPair_62 (by decide) rfl rfl ?_
                refine zr_goto 14 d_md_breaksPair_65 (by decide) ?_
                exact zE4 hkt (by refine ⟨?_, ?_, ?_, ?_, trivial⟩ <;> first | exact Or.inl rfl | exact Or.inr rfl | exact Or.inr (congrArg vi (by refine (flg2 (fun g => ?_) (fun g => ?_)).symm; (first | rfl | exact absurd h23 g); (first | exact absurd g h23 | (clear hk hkt; unfold b2i mpairP; grind))))) rfl
      · refine zi_iload_n d_md_breaksPair_14 rfl ?_
        refine zr_aload_n d_md_breaksPair_15 rfl ?_
        refine zi_getiE (j := 12) (x := (R : Int)) d_md_breaksPair_16 zC8 fl_md_94 (by decide) rfl rfl (hR) ?_
        refine zi_icmp_ge 68 d_md_breaksPair_19 (by decide) (by first | assumption | exact ⟨by omega, by omega⟩) (by first | assumption | exact ⟨by omega, by omega⟩) (fun h19 => ?_) (fun h19 => ?_)
        · refine zi_iinc d_md_breaksPair_68 (by decide) rfl rfl ?_
          refine zr_goto 4 d_md_breaksPair_71 (by decide) ?_
          exact zE4 hk (by refine ⟨?_, ?_, ?_, ?_, trivial⟩ <;> first | exact Or.inl rfl | exact Or.inr rfl) rfl
        · exact absurd h19 (by omega)
  · refine zi_iload_n d_md_breaksPair_4 rfl ?_
    refine zr_aload_n d_md_breaksPair_5 rfl ?_
    refine zi_getiE (j := 4) (x := (p : Int)) d_md_breaksPair_6 zC8 fl_md_107 (by decide) rfl rfl (C.p) ?_
    refine zi_icmp_ge 74 d_md_breaksPair_9 (by decide) (by first | assumption | exact ⟨by omega, by omega⟩) (by first | assumption | exact ⟨by omega, by omega⟩) (fun h9 => ?_) (fun h9 => ?_)
    · refine zi_iload_n d_md_breaksPair_74 rfl ?_
      exact zk_zret rfl d_md_breaksPair_75 (Nat.zero_le _) (Nat.zero_le _) (b2i_0 _) rfl rfl
    · exact absurd h9 (by omega)
theorem md_breaksFixed {l : Launch} {d : Nat} {τ : tS} {n R p f e : Nat} (C : Mo τ n R p f e) : zF l (d + 2) M_md_breaksFixed [.ref 37] (τ) (some (vi (b2i (anyN (mfixP τ) f)))) (τ) := by
  refine zMet_of (ls := [.ref 37, .null, .null, .null]) pn_md rfl (by simp [vi, Value.category]) rfl rfl ?_
  have hA := C.A
  have hn := C.n
  have hn4 := C.n4
  have hn20 := C.n20
  have hR := C.R
  have hR38 := C.R38
  have hf6 := C.f6
  refine zi_iconst d_md_breaksFixed_0 ?_
  refine zi_istore_n d_md_breaksFixed_1 (by decide) rfl ?_
  refine zi_iconst d_md_breaksFixed_2 ?_
  refine zi_istore_n d_md_breaksFixed_3 (by decide) rfl ?_
  have key := zup (P := fun (i : Nat) => zV l (d + 2) M_md_breaksFixed 4 [.ref 37, vi (b2i (anyN (mfixP τ) i)), vi (i : Int), .null] [] (τ) (0, 0) (.inl (some (vi (b2i (anyN (mfixP τ) f)))), (SH, zq τ), 0, 0)) (f) ?_ ?_ 0 (by omega)
  · exact zE4 key (by refine ⟨?_, ?_, ?_, ?_, trivial⟩ <;> first | exact Or.inl rfl | exact Or.inr rfl) rfl
  · intro i hi hk
    refine zi_iload_n d_md_breaksFixed_4 rfl ?_
    refine zr_aload_n d_md_breaksFixed_5 rfl ?_
    refine zi_getiE (j := 7) (x := (f : Int)) d_md_breaksFixed_6 zC8 fl_md_110 (by decide) rfl rfl (C.f) ?_
    refine zi_icmp_ge 83 d_md_breaksFixed_9 (by decide) (by first | assumption | exact ⟨by omega, by omega⟩) (by first | assumption | exact ⟨by omega, by omega⟩) (fun h9 => ?_) (fun h9 => ?_)
    · exact absurd h9 (by omega)
    · refine zr_aload_n d_md_breaksFixed_12 rfl ?_
      refine zi_getr (j := 10) d_md_breaksFixed_13 zC8 fl_md_30 (by decide) rfl rfl ?_
      refine zi_iload_n d_md_breaksFixed_16 rfl ?_
      have b1 := C.fx i hi
      refine zi_ialdE (x := τ 43 i) d_md_breaksFixed_17 rfl (by decide) (by omega) (by omega) (by rw [Int.toNat_natCast]) ?_
      refine zi_istore_n d_md_breaksFixed_18 (by decide) rfl ?_
      refine zi_iload_n d_md_breaksFixed_19 rfl ?_
      refine zi_if_ne 71 d_md_breaksFixed_20 (by decide) (b2i_in _) (fun h20 => ?_) (fun h20 => ?_)
      · refine zi_iconst d_md_breaksFixed_71 ?_
        refine zr_goto 76 d_md_breaksFixed_72 (by decide) ?_
        refine zi_istore_n d_md_breaksFixed_76 (by decide) rfl ?_
        refine zi_iinc d_md_breaksFixed_77 (by decide) rfl rfl ?_
        refine zr_goto 4 d_md_breaksFixed_80 (by decide) ?_
        exact zE4 hk (by refine ⟨?_, ?_, ?_, ?_, trivial⟩ <;> first | exact Or.inl rfl | exact Or.inr rfl | exact Or.inr (congrArg vi (by refine (flg3 (fun g => ?_) (fun g => ?_)).symm; (first | rfl | exact absurd h20 g); (first | exact absurd g h20 | (clear hk; unfold b2i mfixP; grind))))) rfl
      · refine zi_iload_n d_md_breaksFixed_23 rfl ?_
        refine zr_aload_n d_md_breaksFixed_24 rfl ?_
        refine zi_getiE (j := 12) (x := τ 37 12) d_md_breaksFixed_25 zC8 fl_md_94 (by decide) rfl rfl (rfl) ?_
        refine zi_icmp_ge 71 d_md_breaksFixed_28 (by decide) (hA _ _) (hA _ _) (fun h28 => ?_) (fun h28 => ?_)
        · refine zi_iconst d_md_breaksFixed_71 ?_
          refine zr_goto 76 d_md_breaksFixed_72 (by decide) ?_
          refine zi_istore_n d_md_breaksFixed_76 (by decide) rfl ?_
          refine zi_iinc d_md_breaksFixed_77 (by decide) rfl rfl ?_
          refine zr_goto 4 d_md_breaksFixed_80 (by decide) ?_
          exact zE4 hk (by refine ⟨?_, ?_, ?_, ?_, trivial⟩ <;> first | exact Or.inl rfl | exact Or.inr rfl | exact Or.inr (congrArg vi (by refine (flg3 (fun g => ?_) (fun g => ?_)).symm; (first | rfl | exact absurd h20 g); (first | exact absurd g h20 | (clear hk; unfold b2i mfixP; grind))))) rfl
        · refine zr_aload_n d_md_breaksFixed_31 rfl ?_
          refine zi_getr (j := 13) d_md_breaksFixed_32 zC8 fl_md_33 (by decide) rfl rfl ?_
          refine zi_bipush d_md_breaksFixed_35 (by decide) ?_
          refine zi_iload_n d_md_breaksFixed_37 rfl ?_
          refine zi_imul d_md_breaksFixed_38 ?_
          refine zr_aload_n d_md_breaksFixed_39 rfl ?_
          refine zi_getr (j := 8) d_md_breaksFixed_40 zC8 fl_md_24 (by decide) rfl rfl ?_
          refine zi_iload_n d_md_breaksFixed_43 rfl ?_
          refine zi_ialdE (x := τ 41 i) d_md_breaksFixed_44 rfl (by decide) (by omega) (by omega) (by rw [Int.toNat_natCast]) ?_
          refine zi_iadd d_md_breaksFixed_45 ?_
          refine zi_iald d_md_breaksFixed_46 rfl (by decide) (by omega) (by omega) ?_
          refine zr_aload_n d_md_breaksFixed_47 rfl ?_
          refine zi_getr (j := 9) d_md_breaksFixed_48 zC8 fl_md_27 (by decide) rfl rfl ?_
          refine zi_iload_n d_md_breaksFixed_51 rfl ?_
          refine zi_ialdE (x := τ 42 i) d_md_breaksFixed_52 rfl (by decide) (by omega) (by omega) (by rw [Int.toNat_natCast]) ?_
          refine zi_icmp_ne 71 d_md_breaksFixed_53 (by decide) (hA _ _) (hA _ _) (fun h53 => ?_) (fun h53 => ?_)
          · refine zi_iconst d_md_breaksFixed_71 ?_
            refine zr_goto 76 d_md_breaksFixed_72 (by decide) ?_
            refine zi_istore_n d_md_breaksFixed_76 (by decide) rfl ?_
            refine zi_iinc d_md_breaksFixed_77 (by decide) rfl rfl ?_
            refine zr_goto 4 d_md_breaksFixed_80 (by decide) ?_
            exact zE4 hk (by refine ⟨?_, ?_, ?_, ?_, trivial⟩ <;> first | exact Or.inl rfl | exact Or.inr rfl | exact Or.inr (congrArg vi (by refine (flg3 (fun g => ?_) (fun g => ?_)).symm; (first | rfl | exact absurd h20 g); (first | exact absurd g h20 | (clear hk; unfold b2i mfixP; grind))))) rfl
          · refine zr_aload_n d_md_breaksFixed_56 rfl ?_
            refine zr_aload_n d_md_breaksFixed_57 rfl ?_
            refine zi_getr (j := 8) d_md_breaksFixed_58 zC8 fl_md_24 (by decide) rfl rfl ?_
            refine zi_iload_n d_md_breaksFixed_61 rfl ?_
            refine zi_ialdE (x := τ 41 i) d_md_breaksFixed_62 rfl (by decide) (by omega) (by omega) (by rw [Int.toNat_natCast]) ?_
            refine zi_iload_n d_md_breaksFixed_63 rfl ?_
            refine c_md_breaksFixed_64 rfl rfl (md_venueOf hA ⟨by omega, by omega⟩ ⟨by omega, by omega⟩) ?_
            refine zi_iconst d_md_breaksFixed_67 ?_
            refine zi_icmp_eq 75 d_md_breaksFixed_68 (by decide) (veM_in _ _) ⟨by decide, by decide⟩ (fun h68 => ?_) (fun h68 => ?_)
            · refine zi_iconst d_md_breaksFixed_75 ?_
              refine zi_istore_n d_md_breaksFixed_76 (by decide) rfl ?_
              refine zi_iinc d_md_breaksFixed_77 (by decide) rfl rfl ?_
              refine zr_goto 4 d_md_breaksFixed_80 (by decide) ?_
              exact zE4 hk (by refine ⟨?_, ?_, ?_, ?_, trivial⟩ <;> first | exact Or.inl rfl | exact Or.inr rfl | exact Or.inr (congrArg vi (by refine (flg3 (fun g => ?_) (fun g => ?_)).symm; (first | rfl | exact absurd h20 g); (first | exact absurd g h20 | (clear hk; unfold b2i mfixP; grind))))) rfl
            · refine zi_iconst d_md_breaksFixed_71 ?_
              refine zr_goto 76 d_md_breaksFixed_72 (by decide) ?_
              refine zi_istore_n d_md_breaksFixed_76 (by decide) rfl ?_
              refine zi_iinc d_md_breaksFixed_77 (by decide) rfl rfl ?_
              refine zr_goto 4 d_md_breaksFixed_80 (by decide) ?_
              exact zE4 hk (by refine ⟨?_, ?_, ?_, ?_, trivial⟩ <;> first | exact Or.inl rfl | exact Or.inr rfl | exact Or.inr (congrArg vi (by refine (flg3 (fun g => ?_) (fun g => ?_)).symm; (first | rfl | exact absurd h20 g); (first | exact absurd g h20 | (clear hk; unfold b2i mfixP; grind))))) rfl
  · refine zi_iload_n d_md_breaksFixed_4 rfl ?_
    refine zr_aload_n d_md_breaksFixed_5 rfl ?_
    refine zi_getiE (j := 7) (x := (f : Int)) d_md_breaksFixed_6 zC8 fl_md_110 (by decide) rfl rfl (C.f) ?_
    refine zi_icmp_ge 83 d_md_breaksFixed_9 (by decide) (by first | assumption | exact ⟨by omega, by omega⟩) (by first | assumption | exact ⟨by omega, by omega⟩) (fun h9 => ?_) (fun h9 => ?_)
    · refine zi_iload_n d_md_breaksFixed_83 rfl ?_
      exact zk_zret rfl d_md_breaksFixed_84 (Nat.zero_le _) (Nat.zero_le _) (b2i_0 _) rfl rfl
    · exact absurd h9 (by omega)
