/-! the reference: cap, verify, exchange, swapRounds (written by wip/gen/t27.py) -/
theorem md_breaksCap {l : Launch} {d : Nat} {τ : tS} {n R p f e : Nat} (C : Mo τ n R p f e) : zF l (d + 2) M_md_breaksCap [.ref 37] (τ) (some (vi (b2i (anyN (fun u => anyN (mcapP τ u) R) n)))) (τ) := by
  refine zMet_of (ls := [.ref 37, .null, .null, .null, .null]) pn_md rfl (by simp [vi, Value.category]) rfl rfl ?_
  have hA := C.A
  have hn := C.n
  have hn4 := C.n4
  have hn20 := C.n20
  have hR := C.R
  have hR38 := C.R38
  refine zi_iconst d_md_breaksCap_0 ?_
  refine zi_istore_n d_md_breaksCap_1 (by decide) rfl ?_
  refine zi_iconst d_md_breaksCap_2 ?_
  refine zi_istore_n d_md_breaksCap_3 (by decide) rfl ?_
  have key := zup (P := fun (i : Nat) => zV l (d + 2) M_md_breaksCap 4 [.ref 37, vi (b2i (anyN (fun u => anyN (mcapP τ u) R) i)), vi (i : Int), .null, .null] [] τ (0, 0) (.inl (some (vi (b2i (anyN (fun u => anyN (mcapP τ u) R) n)))), (SH, zq τ), 0, 0)) n ?_ ?_ 0 (by omega)
  · exact zE4 key (by refine ⟨?_, ?_, ?_, ?_, ?_, trivial⟩ <;> first | exact Or.inl rfl | exact Or.inr rfl) rfl
  · intro i hi hk
    refine zi_iload_n d_md_breaksCap_4 rfl ?_
    refine zr_aload_n d_md_breaksCap_5 rfl ?_
    refine zi_getiE (j := 1) (x := (n : Int)) d_md_breaksCap_6 zC8 fl_md_7 (by decide) rfl rfl (hn) ?_
    refine zi_icmp_ge 81 d_md_breaksCap_9 (by decide) (by first | assumption | exact ⟨by omega, by omega⟩) (by first | assumption | exact ⟨by omega, by omega⟩) (fun h9 => ?_) (fun h9 => ?_)
    · exact absurd h9 (by omega)
    · refine zi_iconst d_md_breaksCap_12 ?_
      refine zi_istore_n d_md_breaksCap_13 (by decide) rfl ?_
      refine zi_iconst d_md_breaksCap_14 ?_
      refine zi_istore d_md_breaksCap_15 (by decide) rfl ?_
      have inn := zup (P := fun (t : Nat) => zV l (d + 2) M_md_breaksCap 17 [.ref 37, vi (b2i (anyN (fun u => anyN (mcapP τ u) R) i || anyN (mcapP τ i) t)), vi (i : Int), vi ((awr (fun k : Nat => veM τ (20 * k + i)) t : Nat) : Int), vi (t : Int)] [] τ (0, 0) (.inl (some (vi (b2i (anyN (fun u => anyN (mcapP τ u) R) n)))), (SH, zq τ), 0, 0)) R ?_ ?_ 0 (by omega)
      · exact zE4 inn (by refine ⟨?_, ?_, ?_, ?_, ?_, trivial⟩ <;> first | exact Or.inl rfl | exact Or.inr rfl | exact Or.inr (congrArg vi (by rw [anyN, Bool.or_false]))) rfl
      · intro t ht hkt
        have haw := awr_le (fun k : Nat => veM τ (20 * k + i)) t
        have haw2 := awr_le (fun k : Nat => veM τ (20 * k + i)) (t + 1)
        refine zi_iload d_md_breaksCap_17 rfl ?_
        refine zr_aload_n d_md_breaksCap_19 rfl ?_
        refine zi_getiE (j := 12) (x := (R : Int)) d_md_breaksCap_20 zC8 fl_md_94 (by decide) rfl rfl (hR) ?_
        refine zi_icmp_ge 75 d_md_breaksCap_23 (by decide) (by first | assumption | exact ⟨by omega, by omega⟩) (by first | assumption | exact ⟨by omega, by omega⟩) (fun h23 => ?_) (fun h23 => ?_)
        · exact absurd h23 (by omega)
        · refine zr_aload_n d_md_breaksCap_26 rfl ?_
          refine zi_iload_n d_md_breaksCap_27 rfl ?_
          refine zi_iload d_md_breaksCap_28 rfl ?_
          refine c_md_breaksCap_30 rfl rfl (md_venueOf hA ⟨by omega, by omega⟩ ⟨by omega, by omega⟩) ?_
          show zV _ _ _ _ _ (vi _ :: _) _ _ _
          rw [ixm]
          refine zi_if_ne 42 d_md_breaksCap_33 (by decide) (veM_in _ _) (fun h33 => ?_) (fun h33 => ?_)
          · refine zi_iconst d_md_breaksCap_42 ?_
            refine zE5 (st := vi ((awr (fun k : Nat => veM τ (20 * k + i)) (t + 1) : Nat) : Int) :: []) ?_ (by first | (rw [awr, if_pos h33]; rfl) | (rw [awr, if_neg h33]; rfl))
            refine zi_istore_n d_md_breaksCap_43 (by decide) rfl ?_
            refine zi_iload_n d_md_breaksCap_44 rfl ?_
            refine zi_if_ne 63 d_md_breaksCap_45 (by decide) (b2i_in _) (fun h45 => ?_) (fun h45 => ?_)
            · refine zi_iconst d_md_breaksCap_63 ?_
              refine zr_goto 68 d_md_breaksCap_64 (by decide) ?_
              refine zi_istore_n d_md_breaksCap_68 (by decide) rfl ?_
              refine zi_iinc d_md_breaksCap_69 (by decide) rfl rfl ?_
              refine zr_goto 17 d_md_breaksCap_72 (by decide) ?_
              exact zE4 hkt (by refine ⟨?_, ?_, ?_, ?_, ?_, trivial⟩ <;> first | exact Or.inl rfl | exact Or.inr rfl | exact Or.inr (congrArg vi (by refine (flg2 (fun g => ?_) (fun g => ?_)).symm; (first | rfl | exact absurd h45 g); (first | exact absurd g h45 | (clear hk hkt; unfold b2i mcapP; grind))))) rfl
            · refine zr_aload_n d_md_breaksCap_48 rfl ?_
              refine zi_getiE (j := 11) (x := τ 37 11) d_md_breaksCap_49 zC8 fl_md_113 (by decide) rfl rfl (rfl) ?_
              refine zi_if_le 67 d_md_breaksCap_52 (by decide) (hA _ _) (fun h52 => ?_) (fun h52 => ?_)
              · refine zi_iconst d_md_breaksCap_67 ?_
                refine zi_istore_n d_md_breaksCap_68 (by decide) rfl ?_
                refine zi_iinc d_md_breaksCap_69 (by decide) rfl rfl ?_
                refine zr_goto 17 d_md_breaksCap_72 (by decide) ?_
                exact zE4 hkt (by refine ⟨?_, ?_, ?_, ?_, ?_, trivial⟩ <;> first | exact Or.inl rfl | exact Or.inr rfl | exact Or.inr (congrArg vi (by refine (flg2 (fun g => ?_) (fun g => ?_)).symm; (first | rfl | exact absurd h45 g); (first | exact absurd g h45 | (clear hk hkt; unfold b2i mcapP; grind))))) rfl
              · refine zi_iload_n d_md_breaksCap_55 rfl ?_
                refine zr_aload_n d_md_breaksCap_56 rfl ?_
                refine zi_getiE (j := 11) (x := τ 37 11) d_md_breaksCap_57 zC8 fl_md_113 (by decide) rfl rfl (rfl) ?_
                refine zi_icmp_le 67 d_md_breaksCap_60 (by decide) ⟨by omega, by omega⟩ (hA _ _) (fun h60 => ?_) (fun h60 => ?_)
                · refine zi_iconst d_md_breaksCap_67 ?_
                  refine zi_istore_n d_md_breaksCap_68 (by decide) rfl ?_
                  refine zi_iinc d_md_breaksCap_69 (by decide) rfl rfl ?_
                  refine zr_goto 17 d_md_breaksCap_72 (by decide) ?_
                  exact zE4 hkt (by refine ⟨?_, ?_, ?_, ?_, ?_, trivial⟩ <;> first | exact Or.inl rfl | exact Or.inr rfl | exact Or.inr (congrArg vi (by refine (flg2 (fun g => ?_) (fun g => ?_)).symm; (first | rfl | exact absurd h45 g); (first | exact absurd g h45 | (clear hk hkt; unfold b2i mcapP; grind))))) rfl
                · refine zi_iconst d_md_breaksCap_63 ?_
                  refine zr_goto 68 d_md_breaksCap_64 (by decide) ?_
                  refine zi_istore_n d_md_breaksCap_68 (by decide) rfl ?_
                  refine zi_iinc d_md_breaksCap_69 (by decide) rfl rfl ?_
                  refine zr_goto 17 d_md_breaksCap_72 (by decide) ?_
                  exact zE4 hkt (by refine ⟨?_, ?_, ?_, ?_, ?_, trivial⟩ <;> first | exact Or.inl rfl | exact Or.inr rfl | exact Or.inr (congrArg vi (by refine (flg2 (fun g => ?_) (fun g => ?_)).symm; (first | rfl | exact absurd h45 g); (first | exact absurd g h45 | (clear hk hkt; unfold b2i mcapP; grind))))) rfl
          · refine zi_iload_n d_md_breaksCap_36 rfl ?_
            refine zi_iconst d_md_breaksCap_37 ?_
            refine zi_iadd d_md_breaksCap_38 ?_
            refine zr_goto 43 d_md_breaksCap_39 (by decide) ?_
            refine zE5 (st := vi ((awr (fun k : Nat => veM τ (20 * k + i)) (t + 1) : Nat) : Int) :: []) ?_ (by first | (rw [awr, if_pos h33]; rfl) | (rw [awr, if_neg h33]; rfl))
            refine zi_istore_n d_md_breaksCap_43 (by decide) rfl ?_
            refine zi_iload_n d_md_breaksCap_44 rfl ?_
            refine zi_if_ne 63 d_md_breaksCap_45 (by decide) (b2i_in _) (fun h45 => ?_) (fun h45 => ?_)
            · refine zi_iconst d_md_breaksCap_63 ?_
              refine zr_goto 68 d_md_breaksCap_64 (by decide) ?_
              refine zi_istore_n d_md_breaksCap_68 (by decide) rfl ?_
              refine zi_iinc d_md_breaksCap_69 (by decide) rfl rfl ?_
              refine zr_goto 17 d_md_breaksCap_72 (by decide) ?_
              exact zE4 hkt (by refine ⟨?_, ?_, ?_, ?_, ?_, trivial⟩ <;> first | exact Or.inl rfl | exact Or.inr rfl | exact Or.inr (congrArg vi (by refine (flg2 (fun g => ?_) (fun g => ?_)).symm; (first | rfl | exact absurd h45 g); (first | exact absurd g h45 | (clear hk hkt; unfold b2i mcapP; grind))))) rfl
            · refine zr_aload_n d_md_breaksCap_48 rfl ?_
              refine zi_getiE (j := 11) (x := τ 37 11) d_md_breaksCap_49 zC8 fl_md_113 (by decide) rfl rfl (rfl) ?_
              refine zi_if_le 67 d_md_breaksCap_52 (by decide) (hA _ _) (fun h52 => ?_) (fun h52 => ?_)
              · refine zi_iconst d_md_breaksCap_67 ?_
                refine zi_istore_n d_md_breaksCap_68 (by decide) rfl ?_
                refine zi_iinc d_md_breaksCap_69 (by decide) rfl rfl ?_
                refine zr_goto 17 d_md_breaksCap_72 (by decide) ?_
                exact zE4 hkt (by refine ⟨?_, ?_, ?_, ?_, ?_, trivial⟩ <;> first | exact Or.inl rfl | exact Or.inr rfl | exact Or.inr (congrArg vi (by refine (flg2 (fun g => ?_) (fun g => ?_)).symm; (first | rfl | exact absurd h45 g); (first | exact absurd g h45 | (clear hk hkt; unfold b2i mcapP; grind))))) rfl
              · refine zi_iload_n d_md_breaksCap_55 rfl ?_
                refine zr_aload_n d_md_breaksCap_56 rfl ?_
                refine zi_getiE (j := 11) (x := τ 37 11) d_md_breaksCap_57 zC8 fl_md_113 (by decide) rfl rfl (rfl) ?_
                refine zi_icmp_le 67 d_md_breaksCap_60 (by decide) ⟨by omega, by omega⟩ (hA _ _) (fun h60 => ?_) (fun h60 => ?_)
                · refine zi_iconst d_md_breaksCap_67 ?_
                  refine zi_istore_n d_md_breaksCap_68 (by decide) rfl ?_
                  refine zi_iinc d_md_breaksCap_69 (by decide) rfl rfl ?_
                  refine zr_goto 17 d_md_breaksCap_72 (by decide) ?_
                  exact zE4 hkt (by refine ⟨?_, ?_, ?_, ?_, ?_, trivial⟩ <;> first | exact Or.inl rfl | exact Or.inr rfl | exact Or.inr (congrArg vi (by refine (flg2 (fun g => ?_) (fun g => ?_)).symm; (first | rfl | exact absurd h45 g); (first | exact absurd g h45 | (clear hk hkt; unfold b2i mcapP; grind))))) rfl
                · refine zi_iconst d_md_breaksCap_63 ?_
                  refine zr_goto 68 d_md_breaksCap_64 (by decide) ?_
                  refine zi_istore_n d_md_breaksCap_68 (by decide) rfl ?_
                  refine zi_iinc d_md_breaksCap_69 (by decide) rfl rfl ?_
                  refine zr_goto 17 d_md_breaksCap_72 (by decide) ?_
                  exact zE4 hkt (by refine ⟨?_, ?_, ?_, ?_, ?_, trivial⟩ <;> first | exact Or.inl rfl | exact Or.inr rfl | exact Or.inr (congrArg vi (by refine (flg2 (fun g => ?_) (fun g => ?_)).symm; (first | rfl | exact absurd h45 g); (first | exact absurd g h45 | (clear hk hkt; unfold b2i mcapP; grind))))) rfl
      · refine zi_iload d_md_breaksCap_17 rfl ?_
        refine zr_aload_n d_md_breaksCap_19 rfl ?_
        refine zi_getiE (j := 12) (x := (R : Int)) d_md_breaksCap_20 zC8 fl_md_94 (by decide) rfl rfl (hR) ?_
        refine zi_icmp_ge 75 d_md_breaksCap_23 (by decide) (by first | assumption | exact ⟨by omega, by omega⟩) (by first | assumption | exact ⟨by omega, by omega⟩) (fun h23 => ?_) (fun h23 => ?_)
        · refine zi_iinc d_md_breaksCap_75 (by decide) rfl rfl ?_
          refine zr_goto 4 d_md_breaksCap_78 (by decide) ?_
          exact zE4 hk (by refine ⟨?_, ?_, ?_, ?_, ?_, trivial⟩ <;> first | exact Or.inl rfl | exact Or.inr rfl) rfl
        · exact absurd h23 (by omega)
  · refine zi_iload_n d_md_breaksCap_4 rfl ?_
    refine zr_aload_n d_md_breaksCap_5 rfl ?_
    refine zi_getiE (j := 1) (x := (n : Int)) d_md_breaksCap_6 zC8 fl_md_7 (by decide) rfl rfl (hn) ?_
    refine zi_icmp_ge 81 d_md_breaksCap_9 (by decide) (by first | assumption | exact ⟨by omega, by omega⟩) (by first | assumption | exact ⟨by omega, by omega⟩) (fun h9 => ?_) (fun h9 => ?_)
    · refine zi_iload_n d_md_breaksCap_81 rfl ?_
      exact zk_zret rfl d_md_breaksCap_82 (Nat.zero_le _) (Nat.zero_le _) (b2i_0 _) rfl rfl
    · exact absurd h9 (by omega)
def mbrokF (τ : tS) (n R p f : Nat) : Int := if R = 0 then 1 else if anyN (fun r => anyN (mbanP τ r) n) R = true then 2 else if anyN (fun i => anyN (mpairP τ i) R) p = true then 3 else if anyN (mfixP τ) f = true then 4 else if anyN (fun t => anyN (mcapP τ t) R) n = true then 5 else 0
theorem md_firstBroken {l : Launch} {d : Nat} {τ : tS} {n R p f e : Nat} (C : Mo τ n R p f e) : zF l (d + 3) M_md_firstBroken [.ref 37] (τ) (some (vi (mbrokF τ n R p f))) (τ) := by
  refine zMet_of (ls := [.ref 37]) pn_md rfl (by simp [vi, Value.category]) rfl rfl ?_
  have hA := C.A
  have hn := C.n
  have hn4 := C.n4
  have hn20 := C.n20
  have hR := C.R
  have hR38 := C.R38
  refine zr_aload_n d_md_firstBroken_0 rfl ?_
  refine zi_getiE (j := 12) (x := (R : Int)) d_md_firstBroken_1 zC8 fl_md_94 (by decide) rfl rfl (hR) ?_
  refine zi_if_ne 11 d_md_firstBroken_4 (by decide) (by first | assumption | exact ⟨by omega, by omega⟩) (fun h4 => ?_) (fun h4 => ?_)
  · refine zr_aload_n d_md_firstBroken_11 rfl ?_
    refine c_md_firstBroken_12 rfl rfl (md_breaksBan C) ?_
    refine zi_if_eq 22 d_md_firstBroken_15 (by decide) (b2i_in _) (fun h15 => ?_) (fun h15 => ?_)
    · refine zr_aload_n d_md_firstBroken_22 rfl ?_
      refine c_md_firstBroken_23 rfl rfl (md_breaksPair C) ?_
      refine zi_if_eq 33 d_md_firstBroken_26 (by decide) (b2i_in _) (fun h26 => ?_) (fun h26 => ?_)
      · refine zr_aload_n d_md_firstBroken_33 rfl ?_
        refine c_md_firstBroken_34 rfl rfl (md_breaksFixed C) ?_
        refine zi_if_eq 44 d_md_firstBroken_37 (by decide) (b2i_in _) (fun h37 => ?_) (fun h37 => ?_)
        · refine zr_aload_n d_md_firstBroken_44 rfl ?_
          refine c_md_firstBroken_45 rfl rfl (md_breaksCap C) ?_
          refine zi_if_eq 55 d_md_firstBroken_48 (by decide) (b2i_in _) (fun h48 => ?_) (fun h48 => ?_)
          · refine zi_iconst d_md_firstBroken_55 ?_
            exact zk_iret rfl d_md_firstBroken_56 (Nat.zero_le _) (Nat.zero_le _) (by unfold mbrokF; (try simp only [b2i] at *); grind) rfl
          · refine zi_iconst d_md_firstBroken_51 ?_
            refine zr_goto 56 d_md_firstBroken_52 (by decide) ?_
            exact zk_iret rfl d_md_firstBroken_56 (Nat.zero_le _) (Nat.zero_le _) (by unfold mbrokF; (try simp only [b2i] at *); grind) rfl
        · refine zi_iconst d_md_firstBroken_40 ?_
          refine zr_goto 56 d_md_firstBroken_41 (by decide) ?_
          exact zk_iret rfl d_md_firstBroken_56 (Nat.zero_le _) (Nat.zero_le _) (by unfold mbrokF; (try simp only [b2i] at *); grind) rfl
      · refine zi_iconst d_md_firstBroken_29 ?_
        refine zr_goto 56 d_md_firstBroken_30 (by decide) ?_
        exact zk_iret rfl d_md_firstBroken_56 (Nat.zero_le _) (Nat.zero_le _) (by unfold mbrokF; (try simp only [b2i] at *); grind) rfl
    · refine zi_iconst d_md_firstBroken_18 ?_
      refine zr_goto 56 d_md_firstBroken_19 (by decide) ?_
      exact zk_iret rfl d_md_firstBroken_56 (Nat.zero_le _) (Nat.zero_le _) (by unfold mbrokF; (try simp only [b2i] at *); grind) rfl
  · refine zi_iconst d_md_firstBroken_7 ?_
    refine zr_goto 56 d_md_firstBroken_8 (by decide) ?_
    exact zk_iret rfl d_md_firstBroken_56 (Nat.zero_le _) (Nat.zero_le _) (by unfold mbrokF; (try simp only [b2i] at *); grind) rfl
theorem mbrok_37 (τ : tS) (x : Int) (n R p f : Nat) : mbrokF (tU τ 37 0 x) n R p f = mbrokF τ n R p f := by
  have h1 : mbanP (tU τ 37 0 x) = mbanP τ := by funext r t; unfold mbanP; simp only [ve_37]; simp [tU]
  have h2 : mpairP (tU τ 37 0 x) = mpairP τ := by funext i r; unfold mpairP; simp only [ve_37]; simp [tU]
  have h3 : mfixP (tU τ 37 0 x) = mfixP τ := by funext i; unfold mfixP; simp only [ve_37]; simp [tU]
  have h4 : mcapP (tU τ 37 0 x) = mcapP τ := by funext t r; unfold mcapP; simp only [ve_37]; simp [tU]
  unfold mbrokF
  rw [h1, h2, h3, h4]
theorem mbrok_in (τ : tS) (n R p f : Nat) : zin (mbrokF τ n R p f) := by
  unfold mbrokF
  repeat' split
  all_goals exact ⟨by decide, by decide⟩
theorem md_verify {l : Launch} {d : Nat} {τ : tS} {n R p f e : Nat} (C : Mo τ n R p f e) : zF l (d + 4) M_md_verify [.ref 37] (τ) (some (vi (mbrokF τ n R p f))) (tU τ 37 0 0) := by
  refine zMet_of (ls := [.ref 37]) pn_md rfl (by simp [vi, Value.category]) rfl rfl ?_
  have hA := C.A
  have hn := C.n
  have hn4 := C.n4
  have hn20 := C.n20
  have hR := C.R
  have hR38 := C.R38
  refine zr_aload_n d_md_verify_0 rfl ?_
  refine zi_iconst d_md_verify_1 ?_
  refine zi_puti (j := 0) d_md_verify_2 zC8 fl_md_87 (by decide) rfl rfl rfl rfl ?_
  refine zr_aload_n d_md_verify_5 rfl ?_
  refine c_md_verify_6 rfl rfl (md_firstBroken (C.th ⟨by decide, by decide⟩)) ?_
  exact zk_iret rfl d_md_verify_9 (Nat.zero_le _) (Nat.zero_le _) (mbrok_37 _ _ _ _ _ _) rfl
def playedGamesP (τ : tS) (j : Nat) : Bool := decide (¬ τ 46 j = 0)
theorem md_playedGames {l : Launch} {d : Nat} {τ : tS} (hA : AllIn τ) : zF l (d + 1) M_md_playedGames [.ref 37] (τ) (some (vi ((cnt (playedGamesP τ) 800 : Nat) : Int))) (τ) := by
  refine zMet_of (ls := [.ref 37, .null, .null]) pn_md rfl (by simp [vi, Value.category]) rfl rfl ?_
  refine zi_iconst d_md_playedGames_0 ?_
  refine zi_istore_n d_md_playedGames_1 (by decide) rfl ?_
  refine zi_iconst d_md_playedGames_2 ?_
  refine zi_istore_n d_md_playedGames_3 (by decide) rfl ?_
  have key := zup (P := fun (i : Nat) => zV l (d + 1) M_md_playedGames 4 [.ref 37, vi ((cnt (playedGamesP τ) i : Nat) : Int), vi (i : Int)] [] (τ) (0, 0) (.inl (some (vi ((cnt (playedGamesP τ) 800 : Nat) : Int))), (SH, zq τ), 0, 0)) (800) ?_ ?_ 0 (by omega)
  · exact zE4 key (by refine ⟨?_, ?_, ?_, trivial⟩ <;> first | exact Or.inl rfl | exact Or.inr rfl) rfl
  · intro i hi hk
    have hcl := cnt_le (playedGamesP τ) i
    refine zi_iload_n d_md_playedGames_4 rfl ?_
    refine zi_sipush d_md_playedGames_5 (by decide) ?_
    refine zi_icmp_ge 34 d_md_playedGames_8 (by decide) (by first | assumption | exact ⟨by omega, by omega⟩) (by first | assumption | exact ⟨by omega, by omega⟩) (fun h8 => ?_) (fun h8 => ?_)
    · exact absurd h8 (by omega)
    · refine zr_aload_n d_md_playedGames_11 rfl ?_
      refine zi_getr (j := 15) d_md_playedGames_12 zC8 fl_md_39 (by decide) rfl rfl ?_
      refine zi_iload_n d_md_playedGames_15 rfl ?_
      refine zi_zaldE (x := τ 46 i) d_md_playedGames_16 rfl (by decide) (by omega) (by omega) (by rw [Int.toNat_natCast]) ?_
      refine zi_if_eq 26 d_md_playedGames_17 (by decide) (hA _ _) (fun h17 => ?_) (fun h17 => ?_)
      · refine zi_iload_n d_md_playedGames_26 rfl ?_
        refine zi_istore_n d_md_playedGames_27 (by decide) rfl ?_
        refine zi_iinc d_md_playedGames_28 (by decide) rfl rfl ?_
        refine zr_goto 4 d_md_playedGames_31 (by decide) ?_
        exact zE4 hk (by refine ⟨?_, ?_, ?_, trivial⟩ <;> first | exact Or.inl rfl | exact Or.inr rfl | exact Or.inr (congrArg vi (by rw [cnt]; unfold playedGamesP; grind))) rfl
      · refine zi_iload_n d_md_playedGames_20 rfl ?_
        refine zi_iconst d_md_playedGames_21 ?_
        refine zi_iadd d_md_playedGames_22 ?_
        refine zr_goto 27 d_md_playedGames_23 (by decide) ?_
        refine zi_istore_n d_md_playedGames_27 (by decide) rfl ?_
        refine zi_iinc d_md_playedGames_28 (by decide) rfl rfl ?_
        refine zr_goto 4 d_md_playedGames_31 (by decide) ?_
        exact zE4 hk (by refine ⟨?_, ?_, ?_, trivial⟩ <;> first | exact Or.inl rfl | exact Or.inr rfl | exact Or.inr (congrArg vi (by rw [cnt]; unfold playedGamesP; grind))) rfl
  · refine zi_iload_n d_md_playedGames_4 rfl ?_
    refine zi_sipush d_md_playedGames_5 (by decide) ?_
    refine zi_icmp_ge 34 d_md_playedGames_8 (by decide) (by first | assumption | exact ⟨by omega, by omega⟩) (by first | assumption | exact ⟨by omega, by omega⟩) (fun h8 => ?_) (fun h8 => ?_)
    · refine zi_iload_n d_md_playedGames_34 rfl ?_
      exact zk_iret rfl d_md_playedGames_35 (Nat.zero_le _) (Nat.zero_le _) (by first | rfl | omega | (split <;> omega) | simp_all) rfl
    · exact absurd h8 (by omega)
def washedRoundsP (τ : tS) (j : Nat) : Bool := decide (¬ τ 51 j = 0)
theorem md_washedRounds {l : Launch} {d : Nat} {τ : tS} (hA : AllIn τ) : zF l (d + 1) M_md_washedRounds [.ref 37] (τ) (some (vi ((cnt (washedRoundsP τ) 40 : Nat) : Int))) (τ) := by
  refine zMet_of (ls := [.ref 37, .null, .null]) pn_md rfl (by simp [vi, Value.category]) rfl rfl ?_
  refine zi_iconst d_md_washedRounds_0 ?_
  refine zi_istore_n d_md_washedRounds_1 (by decide) rfl ?_
  refine zi_iconst d_md_washedRounds_2 ?_
  refine zi_istore_n d_md_washedRounds_3 (by decide) rfl ?_
  have key := zup (P := fun (i : Nat) => zV l (d + 1) M_md_washedRounds 4 [.ref 37, vi ((cnt (washedRoundsP τ) i : Nat) : Int), vi (i : Int)] [] (τ) (0, 0) (.inl (some (vi ((cnt (washedRoundsP τ) 40 : Nat) : Int))), (SH, zq τ), 0, 0)) (40) ?_ ?_ 0 (by omega)
  · exact zE4 key (by refine ⟨?_, ?_, ?_, trivial⟩ <;> first | exact Or.inl rfl | exact Or.inr rfl) rfl
  · intro i hi hk
    have hcl := cnt_le (washedRoundsP τ) i
    refine zi_iload_n d_md_washedRounds_4 rfl ?_
    refine zi_bipush d_md_washedRounds_5 (by decide) ?_
    refine zi_icmp_ge 33 d_md_washedRounds_7 (by decide) (by first | assumption | exact ⟨by omega, by omega⟩) (by first | assumption | exact ⟨by omega, by omega⟩) (fun h7 => ?_) (fun h7 => ?_)
    · exact absurd h7 (by omega)
    · refine zr_aload_n d_md_washedRounds_10 rfl ?_
      refine zi_getr (j := 20) d_md_washedRounds_11 zC8 fl_md_54 (by decide) rfl rfl ?_
      refine zi_iload_n d_md_washedRounds_14 rfl ?_
      refine zi_zaldE (x := τ 51 i) d_md_washedRounds_15 rfl (by decide) (by omega) (by omega) (by rw [Int.toNat_natCast]) ?_
      refine zi_if_eq 25 d_md_washedRounds_16 (by decide) (hA _ _) (fun h16 => ?_) (fun h16 => ?_)
      · refine zi_iload_n d_md_washedRounds_25 rfl ?_
        refine zi_istore_n d_md_washedRounds_26 (by decide) rfl ?_
        refine zi_iinc d_md_washedRounds_27 (by decide) rfl rfl ?_
        refine zr_goto 4 d_md_washedRounds_30 (by decide) ?_
        exact zE4 hk (by refine ⟨?_, ?_, ?_, trivial⟩ <;> first | exact Or.inl rfl | exact Or.inr rfl | exact Or.inr (congrArg vi (by rw [cnt]; unfold washedRoundsP; grind))) rfl
      · refine zi_iload_n d_md_washedRounds_19 rfl ?_
        refine zi_iconst d_md_washedRounds_20 ?_
        refine zi_iadd d_md_washedRounds_21 ?_
        refine zr_goto 26 d_md_washedRounds_22 (by decide) ?_
        refine zi_istore_n d_md_washedRounds_26 (by decide) rfl ?_
        refine zi_iinc d_md_washedRounds_27 (by decide) rfl rfl ?_
        refine zr_goto 4 d_md_washedRounds_30 (by decide) ?_
        exact zE4 hk (by refine ⟨?_, ?_, ?_, trivial⟩ <;> first | exact Or.inl rfl | exact Or.inr rfl | exact Or.inr (congrArg vi (by rw [cnt]; unfold washedRoundsP; grind))) rfl
  · refine zi_iload_n d_md_washedRounds_4 rfl ?_
    refine zi_bipush d_md_washedRounds_5 (by decide) ?_
    refine zi_icmp_ge 33 d_md_washedRounds_7 (by decide) (by first | assumption | exact ⟨by omega, by omega⟩) (by first | assumption | exact ⟨by omega, by omega⟩) (fun h7 => ?_) (fun h7 => ?_)
    · refine zi_iload_n d_md_washedRounds_33 rfl ?_
      exact zk_iret rfl d_md_washedRounds_34 (Nat.zero_le _) (Nat.zero_le _) (by first | rfl | omega | (split <;> omega) | simp_all) rfl
    · exact absurd h7 (by omega)
def mX (τ : tS) (a b i : Nat) : tS := fun q j => if (q = 44 ∨ q = 45) ∧ 20 * a ≤ j ∧ j < 20 * a + i then τ q (j - 20 * a + 20 * b) else if (q = 44 ∨ q = 45) ∧ 20 * b ≤ j ∧ j < 20 * b + i then τ q (j - 20 * b + 20 * a) else τ q j
theorem mX_0 (τ : tS) (a b : Nat) : mX τ a b 0 = τ := by
  funext q j
  unfold mX
  rw [if_neg (by omega), if_neg (by omega)]
theorem mX_ne (τ : tS) (a b i q j : Nat) (h2 : q ≠ 44) (h3 : q ≠ 45) : mX τ a b i q j = τ q j := by
  unfold mX
  rw [if_neg (by omega), if_neg (by omega)]
theorem mX_step (τ : tS) (a b i : Nat) (hi : i < 20) : tU (tU (tU (tU (mX τ a b i) 44 (20 * a + i) (mX τ a b i 44 (20 * b + i))) 45 (20 * a + i) (mX τ a b i 45 (20 * b + i))) 44 (20 * b + i) (mX τ a b i 44 (20 * a + i))) 45 (20 * b + i) (mX τ a b i 45 (20 * a + i)) = mX τ a b (i + 1) := by
  have ra : ∀ q, mX τ a b i q (20 * a + i) = τ q (20 * a + i) := fun q => by unfold mX; rw [if_neg (by omega), if_neg (by omega)]
  have rb : ∀ q, mX τ a b i q (20 * b + i) = τ q (20 * b + i) := fun q => by unfold mX; rw [if_neg (by omega), if_neg (by omega)]
  funext q j
  simp only [tU, ra, rb]
  by_cases hq : q = 44 ∨ q = 45
  · by_cases hb : j = 20 * b + i
    · subst hb
      have e1 : mX τ a b (i + 1) q (20 * b + i) = τ q (20 * a + i) := by
        unfold mX
        by_cases hab : a = b
        · subst hab
          rw [if_pos ⟨hq, by omega, by omega⟩]
          congr 1
          omega
        · rw [if_neg (by omega), if_pos ⟨hq, by omega, by omega⟩]
          congr 1
          omega
      rw [e1]
      rcases hq with rfl | rfl <;> simp
    · by_cases ha : j = 20 * a + i
      · subst ha
        have e1 : mX τ a b (i + 1) q (20 * a + i) = τ q (20 * b + i) := by
          unfold mX
          rw [if_pos ⟨hq, by omega, by omega⟩]
          congr 1
          omega
        rw [e1]
        rcases hq with rfl | rfl <;> simp [hb] <;> (intro h; omega)
      · have e1 : mX τ a b (i + 1) q j = mX τ a b i q j := by
          have c1 : (20 * a ≤ j ∧ j < 20 * a + (i + 1)) ↔ (20 * a ≤ j ∧ j < 20 * a + i) := by omega
          have c2 : (20 * b ≤ j ∧ j < 20 * b + (i + 1)) ↔ (20 * b ≤ j ∧ j < 20 * b + i) := by omega
          simp only [mX, c1, c2]
        rw [e1]
        simp [ha, hb]
  · have e1 : ∀ k, mX τ a b k q j = τ q j := fun k => mX_ne _ _ _ _ _ _ (by omega) (by omega)
    rw [e1, e1]
    simp only [not_or] at hq
    simp [hq.1, hq.2]
theorem mX_in {τ : tS} {a b i : Nat} (h : AllIn τ) : AllIn (mX τ a b i) := by
  intro q j
  unfold mX
  split
  · exact h _ _
  · split
    · exact h _ _
    · exact h _ _
theorem md_exchange {l : Launch} {d : Nat} {τ : tS} {a b n : Nat} (ha : a < 38) (hb : b < 38) (hn : τ 37 1 = (n : Int)) (hn2 : n ≤ 20) (z45 : ∀ j, τ 45 j = 0 ∨ τ 45 j = 1) : zF l (d + 1) M_md_exchange [.ref 37, vi (a : Int), vi (b : Int)] (τ) (none) (mX τ a b n) := by
  refine zMet_of (ls := [.ref 37, vi (a : Int), vi (b : Int), .null, .null, .null]) pn_md rfl (by simp [vi, Value.category]) rfl rfl ?_
  refine zi_iconst d_md_exchange_0 ?_
  refine zi_istore_n d_md_exchange_1 (by decide) rfl ?_
  have key := zup (P := fun (i : Nat) => zV l (d + 1) M_md_exchange 2 [.ref 37, vi (a : Int), vi (b : Int), vi (i : Int), .null, .null] [] (mX τ a b i) (0, 0) (.inl none, (SH, zq (mX τ a b n)), 0, 0)) (n) ?_ ?_ 0 (by omega)
  · exact zE4 key (by refine ⟨?_, ?_, ?_, ?_, ?_, ?_, trivial⟩ <;> first | exact Or.inl rfl | exact Or.inr rfl) (mX_0 τ a b).symm
  · intro i hi hk
    have hz : ∀ j, mX τ a b i 45 j = 0 ∨ mX τ a b i 45 j = 1 := by intro j; unfold mX; split; exact z45 _; split; exact z45 _; exact z45 _
    refine zi_iload_n d_md_exchange_2 rfl ?_
    refine zr_aload_n d_md_exchange_3 rfl ?_
    refine zi_getiE (j := 1) (x := (n : Int)) d_md_exchange_4 zC8 fl_md_7 (by decide) rfl rfl (by rw [mX_ne _ _ _ _ _ _ (by decide) (by decide)]; exact hn) ?_
    refine zi_icmp_ge 112 d_md_exchange_7 (by decide) (by first | assumption | exact ⟨by omega, by omega⟩) (by first | assumption | exact ⟨by omega, by omega⟩) (fun h7 => ?_) (fun h7 => ?_)
    · exact absurd h7 (by omega)
    · refine zr_aload_n d_md_exchange_10 rfl ?_
      refine zi_getr (j := 13) d_md_exchange_11 zC8 fl_md_33 (by decide) rfl rfl ?_
      refine zi_bipush d_md_exchange_14 (by decide) ?_
      refine zi_iload_n d_md_exchange_16 rfl ?_
      refine zi_imul d_md_exchange_17 ?_
      refine zi_iload_n d_md_exchange_18 rfl ?_
      refine zi_iadd d_md_exchange_19 ?_
      refine zi_ialdE (x := mX τ a b i 44 (20 * a + i)) d_md_exchange_20 rfl (by decide) (by omega) (by omega) (by rw [ixm]) ?_
      refine zi_istore d_md_exchange_21 (by decide) rfl ?_
      refine zr_aload_n d_md_exchange_23 rfl ?_
      refine zi_getr (j := 14) d_md_exchange_24 zC8 fl_md_36 (by decide) rfl rfl ?_
      refine zi_bipush d_md_exchange_27 (by decide) ?_
      refine zi_iload_n d_md_exchange_29 rfl ?_
      refine zi_imul d_md_exchange_30 ?_
      refine zi_iload_n d_md_exchange_31 rfl ?_
      refine zi_iadd d_md_exchange_32 ?_
      refine zi_zaldE (x := mX τ a b i 45 (20 * a + i)) d_md_exchange_33 rfl (by decide) (by omega) (by omega) (by rw [ixm]) ?_
      refine zi_istore d_md_exchange_34 (by decide) rfl ?_
      refine zr_aload_n d_md_exchange_36 rfl ?_
      refine zi_getr (j := 13) d_md_exchange_37 zC8 fl_md_33 (by decide) rfl rfl ?_
      refine zi_bipush d_md_exchange_40 (by decide) ?_
      refine zi_iload_n d_md_exchange_42 rfl ?_
      refine zi_imul d_md_exchange_43 ?_
      refine zi_iload_n d_md_exchange_44 rfl ?_
      refine zi_iadd d_md_exchange_45 ?_
      refine zr_aload_n d_md_exchange_46 rfl ?_
      refine zi_getr (j := 13) d_md_exchange_47 zC8 fl_md_33 (by decide) rfl rfl ?_
      refine zi_bipush d_md_exchange_50 (by decide) ?_
      refine zi_iload_n d_md_exchange_52 rfl ?_
      refine zi_imul d_md_exchange_53 ?_
      refine zi_iload_n d_md_exchange_54 rfl ?_
      refine zi_iadd d_md_exchange_55 ?_
      refine zi_ialdE (x := mX τ a b i 44 (20 * b + i)) d_md_exchange_56 rfl (by decide) (by omega) (by omega) (by rw [ixm]) ?_
      refine zi_iast d_md_exchange_57 rfl (by decide) (by omega) (by omega) ?_
      refine zr_aload_n d_md_exchange_58 rfl ?_
      refine zi_getr (j := 14) d_md_exchange_59 zC8 fl_md_36 (by decide) rfl rfl ?_
      refine zi_bipush d_md_exchange_62 (by decide) ?_
      refine zi_iload_n d_md_exchange_64 rfl ?_
      refine zi_imul d_md_exchange_65 ?_
      refine zi_iload_n d_md_exchange_66 rfl ?_
      refine zi_iadd d_md_exchange_67 ?_
      refine zr_aload_n d_md_exchange_68 rfl ?_
      refine zi_getr (j := 14) d_md_exchange_69 zC8 fl_md_36 (by decide) rfl rfl ?_
      refine zi_bipush d_md_exchange_72 (by decide) ?_
      refine zi_iload_n d_md_exchange_74 rfl ?_
      refine zi_imul d_md_exchange_75 ?_
      refine zi_iload_n d_md_exchange_76 rfl ?_
      refine zi_iadd d_md_exchange_77 ?_
      refine zi_zaldE (x := mX τ a b i 45 (20 * b + i)) d_md_exchange_78 rfl (by decide) (by omega) (by omega) (by simp [tU, ixm]) ?_
      refine zi_zast d_md_exchange_79 rfl (by decide) (by omega) (by omega) (hz _) ?_
      refine zr_aload_n d_md_exchange_80 rfl ?_
      refine zi_getr (j := 13) d_md_exchange_81 zC8 fl_md_33 (by decide) rfl rfl ?_
      refine zi_bipush d_md_exchange_84 (by decide) ?_
      refine zi_iload_n d_md_exchange_86 rfl ?_
      refine zi_imul d_md_exchange_87 ?_
      refine zi_iload_n d_md_exchange_88 rfl ?_
      refine zi_iadd d_md_exchange_89 ?_
      refine zi_iload d_md_exchange_90 rfl ?_
      refine zi_iast d_md_exchange_92 rfl (by decide) (by omega) (by omega) ?_
      refine zr_aload_n d_md_exchange_93 rfl ?_
      refine zi_getr (j := 14) d_md_exchange_94 zC8 fl_md_36 (by decide) rfl rfl ?_
      refine zi_bipush d_md_exchange_97 (by decide) ?_
      refine zi_iload_n d_md_exchange_99 rfl ?_
      refine zi_imul d_md_exchange_100 ?_
      refine zi_iload_n d_md_exchange_101 rfl ?_
      refine zi_iadd d_md_exchange_102 ?_
      refine zi_iload d_md_exchange_103 rfl ?_
      refine zi_zast d_md_exchange_105 rfl (by decide) (by omega) (by omega) (hz _) ?_
      rw [ixm, ixm]
      refine zi_iinc d_md_exchange_106 (by decide) rfl rfl ?_
      refine zr_goto 2 d_md_exchange_109 (by decide) ?_
      exact zE4 hk (by refine ⟨?_, ?_, ?_, ?_, ?_, ?_, trivial⟩ <;> first | exact Or.inl rfl | exact Or.inr rfl) (mX_step τ a b i (by omega))
  · refine zi_iload_n d_md_exchange_2 rfl ?_
    refine zr_aload_n d_md_exchange_3 rfl ?_
    refine zi_getiE (j := 1) (x := (n : Int)) d_md_exchange_4 zC8 fl_md_7 (by decide) rfl rfl (by rw [mX_ne _ _ _ _ _ _ (by decide) (by decide)]; exact hn) ?_
    refine zi_icmp_ge 112 d_md_exchange_7 (by decide) (by first | assumption | exact ⟨by omega, by omega⟩) (by first | assumption | exact ⟨by omega, by omega⟩) (fun h7 => ?_) (fun h7 => ?_)
    · exact zk_vret rfl d_md_exchange_112 (Nat.zero_le _) (Nat.zero_le _) rfl
    · exact absurd h7 (by omega)
theorem Mo.ex {τ : tS} {n R p f e a b : Nat} (h : Mo τ n R p f e) (ha : a < R) (hb : b < R) : Mo (mX τ a b n) n R p f e := by
  have n20 := h.n20
  refine ⟨mX_in h.A, ?_, h.n4, h.n20, ?_, h.R38, ?_, h.p6, ?_, h.f6, ?_, h.e6, ?_, ?_, ?_, ?_, ?_, ?_, ?_, ?_, ?_⟩
  · rw [mX_ne _ _ _ _ _ _ (by decide) (by decide)]; exact h.n
  · rw [mX_ne _ _ _ _ _ _ (by decide) (by decide)]; exact h.R
  · rw [mX_ne _ _ _ _ _ _ (by decide) (by decide)]; exact h.p
  · rw [mX_ne _ _ _ _ _ _ (by decide) (by decide)]; exact h.f
  · rw [mX_ne _ _ _ _ _ _ (by decide) (by decide)]; exact h.e
  · intro i hi; rw [mX_ne _ _ _ _ _ _ (by decide) (by decide), mX_ne _ _ _ _ _ _ (by decide) (by decide)]; exact h.pr i hi
  · intro i hi; rw [mX_ne _ _ _ _ _ _ (by decide) (by decide), mX_ne _ _ _ _ _ _ (by decide) (by decide), mX_ne _ _ _ _ _ _ (by decide) (by decide)]; exact h.fx i hi
  · intro j; rw [mX_ne _ _ _ _ _ _ (by decide) (by decide)]; exact h.z38 j
  · intro j; unfold mX; split; exact h.z45 _; split; exact h.z45 _; exact h.z45 _
  · intro j; rw [mX_ne _ _ _ _ _ _ (by decide) (by decide)]; exact h.z46 j
  · intro j; rw [mX_ne _ _ _ _ _ _ (by decide) (by decide)]; exact h.z49 j
  · intro j; rw [mX_ne _ _ _ _ _ _ (by decide) (by decide)]; exact h.z51 j
  · intro j; rw [mX_ne _ _ _ _ _ _ (by decide) (by decide)]; exact h.z54 j
  · intro r t hr ht
    unfold mX
    split
    · rename_i g
      have e : 20 * r + t - 20 * a + 20 * b = 20 * b + t := by omega
      rw [e]
      exact h.foe b t hb ht
    · split
      · rename_i g
        have e : 20 * r + t - 20 * b + 20 * a = 20 * a + t := by omega
        rw [e]
        exact h.foe a t ha ht
      · exact h.foe r t hr ht
theorem md_swapRounds {l : Launch} {d : Nat} {τ : tS} {n R p f e : Nat} (C : Mo τ n R p f e) {a b : Nat} (ha : a < R) (hb : b < R) (h0 : ((cnt (playedGamesP τ) 800 : Nat) : Int) + ((cnt (washedRoundsP τ) 40 : Nat) : Int) ≤ 0) : zF l (d + 4) M_md_swapRounds [.ref 37, vi (a : Int), vi (b : Int)] (τ) (some (vi (if mbrokF (mX (tU τ 37 0 0) a b n) n R p f = 0 then 1 else 0))) (if mbrokF (mX (tU τ 37 0 0) a b n) n R p f = 0 then mX (tU τ 37 0 0) a b n else mX (mX (tU τ 37 0 0) a b n) a b n) := by
  refine zMet_of (ls := [.ref 37, vi (a : Int), vi (b : Int)]) pn_md rfl (by simp [vi, Value.category]) rfl rfl ?_
  have hA := C.A
  have hn := C.n
  have hn4 := C.n4
  have hn20 := C.n20
  have hR := C.R
  have hR38 := C.R38
  have c1 := cnt_le (playedGamesP τ) 800
  have c2 := cnt_le (washedRoundsP τ) 40
  refine zr_aload_n d_md_swapRounds_0 rfl ?_
  refine zr_aload_n d_md_swapRounds_1 rfl ?_
  refine zi_iload_n d_md_swapRounds_2 rfl ?_
  refine c_md_swapRounds_3 rfl rfl (md_isRound C ⟨by omega, by omega⟩) ?_
  refine zi_if_eq 17 d_md_swapRounds_6 (by decide) (by split <;> exact ⟨by decide, by decide⟩) (fun h6 => ?_) (fun h6 => ?_)
  · exfalso
    grind
  · refine zr_aload_n d_md_swapRounds_9 rfl ?_
    refine zi_iload_n d_md_swapRounds_10 rfl ?_
    refine c_md_swapRounds_11 rfl rfl (md_isRound C ⟨by omega, by omega⟩) ?_
    refine zi_if_ne 21 d_md_swapRounds_14 (by decide) (by split <;> exact ⟨by decide, by decide⟩) (fun h14 => ?_) (fun h14 => ?_)
    · refine zi_iconst d_md_swapRounds_21 ?_
      refine zr_aload_n d_md_swapRounds_22 rfl ?_
      refine c_md_swapRounds_23 rfl rfl (md_playedGames hA) ?_
      refine zr_aload_n d_md_swapRounds_26 rfl ?_
      refine c_md_swapRounds_27 rfl rfl (md_washedRounds hA) ?_
      refine zi_iadd d_md_swapRounds_30 ?_
      refine zi_if_le 38 d_md_swapRounds_31 (by decide) ⟨by omega, by omega⟩ (fun h31 => ?_) (fun h31 => ?_)
      · refine zi_iconst d_md_swapRounds_38 ?_
        refine zi_iconst d_md_swapRounds_39 ?_
        refine zi_iconst d_md_swapRounds_40 ?_
        refine c_md_swapRounds_41 rfl rfl (md_refused ⟨by decide, by decide⟩ ⟨by decide, by decide⟩ ⟨by decide, by decide⟩ ⟨by decide, by decide⟩) ?_
        show zV _ _ _ _ _ (vi 0 :: _) (tU τ 37 0 0) _ _
        refine zi_if_eq 49 d_md_swapRounds_44 (by decide) (by first | assumption | exact ⟨by omega, by omega⟩) (fun h44 => ?_) (fun h44 => ?_)
        · refine zr_aload_n d_md_swapRounds_49 rfl ?_
          refine zi_iload_n d_md_swapRounds_50 rfl ?_
          refine zi_iload_n d_md_swapRounds_51 rfl ?_
          refine c_md_swapRounds_52 rfl rfl (md_exchange (by omega) (by omega) (C.th ⟨by decide, by decide⟩).n hn20 (C.th ⟨by decide, by decide⟩).z45) ?_
          refine zr_aload_n d_md_swapRounds_55 rfl ?_
          refine c_md_swapRounds_56 rfl rfl (md_firstBroken ((C.th ⟨by decide, by decide⟩).ex ha hb)) ?_
          refine zi_if_ne 64 d_md_swapRounds_59 (by decide) (mbrok_in _ _ _ _ _) (fun h59 => ?_) (fun h59 => ?_)
          · refine zr_aload_n d_md_swapRounds_64 rfl ?_
            refine zi_iload_n d_md_swapRounds_65 rfl ?_
            refine zi_iload_n d_md_swapRounds_66 rfl ?_
            refine c_md_swapRounds_67 rfl rfl (md_exchange (by omega) (by omega) ((C.th ⟨by decide, by decide⟩).ex ha hb).n hn20 ((C.th ⟨by decide, by decide⟩).ex ha hb).z45) ?_
            refine zi_iconst d_md_swapRounds_70 ?_
            exact zk_zret rfl d_md_swapRounds_71 (Nat.zero_le _) (Nat.zero_le _) (by omega) (by rw [if_neg h59]) (by rw [if_neg h59])
          · refine zi_iconst d_md_swapRounds_62 ?_
            exact zk_zret rfl d_md_swapRounds_63 (Nat.zero_le _) (Nat.zero_le _) (by omega) (by rw [if_pos h59]) (by rw [if_pos h59])
        · exact absurd h44 (by decide)
      · exfalso
        grind
    · exfalso
      grind
theorem md_swapRoundsX {l : Launch} {d : Nat} {τ : tS} {n R p f e : Nat} (C : Mo τ n R p f e) {a b : Int} (za : zin a) (zb : zin b) (h : ¬ ((0 ≤ a ∧ a < R) ∧ (0 ≤ b ∧ b < R))) : zF l (d + 4) M_md_swapRounds [.ref 37, vi a, vi b] (τ) (some (vi 0)) (tU τ 37 0 1) := by
  refine zMet_of (ls := [.ref 37, vi a, vi b]) pn_md rfl (by simp [vi, Value.category]) rfl rfl ?_
  have hA := C.A
  have hn := C.n
  have hn4 := C.n4
  have hn20 := C.n20
  have hR := C.R
  have hR38 := C.R38
  have c1 := cnt_le (playedGamesP τ) 800
  have c2 := cnt_le (washedRoundsP τ) 40
  refine zr_aload_n d_md_swapRounds_0 rfl ?_
  refine zr_aload_n d_md_swapRounds_1 rfl ?_
  refine zi_iload_n d_md_swapRounds_2 rfl ?_
  refine c_md_swapRounds_3 rfl rfl (md_isRound C za) ?_
  refine zi_if_eq 17 d_md_swapRounds_6 (by decide) (by split <;> exact ⟨by decide, by decide⟩) (fun h6 => ?_) (fun h6 => ?_)
  · refine zi_iconst d_md_swapRounds_17 ?_
    refine zr_goto 22 d_md_swapRounds_18 (by decide) ?_
    refine zr_aload_n d_md_swapRounds_22 rfl ?_
    refine c_md_swapRounds_23 rfl rfl (md_playedGames hA) ?_
    refine zr_aload_n d_md_swapRounds_26 rfl ?_
    refine c_md_swapRounds_27 rfl rfl (md_washedRounds hA) ?_
    refine zi_iadd d_md_swapRounds_30 ?_
    refine zi_if_le 38 d_md_swapRounds_31 (by decide) ⟨by omega, by omega⟩ (fun h31 => ?_) (fun h31 => ?_)
    · refine zi_iconst d_md_swapRounds_38 ?_
      refine zi_iconst d_md_swapRounds_39 ?_
      refine zi_iconst d_md_swapRounds_40 ?_
      refine c_md_swapRounds_41 rfl rfl (md_refused ⟨by decide, by decide⟩ ⟨by decide, by decide⟩ ⟨by decide, by decide⟩ ⟨by decide, by decide⟩) ?_
      show zV _ _ _ _ _ (vi 1 :: _) (tU τ 37 0 1) _ _
      refine zi_if_eq 49 d_md_swapRounds_44 (by decide) (by first | assumption | exact ⟨by omega, by omega⟩) (fun h44 => ?_) (fun h44 => ?_)
      · exact absurd h44 (by decide)
      · refine zi_iconst d_md_swapRounds_47 ?_
        exact zk_zret rfl d_md_swapRounds_48 (Nat.zero_le _) (Nat.zero_le _) (by omega) (by first | rfl | omega | (split <;> omega) | simp_all) rfl
    · refine zi_iconst d_md_swapRounds_34 ?_
      refine zr_goto 39 d_md_swapRounds_35 (by decide) ?_
      refine zi_iconst d_md_swapRounds_39 ?_
      refine zi_iconst d_md_swapRounds_40 ?_
      refine c_md_swapRounds_41 rfl rfl (md_refused ⟨by decide, by decide⟩ ⟨by decide, by decide⟩ ⟨by decide, by decide⟩ ⟨by decide, by decide⟩) ?_
      show zV _ _ _ _ _ (vi 1 :: _) (tU τ 37 0 1) _ _
      refine zi_if_eq 49 d_md_swapRounds_44 (by decide) (by first | assumption | exact ⟨by omega, by omega⟩) (fun h44 => ?_) (fun h44 => ?_)
      · exact absurd h44 (by decide)
      · refine zi_iconst d_md_swapRounds_47 ?_
        exact zk_zret rfl d_md_swapRounds_48 (Nat.zero_le _) (Nat.zero_le _) (by omega) (by first | rfl | omega | (split <;> omega) | simp_all) rfl
  · refine zr_aload_n d_md_swapRounds_9 rfl ?_
    refine zi_iload_n d_md_swapRounds_10 rfl ?_
    refine c_md_swapRounds_11 rfl rfl (md_isRound C zb) ?_
    refine zi_if_ne 21 d_md_swapRounds_14 (by decide) (by split <;> exact ⟨by decide, by decide⟩) (fun h14 => ?_) (fun h14 => ?_)
    · exfalso
      grind
    · refine zi_iconst d_md_swapRounds_17 ?_
      refine zr_goto 22 d_md_swapRounds_18 (by decide) ?_
      refine zr_aload_n d_md_swapRounds_22 rfl ?_
      refine c_md_swapRounds_23 rfl rfl (md_playedGames hA) ?_
      refine zr_aload_n d_md_swapRounds_26 rfl ?_
      refine c_md_swapRounds_27 rfl rfl (md_washedRounds hA) ?_
      refine zi_iadd d_md_swapRounds_30 ?_
      refine zi_if_le 38 d_md_swapRounds_31 (by decide) ⟨by omega, by omega⟩ (fun h31 => ?_) (fun h31 => ?_)
      · refine zi_iconst d_md_swapRounds_38 ?_
        refine zi_iconst d_md_swapRounds_39 ?_
        refine zi_iconst d_md_swapRounds_40 ?_
        refine c_md_swapRounds_41 rfl rfl (md_refused ⟨by decide, by decide⟩ ⟨by decide, by decide⟩ ⟨by decide, by decide⟩ ⟨by decide, by decide⟩) ?_
        show zV _ _ _ _ _ (vi 1 :: _) (tU τ 37 0 1) _ _
        refine zi_if_eq 49 d_md_swapRounds_44 (by decide) (by first | assumption | exact ⟨by omega, by omega⟩) (fun h44 => ?_) (fun h44 => ?_)
        · exact absurd h44 (by decide)
        · refine zi_iconst d_md_swapRounds_47 ?_
          exact zk_zret rfl d_md_swapRounds_48 (Nat.zero_le _) (Nat.zero_le _) (by omega) (by first | rfl | omega | (split <;> omega) | simp_all) rfl
      · refine zi_iconst d_md_swapRounds_34 ?_
        refine zr_goto 39 d_md_swapRounds_35 (by decide) ?_
        refine zi_iconst d_md_swapRounds_39 ?_
        refine zi_iconst d_md_swapRounds_40 ?_
        refine c_md_swapRounds_41 rfl rfl (md_refused ⟨by decide, by decide⟩ ⟨by decide, by decide⟩ ⟨by decide, by decide⟩ ⟨by decide, by decide⟩) ?_
        show zV _ _ _ _ _ (vi 1 :: _) (tU τ 37 0 1) _ _
        refine zi_if_eq 49 d_md_swapRounds_44 (by decide) (by first | assumption | exact ⟨by omega, by omega⟩) (fun h44 => ?_) (fun h44 => ?_)
        · exact absurd h44 (by decide)
        · refine zi_iconst d_md_swapRounds_47 ?_
          exact zk_zret rfl d_md_swapRounds_48 (Nat.zero_le _) (Nat.zero_le _) (by omega) (by first | rfl | omega | (split <;> omega) | simp_all) rfl
theorem md_swapRoundsY {l : Launch} {d : Nat} {τ : tS} {n R p f e : Nat} (C : Mo τ n R p f e) {a b : Int} (za : zin a) (zb : zin b) (h : (0 ≤ a ∧ a < R) ∧ (0 ≤ b ∧ b < R)) (h0 : 0 < ((cnt (playedGamesP τ) 800 : Nat) : Int) + ((cnt (washedRoundsP τ) 40 : Nat) : Int)) : zF l (d + 4) M_md_swapRounds [.ref 37, vi a, vi b] (τ) (some (vi 0)) (tU τ 37 0 2) := by
  refine zMet_of (ls := [.ref 37, vi a, vi b]) pn_md rfl (by simp [vi, Value.category]) rfl rfl ?_
  have hA := C.A
  have hn := C.n
  have hn4 := C.n4
  have hn20 := C.n20
  have hR := C.R
  have hR38 := C.R38
  have c1 := cnt_le (playedGamesP τ) 800
  have c2 := cnt_le (washedRoundsP τ) 40
  refine zr_aload_n d_md_swapRounds_0 rfl ?_
  refine zr_aload_n d_md_swapRounds_1 rfl ?_
  refine zi_iload_n d_md_swapRounds_2 rfl ?_
  refine c_md_swapRounds_3 rfl rfl (md_isRound C za) ?_
  refine zi_if_eq 17 d_md_swapRounds_6 (by decide) (by split <;> exact ⟨by decide, by decide⟩) (fun h6 => ?_) (fun h6 => ?_)
  · exfalso
    grind
  · refine zr_aload_n d_md_swapRounds_9 rfl ?_
    refine zi_iload_n d_md_swapRounds_10 rfl ?_
    refine c_md_swapRounds_11 rfl rfl (md_isRound C zb) ?_
    refine zi_if_ne 21 d_md_swapRounds_14 (by decide) (by split <;> exact ⟨by decide, by decide⟩) (fun h14 => ?_) (fun h14 => ?_)
    · refine zi_iconst d_md_swapRounds_21 ?_
      refine zr_aload_n d_md_swapRounds_22 rfl ?_
      refine c_md_swapRounds_23 rfl rfl (md_playedGames hA) ?_
      refine zr_aload_n d_md_swapRounds_26 rfl ?_
      refine c_md_swapRounds_27 rfl rfl (md_washedRounds hA) ?_
      refine zi_iadd d_md_swapRounds_30 ?_
      refine zi_if_le 38 d_md_swapRounds_31 (by decide) ⟨by omega, by omega⟩ (fun h31 => ?_) (fun h31 => ?_)
      · exfalso
        grind
      · refine zi_iconst d_md_swapRounds_34 ?_
        refine zr_goto 39 d_md_swapRounds_35 (by decide) ?_
        refine zi_iconst d_md_swapRounds_39 ?_
        refine zi_iconst d_md_swapRounds_40 ?_
        refine c_md_swapRounds_41 rfl rfl (md_refused ⟨by decide, by decide⟩ ⟨by decide, by decide⟩ ⟨by decide, by decide⟩ ⟨by decide, by decide⟩) ?_
        show zV _ _ _ _ _ (vi 1 :: _) (tU τ 37 0 2) _ _
        refine zi_if_eq 49 d_md_swapRounds_44 (by decide) (by first | assumption | exact ⟨by omega, by omega⟩) (fun h44 => ?_) (fun h44 => ?_)
        · exact absurd h44 (by decide)
        · refine zi_iconst d_md_swapRounds_47 ?_
          exact zk_zret rfl d_md_swapRounds_48 (Nat.zero_le _) (Nat.zero_le _) (by omega) (by first | rfl | omega | (split <;> omega) | simp_all) rfl
    · exfalso
      grind
