/-! the law's loop (written by wip/gen/t57.py) -/
theorem law_sw {l : Launch} {d L : Nat} {xs : Nat → Int32} {j : Nat} {cs : Nat × Nat} {τ : tS} {n R p f e : Nat} (hL : L ≤ 2560) (hj : j + 5 ≤ L) (h : RL τ n R p f e) : zLC l d L xs j cs τ 32 := by
  obtain ⟨w, hw⟩ : ∃ w : Int32, w = Int32.ofInt (xs (j : Int).toNat).toInt &&& Int32.ofInt 31 := ⟨_, rfl⟩
  have pre : ∀ r : zR, zW l (d + 66) (M_lw_law L xs) 39 [.ref 999, .ref 0, .ref 37, .ref 62, vi (j : Int), .null, .null] [.int w] (SH, zq τ) cs r → zV l (d + 66) (M_lw_law L xs) 32 [.ref 999, .ref 0, .ref 37, .ref 62, vi (j : Int), .null, .null] [] τ cs r := by
    intro r hk
    refine zr_aload_n d_lw_law_32 rfl ?_
    refine zi_iload d_lw_law_33 rfl ?_
    refine zl_s hL d_lw_law_35 (by omega) (by omega) ?_
    refine zi_bipush d_lw_law_36 (by decide) ?_
    refine zr_iand d_lw_law_38 ?_
    rw [← hw]
    exact hk
  by_cases hr : ¬ w.toInt < 0 ∧ ¬ 19 < w.toInt
  · have hc : w.toInt = 0 ∨ w.toInt = 1 ∨ w.toInt = 2 ∨ w.toInt = 3 ∨ w.toInt = 4 ∨ w.toInt = 5 ∨ w.toInt = 6 ∨ w.toInt = 7 ∨ w.toInt = 8 ∨ w.toInt = 9 ∨ w.toInt = 10 ∨ w.toInt = 11 ∨ w.toInt = 12 ∨ w.toInt = 13 ∨ w.toInt = 14 ∨ w.toInt = 15 ∨ w.toInt = 16 ∨ w.toInt = 17 ∨ w.toInt = 18 ∨ w.toInt = 19 := by omega
    rcases hc with g | g | g | g | g | g | g | g | g | g | g | g | g | g | g | g | g | g | g | g
    · obtain ⟨τ2, cs2, a1, a2, a3⟩ := lc_teams (l := l) (d := d) (xs := xs) (cs := cs) hL hj h
      exact ⟨τ2, cs2, a1, a2, fun r h1 h2 hk => pre r (zr_tabIn (off := 93) 132 d_lw_law_39 (by omega) (by omega) (by rw [g]; rfl) (by decide) (a3 r h1 h2 hk))⟩
    · obtain ⟨τ2, cs2, a1, a2, a3⟩ := lc_ban (l := l) (d := d) (xs := xs) (cs := cs) hL hj h
      exact ⟨τ2, cs2, a1, a2, fun r h1 h2 hk => pre r (zr_tabIn (off := 129) 168 d_lw_law_39 (by omega) (by omega) (by rw [g]; rfl) (by decide) (a3 r h1 h2 hk))⟩
    · obtain ⟨τ2, cs2, a1, a2, a3⟩ := lc_shareGround (l := l) (d := d) (xs := xs) (cs := cs) hL hj h
      exact ⟨τ2, cs2, a1, a2, fun r h1 h2 hk => pre r (zr_tabIn (off := 209) 248 d_lw_law_39 (by omega) (by omega) (by rw [g]; rfl) (by decide) (a3 r h1 h2 hk))⟩
    · obtain ⟨τ2, cs2, a1, a2, a3⟩ := lc_fixGame (l := l) (d := d) (xs := xs) (cs := cs) hL hj h
      exact ⟨τ2, cs2, a1, a2, fun r h1 h2 hk => pre r (zr_tabIn (off := 277) 316 d_lw_law_39 (by omega) (by omega) (by rw [g]; rfl) (by decide) (a3 r h1 h2 hk))⟩
    · obtain ⟨τ2, cs2, a1, a2, a3⟩ := lc_awayCap (l := l) (d := d) (xs := xs) (cs := cs) hL hj h
      exact ⟨τ2, cs2, a1, a2, fun r h1 h2 hk => pre r (zr_tabIn (off := 357) 396 d_lw_law_39 (by omega) (by omega) (by rw [g]; rfl) (by decide) (a3 r h1 h2 hk))⟩
    · obtain ⟨τ2, cs2, a1, a2, a3⟩ := lc_makePlain (l := l) (d := d) (xs := xs) (cs := cs) hL hj h
      exact ⟨τ2, cs2, a1, a2, fun r h1 h2 hk => pre r (zr_tabIn (off := 393) 432 d_lw_law_39 (by omega) (by omega) (by rw [g]; rfl) (by decide) (a3 r h1 h2 hk))⟩
    · obtain ⟨τ2, cs2, a1, a2, a3⟩ := lc_make (l := l) (d := d) (xs := xs) (cs := cs) hL hj h
      exact ⟨τ2, cs2, a1, a2, fun r h1 h2 hk => pre r (zr_tabIn (off := 434) 473 d_lw_law_39 (by omega) (by omega) (by rw [g]; rfl) (by decide) (a3 r h1 h2 hk))⟩
    · obtain ⟨τ2, cs2, a1, a2, a3⟩ := lc_rounds (l := l) (d := d) (xs := xs) (cs := cs) hL hj h
      exact ⟨τ2, cs2, a1, a2, fun r h1 h2 hk => pre r (zr_tabIn (off := 490) 529 d_lw_law_39 (by omega) (by omega) (by rw [g]; rfl) (by decide) (a3 r h1 h2 hk))⟩
    · obtain ⟨τ2, cs2, a1, a2, a3⟩ := lc_opponent (l := l) (d := d) (xs := xs) (cs := cs) hL hj h
      exact ⟨τ2, cs2, a1, a2, fun r h1 h2 hk => pre r (zr_tabIn (off := 503) 542 d_lw_law_39 (by omega) (by omega) (by rw [g]; rfl) (by decide) (a3 r h1 h2 hk))⟩
    · obtain ⟨τ2, cs2, a1, a2, a3⟩ := lc_venue (l := l) (d := d) (xs := xs) (cs := cs) hL hj h
      exact ⟨τ2, cs2, a1, a2, fun r h1 h2 hk => pre r (zr_tabIn (off := 571) 610 d_lw_law_39 (by omega) (by omega) (by rw [g]; rfl) (by decide) (a3 r h1 h2 hk))⟩
    · obtain ⟨τ2, cs2, a1, a2, a3⟩ := lc_breaks (l := l) (d := d) (xs := xs) (cs := cs) hL hj h
      exact ⟨τ2, cs2, a1, a2, fun r h1 h2 hk => pre r (zr_tabIn (off := 639) 678 d_lw_law_39 (by omega) (by omega) (by rw [g]; rfl) (by decide) (a3 r h1 h2 hk))⟩
    · obtain ⟨τ2, cs2, a1, a2, a3⟩ := lc_verify (l := l) (d := d) (xs := xs) (cs := cs) hL hj h
      exact ⟨τ2, cs2, a1, a2, fun r h1 h2 hk => pre r (zr_tabIn (off := 695) 734 d_lw_law_39 (by omega) (by omega) (by rw [g]; rfl) (by decide) (a3 r h1 h2 hk))⟩
    · obtain ⟨τ2, cs2, a1, a2, a3⟩ := lc_swapRounds (l := l) (d := d) (xs := xs) (cs := cs) hL hj h
      exact ⟨τ2, cs2, a1, a2, fun r h1 h2 hk => pre r (zr_tabIn (off := 708) 747 d_lw_law_39 (by omega) (by omega) (by rw [g]; rfl) (by decide) (a3 r h1 h2 hk))⟩
    · obtain ⟨τ2, cs2, a1, a2, a3⟩ := lc_result (l := l) (d := d) (xs := xs) (cs := cs) hL hj h
      exact ⟨τ2, cs2, a1, a2, fun r h1 h2 hk => pre r (zr_tabIn (off := 783) 822 d_lw_law_39 (by omega) (by omega) (by rw [g]; rfl) (by decide) (a3 r h1 h2 hk))⟩
    · obtain ⟨τ2, cs2, a1, a2, a3⟩ := lc_table (l := l) (d := d) (xs := xs) (cs := cs) hL hj h
      exact ⟨τ2, cs2, a1, a2, fun r h1 h2 hk => pre r (zr_tabIn (off := 875) 914 d_lw_law_39 (by omega) (by omega) (by rw [g]; rfl) (by decide) (a3 r h1 h2 hk))⟩
    · obtain ⟨τ2, cs2, a1, a2, a3⟩ := lc_washOut (l := l) (d := d) (xs := xs) (cs := cs) hL hj h
      exact ⟨τ2, cs2, a1, a2, fun r h1 h2 hk => pre r (zr_tabIn (off := 943) 982 d_lw_law_39 (by omega) (by omega) (by rw [g]; rfl) (by decide) (a3 r h1 h2 hk))⟩
    · obtain ⟨τ2, cs2, a1, a2, a3⟩ := lc_reserve (l := l) (d := d) (xs := xs) (cs := cs) hL hj h
      exact ⟨τ2, cs2, a1, a2, fun r h1 h2 hk => pre r (zr_tabIn (off := 999) 1038 d_lw_law_39 (by omega) (by omega) (by rw [g]; rfl) (by decide) (a3 r h1 h2 hk))⟩
    · obtain ⟨τ2, cs2, a1, a2, a3⟩ := lc_missing (l := l) (d := d) (xs := xs) (cs := cs) hL hj h
      exact ⟨τ2, cs2, a1, a2, fun r h1 h2 hk => pre r (zr_tabIn (off := 1055) 1094 d_lw_law_39 (by omega) (by omega) (by rw [g]; rfl) (by decide) (a3 r h1 h2 hk))⟩
    · obtain ⟨τ2, cs2, a1, a2, a3⟩ := lc_catchUp (l := l) (d := d) (xs := xs) (cs := cs) hL hj h
      exact ⟨τ2, cs2, a1, a2, fun r h1 h2 hk => pre r (zr_tabIn (off := 1068) 1107 d_lw_law_39 (by omega) (by omega) (by rw [g]; rfl) (by decide) (a3 r h1 h2 hk))⟩
    · obtain ⟨τ2, cs2, a1, a2, a3⟩ := lc_catchDate (l := l) (d := d) (xs := xs) (cs := cs) hL hj h
      exact ⟨τ2, cs2, a1, a2, fun r h1 h2 hk => pre r (zr_tabIn (off := 1112) 1151 d_lw_law_39 (by omega) (by omega) (by rw [g]; rfl) (by decide) (a3 r h1 h2 hk))⟩
  · exact ⟨τ, cs, ⟨by omega, by omega⟩, ⟨n, R, p, f, e, h⟩, fun r h1 h2 hk => pre r (zr_tabOut 1219 d_lw_law_39 (by omega) (by decide) hk)⟩
theorem vi_L (L : Nat) : Value.int (Int32.ofNat L) = vi (L : Int) := rfl
theorem law_loop {l : Launch} {d L : Nat} {xs : Nat → Int32} (hL : L ≤ 2560) {MC MS : Nat} : ∀ (m j : Nat) (cs : Nat × Nat) (τ : tS) (n R p f e : Nat), L < j + 5 * m + 5 → j ≤ 3000 → cs.1 + m ≤ MC → cs.2 + 6 * m ≤ MS → RL τ n R p f e → ∃ τ', zV l (d + 66) (M_lw_law L xs) 23 [.ref 999, .ref 0, .ref 37, .ref 62, vi (j : Int), .null, .null] [] τ cs (.inl (some (vi 1)), (SH, zq τ'), MC, MS) := by
  intro m
  induction m with
  | zero =>
    intro j cs τ n R p f e hm hj h1 h2 h
    refine ⟨τ, ?_⟩
    refine zi_iload d_lw_law_23 rfl ?_
    refine zr_aload_n d_lw_law_25 rfl ?_
    refine zr_slen (L := L) (xs := xs) d_lw_law_26 rfl ?_
    rw [vi_L]
    refine zi_iconst d_lw_law_27 ?_
    refine zi_isub d_lw_law_28 ?_
    refine zi_icmp_gt 1225 d_lw_law_29 (by decide) ⟨by omega, by omega⟩ ⟨by omega, by omega⟩ (fun _ => ?_) (fun g => absurd (show (L : Int) - 5 < (j : Int) by omega) g)
    refine zi_iconst d_lw_law_1225 ?_
    exact zk_zret rfl d_lw_law_1226 (by omega) (by omega) (Or.inr rfl) rfl rfl
  | succ m ih =>
    intro j cs τ n R p f e hm hj h1 h2 h
    by_cases hjl : j + 5 ≤ L
    · obtain ⟨τ2, cs2, ⟨a1, a2⟩, ⟨n2, R2, p2, f2, e2, hR⟩, a3⟩ := law_sw (l := l) (d := d) (xs := xs) (cs := cs) hL hjl h
      obtain ⟨τ', hk⟩ := ih (j + 5) cs2 τ2 n2 R2 p2 f2 e2 (by omega) (by omega) (by omega) (by omega) hR
      refine ⟨τ', ?_⟩
      refine zi_iload d_lw_law_23 rfl ?_
      refine zr_aload_n d_lw_law_25 rfl ?_
      refine zr_slen (L := L) (xs := xs) d_lw_law_26 rfl ?_
      rw [vi_L]
      refine zi_iconst d_lw_law_27 ?_
      refine zi_isub d_lw_law_28 ?_
      refine zi_icmp_gt 1225 d_lw_law_29 (by decide) ⟨by omega, by omega⟩ ⟨by omega, by omega⟩ (fun g => absurd g (show ¬ (L : Int) - 5 < (j : Int) by omega)) (fun _ => ?_)
      refine a3 _ (by show cs.1 + 1 ≤ MC; omega) (by show cs.2 + 6 ≤ MS; omega) ?_
      refine zi_iinc d_lw_law_1219 (by show 4 < 7; decide) rfl rfl ?_
      refine zr_goto 23 d_lw_law_1222 (by decide) ?_
      exact zE4 hk (by refine ⟨?_, ?_, ?_, ?_, ?_, ?_, ?_, trivial⟩ <;> first | exact Or.inl rfl | exact Or.inr rfl | exact Or.inr (congrArg vi (by omega))) rfl
    · refine ⟨τ, ?_⟩
      refine zi_iload d_lw_law_23 rfl ?_
      refine zr_aload_n d_lw_law_25 rfl ?_
      refine zr_slen (L := L) (xs := xs) d_lw_law_26 rfl ?_
      rw [vi_L]
      refine zi_iconst d_lw_law_27 ?_
      refine zi_isub d_lw_law_28 ?_
      refine zi_icmp_gt 1225 d_lw_law_29 (by decide) ⟨by omega, by omega⟩ ⟨by omega, by omega⟩ (fun _ => ?_) (fun g => absurd (show (L : Int) - 5 < (j : Int) by omega) g)
      refine zi_iconst d_lw_law_1225 ?_
      exact zk_zret rfl d_lw_law_1226 (by omega) (by omega) (Or.inr rfl) rfl rfl
