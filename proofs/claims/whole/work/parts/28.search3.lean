/-! goOn and run of the search (written by wip/gen/t17.py) -/
theorem zE5 {l : Launch} {d : Nat} {M : zM} {pc : Nat} {ls st st' : List Value} {τ : tS} {cs : Nat × Nat} {r : zR} (k : zV l d M pc ls st τ cs r) (h : st' = st) : zV l d M pc ls st' τ cs r := by rw [h]; exact k
theorem lf_ok {D : tS} {n r : Nat} (hn : n ≤ 8) (h : ∃ t, t < n ∧ D r t = -2) : lfD D n r < n ∧ D r (lfD D n r) = -2 ∧ ∀ j, j < lfD D n r → ¬ D r j = -2 := by
  have key : ∀ t, t < 8 → ((! (msk (dBusy D r) 8).testBit t) = true ↔ D r t = -2) := by
    intro t ht
    rw [msk_bit, dBusy]
    simp [ht]
  obtain ⟨i, h1, h2⟩ := zleast (fun j => j < n ∧ D r j = -2) h
  have e : lfD D n r = i := by
    rw [lfD, lfm, fst0_some _ n i h1.1 (fun j hj hp => h2 j hj ⟨by omega, (key j (by omega)).mp hp⟩) ((key i (by omega)).mpr h1.2)]
    rfl
  rw [e]
  exact ⟨h1.1, h1.2, fun j hj hp => h2 j hj ⟨by omega, hp⟩⟩
theorem rd_eq {D : tS} {n fr : Nat} (hD : DOk D n) (hn : n ≤ 8) : (msk (dBusy D fr) 8 = 2 ^ n - 1) ↔ rdF D n fr = fr + 1 := by
  rw [msk_full hn (fun i _ hi => by unfold dBusy; rw [hD.2.1 fr i hi]; rfl), rdF]
  constructor
  · intro h
    rw [if_neg (fun g => by obtain ⟨i, g1, g2⟩ := (anyN_iff _ _).mp g; have := h i g1; simp [dBusy] at this g2; exact this g2)]
  · intro h i hi
    by_cases e : D fr i = -2
    · rw [if_pos ((anyN_iff _ _).mpr ⟨i, hi, by simp [e]⟩)] at h
      omega
    · simp [dBusy, e]
theorem rd_or (D : tS) (n fr : Nat) : rdF D n fr = fr ∨ rdF D n fr = fr + 1 := by
  unfold rdF
  split
  · exact Or.inl rfl
  · exact Or.inr rfl
/-- the round to go on with has a free team -/
theorem rd_free {D : tS} {n fr : Nat} (hn : 0 < n) (hO : ∀ r t, fr < r → D r t = -2) : ∃ t, t < n ∧ D (rdF D n fr) t = -2 := by
  unfold rdF
  split
  · rename_i h
    obtain ⟨i, h1, h2⟩ := (anyN_iff _ _).mp h
    exact ⟨i, h1, by simpa using h2⟩
  · exact ⟨0, hn, hO _ _ (by omega)⟩
theorem dG_later {D : tS} {r h a fr : Nat} (hO : ∀ i t, fr < i → D i t = -2) (hr : fr ≤ r) (i t : Nat) (hi : r < i) : dG D r h a i t = -2 := by
  rw [dG_at, if_neg (by omega), if_neg (by omega)]
  exact hO i t (by omega)
theorem dB_later {D : tS} {r s fr : Nat} (hO : ∀ i t, fr < i → D i t = -2) (hr : fr ≤ r) (i t : Nat) (hi : r < i) : dB D r s i t = -2 := by
  rw [dB_at, if_neg (by omega)]
  exact hO i t (by omega)
theorem tg_same {τ D : tS} {n p f r t o : Nat} (ho : o < n) (hot : ¬ o = t) (h1 : D r o = -2) (h2 : dMet D t o = false) : okF τ D n p f r t (2 * o) = alwP (enc τ D 0) p f r t o ∧ okF τ D n p f r t (2 * o + 1) = alwP (enc τ D 0) p f r o t ∧ chD D n r t (2 * o) = dG D r t o ∧ chD D n r t (2 * o + 1) = dG D r o t := by
  have e1 : 2 * o / 2 = o := by omega
  have e2 : (2 * o + 1) / 2 = o := by omega
  have e3 : ¬ o = n := by omega
  have e4 : 2 * o % 2 = 0 := by omega
  have e5 : ¬ (2 * o + 1) % 2 = 0 := by omega
  unfold okF chD
  rw [e1, e2, if_neg e3, if_neg e3, if_neg e3, if_neg e3, if_pos e4, if_pos e4, if_neg e5, if_neg e5, if_pos e4, if_neg e5]
  simp [hot, h1, h2]
theorem tg_none {τ D : tS} {n p f r t o c : Nat} (hc : c / 2 = o) (ho : o < n) (h : ¬ (D r o = -2 ∧ dMet D t o = false)) : okF τ D n p f r t c = false := by
  unfold okF
  rw [hc, if_neg (by omega)]
  exact decide_eq_false (fun g => h ⟨g.2.1, g.2.2.1⟩)
theorem tgF_no {D : tS} {b : Nat} {nx : sR} : tgF false D b nx = (0, D, b) := by
  unfold tgF
  rw [if_neg (by decide)]
theorem se_goOn {l : Launch} {τ : tS} {n all p f : Nat} (S : SOk τ n all p f) : ∀ (k : Nat) {d dp fr b : Nat} {D : tS}, dp + k = 28 → fr < 7 → b ≤ 4000 → DOk D n → (∀ i t, fr < i → D i t = -2) → zF l (d + 2 * k + 5) M_se_goOn [.ref 12, vi (dp : Int), vi (fr : Int)] (enc τ D b) (some (vi (goF τ n all p f k D fr b).1)) (enc τ (goF τ n all p f k D fr b).2.1 (goF τ n all p f k D fr b).2.2) := by
  have hn4 : 4 ≤ n := S.2.2.2.2.2.2.2.2.2.2.2.2.1
  have hn8 : n ≤ 8 := S.2.2.2.2.2.2.2.2.2.2.2.2.2.1
  have ha7 : all ≤ 7 := S.2.2.2.2.2.2.2.2.2.2.2.2.2.2
  intro k
  induction k with
  | zero =>
    intro d dp fr b D hk hfr hb hD hO
    refine zMet_of (ls := [.ref 12, vi (dp : Int), vi (fr : Int), .null, .null, .null, .null]) pn_se rfl (by simp [vi, Value.category]) rfl rfl ?_
    have hrd := rd_or D n fr
    have mb := msk8 (dBusy D fr)
    have hpw : 2 ^ n ≤ 2 ^ 8 := Nat.pow_le_pow_right (by decide) hn8
    have key : zV l (d + 2 * 0 + 5) M_se_goOn 20 [.ref 12, vi (dp : Int), vi (fr : Int), .null, .null, .null, .null] (vi ((rdF D n fr : Nat) : Int) :: []) (enc τ D b) (0, 0) (.inl (some (vi (goF τ n all p f 0 D fr b).1)), (SH, zq (enc τ (goF τ n all p f 0 D fr b).2.1 (goF τ n all p f 0 D fr b).2.2)), 0, 0) := by
      refine zi_istore_n d_se_goOn_20 (by decide) rfl ?_
      refine zr_aload_n d_se_goOn_21 rfl ?_
      refine zi_getr (j := 1) d_se_goOn_22 zC2 fl_se_14 (by decide) rfl rfl ?_
      refine zi_iload_n d_se_goOn_25 rfl ?_
      refine c_se_goOn_26 rfl rfl (tt13_hasRound ⟨by omega, by omega⟩ (by rw [enc_ne _ _ _ _ _ (by decide), S.2.2.2.2.2.2.2.2.2.2.1]; exact ⟨by omega, by omega⟩)) ?_
      show zV _ _ _ _ _ (vi _ :: _) _ _ _
      rw [enc_ne _ _ _ _ _ (by decide), S.2.2.2.2.2.2.2.2.2.2.1]
      refine zi_if_ne 34 d_se_goOn_29 (by decide) (by split <;> exact ⟨by decide, by decide⟩) (fun h29 => ?_) (fun h29 => ?_)
      · have hra : ¬ all ≤ rdF D n fr := by intro e; rw [if_neg (by omega)] at h29; exact h29 rfl
        refine zi_iload_n d_se_goOn_34 rfl ?_
        refine zi_bipush d_se_goOn_35 (by decide) ?_
        refine zi_icmp_lt 42 d_se_goOn_37 (by decide) (by first | assumption | exact ⟨by omega, by omega⟩) (by first | assumption | exact ⟨by omega, by omega⟩) (fun h37 => ?_) (fun h37 => ?_)
        · exact absurd h37 (by omega)
        · refine zi_iconst d_se_goOn_40 ?_
          exact zk_iret rfl d_se_goOn_41 (Nat.zero_le _) (Nat.zero_le _) (by rw [goF, if_neg hra]) (by rw [goF, if_neg hra])
      · have hra : all ≤ rdF D n fr := by by_cases e : all ≤ rdF D n fr; exact e; rw [if_pos (by omega)] at h29; exact absurd h29 (by decide)
        refine zi_iconst d_se_goOn_32 ?_
        exact zk_iret rfl d_se_goOn_33 (Nat.zero_le _) (Nat.zero_le _) (by rw [goF, if_pos hra]) (by rw [goF, if_pos hra])
    refine zr_aload_n d_se_goOn_0 rfl ?_
    refine zi_getr (j := 2) d_se_goOn_1 zC2 fl_se_20 (by decide) rfl rfl ?_
    refine zi_iload_n d_se_goOn_4 rfl ?_
    refine zi_ialdE (x := ((msk (dBusy D fr) 8 : Nat) : Int)) d_se_goOn_5 rfl (by decide) (by omega) (by omega) (by rw [Int.toNat_natCast]; exact enc_16 _ _ _ _ hfr) ?_
    refine zr_aload_n d_se_goOn_6 rfl ?_
    refine zi_getiE (j := 5) (x := ((2 ^ n - 1 : Nat) : Int)) d_se_goOn_7 zC2 fl_se_48 (by decide) rfl rfl (by rw [enc_125]; exact S.2.2.2.2.2.2.2.2.2.2.2.1) ?_
    refine zi_icmp_ne 19 d_se_goOn_10 (by decide) (by first | assumption | exact ⟨by omega, by omega⟩) (by first | assumption | exact ⟨by omega, by omega⟩) (fun h10 => ?_) (fun h10 => ?_)
    · have hrr : (fr : Int) = ((rdF D n fr : Nat) : Int) := by rcases hrd with e | e; rw [e]; exact absurd ((rd_eq hD hn8).mpr e) (by omega)
      refine zi_iload_n d_se_goOn_19 rfl ?_
      exact zE5 key (by rw [hrr])
    · have hrr : (fr : Int) + 1 = ((rdF D n fr : Nat) : Int) := by rw [(rd_eq hD hn8).mp (by omega)]; omega
      refine zi_iload_n d_se_goOn_13 rfl ?_
      refine zi_iconst d_se_goOn_14 ?_
      refine zi_iadd d_se_goOn_15 ?_
      refine zr_goto 20 d_se_goOn_16 (by decide) ?_
      exact zE5 key (by rw [hrr])
  | succ k ih =>
    intro d dp fr b D hk hfr hb hD hO
    refine zMet_of (ls := [.ref 12, vi (dp : Int), vi (fr : Int), .null, .null, .null, .null]) pn_se rfl (by simp [vi, Value.category]) rfl rfl ?_
    have hrd := rd_or D n fr
    have mb := msk8 (dBusy D fr)
    have hpw : 2 ^ n ≤ 2 ^ 8 := Nat.pow_le_pow_right (by decide) hn8
    have key : zV l (d + 2 * (k + 1) + 5) M_se_goOn 20 [.ref 12, vi (dp : Int), vi (fr : Int), .null, .null, .null, .null] (vi ((rdF D n fr : Nat) : Int) :: []) (enc τ D b) (0, 0) (.inl (some (vi (goF τ n all p f (k + 1) D fr b).1)), (SH, zq (enc τ (goF τ n all p f (k + 1) D fr b).2.1 (goF τ n all p f (k + 1) D fr b).2.2)), 0, 0) := by
      refine zi_istore_n d_se_goOn_20 (by decide) rfl ?_
      refine zr_aload_n d_se_goOn_21 rfl ?_
      refine zi_getr (j := 1) d_se_goOn_22 zC2 fl_se_14 (by decide) rfl rfl ?_
      refine zi_iload_n d_se_goOn_25 rfl ?_
      refine c_se_goOn_26 rfl rfl (tt13_hasRound ⟨by omega, by omega⟩ (by rw [enc_ne _ _ _ _ _ (by decide), S.2.2.2.2.2.2.2.2.2.2.1]; exact ⟨by omega, by omega⟩)) ?_
      show zV _ _ _ _ _ (vi _ :: _) _ _ _
      rw [enc_ne _ _ _ _ _ (by decide), S.2.2.2.2.2.2.2.2.2.2.1]
      refine zi_if_ne 34 d_se_goOn_29 (by decide) (by split <;> exact ⟨by decide, by decide⟩) (fun h29 => ?_) (fun h29 => ?_)
      · have hra : ¬ all ≤ rdF D n fr := by intro e; rw [if_neg (by omega)] at h29; exact h29 rfl
        refine zi_iload_n d_se_goOn_34 rfl ?_
        refine zi_bipush d_se_goOn_35 (by decide) ?_
        refine zi_icmp_lt 42 d_se_goOn_37 (by decide) (by first | assumption | exact ⟨by omega, by omega⟩) (by first | assumption | exact ⟨by omega, by omega⟩) (fun h37 => ?_) (fun h37 => ?_)
        · have hfree := rd_free (n := n) (by omega) hO
          have hlf := lf_ok hn8 hfree
          have hgo : goF τ n all p f (k + 1) D fr b = chF (fun D' b' => goF τ n all p f k D' (rdF D n fr) b') (okF τ D n p f (rdF D n fr) (lfD D n (rdF D n fr))) (chD D n (rdF D n fr) (lfD D n (rdF D n fr))) D (2 * (n - (lfD D n (rdF D n fr) + 1)) + 1) (2 * (lfD D n (rdF D n fr) + 1)) b := by rw [goF, if_neg hra]
          rw [hgo]
          generalize hrr : rdF D n fr = r at hra hlf hfree hrd ⊢
          have hr7 : r < 7 := by omega
          have hfr2 : fr ≤ r := by omega
          refine zr_aload_n d_se_goOn_42 rfl ?_
          refine zi_iload_n d_se_goOn_43 rfl ?_
          refine c_se_goOn_44 rfl rfl (se_leastFree hr7 (by rw [enc_ne _ _ _ _ _ (by decide)]; exact S.2.2.2.2.2.2.2.2.2.1) hn8 (enc_16 _ _ _ _ hr7) (msk8 _)) ?_
          show zV _ _ _ _ _ (vi ((lfD D n r : Nat) : Int) :: _) _ _ _
          refine zi_istore d_se_goOn_47 (by decide) rfl ?_
          generalize htt : lfD D n r = t at hlf ⊢
          refine zi_iload d_se_goOn_49 rfl ?_
          refine zi_iconst d_se_goOn_51 ?_
          refine zi_iadd d_se_goOn_52 ?_
          refine zi_istore d_se_goOn_53 (by decide) rfl ?_
          have hkey : ∀ (m o b : Nat), t < o → o + m = n → b ≤ 4000 → zV l (d + 2 * (k + 1) + 5) M_se_goOn 55 [.ref 12, vi (dp : Int), .null, vi (r : Int), vi (t : Int), vi (o : Int), .null] [] (enc τ D b) (0, 0) (.inl (some (vi (chF (fun D' b' => goF τ n all p f k D' r b') (okF τ D n p f r t) (chD D n r t) D (2 * m + 1) (2 * o) b).1)), (SH, zq (enc τ (chF (fun D' b' => goF τ n all p f k D' r b') (okF τ D n p f r t) (chD D n r t) D (2 * m + 1) (2 * o) b).2.1 (chF (fun D' b' => goF τ n all p f k D' r b') (okF τ D n p f r t) (chD D n r t) D (2 * m + 1) (2 * o) b).2.2)), 0, 0) := by
            intro m
            induction m with
            | zero =>
              intro o b hto hom hb
              have hon : o = n := by omega
              subst hon
              refine zi_iload d_se_goOn_55 rfl ?_
              refine zr_aload_n d_se_goOn_57 rfl ?_
              refine zi_getr (j := 1) d_se_goOn_58 zC2 fl_se_14 (by decide) rfl rfl ?_
              refine c_se_goOn_61 rfl rfl (tt13_teamCount) ?_
              show zV _ _ _ _ _ (vi _ :: _) _ _ _
              rw [enc_ne _ _ _ _ _ (by decide), S.2.2.2.2.2.2.2.2.2.1]
              refine zi_icmp_ge 122 d_se_goOn_64 (by decide) (by first | assumption | exact ⟨by omega, by omega⟩) (by first | assumption | exact ⟨by omega, by omega⟩) (fun h64 => ?_) (fun h64 => ?_)
              · refine zr_aload_n d_se_goOn_122 rfl ?_
                refine zi_iload_n d_se_goOn_123 rfl ?_
                refine zi_iload_n d_se_goOn_124 rfl ?_
                refine zi_iload d_se_goOn_125 rfl ?_
                rw [show 2 * 0 + 1 = 1 from rfl, chF_1 (fun D' b' => goF_ok k D' _ b')]
                have hcd : chD D o r t (2 * o) = dB D r t := by unfold chD; rw [if_pos (by omega)]
                rw [hcd]
                refine c_se_goOn_127 rfl rfl (se_tryBye (d := d + 2 * k + 2) S hD hb hr7 hlf.1 hlf.2.1 (goF_ok k _ _ _) (fun hb0 hby => ih (dp := dp + 1) (d := d) (by omega) hr7 (by omega) (dB_ok hD hlf.1 hlf.2.1) (dB_later hO hfr2))) ?_
                exact zk_iret rfl d_se_goOn_130 (Nat.zero_le _) (Nat.zero_le _) rfl rfl
              · exact absurd h64 (by omega)
            | succ m ihm =>
              intro o b hto hom hb
              have hst : ∀ b, chF (fun D' b' => goF τ n all p f k D' r b') (okF τ D n p f r t) (chD D n r t) D (2 * (m + 1) + 1) (2 * o) b = if (tgF (okF τ D n p f r t (2 * o)) D b (goF τ n all p f k (chD D n r t (2 * o)) r (b - 1))).1 = 0 then chF (fun D' b' => goF τ n all p f k D' r b') (okF τ D n p f r t) (chD D n r t) D (2 * m + 1 + 1) (2 * o + 1) (tgF (okF τ D n p f r t (2 * o)) D b (goF τ n all p f k (chD D n r t (2 * o)) r (b - 1))).2.2 else tgF (okF τ D n p f r t (2 * o)) D b (goF τ n all p f k (chD D n r t (2 * o)) r (b - 1)) := fun b => rfl
              have hst2 : ∀ b, chF (fun D' b' => goF τ n all p f k D' r b') (okF τ D n p f r t) (chD D n r t) D (2 * m + 1 + 1) (2 * o + 1) b = if (tgF (okF τ D n p f r t (2 * o + 1)) D b (goF τ n all p f k (chD D n r t (2 * o + 1)) r (b - 1))).1 = 0 then chF (fun D' b' => goF τ n all p f k D' r b') (okF τ D n p f r t) (chD D n r t) D (2 * m + 1) (2 * (o + 1)) (tgF (okF τ D n p f r t (2 * o + 1)) D b (goF τ n all p f k (chD D n r t (2 * o + 1)) r (b - 1))).2.2 else tgF (okF τ D n p f r t (2 * o + 1)) D b (goF τ n all p f k (chD D n r t (2 * o + 1)) r (b - 1)) := fun b => rfl
              refine zi_iload d_se_goOn_55 rfl ?_
              refine zr_aload_n d_se_goOn_57 rfl ?_
              refine zi_getr (j := 1) d_se_goOn_58 zC2 fl_se_14 (by decide) rfl rfl ?_
              refine c_se_goOn_61 rfl rfl (tt13_teamCount) ?_
              show zV _ _ _ _ _ (vi _ :: _) _ _ _
              rw [enc_ne _ _ _ _ _ (by decide), S.2.2.2.2.2.2.2.2.2.1]
              refine zi_icmp_ge 122 d_se_goOn_64 (by decide) (by first | assumption | exact ⟨by omega, by omega⟩) (by first | assumption | exact ⟨by omega, by omega⟩) (fun h64 => ?_) (fun h64 => ?_)
              · exact absurd h64 (by omega)
              · refine zr_aload_n d_se_goOn_67 rfl ?_
                refine zi_iload_n d_se_goOn_68 rfl ?_
                refine zi_iload d_se_goOn_69 rfl ?_
                refine zi_iload d_se_goOn_71 rfl ?_
                refine c_se_goOn_73 rfl rfl (se_canMeet hr7 (by omega) (by omega) (enc_16 _ _ _ _ hr7) (enc_17 _ _ _ _ (by omega)) (msk8 _) (msk8 _)) ?_
                have ho8 : o < 8 := by omega
                have hcm : (¬ (msk (dBusy D r) 8).testBit o = true ∧ ¬ (msk (dMet D t) 8).testBit o = true) ↔ (D r o = -2 ∧ dMet D t o = false) := by rw [msk_bit, msk_bit, dBusy]; simp [ho8]
                refine zi_if_eq 116 d_se_goOn_76 (by decide) (by split <;> exact ⟨by decide, by decide⟩) (fun h76 => ?_) (fun h76 => ?_)
                · have hno : ¬ (D r o = -2 ∧ dMet D t o = false) := by intro e; rw [if_pos (hcm.mpr e)] at h76; exact absurd h76 (by decide)
                  have hskip : ∀ b, chF (fun D' b' => goF τ n all p f k D' r b') (okF τ D n p f r t) (chD D n r t) D (2 * (m + 1) + 1) (2 * o) b = chF (fun D' b' => goF τ n all p f k D' r b') (okF τ D n p f r t) (chD D n r t) D (2 * m + 1) (2 * (o + 1)) b := by intro b; rw [hst, tg_none (o := o) (by omega) (by omega) hno, tgF_no, if_pos rfl, hst2, tg_none (o := o) (by omega) (by omega) hno, tgF_no, if_pos rfl]
                  rw [hskip]
                  have hgo2 := ihm (o + 1) b (by omega) (by omega) hb
                  refine zi_iinc d_se_goOn_116 (by decide) rfl rfl ?_
                  refine zr_goto 55 d_se_goOn_119 (by decide) ?_
                  exact zE4 hgo2 (by refine ⟨?_, ?_, ?_, ?_, ?_, ?_, ?_, trivial⟩ <;> first | exact Or.inl rfl | exact Or.inr rfl) rfl
                · have hyes : D r o = -2 ∧ dMet D t o = false := by by_cases e : D r o = -2 ∧ dMet D t o = false; exact e; rw [if_neg (fun g => e (hcm.mp g))] at h76; exact absurd rfl h76
                  have hot : ¬ o = t := by omega
                  have g1 : gOk D n r t o := ⟨hr7, hlf.1, by omega, by omega, hlf.2.1, hyes.1, hyes.2, dMet_symf hD hyes.2⟩
                  have g2 : gOk D n r o t := ⟨hr7, by omega, hlf.1, by omega, hyes.1, hlf.2.1, dMet_symf hD hyes.2, hyes.2⟩
                  obtain ⟨e1, e2, e3, e4⟩ := tg_same (τ := τ) (p := p) (f := f) (n := n) (by omega) hot hyes.1 hyes.2
                  rw [hst, e1, e3]
                  rw [hst2, e2, e4]
                  have ok1 := tgF_ok (al := alwP (enc τ D 0) p f r t o) (D := D) (goF_ok (τ := τ) (n := n) (all := all) (p := p) (f := f) k (dG D r t o) r (b - 1))
                  generalize hq1 : goF τ n all p f k (dG D r t o) r (b - 1) = x1 at ok1 ⊢
                  have ok2 := tgF_ok (al := alwP (enc τ D 0) p f r o t) (D := D) (goF_ok (τ := τ) (n := n) (all := all) (p := p) (f := f) k (dG D r o t) r ((tgF (alwP (enc τ D 0) p f r t o) D b x1).2.2 - 1))
                  generalize hq2 : goF τ n all p f k (dG D r o t) r ((tgF (alwP (enc τ D 0) p f r t o) D b x1).2.2 - 1) = x2 at ok2 ⊢
                  have c1 : zF l (d + 2 * (k + 1) + 4) M_se_tryGame [.ref 12, vi (dp : Int), vi (r : Int), vi (t : Int), vi (o : Int)] (enc τ D b) _ _ := se_tryGame (d := d + 2 * k + 2) (dp := (dp : Int)) S hD hb g1 (goF_ok k (dG D r t o) r (b - 1)) (fun hb0 => ih (dp := dp + 1) (d := d) (by omega) hr7 (by omega) (dG_ok hD hn8 g1) (dG_later hO hfr2))
                  rw [hq1] at c1
                  have c2 : zF l (d + 2 * (k + 1) + 4) M_se_tryGame [.ref 12, vi (dp : Int), vi (r : Int), vi (o : Int), vi (t : Int)] (enc τ D (tgF (alwP (enc τ D 0) p f r t o) D b x1).2.2) _ _ := se_tryGame (d := d + 2 * k + 2) (dp := (dp : Int)) S hD (by have := ok1.2.2; omega) g2 (goF_ok k (dG D r o t) r ((tgF (alwP (enc τ D 0) p f r t o) D b x1).2.2 - 1)) (fun hb0 => ih (dp := dp + 1) (d := d) (by omega) hr7 (by have := ok1.2.2; omega) (dG_ok hD hn8 g2) (dG_later hO hfr2))
                  rw [hq2] at c2
                  generalize hy1 : tgF (alwP (enc τ D 0) p f r t o) D b x1 = y1 at ok1 ok2 c1 c2 ⊢
                  generalize hy2 : tgF (alwP (enc τ D 0) p f r o t) D y1.2.2 x2 = y2 at ok2 c2 ⊢
                  refine zr_aload_n d_se_goOn_79 rfl ?_
                  refine zi_iload_n d_se_goOn_80 rfl ?_
                  refine zi_iload_n d_se_goOn_81 rfl ?_
                  refine zi_iload d_se_goOn_82 rfl ?_
                  refine zi_iload d_se_goOn_84 rfl ?_
                  refine c_se_goOn_86 rfl rfl (c1) ?_
                  refine zi_istore d_se_goOn_89 (by decide) rfl ?_
                  refine zi_iload d_se_goOn_91 rfl ?_
                  refine zi_if_ne 108 d_se_goOn_93 (by decide) (rz ok1) (fun h93 => ?_) (fun h93 => ?_)
                  · rw [if_neg h93]
                    refine zi_iload d_se_goOn_108 rfl ?_
                    refine zi_if_eq 116 d_se_goOn_110 (by decide) (rz ok1) (fun h110 => ?_) (fun h110 => ?_)
                    · exact absurd h110 h93
                    · refine zi_iload d_se_goOn_113 rfl ?_
                      exact zk_iret rfl d_se_goOn_115 (Nat.zero_le _) (Nat.zero_le _) rfl rfl
                  · rw [if_pos h93]
                    rw [ok1.2.1 h93]
                    refine zr_aload_n d_se_goOn_96 rfl ?_
                    refine zi_iload_n d_se_goOn_97 rfl ?_
                    refine zi_iload_n d_se_goOn_98 rfl ?_
                    refine zi_iload d_se_goOn_99 rfl ?_
                    refine zi_iload d_se_goOn_101 rfl ?_
                    refine c_se_goOn_103 rfl rfl (c2) ?_
                    refine zi_istore d_se_goOn_106 (by decide) rfl ?_
                    refine zi_iload d_se_goOn_108 rfl ?_
                    refine zi_if_eq 116 d_se_goOn_110 (by decide) (rz ok2) (fun h110 => ?_) (fun h110 => ?_)
                    · rw [if_pos h110, ok2.2.1 h110]
                      have hgo2 := ihm (o + 1) y2.2.2 (by omega) (by omega) (by have := ok1.2.2; have := ok2.2.2; omega)
                      refine zi_iinc d_se_goOn_116 (by decide) rfl rfl ?_
                      refine zr_goto 55 d_se_goOn_119 (by decide) ?_
                      exact zE4 hgo2 (by refine ⟨?_, ?_, ?_, ?_, ?_, ?_, ?_, trivial⟩ <;> first | exact Or.inl rfl | exact Or.inr rfl) rfl
                    · rw [if_neg h110]
                      refine zi_iload d_se_goOn_113 rfl ?_
                      exact zk_iret rfl d_se_goOn_115 (Nat.zero_le _) (Nat.zero_le _) rfl rfl
          exact zE4 (hkey (n - (t + 1)) (t + 1) b (by omega) (by omega) hb) (by refine ⟨?_, ?_, ?_, ?_, ?_, ?_, ?_, trivial⟩ <;> first | exact Or.inl rfl | exact Or.inr rfl) rfl
        · exact absurd h37 (by omega)
      · have hra : all ≤ rdF D n fr := by by_cases e : all ≤ rdF D n fr; exact e; rw [if_pos (by omega)] at h29; exact absurd h29 (by decide)
        refine zi_iconst d_se_goOn_32 ?_
        exact zk_iret rfl d_se_goOn_33 (Nat.zero_le _) (Nat.zero_le _) (by rw [goF, if_pos hra]) (by rw [goF, if_pos hra])
    refine zr_aload_n d_se_goOn_0 rfl ?_
    refine zi_getr (j := 2) d_se_goOn_1 zC2 fl_se_20 (by decide) rfl rfl ?_
    refine zi_iload_n d_se_goOn_4 rfl ?_
    refine zi_ialdE (x := ((msk (dBusy D fr) 8 : Nat) : Int)) d_se_goOn_5 rfl (by decide) (by omega) (by omega) (by rw [Int.toNat_natCast]; exact enc_16 _ _ _ _ hfr) ?_
    refine zr_aload_n d_se_goOn_6 rfl ?_
    refine zi_getiE (j := 5) (x := ((2 ^ n - 1 : Nat) : Int)) d_se_goOn_7 zC2 fl_se_48 (by decide) rfl rfl (by rw [enc_125]; exact S.2.2.2.2.2.2.2.2.2.2.2.1) ?_
    refine zi_icmp_ne 19 d_se_goOn_10 (by decide) (by first | assumption | exact ⟨by omega, by omega⟩) (by first | assumption | exact ⟨by omega, by omega⟩) (fun h10 => ?_) (fun h10 => ?_)
    · have hrr : (fr : Int) = ((rdF D n fr : Nat) : Int) := by rcases hrd with e | e; rw [e]; exact absurd ((rd_eq hD hn8).mpr e) (by omega)
      refine zi_iload_n d_se_goOn_19 rfl ?_
      exact zE5 key (by rw [hrr])
    · have hrr : (fr : Int) + 1 = ((rdF D n fr : Nat) : Int) := by rw [(rd_eq hD hn8).mp (by omega)]; omega
      refine zi_iload_n d_se_goOn_13 rfl ?_
      refine zi_iconst d_se_goOn_14 ?_
      refine zi_iadd d_se_goOn_15 ?_
      refine zr_goto 20 d_se_goOn_16 (by decide) ?_
      exact zE5 key (by rw [hrr])
