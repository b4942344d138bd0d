/-! the reference: search and make (written by wip/gen/t40.py) -/
theorem tF_53 {w : tS} (hA : AllIn w) (hz : ∀ j, w 54 j = 0 ∨ w 54 j = 1) : SFr w (tF w 53 160 (-2)) 0 := by
  refine ⟨fun q j => ?_, fun j => ?_, fun q j h => ?_, fun q j h hj => by omega⟩
  · simp only [tF]
    split
    · exact ⟨by decide, by decide⟩
    · exact hA q j
  · simp only [tF]; rw [if_neg (by omega)]; exact hz j
  · simp only [tF]; rw [if_neg (by omega)]
theorem MR_0 (w : tS) : MR (tF w 53 160 (-2)) D0 := by
  intro r t hr ht
  refine ⟨?_, fun g => absurd g (by show ¬ (0 : Int) ≤ -2; decide)⟩
  simp only [tF]
  rw [if_pos ⟨trivial, by omega⟩]
  rfl
theorem rd_0 {n : Nat} (hn : 0 < n) : rdF D0 n 0 = 0 := by
  unfold rdF
  rw [if_pos]
  exact (anyN_iff _ _).mpr ⟨0, hn, rfl⟩
theorem md_search {l : Launch} {d : Nat} {τ w : tS} {n R p f e all B : Nat} (C : Mo w n R p f e) (W : WR τ w n p f) (hn8 : n ≤ 8) (hall : all = n - 1 + n % 2) (hB : B ≤ 4000) : ∃ w', zF l (d + 6) M_md_search [.ref 37, vi (B : Int)] w (some (vi (goF τ n all p f 28 D0 0 B).1)) w' ∧ SFr w w' 0 ∧ ((goF τ n all p f 28 D0 0 B).1 = 1 → MR w' (goF τ n all p f 28 D0 0 B).2.1) := by
  have hA := C.A
  have hn := C.n
  have hn4 := C.n4
  have hF0 := tF_53 C.A C.z54
  have C0 := hF0.mo C
  have hM0 := MR_0 w
  have hfree : ∃ t, t < n ∧ D0 0 t = -2 := ⟨0, by omega, rfl⟩
  have hlf := lf_ok hn8 hfree
  have hbeg := md_begin1 (l := l) (d := d + 3) C0 hn8 (L := 0) (rp := 0) (all := all) (by omega) (fun _ => rfl) (fun h => by omega) (by omega) (by omega) (by rw [mr_rd hM0 hn8 (by omega), rd_0 (by omega)]; omega)
  rw [mr_rd hM0 hn8 (by omega), rd_0 (by omega)] at hbeg
  have hdn := mr_lf hM0 hn8 (r := 0) (by omega) hfree
  have hF1 := be_fr (n := n) (L := 0) (r := 0) C0.A C0.z54 hn8 (by omega)
  have hM1 : MR (beT (tF w 53 160 (-2)) n 0 0) D0 := MR_fr hM0 (fun j => by simp [beT, tU]) (fun j => by simp [beT, tU])
  have q55 : beT (tF w 53 160 (-2)) n 0 0 55 0 = ((0 : Nat) : Int) := by simp [beT, tU]
  have q56 : beT (tF w 53 160 (-2)) n 0 0 56 0 = ((lfD D0 n 0 : Nat) : Int) := by rw [← hdn]; simp [beT, tU]
  have q57 : beT (tF w 53 160 (-2)) n 0 0 57 0 = ((0 : Nat) : Int) - 1 := by simp [beT, tU]
  have hlev := se_level (l := l) (d := d) (τ := τ) hn4 hn8 hall hB 27 0 (by omega) (2 * n + 1) 0 B D0 _ 0 (lfD D0 n 0) (by omega) (Nat.le_refl _) (hF1.mo C0) (hF1.wr (hF0.wr W)) hM1 (DI_0 n all) (by omega) hlf.1 hlf.2.1 (fun i s hi => rfl) q55 q56 q57
  have hgo : (goF τ n all p f 28 D0 0 B) = chF (fun D' b' => goF τ n all p f 27 D' 0 b') (okF τ D0 n p f 0 (lfD D0 n 0)) (chD D0 n 0 (lfD D0 n 0)) D0 (2 * n + 1) 0 B := by
    rw [goF, rd_0 (by omega), if_neg (by omega)]
    generalize lfD D0 n 0 = t' at hlf
    have h9 := chF_skip (nx := fun D' b' => goF τ n all p f 27 D' 0 b') (ok := okF τ D0 n p f 0 t') (ch := chD D0 n 0 t') (D := D0) (m2 := 2 * (n - (t' + 1)) + 1) (b := B) (2 * (t' + 1)) 0 (fun i h1 h2 => ok_below hlf.1 hlf.2.2 (by omega))
    rw [show 2 * (t' + 1) + (2 * (n - (t' + 1)) + 1) = 2 * n + 1 by omega, Nat.zero_add] at h9
    exact h9.symm
  rw [← hgo] at hlev
  generalize (goF τ n all p f 28 D0 0 B) = q at hlev
  have hent : ∀ res, zV l (d + 6) M_md_search 97 [.ref 37, vi (B : Int), vi (all : Int), vi ((B - B : Nat) : Int), vi ((0 : Nat) : Int), vi 1, .null] [] (beT (tF w 53 160 (-2)) n 0 0) (0, 0) res → zV l (d + 6) M_md_search 0 [.ref 37, vi (B : Int), .null, .null, .null, .null, .null] [] w (0, 0) res := by
    intro res hres
    have k22 : zV l (d + 6) M_md_search 22 [.ref 37, vi (B : Int), .null, .null, .null, .null, .null] (vi (all : Int) :: []) w (0, 0) res := by
      refine zi_istore_n d_md_search_22 (by decide) rfl ?_
      refine zi_iconst d_md_search_23 ?_
      refine zi_istore_n d_md_search_24 (by decide) rfl ?_
      have key := zup (P := fun (i : Nat) => zV l (d + 6) M_md_search 25 [.ref 37, vi (B : Int), vi (all : Int), vi (i : Int), .null, .null, .null] [] (tF w 53 i (-2)) (0, 0) (res)) (160) ?_ ?_ 0 (by omega)
      · exact zE4 key (by refine ⟨?_, ?_, ?_, ?_, ?_, ?_, ?_, trivial⟩ <;> first | exact Or.inl rfl | exact Or.inr rfl) (tF_0 w 53 (-2)).symm
      · intro i hi hk
        refine zi_iload_n d_md_search_25 rfl ?_
        refine zi_sipush d_md_search_26 (by decide) ?_
        refine zi_icmp_ge 46 d_md_search_29 (by decide) (by first | assumption | exact ⟨by omega, by omega⟩) (by first | assumption | exact ⟨by omega, by omega⟩) (fun h29 => ?_) (fun h29 => ?_)
        · exact absurd h29 (by omega)
        · refine zr_aload_n d_md_search_32 rfl ?_
          refine zi_getr (j := 23) d_md_search_33 zC8 fl_md_60 (by decide) rfl rfl ?_
          refine zi_iload_n d_md_search_36 rfl ?_
          refine zi_bipush d_md_search_37 (by decide) ?_
          refine zi_iast d_md_search_39 rfl (by decide) (by omega) (by omega) ?_
          rw [Int.toNat_natCast]
          refine zi_iinc d_md_search_40 (by decide) rfl rfl ?_
          refine zr_goto 25 d_md_search_43 (by decide) ?_
          exact zE4 hk (by refine ⟨?_, ?_, ?_, ?_, ?_, ?_, ?_, trivial⟩ <;> first | exact Or.inl rfl | exact Or.inr rfl) (tF_s w 53 i (-2))
      · refine zi_iload_n d_md_search_25 rfl ?_
        refine zi_sipush d_md_search_26 (by decide) ?_
        refine zi_icmp_ge 46 d_md_search_29 (by decide) (by first | assumption | exact ⟨by omega, by omega⟩) (by first | assumption | exact ⟨by omega, by omega⟩) (fun h29 => ?_) (fun h29 => ?_)
        · refine zi_iconst d_md_search_46 ?_
          refine zi_istore_n d_md_search_47 (by decide) rfl ?_
          refine zi_iconst d_md_search_48 ?_
          refine zi_istore d_md_search_49 (by decide) rfl ?_
          refine zr_aload_n d_md_search_51 rfl ?_
          refine zi_iconst d_md_search_52 ?_
          refine zi_iload_n d_md_search_53 rfl ?_
          refine c_md_search_54 rfl rfl (hbeg) ?_
          refine zi_istore d_md_search_57 (by decide) rfl ?_
          refine zi_iload d_md_search_59 rfl ?_
          refine zi_if_eq 170 d_md_search_61 (by decide) ⟨by decide, by decide⟩ (fun h61 => ?_) (fun h61 => ?_)
          · exact absurd h61 (by decide)
          · refine zi_iload d_md_search_64 rfl ?_
            refine zi_if_lt 170 d_md_search_66 (by decide) ⟨by decide, by decide⟩ (fun h66 => ?_) (fun h66 => ?_)
            · exact absurd h66 (by decide)
            · refine zr_aload_n d_md_search_69 rfl ?_
              refine zi_getr (j := 27) d_md_search_70 zC8 fl_md_72 (by decide) rfl rfl ?_
              refine zi_iload d_md_search_73 rfl ?_
              refine zi_ialdE (x := -1) d_md_search_75 rfl (by decide) (by omega) (by omega) (by exact q57) ?_
              refine zi_if_lt 97 d_md_search_76 (by decide) ⟨by decide, by decide⟩ (fun h76 => ?_) (fun h76 => ?_)
              · exact zE4 hres (by refine ⟨?_, ?_, ?_, ?_, ?_, ?_, ?_, trivial⟩ <;> first | exact Or.inl rfl | exact Or.inr rfl | exact Or.inr (congrArg vi (by omega))) rfl
              · exact absurd h76 (by decide)
        · exact absurd h29 (by omega)
    refine zr_aload_n d_md_search_0 rfl ?_
    refine zi_getiE (j := 1) (x := (n : Int)) d_md_search_1 zC8 fl_md_7 (by decide) rfl rfl (hn) ?_
    refine zi_iconst d_md_search_4 ?_
    refine zi_irem d_md_search_5 ⟨by omega, by omega⟩ ⟨by decide, by decide⟩ ?_
    refine zi_if_ne 18 d_md_search_6 (by decide) ⟨by omega, by omega⟩ (fun h6 => ?_) (fun h6 => ?_)
    · refine zr_aload_n d_md_search_18 rfl ?_
      refine zi_getiE (j := 1) (x := (n : Int)) d_md_search_19 zC8 fl_md_7 (by decide) rfl rfl (hn) ?_
      exact zE5 k22 (by first | rw [show (n : Int) - 1 = (all : Int) by omega] | rw [show (n : Int) = (all : Int) by omega])
    · refine zr_aload_n d_md_search_9 rfl ?_
      refine zi_getiE (j := 1) (x := (n : Int)) d_md_search_10 zC8 fl_md_7 (by decide) rfl rfl (hn) ?_
      refine zi_iconst d_md_search_13 ?_
      refine zi_isub d_md_search_14 ?_
      refine zr_goto 22 d_md_search_15 (by decide) ?_
      exact zE5 k22 (by first | rw [show (n : Int) - 1 = (all : Int) by omega] | rw [show (n : Int) = (all : Int) by omega])
  obtain ⟨w', hF, hcase⟩ := hlev
  have hFF : SFr w w' 0 := SFr.tr (SFr.tr hF0 hF1 (Nat.le_refl _) (Nat.le_refl _)) hF (Nat.le_refl _) (Nat.le_refl _)
  rcases hcase with ⟨a1, a2, a3⟩ | ⟨a1, a2, L', md, a3, a4⟩ | ⟨a1, a2⟩
  · refine ⟨w', ?_, hFF, fun g => by rw [a1] at g; exact absurd g (by decide)⟩
    refine zMet_of (ls := [.ref 37, vi (B : Int), .null, .null, .null, .null, .null]) pn_md rfl (by simp [vi, Value.category]) rfl rfl ?_
    refine hent _ (a3 _ ?_)
    refine zi_iload d_md_search_59 rfl ?_
    refine zi_if_eq 170 d_md_search_61 (by decide) ⟨by decide, by decide⟩ (fun h61 => ?_) (fun h61 => ?_)
    · exact absurd h61 (by decide)
    · refine zi_iload d_md_search_64 rfl ?_
      refine zi_if_lt 170 d_md_search_66 (by decide) ⟨by decide, by decide⟩ (fun h66 => ?_) (fun h66 => ?_)
      · refine zi_iload d_md_search_170 rfl ?_
        refine zi_if_ge 179 d_md_search_172 (by decide) ⟨by decide, by decide⟩ (fun h172 => ?_) (fun h172 => ?_)
        · exact absurd h172 (by decide)
        · refine zi_iconst d_md_search_175 ?_
          refine zr_goto 180 d_md_search_176 (by decide) ?_
          exact zk_iret rfl d_md_search_180 (Nat.zero_le _) (Nat.zero_le _) (by rw [a1]) rfl
      · exact absurd h66 (by decide)
  · refine ⟨w', ?_, hFF, fun _ => a2⟩
    refine zMet_of (ls := [.ref 37, vi (B : Int), .null, .null, .null, .null, .null]) pn_md rfl (by simp [vi, Value.category]) rfl rfl ?_
    refine hent _ (a4 _ ?_)
    refine zi_iload d_md_search_59 rfl ?_
    refine zi_if_eq 170 d_md_search_61 (by decide) ⟨by decide, by decide⟩ (fun h61 => ?_) (fun h61 => ?_)
    · refine zi_iload d_md_search_170 rfl ?_
      refine zi_if_ge 179 d_md_search_172 (by decide) ⟨by omega, by omega⟩ (fun h172 => ?_) (fun h172 => ?_)
      · refine zi_iconst d_md_search_179 ?_
        exact zk_iret rfl d_md_search_180 (Nat.zero_le _) (Nat.zero_le _) (by rw [a1]) rfl
      · exact absurd h172 (by omega)
    · exact absurd h61 (by decide)
  · refine ⟨w', ?_, hFF, fun g => by rw [a1] at g; exact absurd g (by decide)⟩
    refine zMet_of (ls := [.ref 37, vi (B : Int), .null, .null, .null, .null, .null]) pn_md rfl (by simp [vi, Value.category]) rfl rfl ?_
    refine hent _ (a2 _ ?_)
    refine zi_iconst d_md_search_130 ?_
    exact zk_iret rfl d_md_search_131 (Nat.zero_le _) (Nat.zero_le _) (by rw [a1]) rfl
/-- the copy of the draft: rounds below A, and in round A the teams below T -/
def mkT (w : tS) (n A T : Nat) : tS := fun q j => if (q = 44 ∨ q = 45) ∧ (j / 20 < A ∨ (j / 20 = A ∧ j % 20 < T)) ∧ j % 20 < n then (if q = 44 then w 53 j else if 0 ≤ w 53 j ∧ ¬ w 54 j = 0 then 1 else 0) else w q j
theorem mkT_0 (w : tS) (n : Nat) : mkT w n 0 0 = w := by
  funext q j
  unfold mkT
  rw [if_neg (by omega)]
theorem mkT_n (w : tS) (n A : Nat) : mkT w n A n = mkT w n (A + 1) 0 := by
  funext q j
  unfold mkT
  have : ((j / 20 < A ∨ (j / 20 = A ∧ j % 20 < n)) ∧ j % 20 < n) ↔ ((j / 20 < A + 1 ∨ (j / 20 = A + 1 ∧ j % 20 < 0)) ∧ j % 20 < n) := by omega
  simp only [this]
theorem mkT_s (w : tS) {n A T : Nat} (hT : T < n) (hn : n ≤ 20) : tU (tU (mkT w n A T) 44 (20 * A + T) (w 53 (20 * A + T))) 45 (20 * A + T) (if 0 ≤ w 53 (20 * A + T) ∧ ¬ w 54 (20 * A + T) = 0 then 1 else 0) = mkT w n A (T + 1) := by
  funext q j
  by_cases e : j = 20 * A + T
  · subst e
    have e1 : (20 * A + T) / 20 = A := by omega
    have e2 : (20 * A + T) % 20 = T := by omega
    simp only [tU, mkT, e1, e2]
    by_cases q4 : q = 44
    · subst q4
      simp [hT]
    · by_cases q5 : q = 45
      · subst q5
        simp [hT]
      · simp [q4, q5]
  · simp only [tU, mkT]
    rw [if_neg (fun g => e g.2), if_neg (fun g => e g.2)]
    have : (j / 20 < A ∨ (j / 20 = A ∧ j % 20 < T)) ↔ (j / 20 < A ∨ (j / 20 = A ∧ j % 20 < T + 1)) := by omega
    simp only [this]
theorem mkT_ne (w : tS) (n A T q j : Nat) (h4 : q ≠ 44) (h5 : q ≠ 45) : mkT w n A T q j = w q j := by
  unfold mkT
  rw [if_neg (by omega)]
theorem mkT_in {w : tS} {n A T : Nat} (h : AllIn w) : AllIn (mkT w n A T) := by
  intro q j
  unfold mkT
  split
  · split
    · exact h _ _
    · split <;> exact ⟨by decide, by decide⟩
  · exact h q j
def mkE (w1 : tS) (n all : Nat) : tS := csT (mkT (tU w1 37 12 (all : Int)) n all 0)
theorem Mo.t37 {w : tS} {n R p f e : Nat} (h : Mo w n R p f e) {x : Int} (hx : zin x) : Mo (tU w 37 0 x) n R p f e := by
  have g : ∀ q j, ¬ (q = 37 ∧ j = 0) → tU w 37 0 x q j = w q j := fun q j h => by simp only [tU]; rw [if_neg h]
  refine ⟨in_U h.A hx, ?_, h.n4, h.n20, ?_, h.R38, ?_, h.p6, ?_, h.f6, ?_, h.e6, ?_, ?_, ?_, ?_, ?_, ?_, ?_, ?_, ?_⟩
  · rw [g _ _ (by omega)]; exact h.n
  · rw [g _ _ (by omega)]; exact h.R
  · rw [g _ _ (by omega)]; exact h.p
  · rw [g _ _ (by omega)]; exact h.f
  · rw [g _ _ (by omega)]; exact h.e
  · intro i hi; rw [g _ _ (by omega), g _ _ (by omega)]; exact h.pr i hi
  · intro i hi; rw [g _ _ (by omega), g _ _ (by omega), g _ _ (by omega)]; exact h.fx i hi
  · intro j; rw [g _ _ (by omega)]; exact h.z38 j
  · intro j; rw [g _ _ (by omega)]; exact h.z45 j
  · intro j; rw [g _ _ (by omega)]; exact h.z46 j
  · intro j; rw [g _ _ (by omega)]; exact h.z49 j
  · intro j; rw [g _ _ (by omega)]; exact h.z51 j
  · intro j; rw [g _ _ (by omega)]; exact h.z54 j
  · intro r t hr ht; rw [g _ _ (by omega)]; exact h.foe r t hr ht
theorem WR.t37 {τ w : tS} {n p f : Nat} (W : WR τ w n p f) (x : Int) : WR τ (tU w 37 0 x) n p f := by
  obtain ⟨h1, h2, h3, h4, h5⟩ := W
  have g : ∀ q j, ¬ (q = 37 ∧ j = 0) → tU w 37 0 x q j = w q j := fun q j h => by simp only [tU]; rw [if_neg h]
  refine ⟨fun t r ht hr => ?_, fun t r ht hr => ?_, fun i hi => ?_, fun i hi => ?_, ?_⟩
  · rw [g _ _ (by omega)]; exact h1 t r ht hr
  · rw [g _ _ (by omega)]; exact h2 t r ht hr
  · rw [g _ _ (by omega), g _ _ (by omega)]; exact h3 i hi
  · rw [g _ _ (by omega), g _ _ (by omega), g _ _ (by omega)]; exact h4 i hi
  · rw [g _ _ (by omega)]; exact h5
theorem md_make {l : Launch} {d : Nat} {τ w : tS} {n R p f e all B : Nat} (C : Mo w n R p f e) (W : WR τ w n p f) (hn8 : n ≤ 8) (hall : all = n - 1 + n % 2) (hB1 : 1 ≤ B) (hB : B ≤ 4000) : ∃ w1, SFr (tU w 37 0 0) w1 0 ∧ ((goF τ n all p f 28 D0 0 B).1 = 1 → MR w1 (goF τ n all p f 28 D0 0 B).2.1) ∧ zF l (d + 7) M_md_make [.ref 37, vi (B : Int)] w (some (vi (goF τ n all p f 28 D0 0 B).1)) (if (goF τ n all p f 28 D0 0 B).1 = 1 then mkE w1 n all else w1) := by
  have hn0 := C.n
  have C1 := C.t37 (x := 0) ⟨by decide, by decide⟩
  obtain ⟨w1, hz, hF, hM⟩ := md_search (l := l) (d := d) C1 (W.t37 0) hn8 hall hB
  have hq := goF_ok (τ := τ) (n := n) (all := all) (p := p) (f := f) 28 D0 0 B
  generalize (goF τ n all p f 28 D0 0 B) = q at hz hM hq ⊢
  refine ⟨w1, hF, hM, ?_⟩
  have hn4 := C.n4
  have C2 := hF.mo C1
  have hn1 := C2.n
  have hA1 := C2.A
  have zq1 : zin q.1 := rz hq
  refine zMet_of (ls := [.ref 37, vi (B : Int), .null, .null, .null, .null]) pn_md rfl (by simp [vi, Value.category]) rfl rfl ?_
  refine zr_aload_n d_md_make_0 rfl ?_
  refine zi_iload_n d_md_make_1 rfl ?_
  refine zi_iconst d_md_make_2 ?_
  refine zi_sipush d_md_make_3 (by decide) ?_
  refine c_md_make_6 rfl (md_in ⟨by omega, by omega⟩ ⟨by decide, by decide⟩ ⟨by decide, by decide⟩) ?_
  rw [if_pos (show (1 : Int) ≤ (B : Int) ∧ (B : Int) ≤ 4000 by omega)]
  refine zi_if_ne 16 d_md_make_9 (by decide) ⟨by decide, by decide⟩ (fun h9 => ?_) (fun h9 => ?_)
  · refine zi_iconst d_md_make_16 ?_
    refine zr_aload_n d_md_make_17 rfl ?_
    refine zi_getiE (j := 1) (x := (n : Int)) d_md_make_18 zC8 fl_md_7 (by decide) rfl rfl (hn0) ?_
    refine zi_bipush d_md_make_21 (by decide) ?_
    refine zi_icmp_le 30 d_md_make_23 (by decide) ⟨by omega, by omega⟩ ⟨by decide, by decide⟩ (fun h23 => ?_) (fun h23 => ?_)
    · refine zi_iconst d_md_make_30 ?_
      refine zi_iconst d_md_make_31 ?_
      refine zi_iconst d_md_make_32 ?_
      refine c_md_make_33 rfl rfl (md_refused ⟨by decide, by decide⟩ ⟨by decide, by decide⟩ ⟨by decide, by decide⟩ ⟨by decide, by decide⟩) ?_
      show zV _ _ _ _ _ (vi 0 :: _) (tU w 37 0 0) _ _
      refine zi_if_eq 41 d_md_make_36 (by decide) ⟨by decide, by decide⟩ (fun h36 => ?_) (fun h36 => ?_)
      · refine zr_aload_n d_md_make_41 rfl ?_
        refine zi_iload_n d_md_make_42 rfl ?_
        refine c_md_make_43 rfl rfl (hz) ?_
        refine zi_istore_n d_md_make_46 (by decide) rfl ?_
        refine zi_iload_n d_md_make_47 rfl ?_
        refine zi_iconst d_md_make_48 ?_
        refine zi_icmp_ne 171 d_md_make_49 (by decide) zq1 ⟨by decide, by decide⟩ (fun h49 => ?_) (fun h49 => ?_)
        · rw [if_neg h49]
          refine zi_iload_n d_md_make_171 rfl ?_
          exact zk_iret rfl d_md_make_172 (Nat.zero_le _) (Nat.zero_le _) rfl rfl
        · have hq1 : q.1 = 1 := by omega
          rw [if_pos hq1]
          have k75 : zV l (d + 7) M_md_make 75 [.ref 37, .null, vi q.1, .null, .null, .null] (vi (all : Int) :: .ref 37 :: []) w1 (0, 0) (.inl (some (vi q.1)), (SH, zq (mkE w1 n all)), 0, 0) := by
            refine zi_puti (j := 12) d_md_make_75 zC8 fl_md_94 (by decide) rfl rfl rfl rfl ?_
            refine zi_iconst d_md_make_78 ?_
            refine zi_istore_n d_md_make_79 (by decide) rfl ?_
            have key := zup (P := fun (i : Nat) => zV l (d + 7) M_md_make 80 [.ref 37, .null, vi q.1, vi (i : Int), .null, .null] [] (mkT (tU w1 37 12 (all : Int)) n i 0) (0, 0) (.inl (some (vi q.1)), (SH, zq (mkE w1 n all)), 0, 0)) all ?_ ?_ 0 (by omega)
            · exact zE4 key (by refine ⟨?_, ?_, ?_, ?_, ?_, ?_, trivial⟩ <;> first | exact Or.inl rfl | exact Or.inr rfl) (mkT_0 _ _).symm
            · intro i hi hk
              refine zi_iload_n d_md_make_80 rfl ?_
              refine zr_aload_n d_md_make_81 rfl ?_
              refine zi_getiE (j := 12) (x := (all : Int)) d_md_make_82 zC8 fl_md_94 (by decide) rfl rfl (by rw [mkT_ne _ _ _ _ _ _ (by decide) (by decide)]; simp [tU]) ?_
              refine zi_icmp_ge 167 d_md_make_85 (by decide) (by first | assumption | exact ⟨by omega, by omega⟩) (by first | assumption | exact ⟨by omega, by omega⟩) (fun h85 => ?_) (fun h85 => ?_)
              · exact absurd h85 (by omega)
              · refine zi_iconst d_md_make_88 ?_
                refine zi_istore d_md_make_89 (by decide) rfl ?_
                have inn := zup (P := fun (t : Nat) => zV l (d + 7) M_md_make 91 [.ref 37, .null, vi q.1, vi (i : Int), vi (t : Int), .null] [] (mkT (tU w1 37 12 (all : Int)) n i t) (0, 0) (.inl (some (vi q.1)), (SH, zq (mkE w1 n all)), 0, 0)) n ?_ ?_ 0 (by omega)
                · exact zE4 inn (by refine ⟨?_, ?_, ?_, ?_, ?_, ?_, trivial⟩ <;> first | exact Or.inl rfl | exact Or.inr rfl) rfl
                · intro t ht hkt
                  have hkt2 := hkt
                  rw [← mkT_s (tU w1 37 12 (all : Int)) ht (by omega)] at hkt2
                  have e53 : (tU w1 37 12 (all : Int)) 53 (20 * i + t) = w1 53 (20 * i + t) := by simp [tU]
                  have e54 : (tU w1 37 12 (all : Int)) 54 (20 * i + t) = w1 54 (20 * i + t) := by simp [tU]
                  rw [e53, e54] at hkt2
                  refine zi_iload d_md_make_91 rfl ?_
                  refine zr_aload_n d_md_make_93 rfl ?_
                  refine zi_getiE (j := 1) (x := (n : Int)) d_md_make_94 zC8 fl_md_7 (by decide) rfl rfl (by rw [mkT_ne _ _ _ _ _ _ (by decide) (by decide)]; simp [tU]; exact hn1) ?_
                  refine zi_icmp_ge 161 d_md_make_97 (by decide) (by first | assumption | exact ⟨by omega, by omega⟩) (by first | assumption | exact ⟨by omega, by omega⟩) (fun h97 => ?_) (fun h97 => ?_)
                  · exact absurd h97 (by omega)
                  · refine zi_bipush d_md_make_100 (by decide) ?_
                    refine zi_iload_n d_md_make_102 rfl ?_
                    refine zi_imul d_md_make_103 ?_
                    refine zi_iload d_md_make_104 rfl ?_
                    refine zi_iadd d_md_make_106 ?_
                    refine zi_istore d_md_make_107 (by decide) rfl ?_
                    refine zr_aload_n d_md_make_109 rfl ?_
                    refine zi_getr (j := 13) d_md_make_110 zC8 fl_md_33 (by decide) rfl rfl ?_
                    refine zi_iload d_md_make_113 rfl ?_
                    refine zr_aload_n d_md_make_115 rfl ?_
                    refine zi_getr (j := 23) d_md_make_116 zC8 fl_md_60 (by decide) rfl rfl ?_
                    refine zi_iload d_md_make_119 rfl ?_
                    have e1 : (20 * (i : Int) + (t : Int)).toNat = 20 * i + t := by omega
                    refine zi_ialdE (x := w1 53 (20 * i + t)) d_md_make_121 rfl (by decide) (by omega) (by omega) (by rw [e1, mkT_ne _ _ _ _ _ _ (by decide) (by decide)]; simp [tU]) ?_
                    refine zi_iast d_md_make_122 rfl (by decide) (by omega) (by omega) ?_
                    rw [e1]
                    refine zr_aload_n d_md_make_123 rfl ?_
                    refine zi_getr (j := 14) d_md_make_124 zC8 fl_md_36 (by decide) rfl rfl ?_
                    refine zi_iload d_md_make_127 rfl ?_
                    refine zr_aload_n d_md_make_129 rfl ?_
                    refine zi_getr (j := 23) d_md_make_130 zC8 fl_md_60 (by decide) rfl rfl ?_
                    refine zi_iload d_md_make_133 rfl ?_
                    refine zi_ialdE (x := w1 53 (20 * i + t)) d_md_make_135 rfl (by decide) (by omega) (by omega) (by rw [e1]; simp only [tU]; rw [if_neg (by omega), mkT_ne _ _ _ _ _ _ (by decide) (by decide)]; simp [tU]) ?_
                    refine zi_if_lt 153 d_md_make_136 (by decide) (hA1 _ _) (fun h136 => ?_) (fun h136 => ?_)
                    · refine zi_iconst d_md_make_153 ?_
                      refine zi_zast d_md_make_154 rfl (by decide) (by omega) (by omega) (by first | exact Or.inl rfl | exact Or.inr rfl) ?_
                      rw [e1]
                      refine zi_iinc d_md_make_155 (by decide) rfl rfl ?_
                      refine zr_goto 91 d_md_make_158 (by decide) ?_
                      exact zE4 hkt2 (by refine ⟨?_, ?_, ?_, ?_, ?_, ?_, trivial⟩ <;> first | exact Or.inl rfl | exact Or.inr rfl) (by first | (rw [if_neg (by omega)]; done) | (rw [if_pos (by omega)]; done))
                    · refine zr_aload_n d_md_make_139 rfl ?_
                      refine zi_getr (j := 24) d_md_make_140 zC8 fl_md_63 (by decide) rfl rfl ?_
                      refine zi_iload d_md_make_143 rfl ?_
                      refine zi_zaldE (x := w1 54 (20 * i + t)) d_md_make_145 rfl (by decide) (by omega) (by omega) (by rw [e1]; simp only [tU]; rw [if_neg (by omega), mkT_ne _ _ _ _ _ _ (by decide) (by decide)]; simp [tU]) ?_
                      refine zi_if_eq 153 d_md_make_146 (by decide) (hA1 _ _) (fun h146 => ?_) (fun h146 => ?_)
                      · refine zi_iconst d_md_make_153 ?_
                        refine zi_zast d_md_make_154 rfl (by decide) (by omega) (by omega) (by first | exact Or.inl rfl | exact Or.inr rfl) ?_
                        rw [e1]
                        refine zi_iinc d_md_make_155 (by decide) rfl rfl ?_
                        refine zr_goto 91 d_md_make_158 (by decide) ?_
                        exact zE4 hkt2 (by refine ⟨?_, ?_, ?_, ?_, ?_, ?_, trivial⟩ <;> first | exact Or.inl rfl | exact Or.inr rfl) (by first | (rw [if_neg (by omega)]; done) | (rw [if_pos (by omega)]; done))
                      · refine zi_iconst d_md_make_149 ?_
                        refine zr_goto 154 d_md_make_150 (by decide) ?_
                        refine zi_zast d_md_make_154 rfl (by decide) (by omega) (by omega) (by first | exact Or.inl rfl | exact Or.inr rfl) ?_
                        rw [e1]
                        refine zi_iinc d_md_make_155 (by decide) rfl rfl ?_
                        refine zr_goto 91 d_md_make_158 (by decide) ?_
                        exact zE4 hkt2 (by refine ⟨?_, ?_, ?_, ?_, ?_, ?_, trivial⟩ <;> first | exact Or.inl rfl | exact Or.inr rfl) (by first | (rw [if_neg (by omega)]; done) | (rw [if_pos (by omega)]; done))
                · refine zi_iload d_md_make_91 rfl ?_
                  refine zr_aload_n d_md_make_93 rfl ?_
                  refine zi_getiE (j := 1) (x := (n : Int)) d_md_make_94 zC8 fl_md_7 (by decide) rfl rfl (by rw [mkT_ne _ _ _ _ _ _ (by decide) (by decide)]; simp [tU]; exact hn1) ?_
                  refine zi_icmp_ge 161 d_md_make_97 (by decide) (by first | assumption | exact ⟨by omega, by omega⟩) (by first | assumption | exact ⟨by omega, by omega⟩) (fun h97 => ?_) (fun h97 => ?_)
                  · refine zi_iinc d_md_make_161 (by decide) rfl rfl ?_
                    refine zr_goto 80 d_md_make_164 (by decide) ?_
                    rw [mkT_n]
                    exact zE4 hk (by refine ⟨?_, ?_, ?_, ?_, ?_, ?_, trivial⟩ <;> first | exact Or.inl rfl | exact Or.inr rfl) rfl
                  · exact absurd h97 (by omega)
            · refine zi_iload_n d_md_make_80 rfl ?_
              refine zr_aload_n d_md_make_81 rfl ?_
              refine zi_getiE (j := 12) (x := (all : Int)) d_md_make_82 zC8 fl_md_94 (by decide) rfl rfl (by rw [mkT_ne _ _ _ _ _ _ (by decide) (by decide)]; simp [tU]) ?_
              refine zi_icmp_ge 167 d_md_make_85 (by decide) (by first | assumption | exact ⟨by omega, by omega⟩) (by first | assumption | exact ⟨by omega, by omega⟩) (fun h85 => ?_) (fun h85 => ?_)
              · refine zr_aload_n d_md_make_167 rfl ?_
                refine c_md_make_168 rfl rfl (md_clearSeason) ?_
                refine zi_iload_n d_md_make_171 rfl ?_
                exact zk_iret rfl d_md_make_172 (Nat.zero_le _) (Nat.zero_le _) rfl rfl
              · exact absurd h85 (by omega)
          refine zr_aload_n d_md_make_52 rfl ?_
          refine zr_aload_n d_md_make_53 rfl ?_
          refine zi_getiE (j := 1) (x := (n : Int)) d_md_make_54 zC8 fl_md_7 (by decide) rfl rfl (hn1) ?_
          refine zi_iconst d_md_make_57 ?_
          refine zi_irem d_md_make_58 ⟨by omega, by omega⟩ ⟨by decide, by decide⟩ ?_
          refine zi_if_ne 71 d_md_make_59 (by decide) ⟨by omega, by omega⟩ (fun h59 => ?_) (fun h59 => ?_)
          · refine zr_aload_n d_md_make_71 rfl ?_
            refine zi_getiE (j := 1) (x := (n : Int)) d_md_make_72 zC8 fl_md_7 (by decide) rfl rfl (hn1) ?_
            exact zE4 (zE5 k75 (by first | (rw [show (n : Int) - 1 = (all : Int) by omega]; rfl) | (rw [show (n : Int) = (all : Int) by omega]; rfl))) (by refine ⟨?_, ?_, ?_, ?_, ?_, ?_, trivial⟩ <;> first | exact Or.inl rfl | exact Or.inr rfl) rfl
          · refine zr_aload_n d_md_make_62 rfl ?_
            refine zi_getiE (j := 1) (x := (n : Int)) d_md_make_63 zC8 fl_md_7 (by decide) rfl rfl (hn1) ?_
            refine zi_iconst d_md_make_66 ?_
            refine zi_isub d_md_make_67 ?_
            refine zr_goto 75 d_md_make_68 (by decide) ?_
            exact zE4 (zE5 k75 (by first | (rw [show (n : Int) - 1 = (all : Int) by omega]; rfl) | (rw [show (n : Int) = (all : Int) by omega]; rfl))) (by refine ⟨?_, ?_, ?_, ?_, ?_, ?_, trivial⟩ <;> first | exact Or.inl rfl | exact Or.inr rfl) rfl
      · exact absurd h36 (by decide)
    · exact absurd h23 (by omega)
  · exact absurd h9 (by decide)
theorem md_makeX {l : Launch} {d : Nat} {τ : tS} {n R p f e : Nat} (C : Mo τ n R p f e) {b : Int} (zb : zin b) (hb : ¬ (1 ≤ b ∧ b ≤ 4000)) : zF l (d + 7) M_md_make [.ref 37, vi b] (τ) (some (vi 0)) (tU τ 37 0 1) := by
  refine zMet_of (ls := [.ref 37, vi b, .null, .null, .null, .null]) pn_md rfl (by simp [vi, Value.category]) rfl rfl ?_
  have hA := C.A
  have hn := C.n
  have hn4 := C.n4
  have hn20 := C.n20
  have hR := C.R
  have hR38 := C.R38
  refine zr_aload_n d_md_make_0 rfl ?_
  refine zi_iload_n d_md_make_1 rfl ?_
  refine zi_iconst d_md_make_2 ?_
  refine zi_sipush d_md_make_3 (by decide) ?_
  refine c_md_make_6 rfl (md_in zb ⟨by decide, by decide⟩ ⟨by decide, by decide⟩) ?_
  refine zi_if_ne 16 d_md_make_9 (by decide) (by split <;> exact ⟨by decide, by decide⟩) (fun h9 => ?_) (fun h9 => ?_)
  · exfalso
    grind
  · refine zi_iconst d_md_make_12 ?_
    refine zr_goto 17 d_md_make_13 (by decide) ?_
    refine zr_aload_n d_md_make_17 rfl ?_
    refine zi_getiE (j := 1) (x := (n : Int)) d_md_make_18 zC8 fl_md_7 (by decide) rfl rfl (hn) ?_
    refine zi_bipush d_md_make_21 (by decide) ?_
    refine zi_icmp_le 30 d_md_make_23 (by decide) ⟨by omega, by omega⟩ ⟨by decide, by decide⟩ (fun h23 => ?_) (fun h23 => ?_)
    · refine zi_iconst d_md_make_30 ?_
      refine zi_iconst d_md_make_31 ?_
      refine zi_iconst d_md_make_32 ?_
      refine c_md_make_33 rfl rfl (md_refused ⟨by decide, by decide⟩ ⟨by decide, by decide⟩ ⟨by decide, by decide⟩ ⟨by decide, by decide⟩) ?_
      show zV _ _ _ _ _ (vi 1 :: _) (tU τ 37 0 1) _ _
      refine zi_if_eq 41 d_md_make_36 (by decide) ⟨by decide, by decide⟩ (fun h36 => ?_) (fun h36 => ?_)
      · exact absurd h36 (by decide)
      · refine zi_iconst d_md_make_39 ?_
        exact zk_iret rfl d_md_make_40 (Nat.zero_le _) (Nat.zero_le _) (by first | rfl | omega | (split <;> omega) | simp_all) rfl
    · refine zi_iconst d_md_make_26 ?_
      refine zr_goto 31 d_md_make_27 (by decide) ?_
      refine zi_iconst d_md_make_31 ?_
      refine zi_iconst d_md_make_32 ?_
      refine c_md_make_33 rfl rfl (md_refused ⟨by decide, by decide⟩ ⟨by decide, by decide⟩ ⟨by decide, by decide⟩ ⟨by decide, by decide⟩) ?_
      show zV _ _ _ _ _ (vi 1 :: _) (tU τ 37 0 1) _ _
      refine zi_if_eq 41 d_md_make_36 (by decide) ⟨by decide, by decide⟩ (fun h36 => ?_) (fun h36 => ?_)
      · exact absurd h36 (by decide)
      · refine zi_iconst d_md_make_39 ?_
        exact zk_iret rfl d_md_make_40 (Nat.zero_le _) (Nat.zero_le _) (by first | rfl | omega | (split <;> omega) | simp_all) rfl
theorem md_makeY {l : Launch} {d : Nat} {τ : tS} {n R p f e : Nat} (C : Mo τ n R p f e) {b : Int} (zb : zin b) (hb : 1 ≤ b ∧ b ≤ 4000) (hn8 : ¬ n ≤ 8) : zF l (d + 7) M_md_make [.ref 37, vi b] (τ) (some (vi 0)) (tU τ 37 0 2) := by
  refine zMet_of (ls := [.ref 37, vi b, .null, .null, .null, .null]) pn_md rfl (by simp [vi, Value.category]) rfl rfl ?_
  have hA := C.A
  have hn := C.n
  have hn4 := C.n4
  have hn20 := C.n20
  have hR := C.R
  have hR38 := C.R38
  refine zr_aload_n d_md_make_0 rfl ?_
  refine zi_iload_n d_md_make_1 rfl ?_
  refine zi_iconst d_md_make_2 ?_
  refine zi_sipush d_md_make_3 (by decide) ?_
  refine c_md_make_6 rfl (md_in zb ⟨by decide, by decide⟩ ⟨by decide, by decide⟩) ?_
  refine zi_if_ne 16 d_md_make_9 (by decide) (by split <;> exact ⟨by decide, by decide⟩) (fun h9 => ?_) (fun h9 => ?_)
  · refine zi_iconst d_md_make_16 ?_
    refine zr_aload_n d_md_make_17 rfl ?_
    refine zi_getiE (j := 1) (x := (n : Int)) d_md_make_18 zC8 fl_md_7 (by decide) rfl rfl (hn) ?_
    refine zi_bipush d_md_make_21 (by decide) ?_
    refine zi_icmp_le 30 d_md_make_23 (by decide) ⟨by omega, by omega⟩ ⟨by decide, by decide⟩ (fun h23 => ?_) (fun h23 => ?_)
    · exfalso
      grind
    · refine zi_iconst d_md_make_26 ?_
      refine zr_goto 31 d_md_make_27 (by decide) ?_
      refine zi_iconst d_md_make_31 ?_
      refine zi_iconst d_md_make_32 ?_
      refine c_md_make_33 rfl rfl (md_refused ⟨by decide, by decide⟩ ⟨by decide, by decide⟩ ⟨by decide, by decide⟩ ⟨by decide, by decide⟩) ?_
      show zV _ _ _ _ _ (vi 1 :: _) (tU τ 37 0 2) _ _
      refine zi_if_eq 41 d_md_make_36 (by decide) ⟨by decide, by decide⟩ (fun h36 => ?_) (fun h36 => ?_)
      · exact absurd h36 (by decide)
      · refine zi_iconst d_md_make_39 ?_
        exact zk_iret rfl d_md_make_40 (Nat.zero_le _) (Nat.zero_le _) (by first | rfl | omega | (split <;> omega) | simp_all) rfl
  · exfalso
    grind
