/-! the law from its first instruction (written by wip/gen/t59.py) -/
theorem rl_0 : RL t0 4 0 0 0 0 := by
  have hA : AllIn t0 := by
    intro q j
    simp only [t0, tU, tF, tz]
    repeat' split
    all_goals exact ⟨by decide, by decide⟩
  have z : ∀ q, ¬ (q = 1 ∨ q = 13 ∨ q = 19 ∨ q = 31 ∨ q = 37 ∨ q = 50) → t0 q = fun _ => 0 := fun q hq => by
    funext j
    simp only [t0, tU, tF, tz]
    rw [if_neg (by omega), if_neg (by omega), if_neg (by omega), if_neg (by omega), if_neg (by omega), if_neg (by omega), if_neg (by omega), if_neg (by omega), if_neg (by omega), if_neg (by omega)]
  have z37 : ∀ j, ¬ j = 1 → t0 37 j = 0 := fun j hj => by simp [t0, tU, tF, tz, hj]
  refine ⟨hA, ⟨by decide, by decide, by decide, by decide, by decide, by decide⟩, ⟨by simp [t0, tU, tF, tz], by simp [t0, tU, tF, tz], by simp [t0, tU, tF, tz]⟩, by simp [t0, tU, tF, tz], ?_, ?_, ?_, fun i hi => by omega, fun i hi => by omega, ⟨?_, fun r t hr => by omega⟩, ⟨?_, ?_, fun r t hr => by omega, ?_⟩, ⟨?_, ?_⟩, ⟨?_, ?_, ?_, ?_, ?_, ?_⟩, ⟨?_, fun r t hr => by omega, ?_⟩, ⟨?_, fun r t hr => by omega⟩, fun i hi => by omega, ?_, ?_, ?_⟩
  · rw [z 5 (by decide), z 6 (by decide), z 38 (by decide)]
    exact ⟨fun _ => (by show (0 : Int) ≤ 0; decide), fun _ => (by show (0 : Int) ≤ 0; decide), fun _ => Or.inl rfl, fun t r _ _ => by simp, fun t r _ _ => by simp⟩
  · unfold kC
    rw [z 4 (by decide), z 29 (by decide), z37 2 (by decide), z37 11 (by decide), z37 4 (by decide), z37 7 (by decide), z37 12 (by decide), z37 21 (by decide)]
    exact ⟨rfl, rfl, rfl, rfl, rfl, by simp [t0, tU, tF, tz], rfl, rfl, rfl, rfl, by decide⟩
  · unfold kV
    rw [z37 2 (by decide), cnt_0 1560 (fun i hi => by rw [z 38 (by decide)]; rfl)]
    rfl
  · rw [z 45 (by decide)]; exact fun _ => Or.inl rfl
  · rw [z 46 (by decide)]; exact fun _ => Or.inl rfl
  · rw [z 18 (by decide), cnt_0 800 (fun i hi => by rw [z 46 (by decide)]; rfl)]
    rfl
  · intro r t _ _ _; rw [z 46 (by decide)]
  · intro u q hu h2 h6
    rw [z (20 + q) (by omega)]
    rfl
  · intro u q hu h2 h6
    rw [z (20 + q) (by omega)]
  · rw [z 28 (by decide)]; exact fun _ => Or.inl rfl
  · rw [z 51 (by decide)]; exact fun _ => Or.inl rfl
  · intro r hr; rw [z 28 (by decide), z 51 (by decide)]
  · intro r _ _; rw [z 51 (by decide)]
  · rw [z 27 (by decide), cnt_0 40 (fun i hi => by rw [z 51 (by decide)]; rfl)]
    rfl
  · rw [z 27 (by decide)]; decide
  · rw [z 49 (by decide)]; exact fun _ => Or.inl rfl
  · intro r t _ _ _; rw [z 49 (by decide)]
  · intro j
    simp only [t0, tU, tF, tz]
    repeat' split
    all_goals decide
  · rw [z 36 (by decide)]; exact fun _ => (by show (0 : Int) ≤ 0; decide)
  · rw [z 60 (by decide)]; exact fun _ _ => rfl
  · rw [z 54 (by decide)]; exact fun _ => Or.inl rfl
theorem law_pre {l : Launch} {d L : Nat} {xs : Nat → Int32} {r : zR} (hr : r.2.1.1 = SH) (h1 : 1000 ≤ r.2.2.1) (h2 : 20000 ≤ r.2.2.2) (k : zV l (d + 66) (M_lw_law L xs) 23 [.ref 999, .ref 0, .ref 37, .ref 62, vi ((0 : Nat) : Int), .null, .null] [] t0 (63, 13075) r) : zW l (d + 66) (M_lw_law L xs) 0 [.ref 999, .null, .null, .null, .null, .null, .null] [] ([], zq tz) (0, 0) r := by
  refine zm_new (n := 0) (L := []) (L' := SG0) [true, true, true, true, true, true] d_lw_law_0 zC7 nf_7 kl_lw_8 rfl (fun j => by simp [tU, tF, tz]) rfl (Nat.le_trans (by decide) h1) (Nat.le_trans (by decide) h2) rfl ?_
  refine zr_dup d_lw_law_3 rfl ?_
  refine zr_callA (S' := (SG77, zq (tF (tF (tU (tU (tU (tU (tU (tU (tz) 1 0 20) 1 3 4) 1 4 0) 13 0 8) 13 3 4) 13 4 0) 19 760 (-1)) 31 760 (-1)))) (zJ_spec (M := M_lw_law L xs) (as := []) d_lw_law_4 rfl ml_lw_72 im_lr_init cw_lr_init ⟨by decide, by decide⟩ (n := 0) (by decide +kernel) rfl rfl) (mk_lr_init_0 (d := d + 62)) cw_lr_init in_lr (by decide) (by decide) (Or.inl (by decide)) (fun g => absurd (hr.symm.trans g) (by decide)) (Nat.le_trans (by decide) h1) (Nat.le_trans (by decide) h2) rfl ?_
  refine zr_astore_n d_lw_law_7 (by show 1 < 7; decide) ?_
  refine zm_new (n := 37) (L := SG77) (L' := SG78) [false, false, false, true, false, true, true, false, true, true, true, false, false, true, true, true, true, true, true, true, true, false, true, true, true, true, true, true, false, true, true, true, true] d_lw_law_8 zC8 nf_8 kl_lw_73 rfl (fun j => by simp [tU, tF, tz]) rfl (Nat.le_trans (by decide) h1) (Nat.le_trans (by decide) h2) rfl ?_
  refine zr_dup d_lw_law_11 rfl ?_
  refine zr_callA (S' := (SG126, zq t0)) (zJ_spec (M := M_lw_law L xs) (as := []) d_lw_law_12 rfl ml_lw_75 im_md_init cw_md_init ⟨by decide, by decide⟩ (n := 0) (by decide +kernel) rfl rfl) (mk_md_init_37 (d := d + 64)) cw_md_init in_md (by decide) (by decide) (Or.inl (by decide)) (fun g => absurd (hr.symm.trans g) (by decide)) (Nat.le_trans (by decide) h1) (Nat.le_trans (by decide) h2) rfl ?_
  refine zr_astore_n d_lw_law_15 (by show 2 < 7; decide) ?_
  refine zr_iconst d_lw_law_16 ?_
  refine zm_newa (N := 1) (t := 2) (n := 62) (L := SG126) (L' := SH) d_lw_law_17 rfl (by decide) ac_long (by decide) rfl (fun j => by simp [t0, tU, tF, tz]) rfl (Nat.le_trans (by decide) h1) (Nat.le_trans (by decide) h2) rfl ?_
  refine zr_astore_n d_lw_law_19 (by show 3 < 7; decide) ?_
  refine zr_iconst d_lw_law_20 ?_
  refine zr_istore d_lw_law_21 (by show 4 < 7; decide) ?_
  exact k
theorem law_all (l : Launch) (d : Nat) {L : Nat} (xs : Nat → Int32) (hL : L ≤ 2560) : ∃ τ' : tS, zW l (d + 66) (M_lw_law L xs) 0 [.ref 999, .null, .null, .null, .null, .null, .null] [] ([], zq tz) (0, 0) (.inl (some (vi 1)), (SH, zq τ'), 601024, 7293034) := by
  obtain ⟨τ', hk⟩ := law_loop (l := l) (d := d) (xs := xs) hL (MC := 601024) (MS := 7293034) 512 0 (63, 13075) t0 4 0 0 0 0 (by omega) (by decide) (by decide) (by decide) rl_0
  exact ⟨τ', law_pre rfl (by show 1000 ≤ 601024; decide) (by show 20000 ≤ 7293034; decide) hk⟩
