/-! the reference: catchUp (written by wip/gen/t33.py) -/
theorem clF_59 (τ : tS) (h : Nat → Int) (f : Nat → Int) (gm : Nat) (v : Int) : clF (tR τ 59 h) f gm v = clF τ f gm v := by
  unfold clF
  rw [meet_59]
theorem mpL_59 (τ : tS) (h : Nat → Int) {nx : (Nat → Int) → Bool × (Nat → Int)} (gm k : Nat) : ∀ c f, mpL (tR τ 59 h) nx gm k c f = mpL τ nx gm k c f
  | 0, _ => rfl
  | c + 1, f => by rw [mpL, mpL, clF_59, mpL_59 τ h gm k c, mpL_59 τ h gm k c]
theorem mp_59 (τ : tS) (h : Nat → Int) (k : Nat) : ∀ m gm f, mp (tR τ 59 h) k m gm f = mp τ k m gm f
  | 0, _, _ => rfl
  | m + 1, gm, f => by
    rw [mp, mp, mpL_59]
    congr 1
    funext f'
    exact mp_59 τ h k m (gm + 1) f'
theorem mp_rng {τ : tS} {k : Nat} (hk : k ≤ 20) : ∀ m gm f, (∀ i, zin (f i)) → (mp τ k m gm f).1 = true → ∀ i, gm ≤ i → i < gm + m → 0 ≤ (mp τ k m gm f).2 i ∧ (mp τ k m gm f).2 i < k
  | 0, _, _, _, _, i, h1, h2 => by omega
  | m + 1, gm, f, hf, h, i, h1, h2 => by
    have key : ∀ c f, c ≤ k → (∀ i, zin (f i)) → (mpL τ (fun f' => mp τ k m (gm + 1) f') gm k c f).1 = true → ∀ i, gm ≤ i → i < gm + (m + 1) → 0 ≤ (mpL τ (fun f' => mp τ k m (gm + 1) f') gm k c f).2 i ∧ (mpL τ (fun f' => mp τ k m (gm + 1) f') gm k c f).2 i < k := by
      intro c
      induction c with
      | zero => intro f _ _ h; simp [mpL] at h
      | succ c ih =>
        intro f hc hf h i h1 h2
        have z1 : ∀ i, zin (ru f gm ((k - (c + 1) : Nat) : Int) i) := ru_in hf ⟨by omega, by omega⟩
        have z2 : ∀ i, zin (ru (ru f gm ((k - (c + 1) : Nat) : Int)) (gm + 1) (-1) i) := ru_in z1 ⟨by decide, by decide⟩
        have hfr := mp_fr (τ := τ) hk m (gm + 1) _ z2
        rw [mpL] at h ⊢
        split
        · rename_i e
          rw [if_pos e] at h
          exact ih _ (by omega) z1 h i h1 h2
        · rename_i e
          rw [if_neg e] at h
          split
          · rename_i e2
            by_cases ei : i = gm
            · subst ei
              rw [hfr.2 i (by omega), ru_ne _ _ (by omega), ru_at]
              omega
            · exact mp_rng hk m (gm + 1) _ z2 e2 i (by omega) (by omega)
          · rename_i e2
            rw [if_neg e2] at h
            exact ih _ (by omega) hfr.1 h i h1 h2
    exact key k f (Nat.le_refl _) hf h i h1 h2
def mcF (τ : tS) (g : Nat) : Nat → Nat → (Nat → Int) → Int × (Nat → Int)
  | 0, _, f => (-1, f)
  | c + 1, k, f => if (mp τ k g 0 (ru f 0 (-1))).1 = true then ((k : Int), (mp τ k g 0 (ru f 0 (-1))).2) else mcF τ g c (k + 1) (mp τ k g 0 (ru f 0 (-1))).2
def mkdT (w : tS) : Nat → tS
  | 0 => w
  | i + 1 => tU (mkdT w i) 50 (w 58 i).toNat (w 52 (w 59 i).toNat)
theorem mkdT_ne (w : tS) (q j : Nat) (h : q ≠ 50) : ∀ i, mkdT w i q j = w q j
  | 0 => rfl
  | i + 1 => by
    rw [mkdT, tU, if_neg (fun g => h g.1), mkdT_ne w q j h i]
def mcT (w : tS) (g : Nat) (q : Int × (Nat → Int)) : tS := if q.1 = -1 then tR w 59 q.2 else mkdT (tR w 59 q.2) g
theorem lmT_in {τ : tS} (h : AllIn τ) : ∀ i, i ≤ 800 → AllIn (lmT τ i)
  | 0, _ => in_U h ⟨by decide, by decide⟩
  | i + 1, hi => by
    rw [lmT]
    have hcl := cnt_le (lostP τ) i
    split
    · exact in_U (in_U (lmT_in h i (by omega)) ⟨by omega, by omega⟩) ⟨by omega, by omega⟩
    · exact lmT_in h i (by omega)
theorem lmT_ce (τ : tS) : ∀ i, i ≤ 800 → ∀ j, j < cnt (lostP τ) i → 0 ≤ lmT τ i 58 j ∧ lmT τ i 58 j < i
  | 0, _, j, h => by simp [cnt] at h
  | i + 1, hi, j, h => by
    rw [cnt] at h
    rw [lmT]
    by_cases e : lostP τ i = true
    · rw [if_pos e] at h ⊢
      simp only [tU]
      rw [if_neg (by omega)]
      by_cases e2 : j = cnt (lostP τ) i
      · rw [if_pos ⟨by trivial, e2⟩]
        omega
      · rw [if_neg (fun g => e2 g.2)]
        have := lmT_ce τ i (by omega) j (by omega)
        omega
    · rw [if_neg e] at h ⊢
      have := lmT_ce τ i (by omega) j (by omega)
      omega
def mcW (τ : tS) : tS := tU (lmT τ 800) 37 0 0
def mcK (τ : tS) (n : Nat) : Nat := mxN (fun t => cnt (mmgP (mcW τ) t) (cnt (lostP τ) 800)) n
def mcQ (τ : tS) (n e : Nat) : Int × (Nat → Int) := mcF (mcW τ) (cnt (lostP τ) 800) (e + 1 - mcK τ n) (mcK τ n) ((mcW τ) 59)
theorem md_catchUp {l : Launch} {d : Nat} {τ : tS} {n R p f e : Nat} (C : Mo τ n R p f e) (hc : cnt (lostP τ) 800 < 400) (hc2 : cnt (lostP τ) 800 ≤ 14) : zF l (d + 5) M_md_catchUp [.ref 37] τ (some (vi (mcQ τ n e).1)) (mcT (mcW τ) (cnt (lostP τ) 800) (mcQ τ n e)) := by
  refine zMet_of (ls := [.ref 37, .null, .null]) pn_md rfl (by simp [vi, Value.category]) rfl rfl ?_
  have hA := C.A
  have hn := C.n
  have hn4 := C.n4
  have hn20 := C.n20
  have hR := C.R
  have hR38 := C.R38
  have he := C.e
  have he6 := C.e6
  generalize hg0 : cnt (lostP τ) 800 = g at hc hc2
  have hwA : AllIn (mcW τ) := in_U (lmT_in hA 800 (Nat.le_refl _)) ⟨by decide, by decide⟩
  have hwe : mcW τ 37 21 = (e : Int) := by simp only [mcW, tU]; rw [if_neg (by decide), lmT_ne _ _ _ (by decide) (by decide)]; exact he
  have hwn : mcW τ 37 1 = (n : Int) := by simp only [mcW, tU]; rw [if_neg (by decide), lmT_ne _ _ _ (by decide) (by decide)]; exact hn
  have hwg : mcW τ 37 28 = (g : Int) := by simp only [mcW, tU]; rw [if_neg (by decide), lmT_c, hg0]
  have hce : ceOk (mcW τ) g := by intro i hi; simp only [mcW, tU]; rw [if_neg (by omega)]; have := lmT_ce τ 800 (Nat.le_refl _) i (by omega); exact ⟨this.1, this.2⟩
  refine zr_aload_n d_md_catchUp_0 rfl ?_
  refine c_md_catchUp_1 rfl rfl (md_listMissing hA (by rw [hg0]; exact hc)) ?_
  refine zr_aload_n d_md_catchUp_4 rfl ?_
  refine zr_aload_n d_md_catchUp_5 rfl ?_
  refine zi_getiE (j := 28) (x := (g : Int)) d_md_catchUp_6 zC8 fl_md_226 (by decide) rfl rfl (by rw [lmT_c, hg0]) ?_
  refine zi_bipush d_md_catchUp_9 (by decide) ?_
  refine zi_icmp_le 18 d_md_catchUp_11 (by decide) (by first | assumption | exact ⟨by omega, by omega⟩) (by first | assumption | exact ⟨by omega, by omega⟩) (fun h11 => ?_) (fun h11 => ?_)
  · refine zi_iconst d_md_catchUp_18 ?_
    refine zi_iconst d_md_catchUp_19 ?_
    refine zi_iconst d_md_catchUp_20 ?_
    refine zi_iconst d_md_catchUp_21 ?_
    refine c_md_catchUp_22 rfl rfl (md_refused ⟨by decide, by decide⟩ ⟨by decide, by decide⟩ ⟨by decide, by decide⟩ ⟨by decide, by decide⟩) ?_
    show zV _ _ _ _ _ (vi 0 :: _) (mcW τ) _ _
    refine zi_if_eq 30 d_md_catchUp_25 (by decide) (by first | assumption | exact ⟨by omega, by omega⟩) (fun h25 => ?_) (fun h25 => ?_)
    · refine zr_aload_n d_md_catchUp_30 rfl ?_
      refine c_md_catchUp_31 rfl rfl (md_busiest hwA hce (by omega) hwg hwn hn20) ?_
      show zV _ _ _ _ _ (vi ((mxN (fun t => cnt (mmgP (mcW τ) t) g) n : Nat) : Int) :: _) _ _ _
      rw [show mxN (fun t => cnt (mmgP (mcW τ) t) g) n = mcK τ n by unfold mcK; rw [hg0]]
      rw [show mcQ τ n e = mcF (mcW τ) g (e + 1 - mcK τ n) (mcK τ n) ((mcW τ) 59) by unfold mcQ; rw [hg0]]
      refine zi_istore_n d_md_catchUp_34 (by decide) rfl ?_
      have key : ∀ (c k : Nat) (f : Nat → Int), c = e + 1 - k → k ≤ 400 → (∀ i, zin (f i)) → zV l (d + 5) M_md_catchUp 35 [.ref 37, vi (k : Int), .null] [] (tR (mcW τ) 59 f) (0, 0) (.inl (some (vi (mcF (mcW τ) g c k f).1)), (SH, zq (mcT (mcW τ) g (mcF (mcW τ) g c k f))), 0, 0) := by
        intro c
        induction c with
        | zero =>
          intro k f hck hk4 hf
          simp only [mcF, mcT, if_true]
          refine zi_iload_n d_md_catchUp_35 rfl ?_
          refine zr_aload_n d_md_catchUp_36 rfl ?_
          refine zi_getiE (j := 21) (x := (e : Int)) d_md_catchUp_37 zC8 fl_md_97 (by decide) rfl rfl (by rw [tR_ne _ _ _ (by decide)]; exact hwe) ?_
          refine zi_icmp_gt 57 d_md_catchUp_40 (by decide) (by first | assumption | exact ⟨by omega, by omega⟩) (by first | assumption | exact ⟨by omega, by omega⟩) (fun h40 => ?_) (fun h40 => ?_)
          · refine zi_iload_n d_md_catchUp_57 rfl ?_
            refine zr_aload_n d_md_catchUp_58 rfl ?_
            refine zi_getiE (j := 21) (x := (e : Int)) d_md_catchUp_59 zC8 fl_md_97 (by decide) rfl rfl (by rw [tR_ne _ _ _ (by decide)]; exact hwe) ?_
            refine zi_icmp_le 67 d_md_catchUp_62 (by decide) (by first | assumption | exact ⟨by omega, by omega⟩) (by first | assumption | exact ⟨by omega, by omega⟩) (fun h62 => ?_) (fun h62 => ?_)
            · exact absurd h62 (by omega)
            · refine zi_iconst d_md_catchUp_65 ?_
              exact zk_iret rfl d_md_catchUp_66 (Nat.zero_le _) (Nat.zero_le _) (by first | rfl | omega | (split <;> omega) | simp_all) rfl
          · exact absurd h40 (by omega)
        | succ c ih =>
          intro k f hck hk4 hf
          have hz1 : ∀ i, zin (ru f 0 (-1) i) := ru_in hf ⟨by decide, by decide⟩
          have hfr := mp_fr (τ := mcW τ) (k := k) (by omega) g 0 _ hz1
          have hput : zF l (d + 4) M_md_put [.ref 37, vi (k : Int)] (tR (mcW τ) 59 f) (some (vi (if (mp (mcW τ) k g 0 (ru f 0 (-1))).1 = true then 1 else 0))) (tR (mcW τ) 59 (mp (mcW τ) k g 0 (ru f 0 (-1))).2) := by
            have h := md_put (l := l) (d := d) (τ := tR (mcW τ) 59 f) (tR_in hwA hf) (g := g) (fun i hi => by rw [tR_ne _ _ _ (by decide)]; exact hce i hi) hc2 (by rw [tR_ne _ _ _ (by decide)]; exact hwg) (k := k) (by omega)
            rw [tR_row, tR_tR, mp_59] at h
            exact h
          refine zi_iload_n d_md_catchUp_35 rfl ?_
          refine zr_aload_n d_md_catchUp_36 rfl ?_
          refine zi_getiE (j := 21) (x := (e : Int)) d_md_catchUp_37 zC8 fl_md_97 (by decide) rfl rfl (by rw [tR_ne _ _ _ (by decide)]; exact hwe) ?_
          refine zi_icmp_gt 57 d_md_catchUp_40 (by decide) (by first | assumption | exact ⟨by omega, by omega⟩) (by first | assumption | exact ⟨by omega, by omega⟩) (fun h40 => ?_) (fun h40 => ?_)
          · exact absurd h40 (by omega)
          · refine zr_aload_n d_md_catchUp_43 rfl ?_
            refine zi_iload_n d_md_catchUp_44 rfl ?_
            refine c_md_catchUp_45 rfl rfl (hput) ?_
            refine zi_if_ne 57 d_md_catchUp_48 (by decide) (by split <;> exact ⟨by decide, by decide⟩) (fun h48 => ?_) (fun h48 => ?_)
            · have hs : (mp (mcW τ) k g 0 (ru f 0 (-1))).1 = true := by cases e9 : (mp (mcW τ) k g 0 (ru f 0 (-1))).1; (rw [e9] at h48; exact absurd rfl h48); rfl
              have hr2 : ∀ i, i < g → 0 ≤ (mp (mcW τ) k g 0 (ru f 0 (-1))).2 i ∧ (mp (mcW τ) k g 0 (ru f 0 (-1))).2 i < 6 := by intro i hi; have := mp_rng (τ := mcW τ) (k := k) (by omega) g 0 _ hz1 hs i (by omega) (by omega); omega
              rw [mcF, if_pos hs, mcT, if_neg (show ¬ (k : Int) = -1 by omega)]
              show zV _ _ _ _ _ _ _ _ (.inl (some (vi (k : Int))), (SH, zq (mkdT (tR (mcW τ) 59 (mp (mcW τ) k g 0 (ru f 0 (-1))).2) g)), 0, 0)
              generalize (mp (mcW τ) k g 0 (ru f 0 (-1))).2 = f2 at hr2 hfr ⊢
              refine zi_iload_n d_md_catchUp_57 rfl ?_
              refine zr_aload_n d_md_catchUp_58 rfl ?_
              refine zi_getiE (j := 21) (x := (e : Int)) d_md_catchUp_59 zC8 fl_md_97 (by decide) rfl rfl (by rw [tR_ne _ _ _ (by decide)]; exact hwe) ?_
              refine zi_icmp_le 67 d_md_catchUp_62 (by decide) (by first | assumption | exact ⟨by omega, by omega⟩) (by first | assumption | exact ⟨by omega, by omega⟩) (fun h62 => ?_) (fun h62 => ?_)
              · refine zi_iconst d_md_catchUp_67 ?_
                refine zi_istore_n d_md_catchUp_68 (by decide) rfl ?_
                have hlast := zup (P := fun (i : Nat) => zV l (d + 5) M_md_catchUp 69 [.ref 37, vi (k : Int), vi (i : Int)] [] (mkdT (tR (mcW τ) 59 f2) i) (0, 0) (.inl (some (vi (k : Int))), (SH, zq (mkdT (tR (mcW τ) 59 f2) g)), 0, 0)) g ?_ ?_ 0 (by omega)
                · exact zE4 hlast (by refine ⟨?_, ?_, ?_, trivial⟩ <;> first | exact Or.inl rfl | exact Or.inr rfl) rfl
                · intro i hi hk9
                  refine zi_iload_n d_md_catchUp_69 rfl ?_
                  refine zr_aload_n d_md_catchUp_70 rfl ?_
                  refine zi_getiE (j := 28) (x := (g : Int)) d_md_catchUp_71 zC8 fl_md_226 (by decide) rfl rfl (by rw [mkdT_ne _ _ _ (by decide), tR_ne _ _ _ (by decide)]; exact hwg) ?_
                  refine zi_icmp_ge 105 d_md_catchUp_74 (by decide) (by first | assumption | exact ⟨by omega, by omega⟩) (by first | assumption | exact ⟨by omega, by omega⟩) (fun h74 => ?_) (fun h74 => ?_)
                  · exact absurd h74 (by omega)
                  · refine zr_aload_n d_md_catchUp_77 rfl ?_
                    refine zi_getr (j := 19) d_md_catchUp_78 zC8 fl_md_51 (by decide) rfl rfl ?_
                    refine zr_aload_n d_md_catchUp_81 rfl ?_
                    refine zi_getr (j := 29) d_md_catchUp_82 zC8 fl_md_75 (by decide) rfl rfl ?_
                    refine zi_iload_n d_md_catchUp_85 rfl ?_
                    have b1 := hce i hi
                    have b2 := hr2 i hi
                    refine zi_ialdE (x := mcW τ 58 i) d_md_catchUp_86 rfl (by decide) (by omega) (by omega) (by rw [Int.toNat_natCast, mkdT_ne _ _ _ (by decide), tR_ne _ _ _ (by decide)]) ?_
                    refine zr_aload_n d_md_catchUp_87 rfl ?_
                    refine zi_getr (j := 22) d_md_catchUp_88 zC8 fl_md_57 (by decide) rfl rfl ?_
                    refine zr_aload_n d_md_catchUp_91 rfl ?_
                    refine zi_getr (j := 30) d_md_catchUp_92 zC8 fl_md_78 (by decide) rfl rfl ?_
                    refine zi_iload_n d_md_catchUp_95 rfl ?_
                    refine zi_ialdE (x := f2 i) d_md_catchUp_96 rfl (by decide) (by omega) (by omega) (by rw [Int.toNat_natCast, mkdT_ne _ _ _ (by decide), tR_at]) ?_
                    refine zi_ialdE (x := mcW τ 52 (f2 i).toNat) d_md_catchUp_97 rfl (by decide) (by omega) (by omega) (by rw [mkdT_ne _ _ _ (by decide), tR_ne _ _ _ (by decide)]) ?_
                    refine zi_iast d_md_catchUp_98 rfl (by decide) (by omega) (by omega) ?_
                    refine zi_iinc d_md_catchUp_99 (by decide) rfl rfl ?_
                    refine zr_goto 69 d_md_catchUp_102 (by decide) ?_
                    exact zE4 hk9 (by refine ⟨?_, ?_, ?_, trivial⟩ <;> first | exact Or.inl rfl | exact Or.inr rfl) (by rw [mkdT, tR_at, tR_ne _ _ _ (by decide), tR_ne _ _ _ (by decide)])
                · refine zi_iload_n d_md_catchUp_69 rfl ?_
                  refine zr_aload_n d_md_catchUp_70 rfl ?_
                  refine zi_getiE (j := 28) (x := (g : Int)) d_md_catchUp_71 zC8 fl_md_226 (by decide) rfl rfl (by rw [mkdT_ne _ _ _ (by decide), tR_ne _ _ _ (by decide)]; exact hwg) ?_
                  refine zi_icmp_ge 105 d_md_catchUp_74 (by decide) (by first | assumption | exact ⟨by omega, by omega⟩) (by first | assumption | exact ⟨by omega, by omega⟩) (fun h74 => ?_) (fun h74 => ?_)
                  · refine zi_iload_n d_md_catchUp_105 rfl ?_
                    exact zk_iret rfl d_md_catchUp_106 (Nat.zero_le _) (Nat.zero_le _) (by first | rfl | omega | (split <;> omega) | simp_all) rfl
                  · exact absurd h74 (by omega)
              · exact absurd h62 (by omega)
            · have hs : ¬ (mp (mcW τ) k g 0 (ru f 0 (-1))).1 = true := by intro e9; rw [if_pos e9] at h48; exact absurd h48 (by decide)
              rw [mcF, if_neg hs]
              have hgo := ih (k + 1) _ (by omega) (by omega) hfr.1
              refine zi_iinc d_md_catchUp_51 (by decide) rfl rfl ?_
              refine zr_goto 35 d_md_catchUp_54 (by decide) ?_
              exact zE4 hgo (by refine ⟨?_, ?_, ?_, trivial⟩ <;> first | exact Or.inl rfl | exact Or.inr rfl) rfl
      have hcl9 := mxN_le (fun t => cnt (mmgP (mcW τ) t) g) g (fun t => cnt_le _ _) n
      exact zE4 (key (e + 1 - mcK τ n) (mcK τ n) ((mcW τ) 59) rfl (by unfold mcK; rw [hg0]; omega) (fun i => hwA _ _)) (by refine ⟨?_, ?_, ?_, trivial⟩ <;> first | exact Or.inl rfl | exact Or.inr rfl) (tR_self _ _).symm
    · exact absurd h25 (by decide)
  · exact absurd h11 (by omega)
theorem md_catchUpX {l : Launch} {d : Nat} {τ : tS} {n R p f e : Nat} (C : Mo τ n R p f e) (hc : cnt (lostP τ) 800 < 400) (hc2 : ¬ cnt (lostP τ) 800 ≤ 14) : zF l (d + 5) M_md_catchUp [.ref 37] (τ) (some (vi 0)) (tU (lmT τ 800) 37 0 1) := by
  refine zMet_of (ls := [.ref 37, .null, .null]) pn_md rfl (by simp [vi, Value.category]) rfl rfl ?_
  have hA := C.A
  have hn := C.n
  have hn4 := C.n4
  have hn20 := C.n20
  have hR := C.R
  have hR38 := C.R38
  refine zr_aload_n d_md_catchUp_0 rfl ?_
  refine c_md_catchUp_1 rfl rfl (md_listMissing hA hc) ?_
  refine zr_aload_n d_md_catchUp_4 rfl ?_
  refine zr_aload_n d_md_catchUp_5 rfl ?_
  refine zi_getiE (j := 28) (x := ((cnt (lostP τ) 800 : Nat) : Int)) d_md_catchUp_6 zC8 fl_md_226 (by decide) rfl rfl (lmT_c τ 800) ?_
  refine zi_bipush d_md_catchUp_9 (by decide) ?_
  refine zi_icmp_le 18 d_md_catchUp_11 (by decide) (by first | assumption | exact ⟨by omega, by omega⟩) (by first | assumption | exact ⟨by omega, by omega⟩) (fun h11 => ?_) (fun h11 => ?_)
  · exact absurd h11 (by omega)
  · refine zi_iconst d_md_catchUp_14 ?_
    refine zr_goto 19 d_md_catchUp_15 (by decide) ?_
    refine zi_iconst d_md_catchUp_19 ?_
    refine zi_iconst d_md_catchUp_20 ?_
    refine zi_iconst d_md_catchUp_21 ?_
    refine c_md_catchUp_22 rfl rfl (md_refused ⟨by decide, by decide⟩ ⟨by decide, by decide⟩ ⟨by decide, by decide⟩ ⟨by decide, by decide⟩) ?_
    show zV _ _ _ _ _ (vi 1 :: _) (tU (lmT τ 800) 37 0 1) _ _
    refine zi_if_eq 30 d_md_catchUp_25 (by decide) (by first | assumption | exact ⟨by omega, by omega⟩) (fun h25 => ?_) (fun h25 => ?_)
    · exact absurd h25 (by decide)
    · refine zi_iconst d_md_catchUp_28 ?_
      exact zk_iret rfl d_md_catchUp_29 (Nat.zero_le _) (Nat.zero_le _) (by first | rfl | omega | (split <;> omega) | simp_all) rfl
