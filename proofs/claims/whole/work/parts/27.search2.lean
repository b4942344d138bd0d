/-! the search itself (written by wip/gen/t16.py) -/
abbrev sR : Type := Int × tS × Nat
/-- one choice: al says whether it can be made, nx is what comes behind it -/
def tgF (al : Bool) (D : tS) (b : Nat) (nx : sR) : sR := if al = true then (if b = 0 then (2, D, 0) else if nx.1 = 0 then (0, D, nx.2.2) else nx) else (0, D, b)
/-- m choices from c on -/
def chF (nx : tS → Nat → sR) (ok : Nat → Bool) (ch : Nat → tS) (D : tS) : Nat → Nat → Nat → sR
  | 0, _, b => (0, D, b)
  | m + 1, c, b => if (tgF (ok c) D b (nx (ch c) (b - 1))).1 = 0 then chF nx ok ch D m (c + 1) (tgF (ok c) D b (nx (ch c) (b - 1))).2.2 else tgF (ok c) D b (nx (ch c) (b - 1))
def okF (τ D : tS) (n p f r t c : Nat) : Bool := if c / 2 = n then decide (n % 2 = 1 ∧ dBye D t = false ∧ anyN (byeP τ (r : Int) (t : Int)) f = false) else decide (¬ c / 2 = t ∧ D r (c / 2) = -2 ∧ dMet D t (c / 2) = false ∧ alwP (enc τ D 0) p f r (if c % 2 = 0 then t else c / 2) (if c % 2 = 0 then c / 2 else t) = true)
def chD (D : tS) (n r t c : Nat) : tS := if c / 2 = n then dB D r t else if c % 2 = 0 then dG D r t (c / 2) else dG D r (c / 2) t
def rdF (D : tS) (n fr : Nat) : Nat := if anyN (fun t => decide (D fr t = -2)) n = true then fr else fr + 1
def lfD (D : tS) (n r : Nat) : Nat := lfm (msk (dBusy D r) 8) n
def goF (τ : tS) (n all p f : Nat) : Nat → tS → Nat → Nat → sR
  | 0, D, fr, b => if all ≤ rdF D n fr then (1, D, b) else (0, D, b)
  | k + 1, D, fr, b => if all ≤ rdF D n fr then (1, D, b) else chF (fun D' b' => goF τ n all p f k D' (rdF D n fr) b') (okF τ D n p f (rdF D n fr) (lfD D n (rdF D n fr))) (chD D n (rdF D n fr) (lfD D n (rdF D n fr))) D (2 * (n - (lfD D n (rdF D n fr) + 1)) + 1) (2 * (lfD D n (rdF D n fr) + 1)) b
def rOk (D : tS) (b : Nat) (q : sR) : Prop := (q.1 = 0 ∨ q.1 = 1 ∨ q.1 = 2) ∧ (q.1 = 0 → q.2.1 = D) ∧ q.2.2 ≤ b
theorem tgF_ok {al : Bool} {D D' : tS} {b : Nat} {nx : sR} (h : rOk D' (b - 1) nx) : rOk D b (tgF al D b nx) := by
  unfold tgF
  split
  · split
    · exact ⟨by simp, by simp, by simp⟩
    · split
      · exact ⟨by simp, by simp, by have := h.2.2; simp; omega⟩
      · rename_i h1 h2 h3
        exact ⟨h.1, fun e => absurd e h3, by have := h.2.2; omega⟩
  · exact ⟨by simp, by simp, Nat.le_refl _⟩
theorem chF_ok {nx : tS → Nat → sR} {ok : Nat → Bool} {ch : Nat → tS} {D : tS} (h : ∀ D' b', rOk D' b' (nx D' b')) : ∀ m c b, rOk D b (chF nx ok ch D m c b)
  | 0, _, _ => ⟨Or.inl rfl, fun _ => rfl, Nat.le_refl _⟩
  | m + 1, c, b => by
    have g := tgF_ok (al := ok c) (D := D) (b := b) (h (ch c) (b - 1))
    rw [chF]
    split
    · have g2 := chF_ok (ok := ok) (ch := ch) (D := D) h m (c + 1) (tgF (ok c) D b (nx (ch c) (b - 1))).2.2
      exact ⟨g2.1, g2.2.1, Nat.le_trans g2.2.2 g.2.2⟩
    · exact g
theorem goF_ok {τ : tS} {n all p f : Nat} : ∀ k D fr b, rOk D b (goF τ n all p f k D fr b)
  | 0, D, fr, b => by
    rw [goF]
    split
    · exact ⟨by simp, by simp, Nat.le_refl _⟩
    · exact ⟨by simp, by simp, Nat.le_refl _⟩
  | k + 1, D, fr, b => by
    rw [goF]
    split
    · exact ⟨by simp, by simp, Nat.le_refl _⟩
    · exact chF_ok (fun D' b' => goF_ok k D' _ b') _ _ _
theorem chF_1 {nx : tS → Nat → sR} {ok : Nat → Bool} {ch : Nat → tS} {D : tS} (h : ∀ D' b', rOk D' b' (nx D' b')) (c b : Nat) : chF nx ok ch D 1 c b = tgF (ok c) D b (nx (ch c) (b - 1)) := by
  have g := tgF_ok (al := ok c) (D := D) (b := b) (h (ch c) (b - 1))
  rw [chF]
  split
  · rename_i e
    rw [chF]
    refine Prod.ext e.symm (Prod.ext (g.2.1 e).symm rfl)
  · rfl
theorem rz {D : tS} {b : Nat} {q : sR} (h : rOk D b q) : zin q.1 := by
  rcases h.1 with e | e | e <;> rw [e] <;> exact ⟨by decide, by decide⟩
/-- what the search's world keeps -/
def SOk (τ : tS) (n all p f : Nat) : Prop := AllIn τ ∧ τ 13 0 = 8 ∧ (∀ j, 0 ≤ τ 5 j) ∧ (∀ j, 0 ≤ τ 6 j) ∧ τ 4 5 = (p : Int) ∧ p ≤ 6 ∧ (∀ i, i < p → (0 ≤ τ 7 i ∧ τ 7 i < 8) ∧ (0 ≤ τ 8 i ∧ τ 8 i < 8)) ∧ τ 4 9 = (f : Int) ∧ f ≤ 6 ∧ τ 13 3 = (n : Int) ∧ τ 13 4 = (all : Int) ∧ τ 12 5 = ((2 ^ n - 1 : Nat) : Int) ∧ 4 ≤ n ∧ n ≤ 8 ∧ all ≤ 7
theorem alw_enc (τ D : tS) (b p f r h a : Nat) : alwP (enc τ D b) p f r h a = alwP (enc τ D 0) p f r h a := by
  unfold alwP fixA grdP
  simp only [enc_b τ D b 0 5 _ (by decide), enc_b τ D b 0 6 _ (by decide), enc_b τ D b 0 4 _ (by decide), enc_b τ D b 0 7 _ (by decide), enc_b τ D b 0 8 _ (by decide), enc_b τ D b 0 9 _ (by decide), enc_b τ D b 0 10 _ (by decide), enc_b τ D b 0 11 _ (by decide), enc_b τ D b 0 15 _ (by decide)]
theorem bye_enc (τ D : tS) (b : Nat) (r t : Int) : byeP (enc τ D b) r t = byeP τ r t := by
  funext i
  unfold byeP
  rw [enc_ne _ _ _ _ _ (by decide), enc_ne _ _ _ _ _ (by decide), enc_ne _ _ _ _ _ (by decide)]
theorem se_allow {l : Launch} {d : Nat} {τ D : tS} {n all p f b r h a : Nat} (S : SOk τ n all p f) (hD : DOk D n) (hb : b ≤ 4000) (hr : r < 7) (hh : h < 8) (ha : a < 8) : zF l (d + 3) M_wi_allowGame [.ref 4, .ref 13, vi (r : Int), vi (h : Int), vi (a : Int)] (enc τ D b) (some (vi (if alwP (enc τ D 0) p f r h a then 1 else 0))) (enc τ D b) := by
  obtain ⟨s1, s2, s3, s4, s5, s6, s7, s8, s9, s10⟩ := S
  rw [← alw_enc τ D b]
  have e : ∀ q j, q = 4 ∨ q = 5 ∨ q = 6 ∨ q = 7 ∨ q = 8 ∨ q = 13 → enc τ D b q j = τ q j := fun q j hq => enc_ne _ _ _ _ _ (by omega)
  exact wi_allowGame (enc_in s1 hD hb) (by rw [e _ _ (by omega)]; exact s2) (fun j => by rw [e _ _ (by omega)]; exact s3 j) (fun j => by rw [e _ _ (by omega)]; exact s4 j) (by rw [e _ _ (by omega)]; exact s5) s6 (fun i hi => by rw [e _ _ (by omega), e _ _ (by omega)]; exact s7 i hi) (by rw [e _ _ (by omega)]; exact s8) s9 hr hh ha
theorem enc_16b (τ D : tS) (b r : Nat) (hr : r < 7) : 0 ≤ enc τ D b 16 r ∧ enc τ D b 16 r < 256 := by
  rw [enc_16 _ _ _ _ hr]
  have := msk8 (dBusy D r)
  omega
theorem enc_17b (τ D : tS) (b r : Nat) (hr : r < 8) : 0 ≤ enc τ D b 17 r ∧ enc τ D b 17 r < 256 := by
  rw [enc_17 _ _ _ _ hr]
  have := msk8 (dMet D r)
  omega
theorem enc_124b (τ D : tS) (b : Nat) : 0 ≤ enc τ D b 12 4 ∧ enc τ D b 12 4 < 256 := by
  rw [enc_124]
  have := msk8 (dBye D)
  omega
theorem se_tryGame {l : Launch} {d : Nat} {τ D : tS} {n all p f b r h a : Nat} {dp : Int} {nx : sR} (S : SOk τ n all p f) (hD : DOk D n) (hb : b ≤ 4000) (g : gOk D n r h a) (hx : rOk (dG D r h a) (b - 1) nx) (hN : 0 < b → zF l (d + 3) M_se_goOn [.ref 12, vi (dp + 1), vi (r : Int)] (enc τ (dG D r h a) (b - 1)) (some (vi nx.1)) (enc τ nx.2.1 nx.2.2)) : zF l (d + 4) M_se_tryGame [.ref 12, vi dp, vi (r : Int), vi (h : Int), vi (a : Int)] (enc τ D b) (some (vi (tgF (alwP (enc τ D 0) p f r h a) D b nx).1)) (enc τ (tgF (alwP (enc τ D 0) p f r h a) D b nx).2.1 (tgF (alwP (enc τ D 0) p f r h a) D b nx).2.2) := by
  refine zMet_of (ls := [.ref 12, vi dp, vi (r : Int), vi (h : Int), vi (a : Int), .null]) pn_se rfl (by simp [vi, Value.category]) rfl rfl ?_
  have hn8 : n ≤ 8 := S.2.2.2.2.2.2.2.2.2.2.2.2.2.1
  have hh8 : h < 8 := by have := g.2.1; omega
  have ha8 : a < 8 := by have := g.2.2.1; omega
  have hr7 := g.1
  have hab := g.2.2.2.1
  refine zr_aload_n d_se_tryGame_0 rfl ?_
  refine zi_getr (j := 0) d_se_tryGame_1 zC2 fl_se_27 (by decide) rfl rfl ?_
  refine zr_aload_n d_se_tryGame_4 rfl ?_
  refine zi_getr (j := 1) d_se_tryGame_5 zC2 fl_se_14 (by decide) rfl rfl ?_
  refine zi_iload_n d_se_tryGame_8 rfl ?_
  refine zi_iload_n d_se_tryGame_9 rfl ?_
  refine zi_iload d_se_tryGame_10 rfl ?_
  refine c_se_tryGame_12 rfl rfl (se_allow S hD hb hr7 hh8 ha8) ?_
  refine zi_if_ne 20 d_se_tryGame_15 (by decide) (by split <;> exact ⟨by decide, by decide⟩) (fun h15 => ?_) (fun h15 => ?_)
  · have hal : alwP (enc τ D 0) p f r h a = true := by revert h15; split <;> simp [*]
    refine zr_aload_n d_se_tryGame_20 rfl ?_
    refine zi_getiE (j := 6) (x := (b : Int)) d_se_tryGame_21 zC2 fl_se_51 (by decide) rfl rfl (enc_126 _ _ _) ?_
    refine zi_if_ne 29 d_se_tryGame_24 (by decide) (by first | assumption | exact ⟨by omega, by omega⟩) (fun h24 => ?_) (fun h24 => ?_)
    · have hb0 : ¬ b = 0 := by omega
      refine zr_aload_n d_se_tryGame_29 rfl ?_
      refine zr_dup d_se_tryGame_30 rfl ?_
      refine zi_getiE (j := 6) (x := (b : Int)) d_se_tryGame_31 zC2 fl_se_51 (by decide) rfl rfl (enc_126 _ _ _) ?_
      refine zi_iconst d_se_tryGame_34 ?_
      refine zi_isub d_se_tryGame_35 ?_
      rw [show (b : Int) - 1 = ((b - 1 : Nat) : Int) by omega]
      refine zi_puti (j := 6) d_se_tryGame_36 zC2 fl_se_51 (by decide) rfl rfl rfl rfl ?_
      refine zr_aload_n d_se_tryGame_39 rfl ?_
      refine zi_getr (j := 1) d_se_tryGame_40 zC2 fl_se_14 (by decide) rfl rfl ?_
      refine zi_iload_n d_se_tryGame_43 rfl ?_
      refine zi_iload_n d_se_tryGame_44 rfl ?_
      refine zi_iload d_se_tryGame_45 rfl ?_
      refine c_se_tryGame_47 rfl rfl (tt13_putGame (by simp only [tU]; simpa using (enc_ne τ D b 13 0 (by decide)).trans S.2.1) ⟨by omega, by omega⟩ ⟨by omega, by omega⟩ ⟨by omega, by omega⟩) ?_
      refine zr_aload_n d_se_tryGame_50 rfl ?_
      refine zi_iload_n d_se_tryGame_51 rfl ?_
      refine zi_iload_n d_se_tryGame_52 rfl ?_
      refine zi_iload d_se_tryGame_53 rfl ?_
      refine c_se_tryGame_55 rfl rfl (se_flipMeeting hr7 hh8 ha8 hab (by rw [tP13_at _ _ _ ha8, tP13_at _ _ _ hh8]; simp only [tU]; simpa using enc_16b τ D b r g.1) (by rw [tP13_at _ _ _ ha8, tP13_at _ _ _ hh8]; simp only [tU]; simpa using enc_17b τ D b _ hh8) (by rw [tP13_at _ _ _ ha8, tP13_at _ _ _ hh8]; simp only [tU]; simpa using enc_17b τ D b _ ha8)) ?_
      rw [enc_put hn8 g]
      refine zr_aload_n d_se_tryGame_58 rfl ?_
      refine zi_iload_n d_se_tryGame_59 rfl ?_
      refine zi_iconst d_se_tryGame_60 ?_
      refine zi_iadd d_se_tryGame_61 ?_
      refine zi_iload_n d_se_tryGame_62 rfl ?_
      refine c_se_tryGame_63 rfl rfl (hN (by omega)) ?_
      refine zi_istore d_se_tryGame_66 (by decide) rfl ?_
      refine zi_iload d_se_tryGame_68 rfl ?_
      refine zi_if_ne 92 d_se_tryGame_70 (by decide) (rz hx) (fun h70 => ?_) (fun h70 => ?_)
      · refine zi_iload d_se_tryGame_92 rfl ?_
        exact zk_iret rfl d_se_tryGame_94 (Nat.zero_le _) (Nat.zero_le _) (by rw [tgF, if_pos hal, if_neg hb0]; first | rw [if_pos h70, h70] | rw [if_neg h70]) (by rw [tgF, if_pos hal, if_neg hb0]; first | (rw [if_neg h70]; done) | (rw [if_pos h70]; exact enc_take hn8 g))
      · rw [hx.2.1 h70]
        refine zr_aload_n d_se_tryGame_73 rfl ?_
        refine zi_iload_n d_se_tryGame_74 rfl ?_
        refine zi_iload_n d_se_tryGame_75 rfl ?_
        refine zi_iload d_se_tryGame_76 rfl ?_
        refine c_se_tryGame_78 rfl rfl (se_flipMeeting hr7 hh8 ha8 hab (enc_16b _ _ _ _ hr7) (enc_17b _ _ _ _ hh8) (enc_17b _ _ _ _ ha8)) ?_
        refine zr_aload_n d_se_tryGame_81 rfl ?_
        refine zi_getr (j := 1) d_se_tryGame_82 zC2 fl_se_14 (by decide) rfl rfl ?_
        refine zi_iload_n d_se_tryGame_85 rfl ?_
        refine zi_iload_n d_se_tryGame_86 rfl ?_
        refine zi_iload d_se_tryGame_87 rfl ?_
        refine c_se_tryGame_89 rfl rfl (tt13_takeGame (by rw [flmT_ne _ _ _ _ _ _ (by decide), enc_ne _ _ _ _ _ (by decide)]; exact S.2.1) ⟨by omega, by omega⟩ ⟨by omega, by omega⟩ ⟨by omega, by omega⟩) ?_
        refine zi_iload d_se_tryGame_92 rfl ?_
        exact zk_iret rfl d_se_tryGame_94 (Nat.zero_le _) (Nat.zero_le _) (by rw [tgF, if_pos hal, if_neg hb0]; first | rw [if_pos h70, h70] | rw [if_neg h70]) (by rw [tgF, if_pos hal, if_neg hb0]; first | (rw [if_neg h70]; done) | (rw [if_pos h70]; exact enc_take hn8 g))
    · have hb0 : b = 0 := by omega
      refine zi_iconst d_se_tryGame_27 ?_
      exact zk_iret rfl d_se_tryGame_28 (Nat.zero_le _) (Nat.zero_le _) (by rw [tgF, if_pos hal, if_pos hb0]) (by rw [tgF, if_pos hal, if_pos hb0, hb0])
  · have hal : alwP (enc τ D 0) p f r h a = false := by revert h15; split <;> simp [*]
    refine zi_iconst d_se_tryGame_18 ?_
    exact zk_iret rfl d_se_tryGame_19 (Nat.zero_le _) (Nat.zero_le _) (by rw [tgF, if_neg (by rw [hal]; decide)]) (by rw [tgF, if_neg (by rw [hal]; decide)])
theorem se_tryBye {l : Launch} {d : Nat} {τ D : tS} {n all p f b r t : Nat} {dp : Int} {nx : sR} (S : SOk τ n all p f) (hD : DOk D n) (hb : b ≤ 4000) (hr7 : r < 7) (ht : t < n) (ho : D r t = -2) (hx : rOk (dB D r t) (b - 1) nx) (hN : 0 < b → dBye D t = false → zF l (d + 3) M_se_goOn [.ref 12, vi (dp + 1), vi (r : Int)] (enc τ (dB D r t) (b - 1)) (some (vi nx.1)) (enc τ nx.2.1 nx.2.2)) : zF l (d + 4) M_se_tryBye [.ref 12, vi dp, vi (r : Int), vi (t : Int)] (enc τ D b) (some (vi (tgF (okF τ D n p f r t (2 * n)) D b nx).1)) (enc τ (tgF (okF τ D n p f r t (2 * n)) D b nx).2.1 (tgF (okF τ D n p f r t (2 * n)) D b nx).2.2) := by
  refine zMet_of (ls := [.ref 12, vi dp, vi (r : Int), vi (t : Int), .null]) pn_se rfl (by simp [vi, Value.category]) rfl rfl ?_
  have hn8 : n ≤ 8 := S.2.2.2.2.2.2.2.2.2.2.2.2.2.1
  have ht8 : t < 8 := by omega
  have m3 := msk8 (dBye D)
  have hk : okF τ D n p f r t (2 * n) = decide (n % 2 = 1 ∧ dBye D t = false ∧ anyN (byeP τ (r : Int) (t : Int)) f = false) := by unfold okF; rw [if_pos (by omega)]
  have hbt : (msk (dBye D) 8).testBit t = dBye D t := by rw [msk_bit]; simp [ht8]
  refine zr_aload_n d_se_tryBye_0 rfl ?_
  refine zi_getr (j := 1) d_se_tryBye_1 zC2 fl_se_14 (by decide) rfl rfl ?_
  refine c_se_tryBye_4 rfl rfl (tt13_teamCount) ?_
  show zV _ _ _ _ _ (vi _ :: _) _ _ _
  rw [enc_ne _ _ _ _ _ (by decide), S.2.2.2.2.2.2.2.2.2.1]
  refine zi_iconst d_se_tryBye_7 ?_
  refine zi_irem d_se_tryBye_8 ⟨by omega, by omega⟩ ⟨by omega, by omega⟩ ?_
  refine zi_if_eq 35 d_se_tryBye_9 (by decide) ⟨by omega, by omega⟩ (fun h9 => ?_) (fun h9 => ?_)
  · have hal : okF τ D n p f r t (2 * n) = false := by rw [hk]; exact decide_eq_false (fun e => by omega)
    refine zi_iconst d_se_tryBye_35 ?_
    exact zk_iret rfl d_se_tryBye_36 (Nat.zero_le _) (Nat.zero_le _) (by rw [tgF, if_neg (by rw [hal]; decide)]) (by rw [tgF, if_neg (by rw [hal]; decide)])
  · refine zr_aload_n d_se_tryBye_12 rfl ?_
    refine zi_getiE (j := 4) (x := ((msk (dBye D) 8 : Nat) : Int)) d_se_tryBye_13 zC2 fl_se_44 (by decide) rfl rfl (enc_124 _ _ _) ?_
    refine zi_iload_n d_se_tryBye_16 rfl ?_
    refine c_se_tryBye_17 rfl (lr_hasBit (by omega) (by omega)) ?_
    refine zi_if_ne 35 d_se_tryBye_20 (by decide) (by split <;> exact ⟨by decide, by decide⟩) (fun h20 => ?_) (fun h20 => ?_)
    · have hal : okF τ D n p f r t (2 * n) = false := by rw [hk]; refine decide_eq_false (fun e => h20 ?_); rw [hbt, e.2.1]; rfl
      refine zi_iconst d_se_tryBye_35 ?_
      exact zk_iret rfl d_se_tryBye_36 (Nat.zero_le _) (Nat.zero_le _) (by rw [tgF, if_neg (by rw [hal]; decide)]) (by rw [tgF, if_neg (by rw [hal]; decide)])
    · have hby : dBye D t = false := by rw [← hbt]; cases e : (msk (dBye D) 8).testBit t; rfl; exact absurd h20 (by simp [e])
      refine zr_aload_n d_se_tryBye_23 rfl ?_
      refine zi_getr (j := 0) d_se_tryBye_24 zC2 fl_se_27 (by decide) rfl rfl ?_
      refine zi_iload_n d_se_tryBye_27 rfl ?_
      refine zi_iload_n d_se_tryBye_28 rfl ?_
      refine c_se_tryBye_29 rfl rfl (wi_allowBye (f := f) (enc_in S.1 hD hb) (by rw [enc_ne _ _ _ _ _ (by decide)]; exact S.2.2.2.2.2.2.2.1) S.2.2.2.2.2.2.2.2.1 ⟨by omega, by omega⟩ ⟨by omega, by omega⟩) ?_
      show zV _ _ _ _ _ (vi _ :: _) _ _ _
      rw [bye_enc]
      refine zi_if_ne 37 d_se_tryBye_32 (by decide) (by split <;> exact ⟨by decide, by decide⟩) (fun h32 => ?_) (fun h32 => ?_)
      · have hal : okF τ D n p f r t (2 * n) = true := by rw [hk]; refine decide_eq_true ⟨by omega, hby, ?_⟩; cases e : anyN (byeP τ (r : Int) (t : Int)) f; rfl; exact absurd (by simp [e]) h32
        refine zr_aload_n d_se_tryBye_37 rfl ?_
        refine zi_getiE (j := 6) (x := (b : Int)) d_se_tryBye_38 zC2 fl_se_51 (by decide) rfl rfl (enc_126 _ _ _) ?_
        refine zi_if_ne 46 d_se_tryBye_41 (by decide) (by first | assumption | exact ⟨by omega, by omega⟩) (fun h41 => ?_) (fun h41 => ?_)
        · have hb0 : ¬ b = 0 := by omega
          have g : bOk D n r t := ⟨hr7, ht, ho, hby⟩
          refine zr_aload_n d_se_tryBye_46 rfl ?_
          refine zr_dup d_se_tryBye_47 rfl ?_
          refine zi_getiE (j := 6) (x := (b : Int)) d_se_tryBye_48 zC2 fl_se_51 (by decide) rfl rfl (enc_126 _ _ _) ?_
          refine zi_iconst d_se_tryBye_51 ?_
          refine zi_isub d_se_tryBye_52 ?_
          rw [show (b : Int) - 1 = ((b - 1 : Nat) : Int) by omega]
          refine zi_puti (j := 6) d_se_tryBye_53 zC2 fl_se_51 (by decide) rfl rfl rfl rfl ?_
          refine zr_aload_n d_se_tryBye_56 rfl ?_
          refine zi_iload_n d_se_tryBye_57 rfl ?_
          refine zi_iload_n d_se_tryBye_58 rfl ?_
          refine c_se_tryBye_59 rfl rfl (se_flipBye hr7 ht8 (by simp only [tU]; simpa using enc_16b τ D b r hr7) (by simp only [tU]; simpa using enc_124b τ D b)) ?_
          rw [enc_rest hn8 g]
          refine zr_aload_n d_se_tryBye_62 rfl ?_
          refine zi_iload_n d_se_tryBye_63 rfl ?_
          refine zi_iconst d_se_tryBye_64 ?_
          refine zi_iadd d_se_tryBye_65 ?_
          refine zi_iload_n d_se_tryBye_66 rfl ?_
          refine c_se_tryBye_67 rfl rfl (hN (by omega) hby) ?_
          refine zi_istore d_se_tryBye_70 (by decide) rfl ?_
          refine zi_iload d_se_tryBye_72 rfl ?_
          refine zi_if_ne 83 d_se_tryBye_74 (by decide) (rz hx) (fun h74 => ?_) (fun h74 => ?_)
          · refine zi_iload d_se_tryBye_83 rfl ?_
            exact zk_iret rfl d_se_tryBye_85 (Nat.zero_le _) (Nat.zero_le _) (by rw [tgF, if_pos hal, if_neg hb0]; first | rw [if_pos h74, h74] | rw [if_neg h74]) (by rw [tgF, if_pos hal, if_neg hb0]; first | (rw [if_neg h74]; done) | (rw [if_pos h74]; exact enc_wake hn8 g))
          · rw [hx.2.1 h74]
            refine zr_aload_n d_se_tryBye_77 rfl ?_
            refine zi_iload_n d_se_tryBye_78 rfl ?_
            refine zi_iload_n d_se_tryBye_79 rfl ?_
            refine c_se_tryBye_80 rfl rfl (se_flipBye hr7 ht8 (enc_16b _ _ _ _ hr7) (enc_124b _ _ _)) ?_
            refine zi_iload d_se_tryBye_83 rfl ?_
            exact zk_iret rfl d_se_tryBye_85 (Nat.zero_le _) (Nat.zero_le _) (by rw [tgF, if_pos hal, if_neg hb0]; first | rw [if_pos h74, h74] | rw [if_neg h74]) (by rw [tgF, if_pos hal, if_neg hb0]; first | (rw [if_neg h74]; done) | (rw [if_pos h74]; exact enc_wake hn8 g))
        · have hb0 : b = 0 := by omega
          refine zi_iconst d_se_tryBye_44 ?_
          exact zk_iret rfl d_se_tryBye_45 (Nat.zero_le _) (Nat.zero_le _) (by rw [tgF, if_pos hal, if_pos hb0]) (by rw [tgF, if_pos hal, if_pos hb0, hb0])
      · have hal : okF τ D n p f r t (2 * n) = false := by rw [hk]; refine decide_eq_false (fun e => ?_); rw [e.2.2] at h32; exact absurd h32 (by decide)
        refine zi_iconst d_se_tryBye_35 ?_
        exact zk_iret rfl d_se_tryBye_36 (Nat.zero_le _) (Nat.zero_le _) (by rw [tgF, if_neg (by rw [hal]; decide)]) (by rw [tgF, if_neg (by rw [hal]; decide)])
