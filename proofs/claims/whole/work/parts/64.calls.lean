/-! each call of the law, class and reference one behind the other (written by wip/gen/t53.py) -/
def zSp (l : Launch) (d : Nat) (Mh Mm : zM) (ah am : List Value) (τ : tS) : Prop := ∃ (κ b : Int) (τ1 τ2 : tS) (n R p f e : Nat), zH l (d + 65) Mh ah τ κ τ1 ∧ zF l (d + 65) Mm am τ1 (some (vi b)) τ2 ∧ τ2 37 0 = κ ∧ zin κ ∧ zin b ∧ (κ = 0 → τ2 62 0 = b) ∧ RL τ2 n R p f e
def zSv (l : Launch) (d : Nat) (Mh Mm : zM) (ah am : List Value) (τ : tS) : Prop := ∃ (κ : Int) (τ1 τ2 : tS) (n R p f e : Nat), zH l (d + 65) Mh ah τ κ τ1 ∧ zF l (d + 65) Mm am τ1 none τ2 ∧ τ2 37 0 = κ ∧ zin κ ∧ RL τ2 n R p f e
def zSi (l : Launch) (d : Nat) (Mc Mm : zM) (ac am : List Value) (τ : tS) : Prop := ∃ (b : Int) (τ1 τ2 : tS) (n R p f e : Nat), zF l (d + 65) Mc ac τ (some (vi b)) τ1 ∧ zF l (d + 65) Mm am τ1 (some (vi b)) τ2 ∧ zin b ∧ RL τ2 n R p f e
section ZY
variable {l : Launch} {d : Nat} {τ : tS} {n R p f e : Nat}
theorem zSp.x {Mh Mm : zM} {ah am : List Value} {κ : Int} (h : RL τ n R p f e) (hκ : 1 ≤ κ ∧ κ ≤ 4) (hH : zH l (d + 65) Mh ah τ κ τ) (hm : zF l (d + 65) Mm am τ (some (vi 0)) (tU τ 37 0 κ)) : zSp l d Mh Mm ah am τ :=
  ⟨κ, 0, τ, tU τ 37 0 κ, n, R, p, f, e, hH, hm, by simp [tU], ⟨by omega, by omega⟩, ⟨by decide, by decide⟩, fun g => by omega, h.t37 ⟨by omega, by omega⟩⟩
theorem RL.o62 (h : RL τ n R p f e) {b : Int} (hb : zin b) : RL (tU τ 62 0 b) n R p f e := by
  have g : ∀ q, ¬ q = 62 → tU τ 62 0 b q = τ q := fun q hq => by funext j; simp only [tU]; rw [if_neg (fun z => hq z.1)]
  exact h.irr (in_U h.A hb) (fun q hq => g q (by omega)) (by rw [g 13 (by decide)]) (by rw [g 18 (by decide)]) (by rw [g 27 (by decide)]) (by rw [g 29 (by decide)]) (by rw [g 36 (by decide)]; exact h.k36) (fun j _ => by rw [g 37 (by decide)]) (by rw [g 60 (by decide)]; exact h.k60) (by rw [g 54 (by decide)]; exact h.k54)
theorem o62 (w : tS) (b : Int) {q : Nat} (hq : ¬ q = 62) : tU w 62 0 b q = w q := by funext j; simp only [tU]; rw [if_neg (fun z => hq z.1)]
/-- a question: the class's world stays -/
theorem zSp.q {Mh Mm : zM} {ah am : List Value} {b : Int} (h : RL τ n R p f e) (zb : zin b) (hH : zH l (d + 65) Mh ah τ 0 (tU τ 62 0 b)) (hm : zF l (d + 65) Mm am (tU τ 62 0 b) (some (vi b)) (tU (tU τ 62 0 b) 37 0 0)) : zSp l d Mh Mm ah am τ :=
  ⟨0, b, tU τ 62 0 b, _, n, R, p, f, e, hH, hm, by simp [tU], ⟨by decide, by decide⟩, zb, fun _ => by simp [tU], (h.o62 zb).t37 ⟨by decide, by decide⟩⟩
theorem st_teams (h : RL τ n R p f e) {k : Int} (zk : zin k) : zSv l d M_lw_teams M_md_teams [.ref 0, vi k] [.ref 37, vi k] τ := by
  by_cases hk : 4 ≤ k ∧ k ≤ 20
  · obtain ⟨m, rfl⟩ := Int.eq_ofNat_of_zero_le (show 0 ≤ k by omega)
    refine ⟨0, fsT (tmY τ (m : Int)), mtT (fsT (tmY τ (m : Int))) (m : Int), m, 0, 0, 0, 0, lw_teams_ok (lr_teams (d := d + 58) hk), md_teams (d := d + 62) zk hk, ?_, ⟨by decide, by decide⟩, rl_teams h (by omega)⟩
    simp [mtT, csT, cs1, tF, tU]
  · exact ⟨1, τ, tU τ 37 0 1, n, R, p, f, e, lw_teams_e1 (lr_teamsX (d := d + 58) zk hk), md_teamsX (d := d + 62) zk hk, by simp [tU], ⟨by decide, by decide⟩, h.t37 ⟨by decide, by decide⟩⟩
theorem st_awayCap (h : RL τ n R p f e) {k : Int} (zk : zin k) : zSv l d M_lw_awayCap M_md_awayCap [.ref 0, vi k] [.ref 37, vi k] τ := by
  by_cases hk : 0 ≤ k ∧ k ≤ 19
  · exact ⟨0, tU τ 4 10 k, _, n, R, p, f, e, lw_awayCap_ok (lr_awayCap (d := d + 58) zk hk), md_awayCap (d := d + 62) zk hk, by simp [tU], ⟨by decide, by decide⟩, rl_cap h hk⟩
  · exact ⟨1, τ, tU τ 37 0 1, n, R, p, f, e, lw_awayCap_e1 (lr_awayCapX (d := d + 58) zk hk), md_awayCapX (d := d + 62) zk hk, by simp [tU], ⟨by decide, by decide⟩, h.t37 ⟨by decide, by decide⟩⟩
theorem st_rounds (h : RL τ n R p f e) : zSi l d M_lr_rounds M_md_rounds [.ref 0] [.ref 37] τ := by
  have hb := h.bd
  exact ⟨(R : Int), τ, tU τ 37 0 0, n, R, p, f, e, lr_rounds (d := d + 63) h.cl, md_rounds (d := d + 64) h.mo, ⟨by omega, by omega⟩, h.t37 ⟨by decide, by decide⟩⟩
theorem st_makePlain (h : RL τ n R p f e) {b : Int} (hb : b = 0 ∨ b = 1) : zSi l d M_lr_makePlain M_md_makePlain [.ref 0, vi b] [.ref 37, vi b] τ := by
  have bd := h.bd
  obtain ⟨m, hm⟩ : ∃ m, m = n - 1 + n % 2 := ⟨_, rfl⟩
  obtain ⟨R', h1, h2⟩ : ∃ R', (b = 0 ∧ R' = m ∨ b = 1 ∧ R' = 2 * m) ∧ (R' = m ∨ R' = 2 * m) := by
    rcases hb with hb | hb
    · exact ⟨m, Or.inl ⟨hb, rfl⟩, Or.inl rfl⟩
    · exact ⟨2 * m, Or.inr ⟨hb, rfl⟩, Or.inr rfl⟩
  obtain ⟨r1, r2⟩ := rl_plain h hm h2
  have C1 : Mo (fsT (plA τ m n R')) n R p f e := h.mo.cg r2 (fun q g1 g2 => by
    have ho1 : okT (bgT τ n R') := okT_bgT h.A bd.2.1 (by omega)
    have ho2 : okT (plS (bgT τ n R') m n m) := okT_plS ho1 ⟨by omega, by omega⟩ bd.2.1 (by omega) m (Nat.le_refl _)
    rw [fs_o _ q (by omega)]
    funext j
    unfold plA
    rw [rtS_ne ho2 (by omega) bd.2.1 q j (by omega) (by omega) _ (by omega), plS_ne _ _ _ _ _ (by omega) (by omega), bgT_ne _ _ _ _ _ (by omega) (by omega) (by omega)])
  exact ⟨(R' : Int), _, _, n, R', p, f, 0, lr_makePlain (d := d + 59) h.cl hm h1, md_makePlain (d := d + 62) C1 hm h1, ⟨by omega, by omega⟩, r1⟩
theorem st_verify (h : RL τ n R p f e) : zSi l d M_lr_verify M_md_verify [.ref 0] [.ref 37] τ := by
  refine ⟨brokF τ n R p f, τ, tU τ 37 0 0, n, R, p, f, e, lr_verify (d := d + 60) h.cl, ?_, ?_, h.t37 ⟨by decide, by decide⟩⟩
  · rw [brok_same h]
    exact md_verify (d := d + 61) h.mo
  · unfold brokF
    repeat' split
    all_goals exact ⟨by decide, by decide⟩
theorem st_missing (h : RL τ n R p f e) : zSi l d M_lr_missing M_md_missing [.ref 0] [.ref 37] τ := by
  have bd := h.bd
  have hm := mis_lost h.lo bd.2.1 bd.2.2.1
  have hf := h.few
  unfold misN at hm
  have h1 := lr_missing (l := l) (d := d + 59) h.cl
  rw [hm] at h1
  refine ⟨_, τ, lmT (tU τ 37 0 0) 800, n, R, p, f, e, h1, md_missing (d := d + 63) h.A hf, ⟨by omega, by omega⟩, ?_⟩
  have h2 := h.t37 (x := 0) ⟨by decide, by decide⟩
  have g : ∀ q j, q ≠ 58 → q ≠ 37 → lmT (tU τ 37 0 0) 800 q j = tU τ 37 0 0 q j := fun q j a b => lmT_ne _ _ _ a (fun z => b z.1) _
  refine h2.irr (lmT_in h2.A 800 (Nat.le_refl _)) (fun q hq => funext (fun j => g q j (by omega) (by omega))) (g 13 0 (by decide) (by decide)) (g 18 3 (by decide) (by decide)) (g 27 3 (by decide) (by decide)) (g 29 3 (by decide) (by decide)) (fun j => by rw [g 36 j (by decide) (by decide)]; exact h2.k36 j) (fun j hj => ?_) (fun j hj => by rw [g 60 j (by decide) (by decide)]; exact h2.k60 j hj) (fun j => by rw [g 54 j (by decide) (by decide)]; exact h2.k54 j)
  have key : ∀ i, lmT (tU τ 37 0 0) i 37 j = tU τ 37 0 0 37 j := by
    intro i
    induction i with
    | zero => rw [lmT]; simp only [tU]; rw [if_neg (by omega)]
    | succ i ih =>
      rw [lmT]
      split
      · show tU (tU (lmT (tU τ 37 0 0) i) 58 _ _) 37 28 _ 37 j = _
        rw [show tU (tU (lmT (tU τ 37 0 0) i) 58 (cnt (lostP (tU τ 37 0 0)) i) (i : Int)) 37 28 (((cnt (lostP (tU τ 37 0 0)) i : Nat) : Int) + 1) 37 j = lmT (tU τ 37 0 0) i 37 j by simp only [tU]; rw [if_neg (by omega), if_neg (by omega)]]
        exact ih
      · exact ih
  exact key 800
theorem Mo.o62 (h : RL τ n R p f e) {b : Int} (hb : zin b) : Mo (tU τ 62 0 b) n R p f e := (h.o62 hb).mo
theorem st_opponent (h : RL τ n R p f e) {t r : Int} (zt : zin t) (zr : zin r) : zSp l d M_lw_opponent M_md_opponent [.ref 0, vi t, vi r, .ref 62] [.ref 37, vi t, vi r] τ := by
  by_cases hc : (0 ≤ r ∧ r < R) ∧ (0 ≤ t ∧ t < n)
  · obtain ⟨t', rfl⟩ := Int.eq_ofNat_of_zero_le hc.2.1
    obtain ⟨r', rfl⟩ := Int.eq_ofNat_of_zero_le hc.1.1
    have e1 : ((r' : Int) * 20 + (t' : Int)).toNat = 20 * r' + t' := by omega
    have e2 : (20 * (r' : Int) + (t' : Int)).toNat = 20 * r' + t' := by omega
    have hM := lr_opponent (l := l) (d := d + 57) h.cl zr zt hc
    rw [e1, ← (h.kT.2 r' t' (by omega) (by omega)).1] at hM
    have hm := md_opponent (l := l) (d := d + 61) (Mo.o62 h (h.A 44 (20 * r' + t'))) zt zr hc
    rw [e2, o62 _ _ (by decide)] at hm
    exact zSp.q h (h.A _ _) (lw_opponent_ok hM) hm
  · exact zSp.x (κ := 1) h (by decide) (lw_opponent_e1 (lr_opponentX (d := d + 57) h.cl zr zt hc)) (md_opponentX (d := d + 61) h.mo zt zr hc)
theorem st_venue (h : RL τ n R p f e) {t r : Int} (zt : zin t) (zr : zin r) : zSp l d M_lw_venue M_md_venue [.ref 0, vi t, vi r, .ref 62] [.ref 37, vi t, vi r] τ := by
  by_cases hc : (0 ≤ r ∧ r < R) ∧ (0 ≤ t ∧ t < n)
  · obtain ⟨t', rfl⟩ := Int.eq_ofNat_of_zero_le hc.2.1
    obtain ⟨r', rfl⟩ := Int.eq_ofNat_of_zero_le hc.1.1
    have e1 : ((r' : Int) * 20 + (t' : Int)).toNat = 20 * r' + t' := by omega
    have e2 : (20 * (r' : Int) + (t' : Int)).toNat = 20 * r' + t' := by omega
    have hM := lr_venue (l := l) (d := d + 57) h.cl zr zt hc
    rw [e1] at hM
    have hm := md_venue (l := l) (d := d + 61) (Mo.o62 h (h.A 3 (20 * r' + t'))) zt zr hc
    rw [e2, veM_E, o62 _ _ (by decide), o62 _ _ (by decide), (h.kT.2 r' t' (by omega) (by omega)).2.1] at hm
    exact zSp.q h (h.A _ _) (lw_venue_ok hM) hm
  · exact zSp.x (κ := 1) h (by decide) (lw_venue_e1 (lr_venueX (d := d + 57) h.cl zr zt hc)) (md_venueX (d := d + 61) h.mo zt zr hc)
theorem mbr_o62 (w : tS) (b : Int) (t : Nat) : mbrP (tU w 62 0 b) t = mbrP w t := by
  funext i
  unfold mbrP
  rw [veM_E, veM_E, veM_E, veM_E, o62 _ _ (by decide), o62 _ _ (by decide)]
theorem sumI_one {g : Nat → Int} {t : Nat} : ∀ k, t < k → sumI (fun i => if i = t then g i else 0) k = g t
  | 0, h => by omega
  | k + 1, h => by
    rw [sumI]
    by_cases e : t = k
    · subst e
      rw [if_pos rfl, sumI_0 t (fun i hi => if_neg (by omega))]
      omega
    · rw [sumI_one k (by omega), if_neg (fun g => e g.symm)]
      omega
theorem st_breaks (h : RL τ n R p f e) {t : Int} (zt : zin t) : zSp l d M_lw_breaks M_md_breaks [.ref 0, vi t, .ref 62] [.ref 37, vi t] τ := by
  have bd := h.bd
  by_cases hc : t = -1 ∨ (0 ≤ t ∧ t < n)
  · obtain ⟨b, hb, zb, hM⟩ : ∃ b, b = sumI (mbkF τ R t) n ∧ zin b ∧ zF l (d + 57 + 7) M_lr_breaks [.ref 0, vi t] τ (some (vi b)) τ := by
      rcases hc with hc | hc
      · subst hc
        refine ⟨_, ?_, ?_, lr_breaksAll (d := d + 57) h.cl⟩
        · refine sumI_congr (fun i hi => ?_)
          unfold mbkF
          rw [if_pos (Or.inl rfl), brk_same h hi]
        · have := sumI_bd (f := fun t => ((cnt (brkP τ (t : Int)) (R - 1) : Nat) : Int)) (k := 38) (fun i => by have := cnt_le (brkP τ (i : Int)) (R - 1); omega) n
          exact ⟨by omega, by omega⟩
      · obtain ⟨t', rfl⟩ := Int.eq_ofNat_of_zero_le hc.1
        refine ⟨_, ?_, ?_, lr_breaks (d := d + 57) h.cl zt hc⟩
        · have e1 : mbkF τ R ((t' : Nat) : Int) = fun i => if i = t' then ((cnt (mbrP τ i) (R - 1) : Nat) : Int) else 0 := by
            funext i
            unfold mbkF
            by_cases e : i = t'
            · rw [if_pos (Or.inr (by omega)), if_pos e]
            · rw [if_neg (by omega), if_neg e]
          rw [e1, sumI_one (g := fun i => ((cnt (mbrP τ i) (R - 1) : Nat) : Int)) n (by omega), brk_same h (by omega)]
        · have := cnt_le (brkP τ ((t' : Nat) : Int)) (R - 1)
          exact ⟨by omega, by omega⟩
    have hm := md_breaks (l := l) (d := d + 61) (Mo.o62 h zb) zt hc
    have e2 : sumI (mbkF (tU τ 62 0 b) R t) n = b := by
      rw [hb]
      refine sumI_congr (fun i hi => ?_)
      unfold mbkF
      rw [mbr_o62]
    rw [e2] at hm
    exact zSp.q h zb (lw_breaks_ok hM) hm
  · exact zSp.x (κ := 1) h (by decide) (lw_breaks_e1 (lr_breaksX (d := d + 57) h.cl zt (fun g => hc (Or.inl g)) (fun g => hc (Or.inr g)))) (md_breaksX (d := d + 61) h.mo zt hc)
theorem st_catchDate (h : RL τ n R p f e) {r t : Int} (zr : zin r) (zt : zin t) : zSp l d M_lw_catchDate M_md_catchDate [.ref 0, vi r, vi t, .ref 62] [.ref 37, vi r, vi t] τ := by
  by_cases hc : (0 ≤ r ∧ r < R) ∧ (0 ≤ t ∧ t < n)
  · obtain ⟨t', rfl⟩ := Int.eq_ofNat_of_zero_le hc.2.1
    obtain ⟨r', rfl⟩ := Int.eq_ofNat_of_zero_le hc.1.1
    have e1 : ((r' : Int) * 20 + (t' : Int)).toNat = 20 * r' + t' := by omega
    have e2 : (20 * (r' : Int) + (t' : Int)).toNat = 20 * r' + t' := by omega
    have kv := (h.kT.2 r' t' (by omega) (by omega)).2.1
    by_cases hv : τ 3 (20 * r' + t') = 1
    · have hM := lr_catchDate (l := l) (d := d + 57) h.cl zr zt hc (by rw [e1]; exact hv)
      rw [e1] at hM
      have kd := h.kD.2 r' t' (by omega) (by omega)
      have kg := h.kG.2.2.1 r' t' (by omega) (by omega)
      have e3 : (if τ 19 (20 * r' + t') = -1 then τ 31 (20 * r' + t') else -1) = τ 50 (20 * r' + t') := by
        rw [kd]
        by_cases e4 : τ 46 (20 * r' + t') = 0
        · rw [if_pos e4, if_pos (kg.1 e4)]
        · have := kg.2 e4
          rw [if_neg e4, if_neg (by omega)]
      rw [e3] at hM
      have hm := md_catchDate (l := l) (d := d + 61) (Mo.o62 h (h.A 50 (20 * r' + t'))) zr zt hc (by rw [e2, veM_E, o62 _ _ (by decide), o62 _ _ (by decide), kv]; exact hv)
      rw [e2, o62 _ _ (by decide)] at hm
      exact zSp.q h (h.A _ _) (lw_catchDate_ok hM) hm
    · exact zSp.x (κ := 2) h (by decide) (lw_catchDate_e2 (lr_catchDateX2 (d := d + 57) h.cl zr zt hc (lr_requireHomeX (d := d + 57) h.cl zr zt hc (by rw [e1]; exact hv)))) (md_catchDateX2 (d := d + 61) h.mo zr zt hc (by rw [e2, veM_E, kv]; exact hv))
  · exact zSp.x (κ := 1) h (by decide) (lw_catchDate_e1 (lr_catchDateX1 (d := d + 57) h.cl zr zt hc)) (md_catchDateX1 (d := d + 61) h.mo zr zt hc)
end ZY
