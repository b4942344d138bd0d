/-! the calls that change something (written by wip/gen/t54.py) -/
section ZY2
variable {l : Launch} {d : Nat} {τ : tS} {n R p f e : Nat}
/-- a change: RL after both, the class's world v, the answer kept -/
theorem zSp.c {Mh Mm : zM} {ah am : List Value} {b : Int} {v τ2 : tS} {n' R' p' f' e' : Nat} (zb : zin b) (hH : zH l (d + 65) Mh ah τ 0 (tU v 62 0 b)) (hm : zF l (d + 65) Mm am (tU v 62 0 b) (some (vi b)) τ2) (h0 : τ2 37 0 = 0) (h62 : τ2 62 0 = b) (hR : RL τ2 n' R' p' f' e') : zSp l d Mh Mm ah am τ :=
  ⟨0, b, tU v 62 0 b, τ2, n', R', p', f', e', hH, hm, h0, ⟨by decide, by decide⟩, zb, fun _ => h62, hR⟩
theorem bn_62_0 (τ : tS) (t r : Nat) (b : Int) : bnT0 (tU τ 62 0 b) t r = tU (bnT0 τ t r) 62 0 b := by
  funext q j
  simp only [bnT0, tU]
  grind
theorem st_ban0 (h : RL τ n R p f e) {t' r' : Nat} (zt : zin (t' : Int)) (zr : zin (r' : Int)) (ht : t' < n) (hr : r' ≤ 38) : zSp l d M_lw_ban M_md_ban [.ref 0, vi (t' : Int), vi (r' : Int), vi 0, .ref 62] [.ref 37, vi (t' : Int), vi (r' : Int), vi 0] τ := by
  have bd := h.bd
  have hc : (0 ≤ (t' : Int) ∧ (t' : Int) < n) ∧ (0 ≤ (r' : Int) ∧ (r' : Int) ≤ 38) ∧ ((0 : Int) = 0 ∨ (0 : Int) = 1) := ⟨⟨by omega, by omega⟩, ⟨by omega, by omega⟩, by decide⟩
  have ei : (2 * (39 * (t' : Int) + (r' : Int)) + 0).toNat = 2 * (39 * t' + r') := by omega
  have hm0 : τ 5 (r' : Int).toNat = (((τ 5 r').toNat : Nat) : Int) := by
    rw [Int.toNat_natCast]
    exact (Int.toNat_of_nonneg (h.kB.1 r')).symm
  have hm1 : (τ 5 r').toNat < 2147483648 := by have h1 := h.A 5 r'; unfold zin at h1; omega
  have hbit := h.kB.2.2.2.1 t' r' (by omega) (by omega)
  have c1 := h.kC.1
  by_cases hj : τ 38 (2 * (39 * t' + r')) = 0
  · have hb : (τ 5 r').toNat.testBit t' = false := by
      cases e1 : (τ 5 r').toNat.testBit t'
      · rfl
      · exact absurd hj (hbit.mp e1)
    obtain ⟨hA1, g1, g2⟩ := bn_in0 h (by omega) (by omega) hj
    have hM := lr_ban (l := l) (d := d + 57) h.cl zt zr ⟨by decide, by decide⟩ hc (wi_addBan0_new (d := d + 61) (by omega) ⟨by omega, by omega⟩ hm0 hm1 hb)
    rw [Int.toNat_natCast] at hM
    have zb : zin (τ 4 2 + 1) := ⟨by omega, by omega⟩
    have h2 := h.o62 zb
    have hm := md_ban (l := l) (d := d + 61) (τ := tU (bnT0 τ t' r') 62 0 (τ 4 2 + 1)) (n := n) (R := R) (p := p) (f := f) (e := e) (h.mo.cg (in_U hA1 zb) (fun q a1 a2 => by rw [o62 _ _ (by omega)]; funext j; simp only [bnT0, tU]; rw [if_neg (by omega), if_neg (by omega)])) zt zr ⟨by decide, by decide⟩ hc
    rw [ei] at hm
    have hj2 : tU (bnT0 τ t' r') 62 0 (τ 4 2 + 1) 38 (2 * (39 * t' + r')) = 0 := by rw [o62 _ _ (by decide)]; simp [bnT0, tU]; exact hj
    have e37 : tU (bnT0 τ t' r') 62 0 (τ 4 2 + 1) 37 2 + 1 = τ 4 2 + 1 := by rw [o62 _ _ (by decide)]; simp [bnT0, tU]; omega
    rw [if_pos hj2, e37] at hm
    have hR := rl_ban0 h2 (t := t') (r := r') (by omega) (by omega) (by rw [o62 _ _ (by decide)]; exact hj)
    rw [bn_62_0] at hR
    exact zSp.c zb (lw_ban_ok hM) hm (by simp [mbT, tU]) (by simp [mbT, tU]) hR
  · have hb : (τ 5 r').toNat.testBit t' = true := hbit.mpr hj
    have hM := lr_ban (l := l) (d := d + 57) h.cl zt zr ⟨by decide, by decide⟩ hc (wi_addBan0_old (d := d + 61) (by omega) ⟨by omega, by omega⟩ hm0 hm1 hb)
    have zb : zin (τ 4 2) := h.A _ _
    have h2 := h.o62 zb
    have hm := md_ban (l := l) (d := d + 61) h2.mo zt zr ⟨by decide, by decide⟩ hc
    rw [ei] at hm
    have hj2 : ¬ tU τ 62 0 (τ 4 2) 38 (2 * (39 * t' + r')) = 0 := by rw [o62 _ _ (by decide)]; exact hj
    have e37 : tU τ 62 0 (τ 4 2) 37 2 = τ 4 2 := by rw [o62 _ _ (by decide), c1]
    rw [if_neg hj2, e37] at hm
    exact zSp.c zb (lw_ban_ok hM) hm (by simp [mbT, tU]) (by simp [mbT, tU]) (rl_banO h2 hj2)
theorem bn_62_1 (τ : tS) (t r : Nat) (b : Int) : bnT1 (tU τ 62 0 b) t r = tU (bnT1 τ t r) 62 0 b := by
  funext q j
  simp only [bnT1, tU]
  grind
theorem st_ban1 (h : RL τ n R p f e) {t' r' : Nat} (zt : zin (t' : Int)) (zr : zin (r' : Int)) (ht : t' < n) (hr : r' ≤ 38) : zSp l d M_lw_ban M_md_ban [.ref 0, vi (t' : Int), vi (r' : Int), vi 1, .ref 62] [.ref 37, vi (t' : Int), vi (r' : Int), vi 1] τ := by
  have bd := h.bd
  have hc : (0 ≤ (t' : Int) ∧ (t' : Int) < n) ∧ (0 ≤ (r' : Int) ∧ (r' : Int) ≤ 38) ∧ ((1 : Int) = 0 ∨ (1 : Int) = 1) := ⟨⟨by omega, by omega⟩, ⟨by omega, by omega⟩, by decide⟩
  have ei : (2 * (39 * (t' : Int) + (r' : Int)) + 1).toNat = 2 * (39 * t' + r') + 1 := by omega
  have hm0 : τ 6 (r' : Int).toNat = (((τ 6 r').toNat : Nat) : Int) := by
    rw [Int.toNat_natCast]
    exact (Int.toNat_of_nonneg (h.kB.2.1 r')).symm
  have hm1 : (τ 6 r').toNat < 2147483648 := by have h1 := h.A 6 r'; unfold zin at h1; omega
  have hbit := h.kB.2.2.2.2 t' r' (by omega) (by omega)
  have c1 := h.kC.1
  by_cases hj : τ 38 (2 * (39 * t' + r') + 1) = 0
  · have hb : (τ 6 r').toNat.testBit t' = false := by
      cases e1 : (τ 6 r').toNat.testBit t'
      · rfl
      · exact absurd hj (hbit.mp e1)
    obtain ⟨hA1, g1, g2⟩ := bn_in1 h (by omega) (by omega) hj
    have hM := lr_ban (l := l) (d := d + 57) h.cl zt zr ⟨by decide, by decide⟩ hc (wi_addBan1_new (d := d + 61) (by omega) ⟨by omega, by omega⟩ hm0 hm1 hb)
    rw [Int.toNat_natCast] at hM
    have zb : zin (τ 4 2 + 1) := ⟨by omega, by omega⟩
    have h2 := h.o62 zb
    have hm := md_ban (l := l) (d := d + 61) (τ := tU (bnT1 τ t' r') 62 0 (τ 4 2 + 1)) (n := n) (R := R) (p := p) (f := f) (e := e) (h.mo.cg (in_U hA1 zb) (fun q a1 a2 => by rw [o62 _ _ (by omega)]; funext j; simp only [bnT1, tU]; rw [if_neg (by omega), if_neg (by omega)])) zt zr ⟨by decide, by decide⟩ hc
    rw [ei] at hm
    have hj2 : tU (bnT1 τ t' r') 62 0 (τ 4 2 + 1) 38 (2 * (39 * t' + r') + 1) = 0 := by rw [o62 _ _ (by decide)]; simp [bnT1, tU]; exact hj
    have e37 : tU (bnT1 τ t' r') 62 0 (τ 4 2 + 1) 37 2 + 1 = τ 4 2 + 1 := by rw [o62 _ _ (by decide)]; simp [bnT1, tU]; omega
    rw [if_pos hj2, e37] at hm
    have hR := rl_ban1 h2 (t := t') (r := r') (by omega) (by omega) (by rw [o62 _ _ (by decide)]; exact hj)
    rw [bn_62_1] at hR
    exact zSp.c zb (lw_ban_ok hM) hm (by simp [mbT, tU]) (by simp [mbT, tU]) hR
  · have hb : (τ 6 r').toNat.testBit t' = true := hbit.mpr hj
    have hM := lr_ban (l := l) (d := d + 57) h.cl zt zr ⟨by decide, by decide⟩ hc (wi_addBan1_old (d := d + 61) (by omega) ⟨by omega, by omega⟩ hm0 hm1 hb)
    have zb : zin (τ 4 2) := h.A _ _
    have h2 := h.o62 zb
    have hm := md_ban (l := l) (d := d + 61) h2.mo zt zr ⟨by decide, by decide⟩ hc
    rw [ei] at hm
    have hj2 : ¬ tU τ 62 0 (τ 4 2) 38 (2 * (39 * t' + r') + 1) = 0 := by rw [o62 _ _ (by decide)]; exact hj
    have e37 : tU τ 62 0 (τ 4 2) 37 2 = τ 4 2 := by rw [o62 _ _ (by decide), c1]
    rw [if_neg hj2, e37] at hm
    exact zSp.c zb (lw_ban_ok hM) hm (by simp [mbT, tU]) (by simp [mbT, tU]) (rl_banO h2 hj2)
theorem st_ban (h : RL τ n R p f e) {t r v : Int} (zt : zin t) (zr : zin r) (zv : zin v) : zSp l d M_lw_ban M_md_ban [.ref 0, vi t, vi r, vi v, .ref 62] [.ref 37, vi t, vi r, vi v] τ := by
  by_cases hc : (0 ≤ t ∧ t < n) ∧ (0 ≤ r ∧ r ≤ 38) ∧ (v = 0 ∨ v = 1)
  · obtain ⟨t', rfl⟩ := Int.eq_ofNat_of_zero_le hc.1.1
    obtain ⟨r', rfl⟩ := Int.eq_ofNat_of_zero_le hc.2.1.1
    rcases hc.2.2 with hv | hv
    · subst hv
      exact st_ban0 h zt zr (by omega) (by omega)
    · subst hv
      exact st_ban1 h zt zr (by omega) (by omega)
  · exact zSp.x (κ := 1) h (by decide) (lw_ban_e1 (lr_banX (d := d + 57) h.cl zt zr zv hc)) (md_banX (d := d + 61) h.mo zt zr zv hc)
theorem wiP_62 (τ : tS) (a b x : Int) : wiP (tU τ 62 0 x) a b = tU (wiP τ a b) 62 0 x := by
  funext q j
  simp only [wiP, tU]
  grind
theorem wiX_62 (τ : tS) (a b r x : Int) : wiX (tU τ 62 0 x) a b r = tU (wiX τ a b r) 62 0 x := by
  funext q j
  simp only [wiX, tU]
  grind
theorem st_shareGround (h : RL τ n R p f e) {a b : Int} (za : zin a) (zb : zin b) : zSp l d M_lw_shareGround M_md_shareGround [.ref 0, vi a, vi b, .ref 62] [.ref 37, vi a, vi b] τ := by
  have bd := h.bd
  have c2 := h.kC.2.1
  by_cases hc : (0 ≤ a ∧ a < n) ∧ (0 ≤ b ∧ b < n) ∧ ¬ a = b
  · by_cases h6 : p < 6
    · have hM := lr_shareGround (l := l) (d := d + 57) h.cl za zb hc h6
      rw [c2] at hM
      have zx : zin ((p : Int) + 1) := ⟨by omega, by omega⟩
      have hR := rl_share (h.o62 zx) hc.1 hc.2.1 hc.2.2 h6
      rw [wiP_62] at hR
      have C1 : Mo (tU (wiP τ a b) 62 0 ((p : Int) + 1)) n R p f e := h.mo.cg (in_U (in_U (in_U (in_U h.A za) zb) ⟨by omega, by omega⟩) zx) (fun q g1 g2 => by rw [o62 _ _ (by omega)]; funext j; simp only [wiP, tU]; rw [if_neg (by omega), if_neg (by omega), if_neg (by omega)])
      exact zSp.c zx (lw_shareGround_ok hM) (md_shareGround (d := d + 61) C1 za zb hc h6) (by simp [msT, tU]) (by simp [msT, tU]) hR
    · have h7 : p = 6 := by omega
      exact zSp.x (κ := 2) h (by decide) (lw_shareGround_e2 (lr_shareGroundY (d := d + 57) h.cl za zb hc h7)) (md_shareGroundY (d := d + 61) h.mo za zb hc h7)
  · exact zSp.x (κ := 1) h (by decide) (lw_shareGround_e1 (lr_shareGroundX (d := d + 57) h.cl za zb hc)) (md_shareGroundX (d := d + 61) h.mo za zb hc)
theorem st_fixGame (h : RL τ n R p f e) {a b r : Int} (za : zin a) (zb : zin b) (zr : zin r) : zSp l d M_lw_fixGame M_md_fixGame [.ref 0, vi a, vi b, vi r, .ref 62] [.ref 37, vi a, vi b, vi r] τ := by
  have bd := h.bd
  have c3 := h.kC.2.2.1
  by_cases hc : ((0 ≤ a ∧ a < n) ∧ (0 ≤ b ∧ b < n) ∧ ¬ a = b) ∧ (0 ≤ r ∧ r ≤ 38)
  · by_cases h6 : f < 6
    · have hM := lr_fixGame (l := l) (d := d + 57) h.cl za zb zr hc h6
      rw [c3] at hM
      have zx : zin ((f : Int) + 1) := ⟨by omega, by omega⟩
      have hR := rl_fix (h.o62 zx) hc.1.1 hc.1.2.1 hc.2 h6
      rw [wiX_62] at hR
      have C1 : Mo (tU (wiX τ a b r) 62 0 ((f : Int) + 1)) n R p f e := h.mo.cg (in_U (in_U (in_U (in_U (in_U h.A za) zb) zr) ⟨by omega, by omega⟩) zx) (fun q g1 g2 => by rw [o62 _ _ (by omega)]; funext j; simp only [wiX, tU]; rw [if_neg (by omega), if_neg (by omega), if_neg (by omega), if_neg (by omega)])
      exact zSp.c zx (lw_fixGame_ok hM) (md_fixGame (d := d + 61) C1 za zb zr hc h6) (by simp [mfT, tU]) (by simp [mfT, tU]) hR
    · have h7 : f = 6 := by omega
      exact zSp.x (κ := 2) h (by decide) (lw_fixGame_e2 (lr_fixGameY (d := d + 57) h.cl za zb zr hc h7)) (md_fixGameY (d := d + 61) h.mo za zb zr hc h7)
  · exact zSp.x (κ := 1) h (by decide) (lw_fixGame_e1 (lr_fixGameX (d := d + 57) h.cl za zb zr hc)) (md_fixGameX (d := d + 61) h.mo za zb zr hc)
theorem rs_62 (τ : tS) (x : Int) (e : Nat) (b : Int) : rsT (tU τ 62 0 b) x e = tU (rsT τ x e) 62 0 b := by
  have e1 : tU τ 62 0 b 30 = τ 30 := o62 _ _ (by decide)
  funext q j
  simp only [rsT, e1]
  simp only [tU, tR]
  grind
theorem st_reserve (h : RL τ n R p f e) {x : Int} (zx : zin x) : zSp l d M_lw_reserve M_md_reserve [.ref 0, vi x, .ref 62] [.ref 37, vi x] τ := by
  have bd := h.bd
  by_cases hc : 0 ≤ x ∧ x ≤ 99
  · have same : ∀ w : tS, w 52 = τ 52 → anyN (mdtP w x) e = anyN (dtP τ x) e := fun w hw => anyN_congr (fun i hi => by
      unfold mdtP dtP
      rw [hw, (h.kE i hi).1])
    by_cases hd : ¬ anyN (dtP τ x) e = true ∧ e < 6
    · have hM := lr_reserve (l := l) (d := d + 57) h.cl zx hc hd.1 hd.2
      have zb : zin ((e : Int) + 1) := ⟨by omega, by omega⟩
      have hR := rl_reserve (h.o62 zb) hc hd.2
      rw [rs_62] at hR
      have hA1 : AllIn (rsT τ x e) := in_U (tR_in h.A (ins_in zx e _ (fun i => h.A 30 i))) ⟨by omega, by omega⟩
      have e52 : tU (rsT τ x e) 62 0 ((e : Int) + 1) 52 = τ 52 := by rw [o62 _ _ (by decide)]; funext j; simp [rsT, tR, tU]
      have C1 : Mo (tU (rsT τ x e) 62 0 ((e : Int) + 1)) n R p f e := h.mo.cg (in_U hA1 zb) (fun q g1 g2 => by rw [o62 _ _ (by omega)]; funext j; simp only [rsT, tR, tU]; rw [if_neg (by omega), if_neg (by omega)])
      have hm := md_reserve (l := l) (d := d + 61) C1 zx hc (by rw [same _ e52]; exact hd.1) hd.2
      exact zSp.c zb (lw_reserve_ok hM) hm (by simp [tU, tR]) (by simp [tU, tR]) hR
    · have hd' : anyN (dtP τ x) e = true ∨ e = 6 := by
        by_cases e1 : anyN (dtP τ x) e = true
        · exact Or.inl e1
        · exact Or.inr (by
            by_cases e2 : e < 6
            · exact absurd ⟨e1, e2⟩ hd
            · omega)
      exact zSp.x (κ := 2) h (by decide) (lw_reserve_e2 (lr_reserveY (d := d + 57) h.cl zx hc hd')) (md_reserveY (d := d + 61) h.mo zx hc (by rw [same τ rfl]; exact hd'))
  · exact zSp.x (κ := 1) h (by decide) (lw_reserve_e1 (lr_reserveX (d := d + 57) h.cl zx hc)) (md_reserveX (d := d + 61) h.mo zx hc)
theorem wo_62 (τ : tS) (r b : Int) : woA (tU τ 62 0 b) r = tU (woA τ r) 62 0 b := by
  funext q j
  simp only [woA, tU]
  grind
theorem st_washOut (h : RL τ n R p f e) {r : Int} (zr : zin r) : zSp l d M_lw_washOut M_md_washOut [.ref 0, vi r, .ref 62] [.ref 37, vi r] τ := by
  have bd := h.bd
  by_cases hc : 0 ≤ r ∧ r < R
  · obtain ⟨r', rfl⟩ := Int.eq_ofNat_of_zero_le hc.1
    have w3 := h.kW.2.2.1 r' (by omega)
    have w5 := h.kW.2.2.2.2.1
    have w6 := h.kW.2.2.2.2.2
    have hcn : cnt (washedRoundsP τ) 40 = (τ 27 3).toNat := by
      have : cnt (washedRoundsP τ) 40 = cnt (fun j => decide (¬ τ 51 j = 0)) 40 := rfl
      rw [this]; omega
    by_cases hd : τ 28 r' = 0 ∧ τ 27 3 < 4
    · have hM := lr_washOut (l := l) (d := d + 57) h.cl zr hc (by rw [Int.toNat_natCast]; exact hd.1) hd.2
      have hb := cnt_le (misP (woA τ (r' : Int)) (r' : Int)) n
      have zb : zin ((cnt (misP (woA τ (r' : Int)) (r' : Int)) n : Nat) : Int) := ⟨by omega, by omega⟩
      have hR := rl_wash (h.o62 zb) (r := r') (by omega) (by rw [o62 _ _ (by decide)]; exact hd.1) (by rw [o62 _ _ (by decide)]; exact hd.2)
      have hq := (rl_wash h (r := r') (by omega) hd.1 hd.2).2
      rw [wo_62] at hR
      have hA1 : AllIn (woA τ (r' : Int)) := in_U (in_U h.A ⟨by decide, by decide⟩) ⟨by omega, by omega⟩
      have fo : ∀ q, 37 ≤ q → q ≤ 54 → tU (woA τ (r' : Int)) 62 0 ((cnt (misP (woA τ (r' : Int)) (r' : Int)) n : Nat) : Int) q = τ q := fun q g1 g2 => by
        rw [o62 _ _ (by omega)]
        funext j
        simp only [woA, tU]
        rw [if_neg (by omega), if_neg (by omega)]
      have C1 := h.mo.cg (in_U hA1 zb) fo
      have hm := md_washOut (l := l) (d := d + 61) C1 (r := r') (by omega) (by rw [fo 51 (by decide) (by decide), ← w3]; exact hd.1) (by
        have : cnt (washedRoundsP (tU (woA τ (r' : Int)) 62 0 ((cnt (misP (woA τ (r' : Int)) (r' : Int)) n : Nat) : Int))) 40 = cnt (washedRoundsP τ) 40 := cnt_congr (fun i _ => by unfold washedRoundsP; rw [fo 51 (by decide) (by decide)])
        rw [this, hcn]
        omega)
      have e1 : cnt (mwP (tU (woA τ (r' : Int)) 62 0 ((cnt (misP (woA τ (r' : Int)) (r' : Int)) n : Nat) : Int)) r') n = cnt (misP (woA τ (r' : Int)) (r' : Int)) n := by
        rw [hq]
        refine cnt_congr (fun t _ => ?_)
        unfold mwP
        rw [veM_E, veM_E, o62 _ _ (by decide), o62 _ _ (by decide), o62 _ _ (by decide)]
      rw [e1] at hm
      refine zSp.c zb (lw_washOut_ok hM) hm ?_ ?_ hR.1
      · rw [mwT_ne _ _ _ _ (by decide)]; simp [mwW, tU]
      · rw [mwT_ne _ _ _ _ (by decide)]; simp [mwW, tU]
    · exact zSp.x (κ := 2) h (by decide) (lw_washOut_e2 (lr_washOutY (d := d + 57) h.cl zr hc (by rw [Int.toNat_natCast]; exact hd))) (md_washOutY (d := d + 61) h.mo zr hc (by
        rw [Int.toNat_natCast, ← w3, hcn]
        intro g
        exact hd ⟨g.1, by omega⟩))
  · exact zSp.x (κ := 1) h (by decide) (lw_washOut_e1 (lr_washOutX (d := d + 57) h.cl zr hc)) (md_washOutX (d := d + 61) h.mo zr hc)
theorem st_catchUp (h : RL τ n R p f e) : zSp l d M_lw_catchUp M_md_catchUp [.ref 0, .ref 62] [.ref 37] τ := by
  have bd := h.bd
  have hm0 := mis_lost h.lo bd.2.1 bd.2.2.1
  have hf := h.few
  by_cases hg : cnt (lostP τ) 800 ≤ 14
  · have hM := lr_catchUp (l := l) (d := d + 42) h.cl (by omega)
    have zb : zin (crF τ n R e).1 := by
      obtain ⟨_, _, h3, _⟩ := rl_catch h hg (w := (crF τ n R e).2) (fun _ _ => rfl) (fun j => by
        have s1 := cu_same bd.2.2.2.2.2 h.A h.lo hg bd.2.1 bd.2.2.1 (fun r t hr ht => (h.kT.2 r t hr ht).1) (fun r t hr ht h3 => by
          have k := h.kT.2 r t hr ht
          have := vE_1 (k.2.1.trans h3)
          exact ⟨by rw [← k.1]; exact this, k.2.2.2.1, k.2.2.2.2⟩) (fun i hi => (h.kE i hi).1)
        rw [s1.2.1 62 j (by decide)]
        exact h.A 62 j)
      rw [h3]
      have key : ∀ c k f, k + c ≤ 7 ∨ c = 0 → (mcF (mcW (crF τ n R e).2) (cnt (lostP (crF τ n R e).2) 800) c k f).1 = -1 ∨ (0 ≤ (mcF (mcW (crF τ n R e).2) (cnt (lostP (crF τ n R e).2) 800) c k f).1 ∧ (mcF (mcW (crF τ n R e).2) (cnt (lostP (crF τ n R e).2) 800) c k f).1 ≤ 7) := by
        intro c
        induction c with
        | zero => intro k f _; exact Or.inl rfl
        | succ c ih =>
          intro k f hk
          rw [mcF]
          split
          · exact Or.inr ⟨by show 0 ≤ (k : Int); omega, by show (k : Int) ≤ 7; omega⟩
          · exact ih (k + 1) _ (by omega)
      unfold mcQ
      rcases key (e + 1 - mcK (crF τ n R e).2 n) (mcK (crF τ n R e).2 n) _ (by omega) with g | g
      · rw [g]; exact ⟨by decide, by decide⟩
      · exact ⟨by omega, by omega⟩
    obtain ⟨r1, r2, r3, r4, r5, r6⟩ := rl_catch h hg (w := tU (crF τ n R e).2 62 0 (crF τ n R e).1) (fun q hq => o62 _ _ hq) (fun j => by
      simp only [tU]
      split
      · exact zb
      · have s1 := cu_same bd.2.2.2.2.2 h.A h.lo hg bd.2.1 bd.2.2.1 (fun r t hr ht => (h.kT.2 r t hr ht).1) (fun r t hr ht h3 => by
          have k := h.kT.2 r t hr ht
          have := vE_1 (k.2.1.trans h3)
          exact ⟨by rw [← k.1]; exact this, k.2.2.2.1, k.2.2.2.2⟩) (fun i hi => (h.kE i hi).1)
        rw [s1.2.1 62 j (by decide)]
        exact h.A 62 j)
    have hm := md_catchUp (l := l) (d := d + 60) r2 (by omega) (by omega)
    rw [← r3] at hm
    refine zSp.c zb (lw_catchUp_ok hM) hm r5 ?_ r4
    rw [r6]
    simp [tU]
  · have hm := md_catchUpX (l := l) (d := d + 60) h.mo hf hg
    refine ⟨1, 0, τ, _, n, R, p, f, e, lw_catchUp_e1 (lr_catchUpX (d := d + 42) h.cl (by omega)), hm, by simp [tU], ⟨by decide, by decide⟩, ⟨by decide, by decide⟩, fun g => absurd g (by decide), ?_⟩
    have g : ∀ q j, q ≠ 58 → q ≠ 37 → tU (lmT τ 800) 37 0 1 q j = τ q j := fun q j a b => by
      simp only [tU]
      rw [if_neg (fun z => b z.1)]
      exact lmT_ne _ _ _ a (fun z => b z.1) _
    refine h.irr (in_U (lmT_in h.A 800 (Nat.le_refl _)) ⟨by decide, by decide⟩) (fun q hq => funext (fun j => g q j (by omega) (by omega))) (g 13 0 (by decide) (by decide)) (g 18 3 (by decide) (by decide)) (g 27 3 (by decide) (by decide)) (g 29 3 (by decide) (by decide)) (fun j => by rw [g 36 j (by decide) (by decide)]; exact h.k36 j) (fun j hj => ?_) (fun j hj => by rw [g 60 j (by decide) (by decide)]; exact h.k60 j hj) (fun j => by rw [g 54 j (by decide) (by decide)]; exact h.k54 j)
    have key : ∀ i, lmT τ i 37 j = τ 37 j := by
      intro i
      induction i with
      | zero => rw [lmT]; simp only [tU]; rw [if_neg (by omega)]
      | succ i ih =>
        rw [lmT]
        split
        · simp only [tU]
          rw [if_neg (by omega), if_neg (by omega)]
          exact ih
        · exact ih
    simp only [tU]
    rw [if_neg (by omega)]
    exact key 800
theorem st_table (h : RL τ n R p f e) {k q : Int} (zk : zin k) (zq' : zin q) : zSp l d M_lw_table M_md_table [.ref 0, vi k, vi q, .ref 62] [.ref 37, vi k, vi q] τ := by
  have bd := h.bd
  by_cases hc : (0 ≤ k ∧ k < n) ∧ (0 ≤ q ∧ q ≤ 7)
  · obtain ⟨k', rfl⟩ := Int.eq_ofNat_of_zero_le hc.1.1
    obtain ⟨q', rfl⟩ := Int.eq_ofNat_of_zero_le hc.2.1
    have hM := lr_table (l := l) (d := d + 57) h.cl (k := k') (q := q') (by omega) (by omega)
    obtain ⟨t0, h1, h2, h3⟩ := tb_same (τ := τ) (f := ltF τ n R) (g := τ 61) (n := n) (k := k') (fun t q ht hq => fld_same bd.2.1 h.kS.1 t q ht hq) (by omega)
    have bq := bdR_3 h.pl bd.2.1 (bd1 τ bd.2.1 h.k60) R (Nat.le_refl _) (8 * t0 + q')
    have zb : zin (tbF τ n k' q') := by
      rw [← h3 q' (by omega)]
      unfold ltF
      by_cases e1 : (8 * t0 + q') % 8 = 7
      · have := bq.2 e1
        exact ⟨by omega, by omega⟩
      · have := bq.1 e1
        exact ⟨by omega, by omega⟩
    have hz := h.o62 zb
    have eF : ltF (tU τ 62 0 (tbF τ n k' q')) n R = ltF τ n R := by
      have key2 : ∀ (g : Nat → Int) r T, lt2 (tU τ 62 0 (tbF τ n k' q')) g r T = lt2 τ g r T := by
        intro g r T
        induction T with
        | zero => rfl
        | succ T ih =>
          rw [lt2, lt2, ih, o62 _ _ (by decide), o62 _ _ (by decide), o62 _ _ (by decide), o62 _ _ (by decide)]
      have key3 : ∀ (g : Nat → Int) r, lt3 (tU τ 62 0 (tbF τ n k' q')) g n r = lt3 τ g n r := by
        intro g r
        induction r with
        | zero => rfl
        | succ r ih => rw [lt3, lt3, ih, key2]
      unfold ltF
      rw [key3, o62 _ _ (by decide)]
    have e61 : tU τ 62 0 (tbF τ n k' q') 61 = τ 61 := o62 _ _ (by decide)
    have hm := md_table (l := l) (d := d + 61) hz.mo hz.pl hz.k60 (k := k') (q := q') (by omega) (by omega) (by rw [eF, e61, h2]; omega)
    have ea : mtbF (tU τ 62 0 (tbF τ n k' q')) n R k' q' = tbF τ n k' q' := by
      unfold mtbF
      rw [eF, e61, h2, Int.toNat_natCast]
      exact h3 q' (by omega)
    rw [ea] at hm
    have h37 := hz.t37 (x := 0) ⟨by decide, by decide⟩
    refine zSp.c zb (lw_table_ok hM) hm ?_ ?_ (n' := n) (R' := R) (p' := p) (f' := f) (e' := e) ?_
    · simp [ltT, tR, tU]
    · simp [ltT, tR, tU]
    · have b60 := bdR_3 h37.pl bd.2.1 (bd1 _ bd.2.1 h37.k60) R (Nat.le_refl _)
      generalize tU (tU τ 62 0 (tbF τ n k' q')) 37 0 0 = w at h37 b60
      have g : ∀ q j, q ≠ 60 → q ≠ 61 → ltT w n R q j = w q j := fun q j a b => by unfold ltT; rw [tR_ne _ _ _ b, tR_ne _ _ _ a]
      have z60 : ∀ i, zin (ltF w n R i) := fun i => by
        have := b60 i
        unfold ltF
        by_cases e1 : i % 8 = 7
        · have := this.2 e1
          exact ⟨by omega, by omega⟩
        · have := this.1 e1
          exact ⟨by omega, by omega⟩
      have z61 : ∀ T, T ≤ 20 → ∀ i, zin (ordR (ltF w n R) (w 61) n T i) := by
        intro T
        induction T with
        | zero => intro _ i; rw [ordR]; exact h37.A 61 i
        | succ T ih =>
          intro hT i
          rw [ordR]
          exact ru_in (ih (by omega)) ⟨by omega, by omega⟩ i
      refine h37.irr (tR_in (tR_in h37.A z60) (z61 n bd.2.1)) (fun q hq => funext (fun j => g q j (by omega) (by omega))) (g 13 0 (by decide) (by decide)) (g 18 3 (by decide) (by decide)) (g 27 3 (by decide) (by decide)) (g 29 3 (by decide) (by decide)) (fun j => by rw [g 36 j (by decide) (by decide)]; exact h37.k36 j) (fun j _ => g 37 j (by decide) (by decide)) (fun j hj => ?_) (fun j => by rw [g 54 j (by decide) (by decide)]; exact h37.k54 j)
      show ltT w n R 60 j = 0
      unfold ltT
      rw [tR_ne _ _ _ (by decide), tR_at]
      have lo : ∀ (g : Nat → Int) t s x, t < 20 → ctR g t s x j = g j := fun g t s x ht => by
        unfold ctR
        rw [if_neg (by omega), if_neg (by omega), if_neg (by omega), if_neg (by omega), if_neg (by omega), if_neg (by omega), if_neg (by omega)]
      have k2 : ∀ (g : Nat → Int) r T, r < R → T ≤ n → lt2 w g r T j = g j := by
        intro g r T hr
        induction T with
        | zero => intro _; rfl
        | succ T ih =>
          intro hT
          rw [lt2]
          split
          · exact ih (by omega)
          · rename_i e9
            have := (h37.pl r T hr (by omega) e9).1
            rw [lo _ _ _ _ (by omega), lo _ _ _ _ (by omega)]
            exact ih (by omega)
      have k3 : ∀ (g : Nat → Int) r, r ≤ R → lt3 w g n r j = g j := by
        intro g r
        induction r with
        | zero => intro _; rfl
        | succ r ih => intro hr; rw [lt3, k2 _ _ _ (by omega) (Nat.le_refl _)]; exact ih (by omega)
      unfold ltF
      rw [k3 _ R (Nat.le_refl _)]
      unfold lt1 lt0
      rw [if_neg (by omega), if_neg (by omega)]
      exact h37.k60 j hj
  · exact zSp.x (κ := 1) h (by decide) (lw_table_e1 (lr_tableX (d := d + 57) h.cl zk zq' hc)) (md_tableX (d := d + 61) h.mo zk zq' hc)
end ZY2
