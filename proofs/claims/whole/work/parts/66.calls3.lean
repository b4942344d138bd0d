/-! result, swapRounds, make (written by wip/gen/t55.py) -/
def Bd5 (τ : tS) (B : Int) : Prop := AllIn τ ∧ ∀ q j, 22 ≤ q ∧ q ≤ 26 → -B ≤ τ q j ∧ τ q j ≤ B
theorem Bd5.U {τ : tS} {B : Int} {q j : Nat} {x : Int} (h : Bd5 τ B) (hq : ¬ (22 ≤ q ∧ q ≤ 26)) (hx : zin x) : Bd5 (tU τ q j x) B := by
  refine ⟨in_U h.1 hx, fun a i ha => ?_⟩
  simp only [tU]
  rw [if_neg (by omega)]
  exact h.2 a i ha
theorem Bd5.V {τ : tS} {B : Int} {q j : Nat} {x : Int} (h : Bd5 τ B) (hB : 0 ≤ B ∧ B ≤ 100000000) (hx : -(B + 99) ≤ x ∧ x ≤ B + 99) : Bd5 (tU τ q j x) (B + 99) := by
  refine ⟨in_U h.1 ⟨by omega, by omega⟩, fun a i ha => ?_⟩
  simp only [tU]
  split
  · exact hx
  · have := h.2 a i ha
    omega
theorem Bd5.sc {τ : tS} {B t own oth x : Int} (h : Bd5 τ B) (hB : 0 ≤ B ∧ B ≤ 90000000) (h1 : 0 ≤ own ∧ own ≤ 99) (h2 : 0 ≤ oth ∧ oth ≤ 99) (hx : x = 1 ∨ x = -1) : Bd5 (sc1 τ t own oth x) (B + 99 + 99 + 99) := by
  have hw : 22 ≤ scW own oth ∧ scW own oth ≤ 26 := by
    unfold scW
    split
    · decide
    · split <;> decide
  have a1 := h.2 (scW own oth) t.toNat hw
  have s1 : Bd5 (tU τ (scW own oth) t.toNat (τ (scW own oth) t.toNat + x)) (B + 99) := h.V ⟨by omega, by omega⟩ (by rcases hx with hx | hx <;> subst hx <;> omega)
  have a2 := s1.2 25 t.toNat ⟨by decide, by decide⟩
  have s2 : Bd5 (tU (tU τ (scW own oth) t.toNat (τ (scW own oth) t.toNat + x)) 25 t.toNat (tU τ (scW own oth) t.toNat (τ (scW own oth) t.toNat + x) 25 t.toNat + x * own)) (B + 99 + 99) := s1.V ⟨by omega, by omega⟩ (by rcases hx with hx | hx <;> subst hx <;> omega)
  have a3 := s2.2 26 t.toNat ⟨by decide, by decide⟩
  exact s2.V ⟨by omega, by omega⟩ (by rcases hx with hx | hx <;> subst hx <;> omega)
section ZY3
variable {l : Launch} {d : Nat} {τ : tS} {n R p f e : Nat}
theorem st_resultG (h : RL τ n R p f e) {r t a : Nat} {x y : Int} {τ1 : tS} (hr : r < R) (ht : t < n) (hx : 0 ≤ x ∧ x ≤ 99) (hy : 0 ≤ y ∧ y ≤ 99) (hv : τ 3 (20 * r + t) = 1) (ha : τ 2 (20 * r + t) = (a : Int)) (hd : ¬ ((¬ τ 49 (20 * r + t) = 0) ∧ τ 50 (20 * r + t) < 0)) (hF : resF τ τ1 r t a x y) (hA1 : AllIn τ1) (hH : zF l (d + 64) M_lr_result [.ref 0, vi (r : Int), vi (t : Int), vi x, vi y] τ (some (vi (τ1 18 3))) τ1) : zSp l d M_lw_result M_md_result [.ref 0, vi (r : Int), vi (t : Int), vi x, vi y, .ref 62] [.ref 37, vi (r : Int), vi (t : Int), vi x, vi y] τ := by
  have bd := h.bd
  have zb : zin (τ1 18 3) := hA1 18 3
  have e2 : (20 * (r : Int) + (t : Int)).toNat = 20 * r + t := by omega
  have hAb : AllIn (tU τ1 62 0 (τ1 18 3)) := in_U hA1 zb
  obtain ⟨g1, g2⟩ := rl_result h hr ht hv ha hx hy (hF.out (b := τ1 18 3)) hAb
  have fo : ∀ q, 37 ≤ q → q ≤ 54 → tU τ1 62 0 (τ1 18 3) q = τ q := fun q a1 a2 => by rw [o62 _ _ (by omega), hF.1 q (by omega)]
  have C1 := h.mo.cg hAb fo
  have hm := md_result (l := l) (d := d + 61) C1 (r := (r : Int)) (t := (t : Int)) (x := x) (y := y) ⟨by omega, by omega⟩ ⟨by omega, by omega⟩ ⟨by omega, by omega⟩ ⟨by omega, by omega⟩ ⟨⟨by omega, by omega⟩, ⟨by omega, by omega⟩⟩ ⟨hx, hy⟩ (by rw [e2, veM_E, fo 44 (by decide) (by decide), fo 45 (by decide) (by decide), (h.kT.2 r t hr ht).2.1]; exact hv) (by rw [e2, fo 49 (by decide) (by decide), fo 50 (by decide) (by decide)]; exact hd)
  rw [e2, ← g2, o62 _ _ (by decide)] at hm
  exact zSp.c zb (lw_result_ok hH) hm (by simp [mrsT, tU]) (by simp [mrsT, tU]) g1
theorem st_result (h : RL τ n R p f e) {r t x y : Int} (zr : zin r) (zt : zin t) (zx : zin x) (zy : zin y) : zSp l d M_lw_result M_md_result [.ref 0, vi r, vi t, vi x, vi y, .ref 62] [.ref 37, vi r, vi t, vi x, vi y] τ := by
  have bd := h.bd
  by_cases hc : (0 ≤ r ∧ r < R) ∧ (0 ≤ t ∧ t < n)
  · by_cases hg : (0 ≤ x ∧ x ≤ 99) ∧ (0 ≤ y ∧ y ≤ 99)
    · obtain ⟨t', rfl⟩ := Int.eq_ofNat_of_zero_le hc.2.1
      obtain ⟨r', rfl⟩ := Int.eq_ofNat_of_zero_le hc.1.1
      have e1 : ((r' : Int) * 20 + (t' : Int)).toNat = 20 * r' + t' := by omega
      have e2 : (20 * (r' : Int) + (t' : Int)).toNat = 20 * r' + t' := by omega
      have kt := h.kT.2 r' t' (by omega) (by omega)
      have kg := h.kG.2.2.1 r' t' (by omega) (by omega)
      have kl := h.kL.2.1 r' t' (by omega) (by omega)
      have kd := h.kD.2 r' t' (by omega) (by omega)
      have k31 := h.kD.1 (20 * r' + t')
      have kw := h.kW.2.2.1 r' (by omega)
      have kw1 := h.kW.1 r'
      by_cases hv : τ 3 (20 * r' + t') = 1
      · have h44 := vE_1 (kt.2.1.trans hv)
        obtain ⟨a, ha⟩ := Int.eq_ofNat_of_zero_le (show 0 ≤ τ 2 (20 * r' + t') by rw [← kt.1]; exact h44)
        have han : a < n := by omega
        have hdd : ((τ 28 r' = 1 ∧ τ 3 (20 * r' + t') = 1 ∧ τ 19 (20 * r' + t') = -1) ∧ τ 31 (20 * r' + t') = -1) ↔ (¬ τ 49 (20 * r' + t') = 0 ∧ τ 50 (20 * r' + t') < 0) := by
          rw [kl, kd]
          constructor
          · rintro ⟨⟨a1, a2, a3⟩, a4⟩
            have a5 : τ 46 (20 * r' + t') = 0 := Decidable.byContradiction (fun g => by have := kg.2 g; omega)
            rw [if_pos a5]
            exact ⟨⟨by omega, a2, a5⟩, by omega⟩
          · rintro ⟨⟨a1, a2, a3⟩, a4⟩
            rw [if_pos a3] at a4
            exact ⟨⟨by omega, a2, kg.1 a3⟩, by omega⟩
        by_cases hd : (τ 28 r' = 1 ∧ τ 3 (20 * r' + t') = 1 ∧ τ 19 (20 * r' + t') = -1) ∧ τ 31 (20 * r' + t') = -1
        · exact zSp.x (κ := 4) h (by decide) (lw_result_e4 (lr_resultX4 (d := d + 57) h.cl zr zt zx zy hc hg (by rw [e1]; exact hv) (by rw [e1, Int.toNat_natCast]; exact hd))) (md_resultX4 (d := d + 61) h.mo zr zt zx zy hc hg (by rw [e2, veM_E, kt.2.1]; exact hv) (by rw [e2]; exact hdd.mp hd))
        · have hB0 : Bd5 τ 1000000 := ⟨h.A, fun q j hq => h.st q j hq⟩
          by_cases h46 : τ 46 (20 * r' + t') = 0
          · have h18 := h.kG.2.1
            have c8 := cnt_le (fun j => decide (¬ τ 46 j = 0)) 800
            have hM := lr_result (l := l) (d := d + 57) h.cl zr zt zx zy hc hg (by rw [e1]; exact hv) (by rw [e1, Int.toNat_natCast]; exact hd) (by rw [e1, ha]; exact re_put_new (d := d + 60) ⟨by omega, by omega⟩ ⟨by omega, by omega⟩ ⟨by omega, by omega⟩ zx zy (by rw [e1]; exact kg.1 h46))
            have b1 : Bd5 (reG (tU τ 18 3 (τ 18 3 + 1)) (r' : Int) (t' : Int) x y) 1000000 := ((hB0.U (by decide) ⟨by omega, by omega⟩).U (by decide) zx).U (by decide) zy
            have b2 := (b1.sc (t := (t' : Int)) (own := x) (oth := y) (x := 1) (by decide) hg.1 hg.2 (Or.inl rfl)).sc (t := (a : Int)) (own := y) (oth := x) (x := 1) (by decide) hg.2 hg.1 (Or.inl rfl)
            exact st_resultG h (by omega) (by omega) hg.1 hg.2 hv ha (fun g => hd (hdd.mpr g)) (res_new h (by omega) (by omega) h46) b2.1 hM
          · have kg2 := kg.2 h46
            have hM := lr_result (l := l) (d := d + 57) h.cl zr zt zx zy hc hg (by rw [e1]; exact hv) (by rw [e1, Int.toNat_natCast]; exact hd) (by rw [e1, ha]; exact re_put_old (d := d + 60) ⟨by omega, by omega⟩ ⟨by omega, by omega⟩ ⟨by omega, by omega⟩ zx zy (by rw [e1]; exact ⟨by omega, by omega⟩) (h.A _ _))
            rw [e1] at hM
            have g19 : 0 ≤ τ 19 (20 * r' + t') ∧ τ 19 (20 * r' + t') ≤ 99 := by rw [kg2.1]; exact kg2.2.2.2.1
            have g20 : 0 ≤ τ 20 (20 * r' + t') ∧ τ 20 (20 * r' + t') ≤ 99 := by rw [kg2.2.1]; exact kg2.2.2.2.2
            have b0 := (hB0.sc (t := (t' : Int)) (own := τ 19 (20 * r' + t')) (oth := τ 20 (20 * r' + t')) (x := -1) (by decide) g19 g20 (Or.inr rfl)).sc (t := (a : Int)) (own := τ 20 (20 * r' + t')) (oth := τ 19 (20 * r' + t')) (x := -1) (by decide) g20 g19 (Or.inr rfl)
            have b1 := (b0.U (q := 19) (j := ((r' : Int) * 20 + (t' : Int)).toNat) (by decide) zx).U (q := 20) (j := ((r' : Int) * 20 + (t' : Int)).toNat) (by decide) zy
            have b2 := (b1.sc (t := (t' : Int)) (own := x) (oth := y) (x := 1) (by decide) hg.1 hg.2 (Or.inl rfl)).sc (t := (a : Int)) (own := y) (oth := x) (x := 1) (by decide) hg.2 hg.1 (Or.inl rfl)
            exact st_resultG h (by omega) (by omega) hg.1 hg.2 hv ha (fun g => hd (hdd.mpr g)) (res_old h (by omega) (by omega) ha h46) b2.1 hM
      · exact zSp.x (κ := 3) h (by decide) (lw_result_e3 (lr_resultX3 (d := d + 57) h.cl zr zt zx zy hc hg (lr_requireHomeX (d := d + 57) h.cl zr zt hc (by rw [e1]; exact hv)))) (md_resultX3 (d := d + 61) h.mo zr zt zx zy hc hg (by rw [e2, veM_E, kt.2.1]; exact hv))
    · exact zSp.x (κ := 2) h (by decide) (lw_result_e2 (lr_resultX2 (d := d + 57) h.cl zr zt zx zy hc hg)) (md_resultX2 (d := d + 61) h.mo zr zt zx zy hc hg)
  · exact zSp.x (κ := 1) h (by decide) (lw_result_e1 (lr_resultX1 (d := d + 57) h.cl zr zt zx zy hc)) (md_resultX1 (d := d + 61) h.mo zr zt zx zy hc)
theorem tX_62 (τ : tS) (a b n : Nat) (x : Int) : tX (tU τ 62 0 x) a b n = tU (tX τ a b n) 62 0 x := by
  funext q j
  by_cases e1 : q = 62
  · subst e1
    rw [tX_o _ _ _ _ _ (by decide)]
    simp only [tU]
    rw [tX_o _ _ _ _ _ (by decide)]
  · rw [o62 _ _ e1]
    unfold tX
    rw [o62 _ _ e1]
def zSb (l : Launch) (d : Nat) (Mh Mm : zM) (ah am : List Value) (τ : tS) : Prop := ∃ (κ b : Int) (τ1 τ2 : tS) (n R p f e : Nat), zH l (d + 65) Mh ah τ κ τ1 ∧ zF l (d + 65) Mm am τ1 (some (vi b)) τ2 ∧ τ2 37 0 = κ ∧ zin κ ∧ (b = 0 ∨ b = 1) ∧ (κ = 0 → τ2 62 0 = b) ∧ RL τ2 n R p f e
theorem zSb.x {Mh Mm : zM} {ah am : List Value} {κ : Int} (h : RL τ n R p f e) (hκ : 1 ≤ κ ∧ κ ≤ 4) (hH : zH l (d + 65) Mh ah τ κ τ) (hm : zF l (d + 65) Mm am τ (some (vi 0)) (tU τ 37 0 κ)) : zSb l d Mh Mm ah am τ :=
  ⟨κ, 0, τ, tU τ 37 0 κ, n, R, p, f, e, hH, hm, by simp [tU], ⟨by omega, by omega⟩, Or.inl rfl, fun g => by omega, h.t37 ⟨by omega, by omega⟩⟩
theorem zSb.c {Mh Mm : zM} {ah am : List Value} {b : Int} {v τ2 : tS} {n' R' p' f' e' : Nat} (hb : b = 0 ∨ b = 1) (hH : zH l (d + 65) Mh ah τ 0 (tU v 62 0 b)) (hm : zF l (d + 65) Mm am (tU v 62 0 b) (some (vi b)) τ2) (h0 : τ2 37 0 = 0) (h62 : τ2 62 0 = b) (hR : RL τ2 n' R' p' f' e') : zSb l d Mh Mm ah am τ :=
  ⟨0, b, tU v 62 0 b, τ2, n', R', p', f', e', hH, hm, h0, ⟨by decide, by decide⟩, hb, fun _ => h62, hR⟩
theorem st_swapRounds (h : RL τ n R p f e) {a b : Int} (za : zin a) (zb : zin b) : zSb l d M_lw_swapRounds M_md_swapRounds [.ref 0, vi a, vi b, .ref 62] [.ref 37, vi a, vi b] τ := by
  have bd := h.bd
  have h18 := h.kG.2.1
  have h27 := h.kW.2.2.2.2.1
  have p8 : ∀ w : tS, w 46 = τ 46 → cnt (playedGamesP w) 800 = cnt (fun j => decide (¬ τ 46 j = 0)) 800 := fun w hw => cnt_congr (fun i _ => by unfold playedGamesP; rw [hw])
  have p4 : ∀ w : tS, w 51 = τ 51 → cnt (washedRoundsP w) 40 = cnt (fun j => decide (¬ τ 51 j = 0)) 40 := fun w hw => cnt_congr (fun i _ => by unfold washedRoundsP; rw [hw])
  by_cases hc : (0 ≤ a ∧ a < R) ∧ (0 ≤ b ∧ b < R)
  · by_cases h0 : 0 < τ 18 3 ∨ 0 < τ 27 3
    · exact zSb.x (κ := 2) h (by decide) (lw_swapRounds_e2 (lr_swapRoundsY (d := d + 57) h.cl za zb hc h0)) (md_swapRoundsY (d := d + 61) h.mo za zb hc (by rw [p8 τ rfl, p4 τ rfl]; omega))
    · obtain ⟨a', rfl⟩ := Int.eq_ofNat_of_zero_le hc.1.1
      obtain ⟨b', rfl⟩ := Int.eq_ofNat_of_zero_le hc.2.1
      have ha : a' < R := by omega
      have hb : b' < R := by omega
      have hM := lr_swapRounds (l := l) (d := d + 57) h.cl ha hb (by omega) (by omega)
      have hT := rl_swap h ha hb (by omega) (by omega)
      have hbT : brokF (tX τ a' b' n) n R p f = mbrokF (mX (tU (tX τ a' b' n) 37 0 0) a' b' n) n R p f := by
        rw [← brok_same hT]
        refine (brokF_cg n R p f (fun q hq => ?_)).symm
        rw [mX_o _ _ _ _ _ (by omega)]
        funext j
        simp only [tU]
        rw [if_neg (by omega)]
      by_cases hB : brokF (tX τ a' b' n) n R p f = 0
      · rw [if_pos hB, if_pos hB] at hM
        have hR := rl_swap (h.o62 (b := 1) ⟨by decide, by decide⟩) ha hb (by rw [o62 _ _ (by decide)]; omega) (by rw [o62 _ _ (by decide)]; omega)
        rw [tX_62] at hR
        have fo : ∀ q, 37 ≤ q → q ≤ 54 → tU (tX τ a' b' n) 62 0 1 q = τ q := fun q g1 g2 => by rw [o62 _ _ (by omega), tX_o _ _ _ _ _ (by omega)]
        have C1 := h.mo.cg (in_U (tX_i h.A) ⟨by decide, by decide⟩) fo
        have hm := md_swapRounds (l := l) (d := d + 61) C1 ha hb (by rw [p8 _ (fo 46 (by decide) (by decide)), p4 _ (fo 51 (by decide) (by decide))]; omega)
        have hz : mbrokF (mX (tU (tU (tX τ a' b' n) 62 0 1) 37 0 0) a' b' n) n R p f = 0 := by
          rw [← brok_same hR, brokF_cg (τ := tX τ a' b' n) n R p f (fun q hq => by
            rw [mX_o _ _ _ _ _ (by omega)]
            funext j
            simp only [tU]
            rw [if_neg (by omega), if_neg (by omega)])]
          exact hB
        rw [if_pos hz, if_pos hz] at hm
        exact zSb.c (Or.inr rfl) (lw_swapRounds_ok (Or.inr rfl) hM) hm (by rw [mX_o _ _ _ _ _ (by decide)]; simp [tU]) (by rw [mX_o _ _ _ _ _ (by decide)]; simp [tU]) hR
      · rw [if_neg hB, if_neg hB] at hM
        have hR := rl_swap2 (h.o62 (b := 0) ⟨by decide, by decide⟩) ha hb (by rw [o62 _ _ (by decide)]; omega) (by rw [o62 _ _ (by decide)]; omega)
        rw [tX_62, tX_62] at hR
        have fo : ∀ q, 37 ≤ q → q ≤ 54 → tU (tX (tX τ a' b' n) a' b' n) 62 0 0 q = τ q := fun q g1 g2 => by rw [o62 _ _ (by omega), tX_o _ _ _ _ _ (by omega), tX_o _ _ _ _ _ (by omega)]
        have C1 := h.mo.cg (in_U (tX_i (tX_i h.A)) ⟨by decide, by decide⟩) fo
        have hm := md_swapRounds (l := l) (d := d + 61) C1 ha hb (by rw [p8 _ (fo 46 (by decide) (by decide)), p4 _ (fo 51 (by decide) (by decide))]; omega)
        have hz : ¬ mbrokF (mX (tU (tU (tX (tX τ a' b' n) a' b' n) 62 0 0) 37 0 0) a' b' n) n R p f = 0 := by
          rw [mbrokF_cg (τ := mX (tU (tX τ a' b' n) 37 0 0) a' b' n) n R p f ?_ ?_ ?_, ← hbT]
          · exact hB
          · intro q g1 g2
            have u1 : tU (tU (tX (tX τ a' b' n) a' b' n) 62 0 0) 37 0 0 q = τ q := by
              funext j
              simp only [tU]
              rw [if_neg (by omega), if_neg (by omega), tX_o _ _ _ _ _ (by omega), tX_o _ _ _ _ _ (by omega)]
            have u2 : tU (tX τ a' b' n) 37 0 0 q = τ q := by
              funext j
              simp only [tU]
              rw [if_neg (by omega), tX_o _ _ _ _ _ (by omega)]
            funext j
            unfold mX
            rw [u1, u2]
          · rw [mX_o _ _ _ _ _ (by decide), mX_o _ _ _ _ _ (by decide)]
            simp only [tU]
            rw [tX_o _ _ _ _ _ (by decide), tX_o _ _ _ _ _ (by decide)]
            simp
          · rw [mX_o _ _ _ _ _ (by decide), mX_o _ _ _ _ _ (by decide)]
            simp only [tU]
            rw [tX_o _ _ _ _ _ (by decide), tX_o _ _ _ _ _ (by decide)]
            simp
        rw [if_neg hz, if_neg hz] at hm
        exact zSb.c (Or.inl rfl) (lw_swapRounds_ok (Or.inl rfl) hM) hm (by rw [mX_o _ _ _ _ _ (by decide), mX_o _ _ _ _ _ (by decide)]; simp [tU]) (by rw [mX_o _ _ _ _ _ (by decide), mX_o _ _ _ _ _ (by decide)]; simp [tU]) hR
  · exact zSb.x (κ := 1) h (by decide) (lw_swapRounds_e1 (lr_swapRoundsX (d := d + 57) h.cl za zb hc)) (md_swapRoundsX (d := d + 61) h.mo za zb hc)
theorem chF_any {nx : tS → Nat → sR} {ok : Nat → Bool} {ch : Nat → tS} {D : tS} : ∀ m c b, (chF nx ok ch D m c b).2.1 = D ∨ ∃ c' b', c ≤ c' ∧ c' < c + m ∧ ok c' = true ∧ chF nx ok ch D m c b = nx (ch c') b'
  | 0, c, b => Or.inl rfl
  | m + 1, c, b => by
    rw [chF]
    by_cases e : (tgF (ok c) D b (nx (ch c) (b - 1))).1 = 0
    · rw [if_pos e]
      rcases chF_any (nx := nx) (ok := ok) (ch := ch) (D := D) m (c + 1) (tgF (ok c) D b (nx (ch c) (b - 1))).2.2 with g | ⟨c', b', h1, h2, h3, h4⟩
      · exact Or.inl g
      · exact Or.inr ⟨c', b', by omega, by omega, h3, h4⟩
    · rw [if_neg e]
      cases e1 : ok c
      · rw [e1, tgF_no] at e
        exact absurd rfl e
      · by_cases e2 : b = 0
        · have : tgF true D b (nx (ch c) (b - 1)) = (2, D, 0) := by unfold tgF; rw [if_pos rfl, if_pos e2]
          rw [this]
          exact Or.inl rfl
        · rw [tgF_yes e2]
          by_cases e3 : (nx (ch c) (b - 1)).1 = 0
          · rw [if_pos e3]; exact Or.inl rfl
          · rw [if_neg e3]; exact Or.inr ⟨c, b - 1, Nat.le_refl _, by omega, e1, rfl⟩
theorem goF_dok {τ : tS} {n all p f : Nat} (hn4 : 4 ≤ n) (hn8 : n ≤ 8) (ha7 : all ≤ 7) : ∀ k D fr b dp, DI D n all dp → (∀ i s, fr < i → D i s = -2) → DOk (goF τ n all p f k D fr b).2.1 n := by
  intro k
  induction k with
  | zero =>
    intro D fr b dp hI hO
    rw [goF]
    split <;> exact hI.1
  | succ k ih =>
    intro D fr b dp hI hO
    rw [goF]
    by_cases e : all ≤ rdF D n fr
    · rw [if_pos e]; exact hI.1
    · rw [if_neg e]
      have hfree := rd_free (n := n) (by omega) hO
      have hlf := lf_ok hn8 hfree
      have hrd := rd_or D n fr
      generalize rdF D n fr = r at *
      generalize lfD D n r = t at *
      rcases chF_any (nx := fun D' b' => goF τ n all p f k D' r b') (ok := okF τ D n p f r t) (ch := chD D n r t) (D := D) (2 * (n - (t + 1)) + 1) (2 * (t + 1)) b with g | ⟨c', b', g1, g2, g3, g4⟩
      · rw [g]; exact hI.1
      · rw [g4]
        obtain ⟨s1, s2, s3⟩ := ok_step hn8 hI (by omega) (by omega) hlf.1 hlf.2.1 (fun i s hi => hO i s (by omega)) (by omega) g3
        exact ih (chD D n r t c') r b' (dp + 1) s2 s3
theorem toT_in {τ w : tS} {n i t : Nat} (h : AllIn τ) (hw : AllIn w) : AllIn (toT τ w n i t) := by
  intro q j
  unfold toT
  split
  · exact hw _ _
  · exact h q j
theorem st_make (h : RL τ n R p f e) {b : Int} (zb : zin b) : zSp l d M_lw_make M_md_make [.ref 0, vi b, .ref 62] [.ref 37, vi b] τ := by
  have bd := h.bd
  by_cases hc : 1 ≤ b ∧ b ≤ 4000
  · by_cases h8 : n ≤ 8
    · obtain ⟨B, rfl⟩ := Int.eq_ofNat_of_zero_le (show 0 ≤ b by omega)
      obtain ⟨all, hall⟩ : ∃ all, all = n - 1 + n % 2 := ⟨_, rfl⟩
      have hM := lr_make (l := l) (d := d) h.cl (b := B) (all := all) ⟨by omega, by omega⟩ h8 hall
      have hq := goF_ok (τ := srT τ n all) (n := n) (all := all) (p := p) (f := f) 28 D0 0 B
      have hD := goF_dok (τ := srT τ n all) (p := p) (f := f) bd.1 h8 (all := all) (by omega) 28 D0 0 B 0 (DI_0 n all) (fun _ _ _ => rfl)
      have hfull := goF_full (τ := srT τ n all) (p := p) (f := f) bd.1 h8 (all := all) (by omega) 28 D0 0 B 0 (DI_0 n all) (fun r t hr => by omega) (fun _ _ _ => rfl)
      have hsA : AllIn (srT τ n all) := by
        have hpw : 2 ^ n ≤ 2 ^ 8 := Nat.pow_le_pow_right (by decide) h8
        exact in_U (in_U (in_U h.A ⟨by omega, by omega⟩) ⟨by omega, by omega⟩) ⟨by omega, by omega⟩
      have hmk : mkF τ n all p f B = if (goF (srT τ n all) n all p f 28 D0 0 B).1 = 1 then fsT (toT (bgT (enc (srT τ n all) (goF (srT τ n all) n all p f 28 D0 0 B).2.1 (goF (srT τ n all) n all p f 28 D0 0 B).2.2) n all) (enc (srT τ n all) (goF (srT τ n all) n all p f 28 D0 0 B).2.1 (goF (srT τ n all) n all p f 28 D0 0 B).2.2) n all 0) else enc (srT τ n all) (goF (srT τ n all) n all p f 28 D0 0 B).2.1 (goF (srT τ n all) n all p f 28 D0 0 B).2.2 := rfl
      have hsr : (srF τ n all p f B).1 = (goF (srT τ n all) n all p f 28 D0 0 B).1 := rfl
      rw [hmk, hsr] at hM
      have zq1 : zin (goF (srT τ n all) n all p f 28 D0 0 B).1 := rz hq
      have hmd := fun (v : tS) (C : Mo v n R p f e) (W : WR (srT τ n all) v n p f) => md_make (l := l) (d := d + 58) (τ := srT τ n all) (w := v) (all := all) (B := B) C W h8 hall (by omega) (by omega)
      generalize goF (srT τ n all) n all p f 28 D0 0 B = q at hM hq hD hfull zq1 hmd
      have hq2 : q.2.2 ≤ 4000 := by have := hq.2.2; omega
      have hWA : AllIn (enc (srT τ n all) q.2.1 q.2.2) := enc_in hsA hD hq2
      have hyA : AllIn (bgT (enc (srT τ n all) q.2.1 q.2.2) n all) := (okT_bgT hWA bd.2.1 (by omega)).1
      obtain ⟨v0, hv0⟩ : ∃ v0, v0 = (if q.1 = 1 then fsT (toT (bgT (enc (srT τ n all) q.2.1 q.2.2) n all) (enc (srT τ n all) q.2.1 q.2.2) n all 0) else enc (srT τ n all) q.2.1 q.2.2) := ⟨_, rfl⟩
      rw [← hv0] at hM
      have hvA : AllIn v0 := by
        rw [hv0]
        split
        · exact fs_in (toT_in hyA hWA)
        · exact hWA
      have vo : ∀ q', 37 ≤ q' → v0 q' = τ q' := fun q' hq' => by
        have e1 : enc (srT τ n all) q.2.1 q.2.2 q' = τ q' := by rw [enc_o _ _ _ _ (by omega), srT_o _ _ _ _ (by omega)]
        rw [hv0]
        split
        · rw [fs_o _ q' (by omega)]
          funext j
          rw [toT_ne _ _ _ _ _ _ _ (by omega), bgT_ne _ _ _ _ _ (by omega) (by omega) (by omega), e1]
        · exact e1
      have hvA2 : AllIn (tU v0 62 0 q.1) := in_U hvA zq1
      have C1 : Mo (tU v0 62 0 q.1) n R p f e := h.mo.cg hvA2 (fun q' g1 g2 => by rw [o62 _ _ (by omega), vo q' g1])
      have W1 : WR (srT τ n all) (tU v0 62 0 q.1) n p f := by
        have W0 := h.wr (w := tU v0 62 0 q.1) (fun q' g1 g2 => by rw [o62 _ _ (by omega), vo q' g1])
        unfold WR at W0 ⊢
        rw [srT_o _ _ _ 4 (by decide), srT_o _ _ _ 5 (by decide), srT_o _ _ _ 6 (by decide), srT_o _ _ _ 7 (by decide), srT_o _ _ _ 8 (by decide), srT_o _ _ _ 9 (by decide), srT_o _ _ _ 10 (by decide), srT_o _ _ _ 11 (by decide)]
        exact W0
      obtain ⟨w1, hF, hMR, hm⟩ := hmd _ C1 W1
      have f62 : w1 62 0 = q.1 := by rw [hF.2.2.1 62 0 (by decide)]; simp [tU]
      have f37 : w1 37 0 = 0 := by rw [hF.2.2.1 37 0 (by decide)]; simp [tU]
      by_cases e1 : q.1 = 1
      · rw [if_pos e1] at hm hv0
        obtain ⟨d1, d2⟩ := hfull e1
        have hR := rl_make1 h h8 hall d1 hq2 d2 (v := tU v0 62 0 q.1) (fun q' hq' => by rw [o62 _ _ hq', hv0]) hF (hMR e1)
        refine zSp.c zq1 (lw_make_ok hM) hm ?_ ?_ hR
        · unfold mkE
          rw [cs_37, if_neg (by decide), mkT_ne _ _ _ _ _ _ (by decide) (by decide)]
          simp only [tU]
          rw [if_neg (by decide)]
          exact f37
        · unfold mkE
          rw [cs_o _ 62 (by decide), mkT_ne _ _ _ _ _ _ (by decide) (by decide)]
          simp only [tU]
          rw [if_neg (by decide)]
          exact f62
      · rw [if_neg e1] at hm hv0
        have hR := rl_make0 h (v := tU v0 62 0 q.1) (all := all) (fun q' hq' => by rw [o62 _ _ hq', hv0]) hF
        exact zSp.c zq1 (lw_make_ok hM) hm f37 f62 hR
    · exact zSp.x (κ := 2) h (by decide) (lw_make_e2 (lr_makeY (d := d) h.cl zb hc h8)) (md_makeY (d := d + 58) h.mo zb hc h8)
  · exact zSp.x (κ := 1) h (by decide) (lw_make_e1 (lr_makeX (d := d) h.cl zb hc)) (md_makeX (d := d + 58) h.mo zb hc)
end ZY3
