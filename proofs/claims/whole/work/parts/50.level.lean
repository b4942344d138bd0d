/-! the reference's search, level by level (written by wip/gen/t39.py) -/
def SFr (w w' : tS) (L : Nat) : Prop := AllIn w' ∧ (∀ j, w' 54 j = 0 ∨ w' 54 j = 1) ∧ (∀ q j, ¬ (53 ≤ q ∧ q ≤ 57) → w' q j = w q j) ∧ (∀ q j, 55 ≤ q → j < L → w' q j = w q j)
theorem SFr.tr {w w1 w2 : tS} {L1 L2 L : Nat} (h1 : SFr w w1 L1) (h2 : SFr w1 w2 L2) (e1 : L ≤ L1) (e2 : L ≤ L2) : SFr w w2 L :=
  ⟨h2.1, h2.2.1, fun q j h => by rw [h2.2.2.1 q j h, h1.2.2.1 q j h], fun q j h hj => by rw [h2.2.2.2 q j h (by omega), h1.2.2.2 q j h (by omega)]⟩
theorem SFr.mo {w w' : tS} {L n R p f e : Nat} (h : SFr w w' L) (C : Mo w n R p f e) : Mo w' n R p f e := C.k5 h.1 h.2.1 h.2.2.1
theorem SFr.wr {τ w w' : tS} {L n p f : Nat} (h : SFr w w' L) (W : WR τ w n p f) : WR τ w' n p f := by
  obtain ⟨h1, h2, h3, h4, h5⟩ := W
  have hw := h.2.2.1
  refine ⟨fun t r ht hr => ?_, fun t r ht hr => ?_, fun i hi => ?_, fun i hi => ?_, ?_⟩
  · rw [hw _ _ (by omega)]; exact h1 t r ht hr
  · rw [hw _ _ (by omega)]; exact h2 t r ht hr
  · rw [hw _ _ (by omega), hw _ _ (by omega)]; exact h3 i hi
  · rw [hw _ _ (by omega), hw _ _ (by omega), hw _ _ (by omega)]; exact h4 i hi
  · rw [hw _ _ (by omega)]; exact h5
theorem MR_fr {w w' D : tS} (h : MR w D) (e3 : ∀ j, w' 53 j = w 53 j) (e4 : ∀ j, w' 54 j = w 54 j) : MR w' D := fun r t hr ht => by rw [e3, e4]; exact h r t hr ht
theorem sfr_U {w : tS} {q L : Nat} {x : Int} (hA : AllIn w) (hz : ∀ j, w 54 j = 0 ∨ w 54 j = 1) (hq : q = 55 ∨ q = 56 ∨ q = 57) (hx : zin x) : SFr w (tU w q L x) L := by
  refine ⟨in_U hA hx, fun j => ?_, fun a j h => ?_, fun a j h hj => ?_⟩
  · simp only [tU]; rw [if_neg (by omega)]; exact hz j
  · simp only [tU]; rw [if_neg (by omega)]
  · simp only [tU]; rw [if_neg (by omega)]
theorem ncF_congr {p q : Nat → Bool} {N : Nat} (h : ∀ i, i < N → p i = q i) : ∀ m, m ≤ N → ncF p N m = ncF q N m
  | 0, _ => rfl
  | m + 1, hm => by rw [ncF, ncF, h _ (by omega), ncF_congr h m (by omega)]
theorem md_chooseE {l : Launch} {d : Nat} {w D : tS} {n r t c : Nat} (hA : AllIn w) (hz : ∀ j, w 54 j = 0 ∨ w 54 j = 1) (hn : w 37 1 = (n : Int)) (hn8 : n ≤ 8) (hr : r < 8) (ht : t < n) (hc : c ≤ 2 * n) (hM : MR w D) (hx : c / 2 ≠ n → c / 2 ≠ t) : ∃ w1, zF l (d + 1) M_md_choose [.ref 37, vi (t : Int), vi (r : Int), vi (c : Int)] w none w1 ∧ MR w1 (chD D n r t c) ∧ ∀ L, SFr w w1 L := by
  by_cases hb : c / 2 = n
  · refine ⟨tU w 53 (20 * r + t) (-1), md_chooseB hn (by omega) (by omega) hr hb, ?_, fun L => ⟨in_U hA ⟨by decide, by decide⟩, fun j => ?_, fun a j h => ?_, fun a j h hj => ?_⟩⟩
    · unfold chD
      rw [if_pos hb]
      exact MR_B hM (by omega)
    · simp only [tU]; rw [if_neg (by omega)]; exact hz j
    · simp only [tU]; rw [if_neg (by omega)]
    · simp only [tU]; rw [if_neg (by omega)]
  · have hs : ∀ P : Prop, [Decidable P] → zin (if P then (1 : Int) else 0) := fun P _ => by split <;> exact ⟨by decide, by decide⟩
    refine ⟨coT w r t (c / 2) (c % 2), md_chooseG hn (by omega) (by omega) hr (by omega), MR_G hM hr (by omega) (by omega) rfl hb (hx hb), fun L => ⟨?_, fun j => ?_, fun a j h => ?_, fun a j h hj => ?_⟩⟩
    · exact in_U (in_U (in_U (in_U hA ⟨by omega, by omega⟩) ⟨by omega, by omega⟩) (hs _)) (hs _)
    · simp only [coT, tU]
      have := hz j
      repeat' split
      all_goals omega
    · simp only [coT, tU]
      rw [if_neg (by omega), if_neg (by omega), if_neg (by omega), if_neg (by omega)]
    · simp only [coT, tU]
      rw [if_neg (by omega), if_neg (by omega), if_neg (by omega), if_neg (by omega)]
theorem tb_fr {w : tS} {r t : Nat} (hA : AllIn w) (hz : ∀ j, w 54 j = 0 ∨ w 54 j = 1) (L : Nat) : SFr w (tbT w r t) L := by
  unfold tbT
  split
  · refine ⟨in_U (in_U hA ⟨by decide, by decide⟩) ⟨by decide, by decide⟩, fun j => ?_, fun a j h => ?_, fun a j h hj => ?_⟩
    · simp only [tU]; rw [if_neg (by omega), if_neg (by omega)]; exact hz j
    · simp only [tU]; rw [if_neg (by omega), if_neg (by omega)]
    · simp only [tU]; rw [if_neg (by omega), if_neg (by omega)]
  · refine ⟨in_U hA ⟨by decide, by decide⟩, fun j => ?_, fun a j h => ?_, fun a j h hj => ?_⟩
    · simp only [tU]; rw [if_neg (by omega)]; exact hz j
    · simp only [tU]; rw [if_neg (by omega)]
    · simp only [tU]; rw [if_neg (by omega)]
theorem be_fr {w : tS} {n L r : Nat} (hA : AllIn w) (hz : ∀ j, w 54 j = 0 ∨ w 54 j = 1) (hn8 : n ≤ 8) (hr : r < 8) : SFr w (beT w n L r) L := by
  have hd := dn_in (opP w r) n n
  unfold beT
  refine ⟨in_U (in_U (in_U hA ⟨by omega, by omega⟩) ⟨by omega, by omega⟩) ⟨by decide, by decide⟩, fun j => ?_, fun a j h => ?_, fun a j h hj => ?_⟩
  · simp only [tU]; rw [if_neg (by omega), if_neg (by omega), if_neg (by omega)]; exact hz j
  · simp only [tU]; rw [if_neg (by omega), if_neg (by omega), if_neg (by omega)]
  · simp only [tU]; rw [if_neg (by omega), if_neg (by omega), if_neg (by omega)]
/-- what comes of a level: E says that the machine is where it began -/
def SeG (l : Launch) (d B all L : Nat) (D w : tS) (q : sR) (E : zR → Prop) : Prop := ∃ w', SFr w w' L ∧ ((q.1 = 0 ∧ MR w' D ∧ ∀ res, zV l d M_md_search 59 [.ref 37, vi (B : Int), vi (all : Int), vi ((B - q.2.2 : Nat) : Int), vi ((L : Int) - 1), vi 1, .null] [] w' (0, 0) res → E res) ∨ (q.1 = 1 ∧ MR w' q.2.1 ∧ ∃ L' md : Nat, L' < 64 ∧ ∀ res, zV l d M_md_search 59 [.ref 37, vi (B : Int), vi (all : Int), vi (md : Int), vi (L' : Int), vi 0, .null] [] w' (0, 0) res → E res) ∨ (q.1 = 2 ∧ ∀ res, zV l d M_md_search 130 [.ref 37, .null, .null, .null, .null, .null, .null] [] w' (0, 0) res → E res))
theorem SeG.imp {l : Launch} {d B all L L1 : Nat} {D w0 w : tS} {q : sR} {E1 E : zR → Prop} (h : SeG l d B all L D w q E1) (hF : SFr w0 w L1) (hL : L ≤ L1) (hE : ∀ res, E1 res → E res) : SeG l d B all L D w0 q E := by
  obtain ⟨w', hf, hc⟩ := h
  refine ⟨w', SFr.tr hF hf hL (Nat.le_refl _), ?_⟩
  rcases hc with ⟨a1, a2, a3⟩ | ⟨a1, a2, L', md, a3, a4⟩ | ⟨a1, a2⟩
  · exact Or.inl ⟨a1, a2, fun res hr => hE res (a3 res hr)⟩
  · exact Or.inr (Or.inl ⟨a1, a2, L', md, a3, fun res hr => hE res (a4 res hr)⟩)
  · exact Or.inr (Or.inr ⟨a1, fun res hr => hE res (a2 res hr)⟩)
theorem ok_below {τ D : tS} {n p f r t i : Nat} (ht : t < n) (hl : ∀ j, j < t → ¬ D r j = -2) (hi : i < 2 * (t + 1)) : okF τ D n p f r t i = false := by
  unfold okF
  rw [if_neg (by omega)]
  refine decide_eq_false (fun g => ?_)
  exact hl (i / 2) (by have := g.1; omega) g.2.1
theorem tgF_yes {D : tS} {b : Nat} {nx : sR} (hb : ¬ b = 0) : tgF true D b nx = if nx.1 = 0 then (0, D, nx.2.2) else nx := by
  unfold tgF
  rw [if_pos rfl, if_neg hb]
theorem se_level {l : Launch} {d : Nat} {τ : tS} {n R p f e all B : Nat} (hn4 : 4 ≤ n) (hn8 : n ≤ 8) (hall : all = n - 1 + n % 2) (hB : B ≤ 4000) : ∀ (k L : Nat), L + k + 1 = 28 → ∀ (m c b : Nat) (D w : tS) (r t : Nat), c + m = 2 * n + 1 → b ≤ B → Mo w n R p f e → WR τ w n p f → MR w D → DI D n all L → r < all → t < n → D r t = -2 → (∀ i s, r < i → D i s = -2) → w 55 L = (r : Int) → w 56 L = (t : Int) → w 57 L = (c : Int) - 1 → SeG l (d + 6) B all L D w (chF (fun D' b' => goF τ n all p f k D' r b') (okF τ D n p f r t) (chD D n r t) D m c b) (fun res => zV l (d + 6) M_md_search 97 [.ref 37, vi (B : Int), vi (all : Int), vi ((B - b : Nat) : Int), vi (L : Int), vi 1, .null] [] w (0, 0) res) := by
  intro k
  induction k using Nat.strongRecOn with
  | _ k ihk =>
  intro L hL m
  induction m using Nat.strongRecOn with
  | _ m ihm =>
  intro c b D w r t hcm hbB C W hM hI hr ht ho hO k55 k56 k57
  have hr7 : r < 7 := by omega
  have hA := C.A
  have hn := C.n
  have hz54 := C.z54
  have hbi := hB
  have hcall := md_nextChoice (l := l) (d := d) C hn8 (L := L) (by omega) k55 k56 k57 ht hr7 (by omega)
  have hok : ∀ i, i < 2 * n + 1 → canF w n p f r t i = okF τ D n p f r t i := fun i hi => mr_can hM hI.1 W hn8 hr7 ht ho hO (by omega)
  rw [ncF_congr hok _ (by omega), show 2 * n + 1 - c = m by omega] at hcall
  rcases ncF_cases (okF τ D n p f r t) (2 * n + 1) m (by omega) with ⟨x1, x2⟩ | ⟨c', y1, y2, y3, y4, y5⟩
  · have hq : (chF (fun D' b' => goF τ n all p f k D' r b') (okF τ D n p f r t) (chD D n r t) D m c b) = (0, D, b) := by
      have h9 := chF_skip (nx := fun D' b' => goF τ n all p f k D' r b') (ok := okF τ D n p f r t) (ch := chD D n r t) (D := D) (m2 := 0) (b := b) m c (fun i h1 h2 => x2 i (by omega) (by omega))
      rw [Nat.add_zero] at h9
      rw [h9, chF]
    rw [hq]
    rw [x1] at hcall
    refine ⟨tU w 57 L (-1), sfr_U hA hz54 (by omega) ⟨by decide, by decide⟩, Or.inl ⟨rfl, MR_fr hM (fun j => by simp [tU]) (fun j => by simp [tU]), fun res hres => ?_⟩⟩
    refine zr_aload_n d_md_search_97 rfl ?_
    refine zi_iload d_md_search_98 rfl ?_
    refine c_md_search_100 rfl rfl (hcall) ?_
    refine zi_istore d_md_search_103 (by decide) rfl ?_
    refine zr_aload_n d_md_search_105 rfl ?_
    refine zi_getr (j := 27) d_md_search_106 zC8 fl_md_72 (by decide) rfl rfl ?_
    refine zi_iload d_md_search_109 rfl ?_
    refine zi_iload d_md_search_111 rfl ?_
    refine zi_iast d_md_search_113 rfl (by decide) (by omega) (by omega) ?_
    rw [Int.toNat_natCast]
    refine zi_iload d_md_search_114 rfl ?_
    refine zi_if_ge 125 d_md_search_116 (by decide) ⟨by decide, by decide⟩ (fun h116 => ?_) (fun h116 => ?_)
    · exact absurd h116 (by decide)
    · refine zi_iinc d_md_search_119 (by decide) rfl rfl ?_
      refine zr_goto 167 d_md_search_122 (by decide) ?_
      refine zr_goto 59 d_md_search_167 (by decide) ?_
      exact zE4 hres (by refine ⟨?_, ?_, ?_, ?_, ?_, ?_, ?_, trivial⟩ <;> first | exact Or.inl rfl | exact Or.inr rfl | exact Or.inr (congrArg vi (by omega))) rfl
  · have hm' : ∃ m', c' + m' + 1 = 2 * n + 1 := ⟨2 * n - c', by omega⟩
    obtain ⟨m', hm'⟩ := hm'
    have hq0 : (chF (fun D' b' => goF τ n all p f k D' r b') (okF τ D n p f r t) (chD D n r t) D m c b) = chF (fun D' b' => goF τ n all p f k D' r b') (okF τ D n p f r t) (chD D n r t) D (m' + 1) c' b := by
      have h9 := chF_skip (nx := fun D' b' => goF τ n all p f k D' r b') (ok := okF τ D n p f r t) (ch := chD D n r t) (D := D) (m2 := m' + 1) (b := b) (c' - c) c (fun i h1 h2 => y5 i (by omega) (by omega))
      rw [show c' - c + (m' + 1) = m by omega, show c + (c' - c) = c' by omega] at h9
      exact h9
    rw [hq0, chF, y4]
    rw [y3] at hcall
    have hsU := sfr_U (L := L) (q := 57) (x := (c' : Int)) hA hz54 (by omega) ⟨by omega, by omega⟩
    by_cases hb : b = 0
    · have hq : tgF true D b (goF τ n all p f k (chD D n r t c') r (b - 1)) = (2, D, 0) := by
        unfold tgF
        rw [if_pos rfl, if_pos hb]
      rw [hq, if_neg (by show ¬ (2 : Int) = 0; decide)]
      refine ⟨tU w 57 L (c' : Int), hsU, Or.inr (Or.inr ⟨rfl, fun res hres => ?_⟩)⟩
      refine zr_aload_n d_md_search_97 rfl ?_
      refine zi_iload d_md_search_98 rfl ?_
      refine c_md_search_100 rfl rfl (hcall) ?_
      refine zi_istore d_md_search_103 (by decide) rfl ?_
      refine zr_aload_n d_md_search_105 rfl ?_
      refine zi_getr (j := 27) d_md_search_106 zC8 fl_md_72 (by decide) rfl rfl ?_
      refine zi_iload d_md_search_109 rfl ?_
      refine zi_iload d_md_search_111 rfl ?_
      refine zi_iast d_md_search_113 rfl (by decide) (by omega) (by omega) ?_
      rw [Int.toNat_natCast]
      refine zi_iload d_md_search_114 rfl ?_
      refine zi_if_ge 125 d_md_search_116 (by decide) ⟨by omega, by omega⟩ (fun h116 => ?_) (fun h116 => ?_)
      · refine zi_iload_n d_md_search_125 rfl ?_
        refine zi_iload_n d_md_search_126 rfl ?_
        refine zi_icmp_ne 132 d_md_search_127 (by decide) ⟨by omega, by omega⟩ ⟨by omega, by omega⟩ (fun h127 => ?_) (fun h127 => ?_)
        · exact absurd h127 (by omega)
        · exact zE4 hres (by refine ⟨?_, ?_, ?_, ?_, ?_, ?_, ?_, trivial⟩ <;> first | exact Or.inl rfl | exact Or.inr rfl | exact Or.inr (congrArg vi (by omega))) rfl
      · exact absurd h116 (by omega)
    · obtain ⟨hx, hI', hO'⟩ := ok_step hn8 hI hr7 hr ht ho hO (by omega) y4
      have hMu : MR (tU w 57 L (c' : Int)) D := MR_fr hM (fun j => by simp [tU]) (fun j => by simp [tU])
      have Cu := hsU.mo C
      obtain ⟨w1, hch, hM1, hF1⟩ := md_chooseE (l := l) (d := d + 4) (w := tU w 57 L (c' : Int)) (D := D) (n := n) (r := r) (t := t) (c := c') Cu.A Cu.z54 Cu.n hn8 (by omega) ht (by omega) hMu (fun g => (hx g).1)
      have C1 := (hF1 0).mo Cu
      have hw55 : w1 55 L = (r : Int) := by rw [(hF1 (L + 1)).2.2.2 55 L (by omega) (by omega)]; simp only [tU]; rw [if_neg (by omega)]; exact k55
      have hw56 : w1 56 L = (t : Int) := by rw [(hF1 (L + 1)).2.2.2 56 L (by omega) (by omega)]; simp only [tU]; rw [if_neg (by omega)]; exact k56
      have hw57 : w1 57 L = (c' : Int) := by rw [(hF1 (L + 1)).2.2.2 57 L (by omega) (by omega)]; simp [tU]
      have hF01 : SFr w w1 L := SFr.tr hsU (hF1 L) (Nat.le_refl _) (Nat.le_refl _)
      have hu55 : tU w 57 L (c' : Int) 55 L = (r : Int) := by simp only [tU]; rw [if_neg (by omega)]; exact k55
      have hu56 : tU w 57 L (c' : Int) 56 L = (t : Int) := by simp only [tU]; rw [if_neg (by omega)]; exact k56
      have hrd := rd_or (chD D n r t c') n r
      by_cases hfin : all ≤ rdF (chD D n r t c') n r
      · have hgo : goF τ n all p f k (chD D n r t c') r (b - 1) = (1, chD D n r t c', b - 1) := by
          cases k with
          | zero => rw [goF, if_pos hfin]
          | succ k => rw [goF, if_pos hfin]
        have e9 : (if ((1, chD D n r t c', b - 1) : sR).1 = 0 then ((0, D, ((1, chD D n r t c', b - 1) : sR).2.2) : sR) else (1, chD D n r t c', b - 1)) = (1, chD D n r t c', b - 1) := if_neg (by show ¬ (1 : Int) = 0; decide)
        rw [tgF_yes hb, hgo, e9, if_neg (by show ¬ (1 : Int) = 0; decide)]
        refine ⟨w1, hF01, Or.inr (Or.inl ⟨rfl, hM1, L + 1, B - b + 1, by omega, fun res hres => ?_⟩)⟩
        have hbeg := md_begin0 (l := l) (d := d + 3) C1 hn8 (L := L + 1) (rp := r) (all := all) (by omega) (fun h => by omega) (fun _ => hw55) hr7 (by omega) (by rw [mr_rd hM1 hn8 (by omega)]; omega)
        refine zr_aload_n d_md_search_97 rfl ?_
        refine zi_iload d_md_search_98 rfl ?_
        refine c_md_search_100 rfl rfl (hcall) ?_
        refine zi_istore d_md_search_103 (by decide) rfl ?_
        refine zr_aload_n d_md_search_105 rfl ?_
        refine zi_getr (j := 27) d_md_search_106 zC8 fl_md_72 (by decide) rfl rfl ?_
        refine zi_iload d_md_search_109 rfl ?_
        refine zi_iload d_md_search_111 rfl ?_
        refine zi_iast d_md_search_113 rfl (by decide) (by omega) (by omega) ?_
        rw [Int.toNat_natCast]
        refine zi_iload d_md_search_114 rfl ?_
        refine zi_if_ge 125 d_md_search_116 (by decide) ⟨by omega, by omega⟩ (fun h116 => ?_) (fun h116 => ?_)
        · refine zi_iload_n d_md_search_125 rfl ?_
          refine zi_iload_n d_md_search_126 rfl ?_
          refine zi_icmp_ne 132 d_md_search_127 (by decide) ⟨by omega, by omega⟩ ⟨by omega, by omega⟩ (fun h127 => ?_) (fun h127 => ?_)
          · refine zi_iinc d_md_search_132 (by decide) rfl rfl ?_
            refine zr_aload_n d_md_search_135 rfl ?_
            refine zr_aload_n d_md_search_136 rfl ?_
            refine zi_getr (j := 26) d_md_search_137 zC8 fl_md_69 (by decide) rfl rfl ?_
            refine zi_iload d_md_search_140 rfl ?_
            refine zi_ialdE (x := (t : Int)) d_md_search_142 rfl (by decide) (by omega) (by omega) (by rw [Int.toNat_natCast]; exact hu56) ?_
            refine zr_aload_n d_md_search_143 rfl ?_
            refine zi_getr (j := 25) d_md_search_144 zC8 fl_md_66 (by decide) rfl rfl ?_
            refine zi_iload d_md_search_147 rfl ?_
            refine zi_ialdE (x := (r : Int)) d_md_search_149 rfl (by decide) (by omega) (by omega) (by rw [Int.toNat_natCast]; exact hu55) ?_
            refine zi_iload d_md_search_150 rfl ?_
            refine c_md_search_152 rfl rfl (hch) ?_
            refine zi_iinc d_md_search_155 (by decide) rfl rfl ?_
            rw [show (L : Int) + 1 = ((L + 1 : Nat) : Int) by omega]
            refine zr_aload_n d_md_search_158 rfl ?_
            refine zi_iload d_md_search_159 rfl ?_
            refine zi_iload_n d_md_search_161 rfl ?_
            refine c_md_search_162 rfl rfl (hbeg) ?_
            refine zi_istore d_md_search_165 (by decide) rfl ?_
            refine zr_goto 59 d_md_search_167 (by decide) ?_
            exact zE4 hres (by refine ⟨?_, ?_, ?_, ?_, ?_, ?_, ?_, trivial⟩ <;> first | exact Or.inl rfl | exact Or.inr rfl | exact Or.inr (congrArg vi (by omega))) rfl
          · exact absurd h127 (by omega)
        · exact absurd h116 (by omega)
      · have hfree := rd_free (n := n) (by omega) hO'
        obtain ⟨k', hk'⟩ : ∃ k', k = k' + 1 := by
          obtain ⟨s, s1, s2⟩ := hfree
          have := DI_dp hI' hall hn4 hn8 (by omega) s1 s2
          exact ⟨k - 1, by omega⟩
        subst hk'
        have hlf := lf_ok hn8 hfree
        have hr'7 : rdF (chD D n r t c') n r < 7 := by omega
        have hgo : goF τ n all p f (k' + 1) (chD D n r t c') r (b - 1) = chF (fun D' b' => goF τ n all p f k' D' (rdF (chD D n r t c') n r) b') (okF τ (chD D n r t c') n p f (rdF (chD D n r t c') n r) (lfD (chD D n r t c') n (rdF (chD D n r t c') n r))) (chD (chD D n r t c') n (rdF (chD D n r t c') n r) (lfD (chD D n r t c') n (rdF (chD D n r t c') n r))) (chD D n r t c') (2 * n + 1) 0 (b - 1) := by
          rw [goF, if_neg hfin]
          generalize rdF (chD D n r t c') n r = r' at hlf
          generalize lfD (chD D n r t c') n r' = t' at hlf
          have h9 := chF_skip (nx := fun D' b' => goF τ n all p f k' D' r' b') (ok := okF τ (chD D n r t c') n p f r' t') (ch := chD (chD D n r t c') n r' t') (D := chD D n r t c') (m2 := 2 * (n - (t' + 1)) + 1) (b := b - 1) (2 * (t' + 1)) 0 (fun i h1 h2 => ok_below hlf.1 hlf.2.2 (by omega))
          rw [show 2 * (t' + 1) + (2 * (n - (t' + 1)) + 1) = 2 * n + 1 by omega, Nat.zero_add] at h9
          exact h9.symm
        have hbeg := md_begin1 (l := l) (d := d + 3) C1 hn8 (L := L + 1) (rp := r) (all := all) (by omega) (fun h => by omega) (fun _ => hw55) hr7 (by omega) (by rw [mr_rd hM1 hn8 (by omega)]; omega)
        rw [mr_rd hM1 hn8 (by omega)] at hbeg
        have hdn := mr_lf hM1 hn8 (r := rdF (chD D n r t c') n r) (by omega) hfree
        have hF12 := be_fr (n := n) (L := L + 1) (r := rdF (chD D n r t c') n r) C1.A C1.z54 hn8 (by omega)
        have hM2 : MR (beT w1 n (L + 1) (rdF (chD D n r t c') n r)) (chD D n r t c') := MR_fr hM1 (fun j => by simp [beT, tU]) (fun j => by simp [beT, tU])
        have q55 : beT w1 n (L + 1) (rdF (chD D n r t c') n r) 55 (L + 1) = ((rdF (chD D n r t c') n r : Nat) : Int) := by simp [beT, tU]
        have q56 : beT w1 n (L + 1) (rdF (chD D n r t c') n r) 56 (L + 1) = ((lfD (chD D n r t c') n (rdF (chD D n r t c') n r) : Nat) : Int) := by rw [← hdn]; simp [beT, tU]
        have q57 : beT w1 n (L + 1) (rdF (chD D n r t c') n r) 57 (L + 1) = ((0 : Nat) : Int) - 1 := by simp [beT, tU]
        have ih1 := ihk k' (by omega) (L + 1) (by omega) (2 * n + 1) 0 (b - 1) (chD D n r t c') _ (rdF (chD D n r t c') n r) (lfD (chD D n r t c') n (rdF (chD D n r t c') n r)) (by omega) (by omega) (hF12.mo C1) (hF12.wr ((hF1 0).wr (hsU.wr W))) hM2 hI' (by omega) hlf.1 hlf.2.1 (fun i s hi => hO' i s (by omega)) q55 q56 q57
        rw [← hgo] at ih1
        have hq3b := (goF_ok (τ := τ) (n := n) (all := all) (p := p) (f := f) (k' + 1) (chD D n r t c') r (b - 1)).2.2
        rw [tgF_yes hb]
        generalize goF τ n all p f (k' + 1) (chD D n r t c') r (b - 1) = q3 at ih1 hq3b ⊢
        generalize rdF (chD D n r t c') n r = r' at *
        have step : ∀ res, zV l (d + 6) M_md_search 97 [.ref 37, vi (B : Int), vi (all : Int), vi ((B - (b - 1) : Nat) : Int), vi ((L + 1 : Nat) : Int), vi 1, .null] [] (beT w1 n (L + 1) r') (0, 0) res → zV l (d + 6) M_md_search 97 [.ref 37, vi (B : Int), vi (all : Int), vi ((B - b : Nat) : Int), vi (L : Int), vi 1, .null] [] w (0, 0) res := by
          intro res hres
          refine zr_aload_n d_md_search_97 rfl ?_
          refine zi_iload d_md_search_98 rfl ?_
          refine c_md_search_100 rfl rfl (hcall) ?_
          refine zi_istore d_md_search_103 (by decide) rfl ?_
          refine zr_aload_n d_md_search_105 rfl ?_
          refine zi_getr (j := 27) d_md_search_106 zC8 fl_md_72 (by decide) rfl rfl ?_
          refine zi_iload d_md_search_109 rfl ?_
          refine zi_iload d_md_search_111 rfl ?_
          refine zi_iast d_md_search_113 rfl (by decide) (by omega) (by omega) ?_
          rw [Int.toNat_natCast]
          refine zi_iload d_md_search_114 rfl ?_
          refine zi_if_ge 125 d_md_search_116 (by decide) ⟨by omega, by omega⟩ (fun h116 => ?_) (fun h116 => ?_)
          · refine zi_iload_n d_md_search_125 rfl ?_
            refine zi_iload_n d_md_search_126 rfl ?_
            refine zi_icmp_ne 132 d_md_search_127 (by decide) ⟨by omega, by omega⟩ ⟨by omega, by omega⟩ (fun h127 => ?_) (fun h127 => ?_)
            · refine zi_iinc d_md_search_132 (by decide) rfl rfl ?_
              refine zr_aload_n d_md_search_135 rfl ?_
              refine zr_aload_n d_md_search_136 rfl ?_
              refine zi_getr (j := 26) d_md_search_137 zC8 fl_md_69 (by decide) rfl rfl ?_
              refine zi_iload d_md_search_140 rfl ?_
              refine zi_ialdE (x := (t : Int)) d_md_search_142 rfl (by decide) (by omega) (by omega) (by rw [Int.toNat_natCast]; exact hu56) ?_
              refine zr_aload_n d_md_search_143 rfl ?_
              refine zi_getr (j := 25) d_md_search_144 zC8 fl_md_66 (by decide) rfl rfl ?_
              refine zi_iload d_md_search_147 rfl ?_
              refine zi_ialdE (x := (r : Int)) d_md_search_149 rfl (by decide) (by omega) (by omega) (by rw [Int.toNat_natCast]; exact hu55) ?_
              refine zi_iload d_md_search_150 rfl ?_
              refine c_md_search_152 rfl rfl (hch) ?_
              refine zi_iinc d_md_search_155 (by decide) rfl rfl ?_
              rw [show (L : Int) + 1 = ((L + 1 : Nat) : Int) by omega]
              refine zr_aload_n d_md_search_158 rfl ?_
              refine zi_iload d_md_search_159 rfl ?_
              refine zi_iload_n d_md_search_161 rfl ?_
              refine c_md_search_162 rfl rfl (hbeg) ?_
              refine zi_istore d_md_search_165 (by decide) rfl ?_
              refine zr_goto 59 d_md_search_167 (by decide) ?_
              refine zi_iload d_md_search_59 rfl ?_
              refine zi_if_eq 170 d_md_search_61 (by decide) ⟨by decide, by decide⟩ (fun h61 => ?_) (fun h61 => ?_)
              · exact absurd h61 (by decide)
              · refine zi_iload d_md_search_64 rfl ?_
                refine zi_if_lt 170 d_md_search_66 (by decide) ⟨by omega, by omega⟩ (fun h66 => ?_) (fun h66 => ?_)
                · exact absurd h66 (by omega)
                · refine zr_aload_n d_md_search_69 rfl ?_
                  refine zi_getr (j := 27) d_md_search_70 zC8 fl_md_72 (by decide) rfl rfl ?_
                  refine zi_iload d_md_search_73 rfl ?_
                  refine zi_ialdE (x := -1) d_md_search_75 rfl (by decide) (by omega) (by omega) (by rw [Int.toNat_natCast, q57]; rfl) ?_
                  refine zi_if_lt 97 d_md_search_76 (by decide) ⟨by decide, by decide⟩ (fun h76 => ?_) (fun h76 => ?_)
                  · exact zE4 hres (by refine ⟨?_, ?_, ?_, ?_, ?_, ?_, ?_, trivial⟩ <;> first | exact Or.inl rfl | exact Or.inr rfl | exact Or.inr (congrArg vi (by omega))) rfl
                  · exact absurd h76 (by decide)
            · exact absurd h127 (by omega)
          · exact absurd h116 (by omega)
        obtain ⟨w3, hF3, hcase⟩ := ih1
        have hF13 : SFr w1 w3 (L + 1) := SFr.tr hF12 hF3 (Nat.le_refl _) (Nat.le_refl _)
        have hF03 : SFr w w3 L := SFr.tr hF01 hF13 (Nat.le_refl _) (by omega)
        rcases hcase with ⟨z1, z2, z3⟩ | ⟨z1, z2, L', md, z3, z4⟩ | ⟨z1, z2⟩
        · rw [if_pos z1, if_pos rfl]
          have ht3 := MR_take hn8 (by omega) ht ho (by omega) z2 hx
          have C3 := hF03.mo C
          have e55 : w3 55 L = (r : Int) := by rw [hF13.2.2.2 55 L (by omega) (by omega)]; exact hw55
          have e56 : w3 56 L = (t : Int) := by rw [hF13.2.2.2 56 L (by omega) (by omega)]; exact hw56
          have e57 : w3 57 L = (c' : Int) := by rw [hF13.2.2.2 57 L (by omega) (by omega)]; exact hw57
          have hF34 := tb_fr (r := r) (t := t) C3.A C3.z54 (L + 1)
          have hq3 : q3.2.2 ≤ b - 1 := hq3b
          have ih2 := ihm m' (by omega) (c' + 1) q3.2.2 D (tbT w3 r t) r t (by omega) (by omega) (hF34.mo C3) (hF34.wr (hF03.wr W)) ht3.1 hI hr ht ho hO (by rw [hF34.2.2.2 55 L (by omega) (by omega)]; exact e55) (by rw [hF34.2.2.2 56 L (by omega) (by omega)]; exact e56) (by rw [hF34.2.2.2 57 L (by omega) (by omega), e57]; omega)
          refine ih2.imp (SFr.tr hF03 hF34 (Nat.le_refl _) (by omega)) (Nat.le_refl _) (fun res hres => step res (z3 res ?_))
          have htb := md_takeBack (l := l) (d := d + 4) C3.A (r := r) (t := t) (by omega) (by omega) ht3.2
          rw [show ((L + 1 : Nat) : Int) - 1 = (L : Int) by omega]
          refine zi_iload d_md_search_59 rfl ?_
          refine zi_if_eq 170 d_md_search_61 (by decide) ⟨by decide, by decide⟩ (fun h61 => ?_) (fun h61 => ?_)
          · exact absurd h61 (by decide)
          · refine zi_iload d_md_search_64 rfl ?_
            refine zi_if_lt 170 d_md_search_66 (by decide) ⟨by omega, by omega⟩ (fun h66 => ?_) (fun h66 => ?_)
            · exact absurd h66 (by omega)
            · refine zr_aload_n d_md_search_69 rfl ?_
              refine zi_getr (j := 27) d_md_search_70 zC8 fl_md_72 (by decide) rfl rfl ?_
              refine zi_iload d_md_search_73 rfl ?_
              refine zi_ialdE (x := (c' : Int)) d_md_search_75 rfl (by decide) (by omega) (by omega) (by rw [Int.toNat_natCast]; exact e57) ?_
              refine zi_if_lt 97 d_md_search_76 (by decide) ⟨by omega, by omega⟩ (fun h76 => ?_) (fun h76 => ?_)
              · exact absurd h76 (by omega)
              · refine zr_aload_n d_md_search_79 rfl ?_
                refine zr_aload_n d_md_search_80 rfl ?_
                refine zi_getr (j := 26) d_md_search_81 zC8 fl_md_69 (by decide) rfl rfl ?_
                refine zi_iload d_md_search_84 rfl ?_
                refine zi_ialdE (x := (t : Int)) d_md_search_86 rfl (by decide) (by omega) (by omega) (by rw [Int.toNat_natCast]; exact e56) ?_
                refine zr_aload_n d_md_search_87 rfl ?_
                refine zi_getr (j := 25) d_md_search_88 zC8 fl_md_66 (by decide) rfl rfl ?_
                refine zi_iload d_md_search_91 rfl ?_
                refine zi_ialdE (x := (r : Int)) d_md_search_93 rfl (by decide) (by omega) (by omega) (by rw [Int.toNat_natCast]; exact e55) ?_
                refine c_md_search_94 rfl rfl (htb) ?_
                exact zE4 hres (by refine ⟨?_, ?_, ?_, ?_, ?_, ?_, ?_, trivial⟩ <;> first | exact Or.inl rfl | exact Or.inr rfl | exact Or.inr (congrArg vi (by omega))) rfl
        · have z0 : ¬ q3.1 = 0 := by rw [z1]; decide
          rw [if_neg z0, if_neg z0]
          exact ⟨w3, hF03, Or.inr (Or.inl ⟨z1, z2, L', md, z3, fun res hres => step res (z4 res hres)⟩)⟩
        · have z0 : ¬ q3.1 = 0 := by rw [z1]; decide
          rw [if_neg z0, if_neg z0]
          exact ⟨w3, hF03, Or.inr (Or.inr ⟨z1, fun res hres => step res (z2 res hres)⟩)⟩
