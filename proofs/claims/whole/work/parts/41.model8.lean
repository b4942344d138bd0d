/-! the reference: layTable, table (written by wip/gen/t30.py) -/
def lt0 (f : Nat → Int) (i : Nat) : Nat → Int := fun j => if j < i then 0 else f j
def lt1 (f : Nat → Int) (i : Nat) : Nat → Int := fun j => if j % 8 = 0 ∧ j / 8 < i then ((j / 8 : Nat) : Int) else f j
theorem lt0_0 (τ : tS) : tR τ 60 (lt0 (τ 60) 0) = τ := by
  have : lt0 (τ 60) 0 = τ 60 := by funext j; simp [lt0]
  rw [this, tR_self]
theorem lt0_s (τ : tS) (f : Nat → Int) (i : Nat) : tU (tR τ 60 (lt0 f i)) 60 i 0 = tR τ 60 (lt0 f (i + 1)) := by
  rw [tR_U]
  congr 1
  funext j
  simp only [ru, lt0]
  grind
theorem lt1_0 (τ : tS) (f : Nat → Int) : tR τ 60 (lt1 f 0) = tR τ 60 f := by
  congr 1
  funext j
  simp [lt1]
theorem lt1_s (τ : tS) (f : Nat → Int) (i : Nat) : tU (tR τ 60 (lt1 f i)) 60 (8 * i) (i : Int) = tR τ 60 (lt1 f (i + 1)) := by
  rw [tR_U]
  congr 1
  funext j
  simp only [ru, lt1]
  by_cases e : j = 8 * i
  · subst e
    rw [if_pos rfl, if_pos ⟨by omega, by omega⟩]
    omega
  · rw [if_neg e]
    have : (j % 8 = 0 ∧ j / 8 < i) ↔ (j % 8 = 0 ∧ j / 8 < i + 1) := by omega
    simp only [this]
theorem tR_tR (τ : tS) (q : Nat) (f g : Nat → Int) : tR (tR τ q f) q g = tR τ q g := by
  funext a b
  simp only [tR]
  split <;> rfl
theorem tR_row (τ : tS) (q : Nat) (f : Nat → Int) : (tR τ q f) q = f := by funext b; simp [tR]
/-- the games of a round, the first t -/
def lt2 (τ : tS) (f : Nat → Int) (r : Nat) : Nat → (Nat → Int)
  | 0 => f
  | t + 1 => if τ 46 (20 * r + t) = 0 then lt2 τ f r t else ctR (ctR (lt2 τ f r t) t (τ 47 (20 * r + t)) (τ 48 (20 * r + t))) (τ 44 (20 * r + t)).toNat (τ 48 (20 * r + t)) (τ 47 (20 * r + t))
def lt3 (τ : tS) (f : Nat → Int) (n : Nat) : Nat → (Nat → Int)
  | 0 => f
  | r + 1 => lt2 τ (lt3 τ f n r) r n
def bdR (f : Nat → Int) (K : Nat) : Prop := ∀ j, (j % 8 ≠ 7 → 0 ≤ f j ∧ f j ≤ K) ∧ (j % 8 = 7 → 0 ≤ f j ∧ f j ≤ 4 * K)
theorem bdR_mono {f : Nat → Int} {K L : Nat} (h : bdR f K) (hl : K ≤ L) : bdR f L := fun j => ⟨fun e => by have := (h j).1 e; omega, fun e => by have := (h j).2 e; omega⟩
theorem bdR_ct {f : Nat → Int} {K t : Nat} {s g : Int} (h : bdR f K) (hs : 0 ≤ s ∧ s ≤ 99) (hg : 0 ≤ g ∧ g ≤ 99) : bdR (ctR f t s g) (K + 99) := by
  have h1 := (h (8 * t + 1)).1 (by omega)
  have h2 := (h (8 * t + 2)).1 (by omega)
  have h3 := (h (8 * t + 3)).1 (by omega)
  have h4 := (h (8 * t + 4)).1 (by omega)
  have h5 := (h (8 * t + 5)).1 (by omega)
  have h6 := (h (8 * t + 6)).1 (by omega)
  have b1 : 0 ≤ (if g < s then (1 : Int) else 0) ∧ (if g < s then (1 : Int) else 0) ≤ 1 := by split <;> decide
  have b2 : 0 ≤ (if s = g then (1 : Int) else 0) ∧ (if s = g then (1 : Int) else 0) ≤ 1 := by split <;> decide
  have b3 : 0 ≤ (if s < g then (1 : Int) else 0) ∧ (if s < g then (1 : Int) else 0) ≤ 1 := by split <;> decide
  intro j
  have hj := h j
  unfold ctR
  generalize (if g < s then (1 : Int) else 0) = x1 at b1 ⊢
  generalize (if s = g then (1 : Int) else 0) = x2 at b2 ⊢
  generalize (if s < g then (1 : Int) else 0) = x3 at b3 ⊢
  constructor
  · intro e
    have hj1 := hj.1 e
    repeat' split
    all_goals omega
  · intro e
    have hj1 := hj.2 e
    repeat' split
    all_goals omega
/-- what a played game holds -/
def plOk (τ : tS) (n R : Nat) : Prop := ∀ r t : Nat, r < R → t < n → ¬ τ 46 (20 * r + t) = 0 → (0 ≤ τ 44 (20 * r + t) ∧ τ 44 (20 * r + t) < n) ∧ (0 ≤ τ 47 (20 * r + t) ∧ τ 47 (20 * r + t) ≤ 99) ∧ (0 ≤ τ 48 (20 * r + t) ∧ τ 48 (20 * r + t) ≤ 99)
theorem bdR_2 {τ : tS} {f : Nat → Int} {n R r K : Nat} (hp : plOk τ n R) (hr : r < R) (h : bdR f K) : ∀ t, t ≤ n → bdR (lt2 τ f r t) (K + 198 * t)
  | 0, _ => by simpa [lt2] using h
  | t + 1, ht => by
    rw [lt2]
    have ih := bdR_2 hp hr h t (by omega)
    split
    · exact bdR_mono ih (by omega)
    · rename_i e
      have q := hp r t hr (by omega) e
      exact bdR_mono (bdR_ct (bdR_ct ih q.2.1 q.2.2) q.2.2 q.2.1) (by omega)
theorem bdR_3 {τ : tS} {f : Nat → Int} {n R K : Nat} (hp : plOk τ n R) (hn : n ≤ 20) (h : bdR f K) : ∀ r, r ≤ R → bdR (lt3 τ f n r) (K + 3960 * r)
  | 0, _ => by simpa [lt3] using h
  | r + 1, hr => by
    rw [lt3]
    exact bdR_mono (bdR_2 hp (by omega) (bdR_3 hp hn h r (by omega)) n (Nat.le_refl _)) (by omega)
def ltF (τ : tS) (n R : Nat) : Nat → Int := lt3 τ (lt1 (lt0 (τ 60) 160) n) n R
def mplP (f : Nat → Int) (t o : Nat) : Bool := decide (¬ o = t ∧ mbefP f o t = true)
def ordR (f g : Nat → Int) (n : Nat) : Nat → (Nat → Int)
  | 0 => g
  | t + 1 => ru (ordR f g n t) (cnt (mplP f t) n) (t : Int)
def ltT (τ : tS) (n R : Nat) : tS := tR (tR τ 60 (ltF τ n R)) 61 (ordR (ltF τ n R) (τ 61) n n)
theorem cnt_less (p : Nat → Bool) {t n : Nat} (ht : t < n) (hp : p t = false) : cnt p n < n := by
  induction n with
  | zero => omega
  | succ n ih =>
    rw [cnt]
    by_cases e : t = n
    · subst e
      have := cnt_le p t
      rw [hp]
      simp
      omega
    · have := ih (by omega)
      split <;> omega
theorem bd1 (τ : tS) {n : Nat} (hn : n ≤ 20) (hz : ∀ j, 160 ≤ j → τ 60 j = 0) : bdR (lt1 (lt0 (τ 60) 160) n) 20 := by
  intro j
  have h0 : lt0 (τ 60) 160 j = 0 := by
    unfold lt0
    split
    · rfl
    · exact hz j (by omega)
  unfold lt1
  constructor
  · intro _
    split
    · omega
    · rw [h0]; omega
  · intro _
    split
    · omega
    · rw [h0]; omega
theorem md_layTable {l : Launch} {d : Nat} {τ : tS} {n R p f e : Nat} (C : Mo τ n R p f e) (hp : plOk τ n R) (hz : ∀ j, 160 ≤ j → τ 60 j = 0) : zF l (d + 2) M_md_layTable [.ref 37] (τ) (none) (ltT τ n R) := by
  refine zMet_of (ls := [.ref 37, .null, .null, .null]) pn_md rfl (by simp [vi, Value.category]) rfl rfl ?_
  have hA := C.A
  have hn := C.n
  have hn4 := C.n4
  have hn20 := C.n20
  have hR := C.R
  have hR38 := C.R38
  have hbd : ∀ j, -1000000 ≤ ltF τ n R j ∧ ltF τ n R j ≤ 1000000 := by intro j; have h3 := bdR_3 hp hn20 (bd1 τ hn20 hz) R (Nat.le_refl _) j; unfold ltF; by_cases e : j % 8 = 7; (have := h3.2 e; omega); (have := h3.1 e; omega)
  refine zi_iconst d_md_layTable_0 ?_
  refine zi_istore_n d_md_layTable_1 (by decide) rfl ?_
  have key1 := zup (P := fun (i : Nat) => zV l (d + 2) M_md_layTable 2 [.ref 37, vi (i : Int), .null, .null] [] (tR τ 60 (lt0 (τ 60) i)) (0, 0) (.inl none, (SH, zq (ltT τ n R)), 0, 0)) 160 ?_ ?_ 0 (by omega)
  · exact zE4 key1 (by refine ⟨?_, ?_, ?_, ?_, trivial⟩ <;> first | exact Or.inl rfl | exact Or.inr rfl) (lt0_0 _).symm
  · intro i hi hk
    refine zi_iload_n d_md_layTable_2 rfl ?_
    refine zi_sipush d_md_layTable_3 (by decide) ?_
    refine zi_icmp_ge 22 d_md_layTable_6 (by decide) (by first | assumption | exact ⟨by omega, by omega⟩) (by first | assumption | exact ⟨by omega, by omega⟩) (fun h6 => ?_) (fun h6 => ?_)
    · exact absurd h6 (by omega)
    · refine zr_aload_n d_md_layTable_9 rfl ?_
      refine zi_getr (j := 31) d_md_layTable_10 zC8 fl_md_81 (by decide) rfl rfl ?_
      refine zi_iload_n d_md_layTable_13 rfl ?_
      refine zi_iconst d_md_layTable_14 ?_
      refine zi_iast d_md_layTable_15 rfl (by decide) (by omega) (by omega) ?_
      rw [Int.toNat_natCast]
      refine zi_iinc d_md_layTable_16 (by decide) rfl rfl ?_
      refine zr_goto 2 d_md_layTable_19 (by decide) ?_
      exact zE4 hk (by refine ⟨?_, ?_, ?_, ?_, trivial⟩ <;> first | exact Or.inl rfl | exact Or.inr rfl) (lt0_s _ _ _)
  · refine zi_iload_n d_md_layTable_2 rfl ?_
    refine zi_sipush d_md_layTable_3 (by decide) ?_
    refine zi_icmp_ge 22 d_md_layTable_6 (by decide) (by first | assumption | exact ⟨by omega, by omega⟩) (by first | assumption | exact ⟨by omega, by omega⟩) (fun h6 => ?_) (fun h6 => ?_)
    · refine zi_iconst d_md_layTable_22 ?_
      refine zi_istore_n d_md_layTable_23 (by decide) rfl ?_
      have key2 := zup (P := fun (i : Nat) => zV l (d + 2) M_md_layTable 24 [.ref 37, vi (i : Int), .null, .null] [] (tR τ 60 (lt1 (lt0 (τ 60) 160) i)) (0, 0) (.inl none, (SH, zq (ltT τ n R)), 0, 0)) n ?_ ?_ 0 (by omega)
      · exact zE4 key2 (by refine ⟨?_, ?_, ?_, ?_, trivial⟩ <;> first | exact Or.inl rfl | exact Or.inr rfl) (lt1_0 _ _).symm
      · intro i hi hk
        refine zi_iload_n d_md_layTable_24 rfl ?_
        refine zr_aload_n d_md_layTable_25 rfl ?_
        refine zi_getiE (j := 1) (x := (n : Int)) d_md_layTable_26 zC8 fl_md_7 (by decide) rfl rfl (by rw [tR_ne _ _ _ (by decide)]; exact hn) ?_
        refine zi_icmp_ge 48 d_md_layTable_29 (by decide) (by first | assumption | exact ⟨by omega, by omega⟩) (by first | assumption | exact ⟨by omega, by omega⟩) (fun h29 => ?_) (fun h29 => ?_)
        · exact absurd h29 (by omega)
        · refine zr_aload_n d_md_layTable_32 rfl ?_
          refine zi_getr (j := 31) d_md_layTable_33 zC8 fl_md_81 (by decide) rfl rfl ?_
          refine zi_bipush d_md_layTable_36 (by decide) ?_
          refine zi_iload_n d_md_layTable_38 rfl ?_
          refine zi_imul d_md_layTable_39 ?_
          refine zi_iload_n d_md_layTable_40 rfl ?_
          refine zi_iast d_md_layTable_41 rfl (by decide) (by omega) (by omega) ?_
          rw [show (8 * (i : Int)).toNat = 8 * i by omega]
          refine zi_iinc d_md_layTable_42 (by decide) rfl rfl ?_
          refine zr_goto 24 d_md_layTable_45 (by decide) ?_
          exact zE4 hk (by refine ⟨?_, ?_, ?_, ?_, trivial⟩ <;> first | exact Or.inl rfl | exact Or.inr rfl) (lt1_s _ _ _)
      · refine zi_iload_n d_md_layTable_24 rfl ?_
        refine zr_aload_n d_md_layTable_25 rfl ?_
        refine zi_getiE (j := 1) (x := (n : Int)) d_md_layTable_26 zC8 fl_md_7 (by decide) rfl rfl (by rw [tR_ne _ _ _ (by decide)]; exact hn) ?_
        refine zi_icmp_ge 48 d_md_layTable_29 (by decide) (by first | assumption | exact ⟨by omega, by omega⟩) (by first | assumption | exact ⟨by omega, by omega⟩) (fun h29 => ?_) (fun h29 => ?_)
        · refine zi_iconst d_md_layTable_48 ?_
          refine zi_istore_n d_md_layTable_49 (by decide) rfl ?_
          have key3 := zup (P := fun (i : Nat) => zV l (d + 2) M_md_layTable 50 [.ref 37, vi (i : Int), .null, .null] [] (tR τ 60 (lt3 τ (lt1 (lt0 (τ 60) 160) n) n i)) (0, 0) (.inl none, (SH, zq (ltT τ n R)), 0, 0)) R ?_ ?_ 0 (by omega)
          · exact zE4 key3 (by refine ⟨?_, ?_, ?_, ?_, trivial⟩ <;> first | exact Or.inl rfl | exact Or.inr rfl) rfl
          · intro i hi hk
            refine zi_iload_n d_md_layTable_50 rfl ?_
            refine zr_aload_n d_md_layTable_51 rfl ?_
            refine zi_getiE (j := 12) (x := (R : Int)) d_md_layTable_52 zC8 fl_md_94 (by decide) rfl rfl (by rw [tR_ne _ _ _ (by decide)]; exact hR) ?_
            refine zi_icmp_ge 135 d_md_layTable_55 (by decide) (by first | assumption | exact ⟨by omega, by omega⟩) (by first | assumption | exact ⟨by omega, by omega⟩) (fun h55 => ?_) (fun h55 => ?_)
            · exact absurd h55 (by omega)
            · refine zi_iconst d_md_layTable_58 ?_
              refine zi_istore_n d_md_layTable_59 (by decide) rfl ?_
              have inn := zup (P := fun (t : Nat) => zV l (d + 2) M_md_layTable 60 [.ref 37, vi (i : Int), vi (t : Int), .null] [] (tR τ 60 (lt2 τ (lt3 τ (lt1 (lt0 (τ 60) 160) n) n i) i t)) (0, 0) (.inl none, (SH, zq (ltT τ n R)), 0, 0)) n ?_ ?_ 0 (by omega)
              · exact zE4 inn (by refine ⟨?_, ?_, ?_, ?_, trivial⟩ <;> first | exact Or.inl rfl | exact Or.inr rfl) rfl
              · intro t ht hkt
                refine zi_iload_n d_md_layTable_60 rfl ?_
                refine zr_aload_n d_md_layTable_61 rfl ?_
                refine zi_getiE (j := 1) (x := (n : Int)) d_md_layTable_62 zC8 fl_md_7 (by decide) rfl rfl (by rw [tR_ne _ _ _ (by decide)]; exact hn) ?_
                refine zi_icmp_ge 129 d_md_layTable_65 (by decide) (by first | assumption | exact ⟨by omega, by omega⟩) (by first | assumption | exact ⟨by omega, by omega⟩) (fun h65 => ?_) (fun h65 => ?_)
                · exact absurd h65 (by omega)
                · refine zi_bipush d_md_layTable_68 (by decide) ?_
                  refine zi_iload_n d_md_layTable_70 rfl ?_
                  refine zi_imul d_md_layTable_71 ?_
                  refine zi_iload_n d_md_layTable_72 rfl ?_
                  refine zi_iadd d_md_layTable_73 ?_
                  refine zi_istore_n d_md_layTable_74 (by decide) rfl ?_
                  refine zr_aload_n d_md_layTable_75 rfl ?_
                  refine zi_getr (j := 15) d_md_layTable_76 zC8 fl_md_39 (by decide) rfl rfl ?_
                  refine zi_iload_n d_md_layTable_79 rfl ?_
                  refine zi_zaldE (x := τ 46 (20 * i + t)) d_md_layTable_80 rfl (by decide) (by omega) (by omega) (by rw [ixm, tR_ne _ _ _ (by decide)]) ?_
                  refine zi_if_eq 123 d_md_layTable_81 (by decide) (hA _ _) (fun h81 => ?_) (fun h81 => ?_)
                  · refine zi_iinc d_md_layTable_123 (by decide) rfl rfl ?_
                    refine zr_goto 60 d_md_layTable_126 (by decide) ?_
                    exact zE4 hkt (by refine ⟨?_, ?_, ?_, ?_, trivial⟩ <;> first | exact Or.inl rfl | exact Or.inr rfl) (by rw [lt2]; first | (rw [if_pos h81]; done) | (rw [if_neg h81]; simp only [tR_tR, tR_row]; done))
                  · have q := hp i t hi ht h81
                    have h44 := q.1
                    refine zr_aload_n d_md_layTable_84 rfl ?_
                    refine zi_iload_n d_md_layTable_85 rfl ?_
                    refine zr_aload_n d_md_layTable_86 rfl ?_
                    refine zi_getr (j := 16) d_md_layTable_87 zC8 fl_md_42 (by decide) rfl rfl ?_
                    refine zi_iload_n d_md_layTable_90 rfl ?_
                    refine zi_ialdE (x := τ 47 (20 * i + t)) d_md_layTable_91 rfl (by decide) (by omega) (by omega) (by rw [ixm, tR_ne _ _ _ (by decide)]) ?_
                    refine zr_aload_n d_md_layTable_92 rfl ?_
                    refine zi_getr (j := 17) d_md_layTable_93 zC8 fl_md_45 (by decide) rfl rfl ?_
                    refine zi_iload_n d_md_layTable_96 rfl ?_
                    refine zi_ialdE (x := τ 48 (20 * i + t)) d_md_layTable_97 rfl (by decide) (by omega) (by omega) (by rw [ixm, tR_ne _ _ _ (by decide)]) ?_
                    refine c_md_layTable_98 rfl rfl (md_count (by omega) (hA _ _) (hA _ _)) ?_
                    refine zr_aload_n d_md_layTable_101 rfl ?_
                    refine zr_aload_n d_md_layTable_102 rfl ?_
                    refine zi_getr (j := 13) d_md_layTable_103 zC8 fl_md_33 (by decide) rfl rfl ?_
                    refine zi_iload_n d_md_layTable_106 rfl ?_
                    refine zi_ialdE (x := τ 44 (20 * i + t)) d_md_layTable_107 rfl (by decide) (by omega) (by omega) (by rw [ixm, tR_ne _ _ _ (by decide), tR_ne _ _ _ (by decide)]) ?_
                    refine zr_aload_n d_md_layTable_108 rfl ?_
                    refine zi_getr (j := 17) d_md_layTable_109 zC8 fl_md_45 (by decide) rfl rfl ?_
                    refine zi_iload_n d_md_layTable_112 rfl ?_
                    refine zi_ialdE (x := τ 48 (20 * i + t)) d_md_layTable_113 rfl (by decide) (by omega) (by omega) (by rw [ixm, tR_ne _ _ _ (by decide), tR_ne _ _ _ (by decide)]) ?_
                    refine zr_aload_n d_md_layTable_114 rfl ?_
                    refine zi_getr (j := 16) d_md_layTable_115 zC8 fl_md_42 (by decide) rfl rfl ?_
                    refine zi_iload_n d_md_layTable_118 rfl ?_
                    refine zi_ialdE (x := τ 47 (20 * i + t)) d_md_layTable_119 rfl (by decide) (by omega) (by omega) (by rw [ixm, tR_ne _ _ _ (by decide), tR_ne _ _ _ (by decide)]) ?_
                    rw [show τ 44 (20 * i + t) = (((τ 44 (20 * i + t)).toNat : Nat) : Int) from (Int.toNat_of_nonneg h44.1).symm]
                    refine c_md_layTable_120 rfl rfl (md_count (by omega) (hA _ _) (hA _ _)) ?_
                    refine zi_iinc d_md_layTable_123 (by decide) rfl rfl ?_
                    refine zr_goto 60 d_md_layTable_126 (by decide) ?_
                    exact zE4 hkt (by refine ⟨?_, ?_, ?_, ?_, trivial⟩ <;> first | exact Or.inl rfl | exact Or.inr rfl) (by rw [lt2]; first | (rw [if_pos h81]; done) | (rw [if_neg h81]; simp only [tR_tR, tR_row]; done))
              · refine zi_iload_n d_md_layTable_60 rfl ?_
                refine zr_aload_n d_md_layTable_61 rfl ?_
                refine zi_getiE (j := 1) (x := (n : Int)) d_md_layTable_62 zC8 fl_md_7 (by decide) rfl rfl (by rw [tR_ne _ _ _ (by decide)]; exact hn) ?_
                refine zi_icmp_ge 129 d_md_layTable_65 (by decide) (by first | assumption | exact ⟨by omega, by omega⟩) (by first | assumption | exact ⟨by omega, by omega⟩) (fun h65 => ?_) (fun h65 => ?_)
                · refine zi_iinc d_md_layTable_129 (by decide) rfl rfl ?_
                  refine zr_goto 50 d_md_layTable_132 (by decide) ?_
                  exact zE4 hk (by refine ⟨?_, ?_, ?_, ?_, trivial⟩ <;> first | exact Or.inl rfl | exact Or.inr rfl) rfl
                · exact absurd h65 (by omega)
          · refine zi_iload_n d_md_layTable_50 rfl ?_
            refine zr_aload_n d_md_layTable_51 rfl ?_
            refine zi_getiE (j := 12) (x := (R : Int)) d_md_layTable_52 zC8 fl_md_94 (by decide) rfl rfl (by rw [tR_ne _ _ _ (by decide)]; exact hR) ?_
            refine zi_icmp_ge 135 d_md_layTable_55 (by decide) (by first | assumption | exact ⟨by omega, by omega⟩) (by first | assumption | exact ⟨by omega, by omega⟩) (fun h55 => ?_) (fun h55 => ?_)
            · refine zi_iconst d_md_layTable_135 ?_
              refine zi_istore_n d_md_layTable_136 (by decide) rfl ?_
              have key4 := zup (P := fun (i : Nat) => zV l (d + 2) M_md_layTable 137 [.ref 37, vi (i : Int), .null, .null] [] (tR (tR τ 60 (ltF τ n R)) 61 (ordR (ltF τ n R) (τ 61) n i)) (0, 0) (.inl none, (SH, zq (ltT τ n R)), 0, 0)) n ?_ ?_ 0 (by omega)
              · exact zE4 key4 (by refine ⟨?_, ?_, ?_, ?_, trivial⟩ <;> first | exact Or.inl rfl | exact Or.inr rfl) (by rw [show ordR (ltF τ n R) (τ 61) n 0 = (tR τ 60 (ltF τ n R)) 61 by funext j; rw [tR_ne _ _ _ (by decide)]; rfl, tR_self]; rfl)
              · intro i hi hk
                refine zi_iload_n d_md_layTable_137 rfl ?_
                refine zr_aload_n d_md_layTable_138 rfl ?_
                refine zi_getiE (j := 1) (x := (n : Int)) d_md_layTable_139 zC8 fl_md_7 (by decide) rfl rfl (by rw [tR_ne _ _ _ (by decide), tR_ne _ _ _ (by decide)]; exact hn) ?_
                refine zi_icmp_ge 198 d_md_layTable_142 (by decide) (by first | assumption | exact ⟨by omega, by omega⟩) (by first | assumption | exact ⟨by omega, by omega⟩) (fun h142 => ?_) (fun h142 => ?_)
                · exact absurd h142 (by omega)
                · refine zi_iconst d_md_layTable_145 ?_
                  refine zi_istore_n d_md_layTable_146 (by decide) rfl ?_
                  refine zi_iconst d_md_layTable_147 ?_
                  refine zi_istore_n d_md_layTable_148 (by decide) rfl ?_
                  have inn := zup (P := fun (u : Nat) => zV l (d + 2) M_md_layTable 149 [.ref 37, vi (i : Int), vi ((cnt (mplP (ltF τ n R) i) u : Nat) : Int), vi (u : Int)] [] (tR (tR τ 60 (ltF τ n R)) 61 (ordR (ltF τ n R) (τ 61) n i)) (0, 0) (.inl none, (SH, zq (ltT τ n R)), 0, 0)) n ?_ ?_ 0 (by omega)
                  · exact zE4 inn (by refine ⟨?_, ?_, ?_, ?_, trivial⟩ <;> first | exact Or.inl rfl | exact Or.inr rfl) rfl
                  · intro u hu hku
                    have hcl := cnt_le (mplP (ltF τ n R) i) u
                    refine zi_iload_n d_md_layTable_149 rfl ?_
                    refine zr_aload_n d_md_layTable_150 rfl ?_
                    refine zi_getiE (j := 1) (x := (n : Int)) d_md_layTable_151 zC8 fl_md_7 (by decide) rfl rfl (by rw [tR_ne _ _ _ (by decide), tR_ne _ _ _ (by decide)]; exact hn) ?_
                    refine zi_icmp_ge 185 d_md_layTable_154 (by decide) (by first | assumption | exact ⟨by omega, by omega⟩) (by first | assumption | exact ⟨by omega, by omega⟩) (fun h154 => ?_) (fun h154 => ?_)
                    · exact absurd h154 (by omega)
                    · refine zi_iload_n d_md_layTable_157 rfl ?_
                      refine zi_iload_n d_md_layTable_158 rfl ?_
                      refine zi_icmp_eq 177 d_md_layTable_159 (by decide) (by first | assumption | exact ⟨by omega, by omega⟩) (by first | assumption | exact ⟨by omega, by omega⟩) (fun h159 => ?_) (fun h159 => ?_)
                      · refine zi_iload_n d_md_layTable_177 rfl ?_
                        refine zi_istore_n d_md_layTable_178 (by decide) rfl ?_
                        refine zi_iinc d_md_layTable_179 (by decide) rfl rfl ?_
                        refine zr_goto 149 d_md_layTable_182 (by decide) ?_
                        exact zE4 hku (by refine ⟨?_, ?_, ?_, ?_, trivial⟩ <;> first | exact Or.inl rfl | exact Or.inr rfl | exact Or.inr (congrArg vi (by rw [cnt]; unfold mplP; grind))) rfl
                      · refine zr_aload_n d_md_layTable_162 rfl ?_
                        refine zi_iload_n d_md_layTable_163 rfl ?_
                        refine zi_iload_n d_md_layTable_164 rfl ?_
                        refine c_md_layTable_165 rfl rfl (md_isBefore (by intro j; rw [tR_ne _ _ _ (by decide), tR_at]; exact hbd j) (by omega) (by omega)) ?_
                        show zV _ _ _ _ _ (vi _ :: _) _ _ _
                        rw [show (tR (tR τ 60 (ltF τ n R)) 61 (ordR (ltF τ n R) (τ 61) n i)) 60 = ltF τ n R by funext j; rw [tR_ne _ _ _ (by decide), tR_at]]
                        refine zi_if_eq 177 d_md_layTable_168 (by decide) (by split <;> exact ⟨by decide, by decide⟩) (fun h168 => ?_) (fun h168 => ?_)
                        · refine zi_iload_n d_md_layTable_177 rfl ?_
                          refine zi_istore_n d_md_layTable_178 (by decide) rfl ?_
                          refine zi_iinc d_md_layTable_179 (by decide) rfl rfl ?_
                          refine zr_goto 149 d_md_layTable_182 (by decide) ?_
                          exact zE4 hku (by refine ⟨?_, ?_, ?_, ?_, trivial⟩ <;> first | exact Or.inl rfl | exact Or.inr rfl | exact Or.inr (congrArg vi (by rw [cnt]; unfold mplP; grind))) rfl
                        · refine zi_iload_n d_md_layTable_171 rfl ?_
                          refine zi_iconst d_md_layTable_172 ?_
                          refine zi_iadd d_md_layTable_173 ?_
                          refine zr_goto 178 d_md_layTable_174 (by decide) ?_
                          refine zi_istore_n d_md_layTable_178 (by decide) rfl ?_
                          refine zi_iinc d_md_layTable_179 (by decide) rfl rfl ?_
                          refine zr_goto 149 d_md_layTable_182 (by decide) ?_
                          exact zE4 hku (by refine ⟨?_, ?_, ?_, ?_, trivial⟩ <;> first | exact Or.inl rfl | exact Or.inr rfl | exact Or.inr (congrArg vi (by rw [cnt]; unfold mplP; grind))) rfl
                  · refine zi_iload_n d_md_layTable_149 rfl ?_
                    refine zr_aload_n d_md_layTable_150 rfl ?_
                    refine zi_getiE (j := 1) (x := (n : Int)) d_md_layTable_151 zC8 fl_md_7 (by decide) rfl rfl (by rw [tR_ne _ _ _ (by decide), tR_ne _ _ _ (by decide)]; exact hn) ?_
                    refine zi_icmp_ge 185 d_md_layTable_154 (by decide) (by first | assumption | exact ⟨by omega, by omega⟩) (by first | assumption | exact ⟨by omega, by omega⟩) (fun h154 => ?_) (fun h154 => ?_)
                    · have hlt := cnt_less (mplP (ltF τ n R) i) hi (by simp [mplP])
                      refine zr_aload_n d_md_layTable_185 rfl ?_
                      refine zi_getr (j := 32) d_md_layTable_186 zC8 fl_md_84 (by decide) rfl rfl ?_
                      refine zi_iload_n d_md_layTable_189 rfl ?_
                      refine zi_iload_n d_md_layTable_190 rfl ?_
                      refine zi_iast d_md_layTable_191 rfl (by decide) (by omega) (by omega) ?_
                      rw [tR_U, Int.toNat_natCast]
                      refine zi_iinc d_md_layTable_192 (by decide) rfl rfl ?_
                      refine zr_goto 137 d_md_layTable_195 (by decide) ?_
                      exact zE4 hk (by refine ⟨?_, ?_, ?_, ?_, trivial⟩ <;> first | exact Or.inl rfl | exact Or.inr rfl) rfl
                    · exact absurd h154 (by omega)
              · refine zi_iload_n d_md_layTable_137 rfl ?_
                refine zr_aload_n d_md_layTable_138 rfl ?_
                refine zi_getiE (j := 1) (x := (n : Int)) d_md_layTable_139 zC8 fl_md_7 (by decide) rfl rfl (by rw [tR_ne _ _ _ (by decide), tR_ne _ _ _ (by decide)]; exact hn) ?_
                refine zi_icmp_ge 198 d_md_layTable_142 (by decide) (by first | assumption | exact ⟨by omega, by omega⟩) (by first | assumption | exact ⟨by omega, by omega⟩) (fun h142 => ?_) (fun h142 => ?_)
                · exact zk_vret rfl d_md_layTable_198 (Nat.zero_le _) (Nat.zero_le _) rfl
                · exact absurd h142 (by omega)
            · exact absurd h55 (by omega)
        · exact absurd h29 (by omega)
    · exact absurd h6 (by omega)
def mtbF (τ : tS) (n R k q : Nat) : Int := ltF τ n R (8 * (ordR (ltF τ n R) (τ 61) n n k).toNat + q)
theorem lt0_37 (τ : tS) (x : Int) : (tU τ 37 0 x) 60 = τ 60 ∧ (tU τ 37 0 x) 61 = τ 61 := ⟨by funext j; simp [tU], by funext j; simp [tU]⟩
theorem lt2_37 (τ : tS) (x : Int) (f : Nat → Int) (r : Nat) : ∀ t, lt2 (tU τ 37 0 x) f r t = lt2 τ f r t
  | 0 => rfl
  | t + 1 => by
    rw [lt2, lt2, lt2_37 τ x f r t]
    simp [tU]
theorem lt3_37 (τ : tS) (x : Int) (f : Nat → Int) (n : Nat) : ∀ r, lt3 (tU τ 37 0 x) f n r = lt3 τ f n r
  | 0 => rfl
  | r + 1 => by rw [lt3, lt3, lt3_37 τ x f n r, lt2_37]
theorem ltF_37 (τ : tS) (x : Int) (n R : Nat) : ltF (tU τ 37 0 x) n R = ltF τ n R := by rw [ltF, ltF, lt3_37, (lt0_37 τ x).1]
theorem md_table {l : Launch} {d : Nat} {τ : tS} {n R p f e : Nat} (C : Mo τ n R p f e) (hp : plOk τ n R) (hz : ∀ j, 160 ≤ j → τ 60 j = 0) {k q : Nat} (hk : k < n) (hq : q < 8) (ho : 0 ≤ ordR (ltF τ n R) (τ 61) n n k ∧ ordR (ltF τ n R) (τ 61) n n k < 20) : zF l (d + 4) M_md_table [.ref 37, vi (k : Int), vi (q : Int)] (τ) (some (vi (mtbF τ n R k q))) (ltT (tU τ 37 0 0) n R) := by
  refine zMet_of (ls := [.ref 37, vi (k : Int), vi (q : Int)]) pn_md rfl (by simp [vi, Value.category]) rfl rfl ?_
  have hA := C.A
  have hn := C.n
  have hn4 := C.n4
  have hn20 := C.n20
  have hR := C.R
  have hR38 := C.R38
  refine zr_aload_n d_md_table_0 rfl ?_
  refine zi_iload_n d_md_table_1 rfl ?_
  refine zi_iconst d_md_table_2 ?_
  refine zr_aload_n d_md_table_3 rfl ?_
  refine zi_getiE (j := 1) (x := (n : Int)) d_md_table_4 zC8 fl_md_7 (by decide) rfl rfl (hn) ?_
  refine zi_iconst d_md_table_7 ?_
  refine zi_isub d_md_table_8 ?_
  refine c_md_table_9 rfl (md_in ⟨by omega, by omega⟩ ⟨by omega, by omega⟩ ⟨by omega, by omega⟩) ?_
  refine zi_if_eq 25 d_md_table_12 (by decide) (by split <;> exact ⟨by decide, by decide⟩) (fun h12 => ?_) (fun h12 => ?_)
  · exfalso
    grind
  · refine zi_iload_n d_md_table_15 rfl ?_
    refine zi_iconst d_md_table_16 ?_
    refine zi_bipush d_md_table_17 (by decide) ?_
    refine c_md_table_19 rfl (md_in ⟨by omega, by omega⟩ ⟨by decide, by decide⟩ ⟨by decide, by decide⟩) ?_
    refine zi_if_ne 29 d_md_table_22 (by decide) (by split <;> exact ⟨by decide, by decide⟩) (fun h22 => ?_) (fun h22 => ?_)
    · refine zi_iconst d_md_table_29 ?_
      refine zi_iconst d_md_table_30 ?_
      refine zi_iconst d_md_table_31 ?_
      refine zi_iconst d_md_table_32 ?_
      refine c_md_table_33 rfl rfl (md_refused ⟨by decide, by decide⟩ ⟨by decide, by decide⟩ ⟨by decide, by decide⟩ ⟨by decide, by decide⟩) ?_
      show zV _ _ _ _ _ (vi 0 :: _) (tU τ 37 0 0) _ _
      refine zi_if_eq 41 d_md_table_36 (by decide) (by first | assumption | exact ⟨by omega, by omega⟩) (fun h36 => ?_) (fun h36 => ?_)
      · refine zr_aload_n d_md_table_41 rfl ?_
        refine c_md_table_42 rfl rfl (md_layTable (C.th ⟨by decide, by decide⟩) (by intro r t h1 h2 h3; simp [tU] at h3 ⊢; exact hp r t h1 h2 h3) (by intro j hj; simp [tU]; exact hz j hj)) ?_
        refine zr_aload_n d_md_table_45 rfl ?_
        refine zi_getr (j := 31) d_md_table_46 zC8 fl_md_81 (by decide) rfl rfl ?_
        refine zi_bipush d_md_table_49 (by decide) ?_
        refine zr_aload_n d_md_table_51 rfl ?_
        refine zi_getr (j := 32) d_md_table_52 zC8 fl_md_84 (by decide) rfl rfl ?_
        refine zi_iload_n d_md_table_55 rfl ?_
        refine zi_ialdE (x := ordR (ltF τ n R) (τ 61) n n k) d_md_table_56 rfl (by decide) (by omega) (by omega) (by rw [Int.toNat_natCast, ltT, tR_at, ltF_37, (lt0_37 τ 0).2]) ?_
        refine zi_imul d_md_table_57 ?_
        refine zi_iload_n d_md_table_58 rfl ?_
        refine zi_iadd d_md_table_59 ?_
        refine zi_ialdE (x := mtbF τ n R k q) d_md_table_60 rfl (by decide) (by omega) (by omega) (by rw [show (8 * ordR (ltF τ n R) (τ 61) n n k + (q : Int)).toNat = 8 * (ordR (ltF τ n R) (τ 61) n n k).toNat + q by omega, ltT, tR_ne _ _ _ (by decide), tR_at, ltF_37]; rfl) ?_
        exact zk_iret rfl d_md_table_61 (Nat.zero_le _) (Nat.zero_le _) (by first | rfl | omega | (split <;> omega) | simp_all) rfl
      · exact absurd h36 (by decide)
    · exfalso
      grind
theorem md_tableX {l : Launch} {d : Nat} {τ : tS} {n R p f e : Nat} (C : Mo τ n R p f e) {k q : Int} (zk : zin k) (zq : zin q) (h : ¬ ((0 ≤ k ∧ k < n) ∧ (0 ≤ q ∧ q ≤ 7))) : zF l (d + 4) M_md_table [.ref 37, vi k, vi q] (τ) (some (vi 0)) (tU τ 37 0 1) := by
  refine zMet_of (ls := [.ref 37, vi k, vi q]) pn_md rfl (by simp [vi, Value.category]) rfl rfl ?_
  have hA := C.A
  have hn := C.n
  have hn4 := C.n4
  have hn20 := C.n20
  have hR := C.R
  have hR38 := C.R38
  refine zr_aload_n d_md_table_0 rfl ?_
  refine zi_iload_n d_md_table_1 rfl ?_
  refine zi_iconst d_md_table_2 ?_
  refine zr_aload_n d_md_table_3 rfl ?_
  refine zi_getiE (j := 1) (x := (n : Int)) d_md_table_4 zC8 fl_md_7 (by decide) rfl rfl (hn) ?_
  refine zi_iconst d_md_table_7 ?_
  refine zi_isub d_md_table_8 ?_
  refine c_md_table_9 rfl (md_in zk ⟨by omega, by omega⟩ ⟨by omega, by omega⟩) ?_
  refine zi_if_eq 25 d_md_table_12 (by decide) (by split <;> exact ⟨by decide, by decide⟩) (fun h12 => ?_) (fun h12 => ?_)
  · refine zi_iconst d_md_table_25 ?_
    refine zr_goto 30 d_md_table_26 (by decide) ?_
    refine zi_iconst d_md_table_30 ?_
    refine zi_iconst d_md_table_31 ?_
    refine zi_iconst d_md_table_32 ?_
    refine c_md_table_33 rfl rfl (md_refused ⟨by decide, by decide⟩ ⟨by decide, by decide⟩ ⟨by decide, by decide⟩ ⟨by decide, by decide⟩) ?_
    show zV _ _ _ _ _ (vi 1 :: _) (tU τ 37 0 1) _ _
    refine zi_if_eq 41 d_md_table_36 (by decide) (by first | assumption | exact ⟨by omega, by omega⟩) (fun h36 => ?_) (fun h36 => ?_)
    · exact absurd h36 (by decide)
    · refine zi_iconst d_md_table_39 ?_
      exact zk_iret rfl d_md_table_40 (Nat.zero_le _) (Nat.zero_le _) (by first | rfl | omega | (split <;> omega) | simp_all) rfl
  · refine zi_iload_n d_md_table_15 rfl ?_
    refine zi_iconst d_md_table_16 ?_
    refine zi_bipush d_md_table_17 (by decide) ?_
    refine c_md_table_19 rfl (md_in zq ⟨by decide, by decide⟩ ⟨by decide, by decide⟩) ?_
    refine zi_if_ne 29 d_md_table_22 (by decide) (by split <;> exact ⟨by decide, by decide⟩) (fun h22 => ?_) (fun h22 => ?_)
    · exfalso
      grind
    · refine zi_iconst d_md_table_25 ?_
      refine zr_goto 30 d_md_table_26 (by decide) ?_
      refine zi_iconst d_md_table_30 ?_
      refine zi_iconst d_md_table_31 ?_
      refine zi_iconst d_md_table_32 ?_
      refine c_md_table_33 rfl rfl (md_refused ⟨by decide, by decide⟩ ⟨by decide, by decide⟩ ⟨by decide, by decide⟩ ⟨by decide, by decide⟩) ?_
      show zV _ _ _ _ _ (vi 1 :: _) (tU τ 37 0 1) _ _
      refine zi_if_eq 41 d_md_table_36 (by decide) (by first | assumption | exact ⟨by omega, by omega⟩) (fun h36 => ?_) (fun h36 => ?_)
      · exact absurd h36 (by decide)
      · refine zi_iconst d_md_table_39 ?_
        exact zk_iret rfl d_md_table_40 (Nat.zero_le _) (Nat.zero_le _) (by first | rfl | omega | (split <;> omega) | simp_all) rfl
