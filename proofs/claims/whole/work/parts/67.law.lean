/-! the law's body (written by wip/gen/t56.py) -/
section ZW1
variable {l : Launch} {d : Nat} {L : Nat} {xs : Nat → Int32} {pc : Nat} {ls st rest : List Value} {τ τ' : tS} {cs : Nat × Nat} {r : zR} {v : Option Value} {mc ms : Nat}
theorem zin_x (x : Int32) : zin x.toInt := by
  have h1 := Int32.le_toInt x
  have h2 := Int32.toInt_lt x
  unfold zin
  constructor <;> omega
theorem vi_x (x : Int32) : Value.int x = vi x.toInt := by rw [vi, Int32.ofInt_toInt]
/-- a number of the script -/
theorem zl_s {a : Int} (hL : L ≤ 2560) (hd : decode (M_lw_law L xs).2.1 pc = .ok (.iaload, 1)) (h0 : 0 ≤ a) (h1 : a < L) (k : zV l d (M_lw_law L xs) (pc + 1) ls (vi (xs a.toNat).toInt :: st) τ cs r) : zV l d (M_lw_law L xs) pc ls (vi a :: .ref 999 :: st) τ cs r := by
  refine zr_sld (L := L) (xs := xs) hd rfl (zin_in h0 h1 (by omega)) ?_
  rw [zin_cl h0 (by omega), vi_x]
  exact k
theorem lg_same (x : Int64) : lg_cmp x x = 0 := by simp [lg_cmp]
/-- the answer kept and the one given are the same -/
theorem zl_cmp {b : Int} (tgt : Nat) {off : Int} (h62 : τ 62 0 = b) (hd1 : decode (M_lw_law L xs).2.1 pc = .ok (.laload, 1)) (hd2 : decode (M_lw_law L xs).2.1 (pc + 1) = .ok (.iload 6, 2)) (hd3 : decode (M_lw_law L xs).2.1 (pc + 1 + 2) = .ok (.i2l, 1)) (hd4 : decode (M_lw_law L xs).2.1 (pc + 1 + 2 + 1) = .ok (.lcmp, 1)) (hd5 : decode (M_lw_law L xs).2.1 (pc + 1 + 2 + 1 + 1) = .ok (.ifCond .eq off, 3)) (ht : ((pc + 1 + 2 + 1 + 1 : Nat) : Int) + off = (tgt : Int)) (hl : ls[6]? = some (vi b)) (k : zV l d (M_lw_law L xs) tgt ls st τ cs r) : zV l d (M_lw_law L xs) pc ls (vi 0 :: .ref 62 :: st) τ cs r := by
  refine zr_lald (n := 1) hd1 rfl (zin_in (a := 0) (by decide) (by decide) (by decide)) ?_
  refine zi_iload hd2 hl ?_
  refine zr_i2l hd3 ?_
  have e : (Int32.ofInt 0).toNatClampNeg = 0 := by decide
  have e2 : zq τ 62 0 = Int32.ofInt b := by unfold zq; rw [h62]
  show zW l d (M_lw_law L xs) (pc + 1 + 2 + 1) ls (.long (Int32.ofInt b).toInt64 :: .long (zq τ 62 (Int32.ofInt 0).toNatClampNeg).toInt64 :: st) (SH, zq τ) cs r
  rw [e, e2]
  refine zr_lcmp hd4 ?_
  rw [lg_same]
  exact zi_if_eq (a := 0) tgt hd5 ht ⟨by decide, by decide⟩ (fun _ => k) (fun g => absurd rfl g)
theorem zl_cmpL {b : Int} {y : Int64} (tgt : Nat) {off : Int} (h62 : τ 62 0 = b) (hy : y = (Int32.ofInt b).toInt64) (hd4 : decode (M_lw_law L xs).2.1 pc = .ok (.lcmp, 1)) (hd5 : decode (M_lw_law L xs).2.1 (pc + 1) = .ok (.ifCond .eq off, 3)) (ht : ((pc + 1 : Nat) : Int) + off = (tgt : Int)) (k : zV l d (M_lw_law L xs) tgt ls st τ cs r) : zV l d (M_lw_law L xs) pc ls (.long y :: .long (zq τ 62 0).toInt64 :: st) τ cs r := by
  have e2 : zq τ 62 0 = Int32.ofInt b := by unfold zq; rw [h62]
  rw [hy, e2]
  refine zr_lcmp hd4 ?_
  rw [lg_same]
  exact zi_if_eq (a := 0) tgt hd5 ht ⟨by decide, by decide⟩ (fun _ => k) (fun g => absurd rfl g)
theorem zl_ld (hd1 : decode (M_lw_law L xs).2.1 pc = .ok (.laload, 1)) (k : zV l d (M_lw_law L xs) (pc + 1) ls (.long (zq τ 62 0).toInt64 :: st) τ cs r) : zV l d (M_lw_law L xs) pc ls (vi 0 :: .ref 62 :: st) τ cs r := by
  refine zr_lald (n := 1) hd1 rfl (zin_in (a := 0) (by decide) (by decide) (by decide)) ?_
  have e : (Int32.ofInt 0).toNatClampNeg = 0 := by decide
  show zW l d (M_lw_law L xs) (pc + 1) ls (.long (zq τ 62 (Int32.ofInt 0).toNatClampNeg).toInt64 :: st) (SH, zq τ) cs r
  rw [e]
  exact k
theorem c_lw_law_139 {κ : Int} {a1 a2 : Value} (hre : Nat.ble rest.length 4 = true) (hM : zH l d M_lw_teams ([a1, a2]) τ κ τ') (h1 : cs.1 + 1 ≤ r.2.2.1) (h2 : cs.2 + 6 ≤ r.2.2.2) (k : zV l (d + 1) (M_lw_law L xs) 142 ls (vi κ :: rest) τ' (cs.1 + 1, cs.2 + 6) r) : zV l (d + 1) (M_lw_law L xs) 139 ls (a2 :: a1 :: rest) τ cs r := zr_call (zJ_stat (M := M_lw_law L xs) (as := [a1, a2]) d_lw_law_139 ml_lw_76 sm_lw_teams in_lw cw_lw_teams ⟨by decide, by decide⟩ (n := 2) (by decide +kernel) rfl rfl) hM cw_lw_teams in_lw (by decide) (Nat.le_of_ble_eq_true hre) rfl h1 h2 k
theorem c_lw_law_151 {q : Nat} {fs : List (Option (Option Nat))} {a1 : Value} (hS : SH[q]? = some (.inr (8, fs))) (hre : Nat.ble rest.length 4 = true) (hM : zF l d M_md_teams (.ref q :: [a1]) τ v τ') (h1 : cs.1 ≤ r.2.2.1) (h2 : cs.2 ≤ r.2.2.2) (k : zV l (d + 1) (M_lw_law L xs) 154 ls (v.toList ++ rest) τ' cs r) : zV l (d + 1) (M_lw_law L xs) 151 ls (a1 :: .ref q :: rest) τ cs r := zi_call (zJ_virt (M := M_lw_law L xs) (as := [a1]) d_lw_law_151 zC8 rfl ml_lw_81 im_md_teams sl_md_teams cw_md_teams ⟨by decide, by decide⟩ (n := 1) (by decide +kernel) hS rfl rfl) hM cw_md_teams in_md (by decide) (Nat.le_of_ble_eq_true hre) h1 h2 k
theorem c_lw_law_155 {q : Nat} {fs : List (Option (Option Nat))} (hS : SH[q]? = some (.inr (8, fs))) (hre : Nat.ble rest.length 4 = true) (hM : zF l d M_md_thrown (.ref q :: []) τ v τ') (h1 : cs.1 ≤ r.2.2.1) (h2 : cs.2 ≤ r.2.2.2) (k : zV l (d + 1) (M_lw_law L xs) 158 ls (v.toList ++ rest) τ' cs r) : zV l (d + 1) (M_lw_law L xs) 155 ls (.ref q :: rest) τ cs r := zi_call (zJ_virt (M := M_lw_law L xs) (as := []) d_lw_law_155 zC8 rfl ml_lw_82 im_md_thrown sl_md_thrown cw_md_thrown ⟨by decide, by decide⟩ (n := 0) (by decide +kernel) hS rfl rfl) hM cw_md_thrown in_md (by decide) (Nat.le_of_ble_eq_true hre) h1 h2 k
theorem c_lw_law_188 {κ : Int} {a1 a2 a3 a4 a5 : Value} (hre : Nat.ble rest.length 4 = true) (hM : zH l d M_lw_ban ([a1, a2, a3, a4, a5]) τ κ τ') (h1 : cs.1 + 1 ≤ r.2.2.1) (h2 : cs.2 + 6 ≤ r.2.2.2) (k : zV l (d + 1) (M_lw_law L xs) 191 ls (vi κ :: rest) τ' (cs.1 + 1, cs.2 + 6) r) : zV l (d + 1) (M_lw_law L xs) 188 ls (a5 :: a4 :: a3 :: a2 :: a1 :: rest) τ cs r := zr_call (zJ_stat (M := M_lw_law L xs) (as := [a1, a2, a3, a4, a5]) d_lw_law_188 ml_lw_85 sm_lw_ban in_lw cw_lw_ban ⟨by decide, by decide⟩ (n := 5) (by decide +kernel) rfl rfl) hM cw_lw_ban in_lw (by decide) (Nat.le_of_ble_eq_true hre) rfl h1 h2 k
theorem c_lw_law_212 {q : Nat} {fs : List (Option (Option Nat))} {a1 a2 a3 : Value} (hS : SH[q]? = some (.inr (8, fs))) (hre : Nat.ble rest.length 4 = true) (hM : zF l d M_md_ban (.ref q :: [a1, a2, a3]) τ v τ') (h1 : cs.1 ≤ r.2.2.1) (h2 : cs.2 ≤ r.2.2.2) (k : zV l (d + 1) (M_lw_law L xs) 215 ls (v.toList ++ rest) τ' cs r) : zV l (d + 1) (M_lw_law L xs) 212 ls (a3 :: a2 :: a1 :: .ref q :: rest) τ cs r := zi_call (zJ_virt (M := M_lw_law L xs) (as := [a1, a2, a3]) d_lw_law_212 zC8 rfl ml_lw_88 im_md_ban sl_md_ban cw_md_ban ⟨by decide, by decide⟩ (n := 3) (by decide +kernel) hS rfl rfl) hM cw_md_ban in_md (by decide) (Nat.le_of_ble_eq_true hre) h1 h2 k
theorem c_lw_law_218 {q : Nat} {fs : List (Option (Option Nat))} (hS : SH[q]? = some (.inr (8, fs))) (hre : Nat.ble rest.length 4 = true) (hM : zF l d M_md_thrown (.ref q :: []) τ v τ') (h1 : cs.1 ≤ r.2.2.1) (h2 : cs.2 ≤ r.2.2.2) (k : zV l (d + 1) (M_lw_law L xs) 221 ls (v.toList ++ rest) τ' cs r) : zV l (d + 1) (M_lw_law L xs) 218 ls (.ref q :: rest) τ cs r := zi_call (zJ_virt (M := M_lw_law L xs) (as := []) d_lw_law_218 zC8 rfl ml_lw_82 im_md_thrown sl_md_thrown cw_md_thrown ⟨by decide, by decide⟩ (n := 0) (by decide +kernel) hS rfl rfl) hM cw_md_thrown in_md (by decide) (Nat.le_of_ble_eq_true hre) h1 h2 k
theorem c_lw_law_262 {κ : Int} {a1 a2 a3 a4 : Value} (hre : Nat.ble rest.length 4 = true) (hM : zH l d M_lw_shareGround ([a1, a2, a3, a4]) τ κ τ') (h1 : cs.1 + 1 ≤ r.2.2.1) (h2 : cs.2 + 6 ≤ r.2.2.2) (k : zV l (d + 1) (M_lw_law L xs) 265 ls (vi κ :: rest) τ' (cs.1 + 1, cs.2 + 6) r) : zV l (d + 1) (M_lw_law L xs) 262 ls (a4 :: a3 :: a2 :: a1 :: rest) τ cs r := zr_call (zJ_stat (M := M_lw_law L xs) (as := [a1, a2, a3, a4]) d_lw_law_262 ml_lw_89 sm_lw_shareGround in_lw cw_lw_shareGround ⟨by decide, by decide⟩ (n := 4) (by decide +kernel) rfl rfl) hM cw_lw_shareGround in_lw (by decide) (Nat.le_of_ble_eq_true hre) rfl h1 h2 k
theorem c_lw_law_280 {q : Nat} {fs : List (Option (Option Nat))} {a1 a2 : Value} (hS : SH[q]? = some (.inr (8, fs))) (hre : Nat.ble rest.length 4 = true) (hM : zF l d M_md_shareGround (.ref q :: [a1, a2]) τ v τ') (h1 : cs.1 ≤ r.2.2.1) (h2 : cs.2 ≤ r.2.2.2) (k : zV l (d + 1) (M_lw_law L xs) 283 ls (v.toList ++ rest) τ' cs r) : zV l (d + 1) (M_lw_law L xs) 280 ls (a2 :: a1 :: .ref q :: rest) τ cs r := zi_call (zJ_virt (M := M_lw_law L xs) (as := [a1, a2]) d_lw_law_280 zC8 rfl ml_lw_92 im_md_shareGround sl_md_shareGround cw_md_shareGround ⟨by decide, by decide⟩ (n := 2) (by decide +kernel) hS rfl rfl) hM cw_md_shareGround in_md (by decide) (Nat.le_of_ble_eq_true hre) h1 h2 k
theorem c_lw_law_286 {q : Nat} {fs : List (Option (Option Nat))} (hS : SH[q]? = some (.inr (8, fs))) (hre : Nat.ble rest.length 4 = true) (hM : zF l d M_md_thrown (.ref q :: []) τ v τ') (h1 : cs.1 ≤ r.2.2.1) (h2 : cs.2 ≤ r.2.2.2) (k : zV l (d + 1) (M_lw_law L xs) 289 ls (v.toList ++ rest) τ' cs r) : zV l (d + 1) (M_lw_law L xs) 286 ls (.ref q :: rest) τ cs r := zi_call (zJ_virt (M := M_lw_law L xs) (as := []) d_lw_law_286 zC8 rfl ml_lw_82 im_md_thrown sl_md_thrown cw_md_thrown ⟨by decide, by decide⟩ (n := 0) (by decide +kernel) hS rfl rfl) hM cw_md_thrown in_md (by decide) (Nat.le_of_ble_eq_true hre) h1 h2 k
theorem c_lw_law_336 {κ : Int} {a1 a2 a3 a4 a5 : Value} (hre : Nat.ble rest.length 4 = true) (hM : zH l d M_lw_fixGame ([a1, a2, a3, a4, a5]) τ κ τ') (h1 : cs.1 + 1 ≤ r.2.2.1) (h2 : cs.2 + 6 ≤ r.2.2.2) (k : zV l (d + 1) (M_lw_law L xs) 339 ls (vi κ :: rest) τ' (cs.1 + 1, cs.2 + 6) r) : zV l (d + 1) (M_lw_law L xs) 336 ls (a5 :: a4 :: a3 :: a2 :: a1 :: rest) τ cs r := zr_call (zJ_stat (M := M_lw_law L xs) (as := [a1, a2, a3, a4, a5]) d_lw_law_336 ml_lw_93 sm_lw_fixGame in_lw cw_lw_fixGame ⟨by decide, by decide⟩ (n := 5) (by decide +kernel) rfl rfl) hM cw_lw_fixGame in_lw (by decide) (Nat.le_of_ble_eq_true hre) rfl h1 h2 k
theorem c_lw_law_360 {q : Nat} {fs : List (Option (Option Nat))} {a1 a2 a3 : Value} (hS : SH[q]? = some (.inr (8, fs))) (hre : Nat.ble rest.length 4 = true) (hM : zF l d M_md_fixGame (.ref q :: [a1, a2, a3]) τ v τ') (h1 : cs.1 ≤ r.2.2.1) (h2 : cs.2 ≤ r.2.2.2) (k : zV l (d + 1) (M_lw_law L xs) 363 ls (v.toList ++ rest) τ' cs r) : zV l (d + 1) (M_lw_law L xs) 360 ls (a3 :: a2 :: a1 :: .ref q :: rest) τ cs r := zi_call (zJ_virt (M := M_lw_law L xs) (as := [a1, a2, a3]) d_lw_law_360 zC8 rfl ml_lw_95 im_md_fixGame sl_md_fixGame cw_md_fixGame ⟨by decide, by decide⟩ (n := 3) (by decide +kernel) hS rfl rfl) hM cw_md_fixGame in_md (by decide) (Nat.le_of_ble_eq_true hre) h1 h2 k
theorem c_lw_law_366 {q : Nat} {fs : List (Option (Option Nat))} (hS : SH[q]? = some (.inr (8, fs))) (hre : Nat.ble rest.length 4 = true) (hM : zF l d M_md_thrown (.ref q :: []) τ v τ') (h1 : cs.1 ≤ r.2.2.1) (h2 : cs.2 ≤ r.2.2.2) (k : zV l (d + 1) (M_lw_law L xs) 369 ls (v.toList ++ rest) τ' cs r) : zV l (d + 1) (M_lw_law L xs) 366 ls (.ref q :: rest) τ cs r := zi_call (zJ_virt (M := M_lw_law L xs) (as := []) d_lw_law_366 zC8 rfl ml_lw_82 im_md_thrown sl_md_thrown cw_md_thrown ⟨by decide, by decide⟩ (n := 0) (by decide +kernel) hS rfl rfl) hM cw_md_thrown in_md (by decide) (Nat.le_of_ble_eq_true hre) h1 h2 k
theorem c_lw_law_403 {κ : Int} {a1 a2 : Value} (hre : Nat.ble rest.length 4 = true) (hM : zH l d M_lw_awayCap ([a1, a2]) τ κ τ') (h1 : cs.1 + 1 ≤ r.2.2.1) (h2 : cs.2 + 6 ≤ r.2.2.2) (k : zV l (d + 1) (M_lw_law L xs) 406 ls (vi κ :: rest) τ' (cs.1 + 1, cs.2 + 6) r) : zV l (d + 1) (M_lw_law L xs) 403 ls (a2 :: a1 :: rest) τ cs r := zr_call (zJ_stat (M := M_lw_law L xs) (as := [a1, a2]) d_lw_law_403 ml_lw_96 sm_lw_awayCap in_lw cw_lw_awayCap ⟨by decide, by decide⟩ (n := 2) (by decide +kernel) rfl rfl) hM cw_lw_awayCap in_lw (by decide) (Nat.le_of_ble_eq_true hre) rfl h1 h2 k
theorem c_lw_law_415 {q : Nat} {fs : List (Option (Option Nat))} {a1 : Value} (hS : SH[q]? = some (.inr (8, fs))) (hre : Nat.ble rest.length 4 = true) (hM : zF l d M_md_awayCap (.ref q :: [a1]) τ v τ') (h1 : cs.1 ≤ r.2.2.1) (h2 : cs.2 ≤ r.2.2.2) (k : zV l (d + 1) (M_lw_law L xs) 418 ls (v.toList ++ rest) τ' cs r) : zV l (d + 1) (M_lw_law L xs) 415 ls (a1 :: .ref q :: rest) τ cs r := zi_call (zJ_virt (M := M_lw_law L xs) (as := [a1]) d_lw_law_415 zC8 rfl ml_lw_98 im_md_awayCap sl_md_awayCap cw_md_awayCap ⟨by decide, by decide⟩ (n := 1) (by decide +kernel) hS rfl rfl) hM cw_md_awayCap in_md (by decide) (Nat.le_of_ble_eq_true hre) h1 h2 k
theorem c_lw_law_419 {q : Nat} {fs : List (Option (Option Nat))} (hS : SH[q]? = some (.inr (8, fs))) (hre : Nat.ble rest.length 4 = true) (hM : zF l d M_md_thrown (.ref q :: []) τ v τ') (h1 : cs.1 ≤ r.2.2.1) (h2 : cs.2 ≤ r.2.2.2) (k : zV l (d + 1) (M_lw_law L xs) 422 ls (v.toList ++ rest) τ' cs r) : zV l (d + 1) (M_lw_law L xs) 419 ls (.ref q :: rest) τ cs r := zi_call (zJ_virt (M := M_lw_law L xs) (as := []) d_lw_law_419 zC8 rfl ml_lw_82 im_md_thrown sl_md_thrown cw_md_thrown ⟨by decide, by decide⟩ (n := 0) (by decide +kernel) hS rfl rfl) hM cw_md_thrown in_md (by decide) (Nat.le_of_ble_eq_true hre) h1 h2 k
theorem c_lw_law_447 {q : Nat} {fs : List (Option (Option Nat))} {a1 : Value} (hS : SH[q]? = some (.inr (7, fs))) (hre : Nat.ble rest.length 4 = true) (hM : zF l d M_lr_makePlain (.ref q :: [a1]) τ v τ') (h1 : cs.1 ≤ r.2.2.1) (h2 : cs.2 ≤ r.2.2.2) (k : zV l (d + 1) (M_lw_law L xs) 450 ls (v.toList ++ rest) τ' cs r) : zV l (d + 1) (M_lw_law L xs) 447 ls (a1 :: .ref q :: rest) τ cs r := zi_call (zJ_virt (M := M_lw_law L xs) (as := [a1]) d_lw_law_447 zC7 rfl ml_lw_99 im_lr_makePlain sl_lr_makePlain cw_lr_makePlain ⟨by decide, by decide⟩ (n := 1) (by decide +kernel) hS rfl rfl) hM cw_lr_makePlain in_lr (by decide) (Nat.le_of_ble_eq_true hre) h1 h2 k
theorem c_lw_law_465 {q : Nat} {fs : List (Option (Option Nat))} {a1 : Value} (hS : SH[q]? = some (.inr (8, fs))) (hre : Nat.ble rest.length 4 = true) (hM : zF l d M_md_makePlain (.ref q :: [a1]) τ v τ') (h1 : cs.1 ≤ r.2.2.1) (h2 : cs.2 ≤ r.2.2.2) (k : zV l (d + 1) (M_lw_law L xs) 468 ls (v.toList ++ rest) τ' cs r) : zV l (d + 1) (M_lw_law L xs) 465 ls (a1 :: .ref q :: rest) τ cs r := zi_call (zJ_virt (M := M_lw_law L xs) (as := [a1]) d_lw_law_465 zC8 rfl ml_lw_103 im_md_makePlain sl_md_makePlain cw_md_makePlain ⟨by decide, by decide⟩ (n := 1) (by decide +kernel) hS rfl rfl) hM cw_md_makePlain in_md (by decide) (Nat.le_of_ble_eq_true hre) h1 h2 k
theorem c_lw_law_481 {κ : Int} {a1 a2 a3 : Value} (hre : Nat.ble rest.length 4 = true) (hM : zH l d M_lw_make ([a1, a2, a3]) τ κ τ') (h1 : cs.1 + 1 ≤ r.2.2.1) (h2 : cs.2 + 6 ≤ r.2.2.2) (k : zV l (d + 1) (M_lw_law L xs) 484 ls (vi κ :: rest) τ' (cs.1 + 1, cs.2 + 6) r) : zV l (d + 1) (M_lw_law L xs) 481 ls (a3 :: a2 :: a1 :: rest) τ cs r := zr_call (zJ_stat (M := M_lw_law L xs) (as := [a1, a2, a3]) d_lw_law_481 ml_lw_104 sm_lw_make in_lw cw_lw_make ⟨by decide, by decide⟩ (n := 3) (by decide +kernel) rfl rfl) hM cw_lw_make in_lw (by decide) (Nat.le_of_ble_eq_true hre) rfl h1 h2 k
theorem c_lw_law_493 {q : Nat} {fs : List (Option (Option Nat))} {a1 : Value} (hS : SH[q]? = some (.inr (8, fs))) (hre : Nat.ble rest.length 4 = true) (hM : zF l d M_md_make (.ref q :: [a1]) τ v τ') (h1 : cs.1 ≤ r.2.2.1) (h2 : cs.2 ≤ r.2.2.2) (k : zV l (d + 1) (M_lw_law L xs) 496 ls (v.toList ++ rest) τ' cs r) : zV l (d + 1) (M_lw_law L xs) 493 ls (a1 :: .ref q :: rest) τ cs r := zi_call (zJ_virt (M := M_lw_law L xs) (as := [a1]) d_lw_law_493 zC8 rfl ml_lw_107 im_md_make sl_md_make cw_md_make ⟨by decide, by decide⟩ (n := 1) (by decide +kernel) hS rfl rfl) hM cw_md_make in_md (by decide) (Nat.le_of_ble_eq_true hre) h1 h2 k
theorem c_lw_law_499 {q : Nat} {fs : List (Option (Option Nat))} (hS : SH[q]? = some (.inr (8, fs))) (hre : Nat.ble rest.length 4 = true) (hM : zF l d M_md_thrown (.ref q :: []) τ v τ') (h1 : cs.1 ≤ r.2.2.1) (h2 : cs.2 ≤ r.2.2.2) (k : zV l (d + 1) (M_lw_law L xs) 502 ls (v.toList ++ rest) τ' cs r) : zV l (d + 1) (M_lw_law L xs) 499 ls (.ref q :: rest) τ cs r := zi_call (zJ_virt (M := M_lw_law L xs) (as := []) d_lw_law_499 zC8 rfl ml_lw_82 im_md_thrown sl_md_thrown cw_md_thrown ⟨by decide, by decide⟩ (n := 0) (by decide +kernel) hS rfl rfl) hM cw_md_thrown in_md (by decide) (Nat.le_of_ble_eq_true hre) h1 h2 k
theorem c_lw_law_530 {q : Nat} {fs : List (Option (Option Nat))} (hS : SH[q]? = some (.inr (7, fs))) (hre : Nat.ble rest.length 4 = true) (hM : zF l d M_lr_rounds (.ref q :: []) τ v τ') (h1 : cs.1 ≤ r.2.2.1) (h2 : cs.2 ≤ r.2.2.2) (k : zV l (d + 1) (M_lw_law L xs) 533 ls (v.toList ++ rest) τ' cs r) : zV l (d + 1) (M_lw_law L xs) 530 ls (.ref q :: rest) τ cs r := zi_call (zJ_virt (M := M_lw_law L xs) (as := []) d_lw_law_530 zC7 rfl ml_lw_108 im_lr_rounds sl_lr_rounds cw_lr_rounds ⟨by decide, by decide⟩ (n := 0) (by decide +kernel) hS rfl rfl) hM cw_lr_rounds in_lr (by decide) (Nat.le_of_ble_eq_true hre) h1 h2 k
theorem c_lw_law_534 {q : Nat} {fs : List (Option (Option Nat))} (hS : SH[q]? = some (.inr (8, fs))) (hre : Nat.ble rest.length 4 = true) (hM : zF l d M_md_rounds (.ref q :: []) τ v τ') (h1 : cs.1 ≤ r.2.2.1) (h2 : cs.2 ≤ r.2.2.2) (k : zV l (d + 1) (M_lw_law L xs) 537 ls (v.toList ++ rest) τ' cs r) : zV l (d + 1) (M_lw_law L xs) 534 ls (.ref q :: rest) τ cs r := zi_call (zJ_virt (M := M_lw_law L xs) (as := []) d_lw_law_534 zC8 rfl ml_lw_111 im_md_rounds sl_md_rounds cw_md_rounds ⟨by decide, by decide⟩ (n := 0) (by decide +kernel) hS rfl rfl) hM cw_md_rounds in_md (by decide) (Nat.le_of_ble_eq_true hre) h1 h2 k
theorem c_lw_law_556 {κ : Int} {a1 a2 a3 a4 : Value} (hre : Nat.ble rest.length 4 = true) (hM : zH l d M_lw_opponent ([a1, a2, a3, a4]) τ κ τ') (h1 : cs.1 + 1 ≤ r.2.2.1) (h2 : cs.2 + 6 ≤ r.2.2.2) (k : zV l (d + 1) (M_lw_law L xs) 559 ls (vi κ :: rest) τ' (cs.1 + 1, cs.2 + 6) r) : zV l (d + 1) (M_lw_law L xs) 556 ls (a4 :: a3 :: a2 :: a1 :: rest) τ cs r := zr_call (zJ_stat (M := M_lw_law L xs) (as := [a1, a2, a3, a4]) d_lw_law_556 ml_lw_112 sm_lw_opponent in_lw cw_lw_opponent ⟨by decide, by decide⟩ (n := 4) (by decide +kernel) rfl rfl) hM cw_lw_opponent in_lw (by decide) (Nat.le_of_ble_eq_true hre) rfl h1 h2 k
theorem c_lw_law_574 {q : Nat} {fs : List (Option (Option Nat))} {a1 a2 : Value} (hS : SH[q]? = some (.inr (8, fs))) (hre : Nat.ble rest.length 4 = true) (hM : zF l d M_md_opponent (.ref q :: [a1, a2]) τ v τ') (h1 : cs.1 ≤ r.2.2.1) (h2 : cs.2 ≤ r.2.2.2) (k : zV l (d + 1) (M_lw_law L xs) 577 ls (v.toList ++ rest) τ' cs r) : zV l (d + 1) (M_lw_law L xs) 574 ls (a2 :: a1 :: .ref q :: rest) τ cs r := zi_call (zJ_virt (M := M_lw_law L xs) (as := [a1, a2]) d_lw_law_574 zC8 rfl ml_lw_114 im_md_opponent sl_md_opponent cw_md_opponent ⟨by decide, by decide⟩ (n := 2) (by decide +kernel) hS rfl rfl) hM cw_md_opponent in_md (by decide) (Nat.le_of_ble_eq_true hre) h1 h2 k
theorem c_lw_law_580 {q : Nat} {fs : List (Option (Option Nat))} (hS : SH[q]? = some (.inr (8, fs))) (hre : Nat.ble rest.length 4 = true) (hM : zF l d M_md_thrown (.ref q :: []) τ v τ') (h1 : cs.1 ≤ r.2.2.1) (h2 : cs.2 ≤ r.2.2.2) (k : zV l (d + 1) (M_lw_law L xs) 583 ls (v.toList ++ rest) τ' cs r) : zV l (d + 1) (M_lw_law L xs) 580 ls (.ref q :: rest) τ cs r := zi_call (zJ_virt (M := M_lw_law L xs) (as := []) d_lw_law_580 zC8 rfl ml_lw_82 im_md_thrown sl_md_thrown cw_md_thrown ⟨by decide, by decide⟩ (n := 0) (by decide +kernel) hS rfl rfl) hM cw_md_thrown in_md (by decide) (Nat.le_of_ble_eq_true hre) h1 h2 k
theorem c_lw_law_624 {κ : Int} {a1 a2 a3 a4 : Value} (hre : Nat.ble rest.length 4 = true) (hM : zH l d M_lw_venue ([a1, a2, a3, a4]) τ κ τ') (h1 : cs.1 + 1 ≤ r.2.2.1) (h2 : cs.2 + 6 ≤ r.2.2.2) (k : zV l (d + 1) (M_lw_law L xs) 627 ls (vi κ :: rest) τ' (cs.1 + 1, cs.2 + 6) r) : zV l (d + 1) (M_lw_law L xs) 624 ls (a4 :: a3 :: a2 :: a1 :: rest) τ cs r := zr_call (zJ_stat (M := M_lw_law L xs) (as := [a1, a2, a3, a4]) d_lw_law_624 ml_lw_115 sm_lw_venue in_lw cw_lw_venue ⟨by decide, by decide⟩ (n := 4) (by decide +kernel) rfl rfl) hM cw_lw_venue in_lw (by decide) (Nat.le_of_ble_eq_true hre) rfl h1 h2 k
theorem c_lw_law_642 {q : Nat} {fs : List (Option (Option Nat))} {a1 a2 : Value} (hS : SH[q]? = some (.inr (8, fs))) (hre : Nat.ble rest.length 4 = true) (hM : zF l d M_md_venue (.ref q :: [a1, a2]) τ v τ') (h1 : cs.1 ≤ r.2.2.1) (h2 : cs.2 ≤ r.2.2.2) (k : zV l (d + 1) (M_lw_law L xs) 645 ls (v.toList ++ rest) τ' cs r) : zV l (d + 1) (M_lw_law L xs) 642 ls (a2 :: a1 :: .ref q :: rest) τ cs r := zi_call (zJ_virt (M := M_lw_law L xs) (as := [a1, a2]) d_lw_law_642 zC8 rfl ml_lw_117 im_md_venue sl_md_venue cw_md_venue ⟨by decide, by decide⟩ (n := 2) (by decide +kernel) hS rfl rfl) hM cw_md_venue in_md (by decide) (Nat.le_of_ble_eq_true hre) h1 h2 k
theorem c_lw_law_648 {q : Nat} {fs : List (Option (Option Nat))} (hS : SH[q]? = some (.inr (8, fs))) (hre : Nat.ble rest.length 4 = true) (hM : zF l d M_md_thrown (.ref q :: []) τ v τ') (h1 : cs.1 ≤ r.2.2.1) (h2 : cs.2 ≤ r.2.2.2) (k : zV l (d + 1) (M_lw_law L xs) 651 ls (v.toList ++ rest) τ' cs r) : zV l (d + 1) (M_lw_law L xs) 648 ls (.ref q :: rest) τ cs r := zi_call (zJ_virt (M := M_lw_law L xs) (as := []) d_lw_law_648 zC8 rfl ml_lw_82 im_md_thrown sl_md_thrown cw_md_thrown ⟨by decide, by decide⟩ (n := 0) (by decide +kernel) hS rfl rfl) hM cw_md_thrown in_md (by decide) (Nat.le_of_ble_eq_true hre) h1 h2 k
theorem c_lw_law_686 {κ : Int} {a1 a2 a3 : Value} (hre : Nat.ble rest.length 4 = true) (hM : zH l d M_lw_breaks ([a1, a2, a3]) τ κ τ') (h1 : cs.1 + 1 ≤ r.2.2.1) (h2 : cs.2 + 6 ≤ r.2.2.2) (k : zV l (d + 1) (M_lw_law L xs) 689 ls (vi κ :: rest) τ' (cs.1 + 1, cs.2 + 6) r) : zV l (d + 1) (M_lw_law L xs) 686 ls (a3 :: a2 :: a1 :: rest) τ cs r := zr_call (zJ_stat (M := M_lw_law L xs) (as := [a1, a2, a3]) d_lw_law_686 ml_lw_118 sm_lw_breaks in_lw cw_lw_breaks ⟨by decide, by decide⟩ (n := 3) (by decide +kernel) rfl rfl) hM cw_lw_breaks in_lw (by decide) (Nat.le_of_ble_eq_true hre) rfl h1 h2 k
theorem c_lw_law_698 {q : Nat} {fs : List (Option (Option Nat))} {a1 : Value} (hS : SH[q]? = some (.inr (8, fs))) (hre : Nat.ble rest.length 4 = true) (hM : zF l d M_md_breaks (.ref q :: [a1]) τ v τ') (h1 : cs.1 ≤ r.2.2.1) (h2 : cs.2 ≤ r.2.2.2) (k : zV l (d + 1) (M_lw_law L xs) 701 ls (v.toList ++ rest) τ' cs r) : zV l (d + 1) (M_lw_law L xs) 698 ls (a1 :: .ref q :: rest) τ cs r := zi_call (zJ_virt (M := M_lw_law L xs) (as := [a1]) d_lw_law_698 zC8 rfl ml_lw_120 im_md_breaks sl_md_breaks cw_md_breaks ⟨by decide, by decide⟩ (n := 1) (by decide +kernel) hS rfl rfl) hM cw_md_breaks in_md (by decide) (Nat.le_of_ble_eq_true hre) h1 h2 k
theorem c_lw_law_704 {q : Nat} {fs : List (Option (Option Nat))} (hS : SH[q]? = some (.inr (8, fs))) (hre : Nat.ble rest.length 4 = true) (hM : zF l d M_md_thrown (.ref q :: []) τ v τ') (h1 : cs.1 ≤ r.2.2.1) (h2 : cs.2 ≤ r.2.2.2) (k : zV l (d + 1) (M_lw_law L xs) 707 ls (v.toList ++ rest) τ' cs r) : zV l (d + 1) (M_lw_law L xs) 704 ls (.ref q :: rest) τ cs r := zi_call (zJ_virt (M := M_lw_law L xs) (as := []) d_lw_law_704 zC8 rfl ml_lw_82 im_md_thrown sl_md_thrown cw_md_thrown ⟨by decide, by decide⟩ (n := 0) (by decide +kernel) hS rfl rfl) hM cw_md_thrown in_md (by decide) (Nat.le_of_ble_eq_true hre) h1 h2 k
theorem c_lw_law_735 {q : Nat} {fs : List (Option (Option Nat))} (hS : SH[q]? = some (.inr (7, fs))) (hre : Nat.ble rest.length 4 = true) (hM : zF l d M_lr_verify (.ref q :: []) τ v τ') (h1 : cs.1 ≤ r.2.2.1) (h2 : cs.2 ≤ r.2.2.2) (k : zV l (d + 1) (M_lw_law L xs) 738 ls (v.toList ++ rest) τ' cs r) : zV l (d + 1) (M_lw_law L xs) 735 ls (.ref q :: rest) τ cs r := zi_call (zJ_virt (M := M_lw_law L xs) (as := []) d_lw_law_735 zC7 rfl ml_lw_121 im_lr_verify sl_lr_verify cw_lr_verify ⟨by decide, by decide⟩ (n := 0) (by decide +kernel) hS rfl rfl) hM cw_lr_verify in_lr (by decide) (Nat.le_of_ble_eq_true hre) h1 h2 k
theorem c_lw_law_739 {q : Nat} {fs : List (Option (Option Nat))} (hS : SH[q]? = some (.inr (8, fs))) (hre : Nat.ble rest.length 4 = true) (hM : zF l d M_md_verify (.ref q :: []) τ v τ') (h1 : cs.1 ≤ r.2.2.1) (h2 : cs.2 ≤ r.2.2.2) (k : zV l (d + 1) (M_lw_law L xs) 742 ls (v.toList ++ rest) τ' cs r) : zV l (d + 1) (M_lw_law L xs) 739 ls (.ref q :: rest) τ cs r := zi_call (zJ_virt (M := M_lw_law L xs) (as := []) d_lw_law_739 zC8 rfl ml_lw_124 im_md_verify sl_md_verify cw_md_verify ⟨by decide, by decide⟩ (n := 0) (by decide +kernel) hS rfl rfl) hM cw_md_verify in_md (by decide) (Nat.le_of_ble_eq_true hre) h1 h2 k
theorem c_lw_law_761 {κ : Int} {a1 a2 a3 a4 : Value} (hre : Nat.ble rest.length 4 = true) (hM : zH l d M_lw_swapRounds ([a1, a2, a3, a4]) τ κ τ') (h1 : cs.1 + 1 ≤ r.2.2.1) (h2 : cs.2 + 6 ≤ r.2.2.2) (k : zV l (d + 1) (M_lw_law L xs) 764 ls (vi κ :: rest) τ' (cs.1 + 1, cs.2 + 6) r) : zV l (d + 1) (M_lw_law L xs) 761 ls (a4 :: a3 :: a2 :: a1 :: rest) τ cs r := zr_call (zJ_stat (M := M_lw_law L xs) (as := [a1, a2, a3, a4]) d_lw_law_761 ml_lw_125 sm_lw_swapRounds in_lw cw_lw_swapRounds ⟨by decide, by decide⟩ (n := 4) (by decide +kernel) rfl rfl) hM cw_lw_swapRounds in_lw (by decide) (Nat.le_of_ble_eq_true hre) rfl h1 h2 k
theorem c_lw_law_779 {q : Nat} {fs : List (Option (Option Nat))} {a1 a2 : Value} (hS : SH[q]? = some (.inr (8, fs))) (hre : Nat.ble rest.length 4 = true) (hM : zF l d M_md_swapRounds (.ref q :: [a1, a2]) τ v τ') (h1 : cs.1 ≤ r.2.2.1) (h2 : cs.2 ≤ r.2.2.2) (k : zV l (d + 1) (M_lw_law L xs) 782 ls (v.toList ++ rest) τ' cs r) : zV l (d + 1) (M_lw_law L xs) 779 ls (a2 :: a1 :: .ref q :: rest) τ cs r := zi_call (zJ_virt (M := M_lw_law L xs) (as := [a1, a2]) d_lw_law_779 zC8 rfl ml_lw_127 im_md_swapRounds sl_md_swapRounds cw_md_swapRounds ⟨by decide, by decide⟩ (n := 2) (by decide +kernel) hS rfl rfl) hM cw_md_swapRounds in_md (by decide) (Nat.le_of_ble_eq_true hre) h1 h2 k
theorem c_lw_law_785 {q : Nat} {fs : List (Option (Option Nat))} (hS : SH[q]? = some (.inr (8, fs))) (hre : Nat.ble rest.length 4 = true) (hM : zF l d M_md_thrown (.ref q :: []) τ v τ') (h1 : cs.1 ≤ r.2.2.1) (h2 : cs.2 ≤ r.2.2.2) (k : zV l (d + 1) (M_lw_law L xs) 788 ls (v.toList ++ rest) τ' cs r) : zV l (d + 1) (M_lw_law L xs) 785 ls (.ref q :: rest) τ cs r := zi_call (zJ_virt (M := M_lw_law L xs) (as := []) d_lw_law_785 zC8 rfl ml_lw_82 im_md_thrown sl_md_thrown cw_md_thrown ⟨by decide, by decide⟩ (n := 0) (by decide +kernel) hS rfl rfl) hM cw_md_thrown in_md (by decide) (Nat.le_of_ble_eq_true hre) h1 h2 k
theorem c_lw_law_848 {κ : Int} {a1 a2 a3 a4 a5 a6 : Value} (hre : Nat.ble rest.length 4 = true) (hM : zH l d M_lw_result ([a1, a2, a3, a4, a5, a6]) τ κ τ') (h1 : cs.1 + 1 ≤ r.2.2.1) (h2 : cs.2 + 6 ≤ r.2.2.2) (k : zV l (d + 1) (M_lw_law L xs) 851 ls (vi κ :: rest) τ' (cs.1 + 1, cs.2 + 6) r) : zV l (d + 1) (M_lw_law L xs) 848 ls (a6 :: a5 :: a4 :: a3 :: a2 :: a1 :: rest) τ cs r := zr_call (zJ_stat (M := M_lw_law L xs) (as := [a1, a2, a3, a4, a5, a6]) d_lw_law_848 ml_lw_128 sm_lw_result in_lw cw_lw_result ⟨by decide, by decide⟩ (n := 6) (by decide +kernel) rfl rfl) hM cw_lw_result in_lw (by decide) (Nat.le_of_ble_eq_true hre) rfl h1 h2 k
theorem c_lw_law_878 {q : Nat} {fs : List (Option (Option Nat))} {a1 a2 a3 a4 : Value} (hS : SH[q]? = some (.inr (8, fs))) (hre : Nat.ble rest.length 4 = true) (hM : zF l d M_md_result (.ref q :: [a1, a2, a3, a4]) τ v τ') (h1 : cs.1 ≤ r.2.2.1) (h2 : cs.2 ≤ r.2.2.2) (k : zV l (d + 1) (M_lw_law L xs) 881 ls (v.toList ++ rest) τ' cs r) : zV l (d + 1) (M_lw_law L xs) 878 ls (a4 :: a3 :: a2 :: a1 :: .ref q :: rest) τ cs r := zi_call (zJ_virt (M := M_lw_law L xs) (as := [a1, a2, a3, a4]) d_lw_law_878 zC8 rfl ml_lw_131 im_md_result sl_md_result cw_md_result ⟨by decide, by decide⟩ (n := 4) (by decide +kernel) hS rfl rfl) hM cw_md_result in_md (by decide) (Nat.le_of_ble_eq_true hre) h1 h2 k
theorem c_lw_law_884 {q : Nat} {fs : List (Option (Option Nat))} (hS : SH[q]? = some (.inr (8, fs))) (hre : Nat.ble rest.length 4 = true) (hM : zF l d M_md_thrown (.ref q :: []) τ v τ') (h1 : cs.1 ≤ r.2.2.1) (h2 : cs.2 ≤ r.2.2.2) (k : zV l (d + 1) (M_lw_law L xs) 887 ls (v.toList ++ rest) τ' cs r) : zV l (d + 1) (M_lw_law L xs) 884 ls (.ref q :: rest) τ cs r := zi_call (zJ_virt (M := M_lw_law L xs) (as := []) d_lw_law_884 zC8 rfl ml_lw_82 im_md_thrown sl_md_thrown cw_md_thrown ⟨by decide, by decide⟩ (n := 0) (by decide +kernel) hS rfl rfl) hM cw_md_thrown in_md (by decide) (Nat.le_of_ble_eq_true hre) h1 h2 k
theorem c_lw_law_928 {κ : Int} {a1 a2 a3 a4 : Value} (hre : Nat.ble rest.length 4 = true) (hM : zH l d M_lw_table ([a1, a2, a3, a4]) τ κ τ') (h1 : cs.1 + 1 ≤ r.2.2.1) (h2 : cs.2 + 6 ≤ r.2.2.2) (k : zV l (d + 1) (M_lw_law L xs) 931 ls (vi κ :: rest) τ' (cs.1 + 1, cs.2 + 6) r) : zV l (d + 1) (M_lw_law L xs) 928 ls (a4 :: a3 :: a2 :: a1 :: rest) τ cs r := zr_call (zJ_stat (M := M_lw_law L xs) (as := [a1, a2, a3, a4]) d_lw_law_928 ml_lw_132 sm_lw_table in_lw cw_lw_table ⟨by decide, by decide⟩ (n := 4) (by decide +kernel) rfl rfl) hM cw_lw_table in_lw (by decide) (Nat.le_of_ble_eq_true hre) rfl h1 h2 k
theorem c_lw_law_946 {q : Nat} {fs : List (Option (Option Nat))} {a1 a2 : Value} (hS : SH[q]? = some (.inr (8, fs))) (hre : Nat.ble rest.length 4 = true) (hM : zF l d M_md_table (.ref q :: [a1, a2]) τ v τ') (h1 : cs.1 ≤ r.2.2.1) (h2 : cs.2 ≤ r.2.2.2) (k : zV l (d + 1) (M_lw_law L xs) 949 ls (v.toList ++ rest) τ' cs r) : zV l (d + 1) (M_lw_law L xs) 946 ls (a2 :: a1 :: .ref q :: rest) τ cs r := zi_call (zJ_virt (M := M_lw_law L xs) (as := [a1, a2]) d_lw_law_946 zC8 rfl ml_lw_134 im_md_table sl_md_table cw_md_table ⟨by decide, by decide⟩ (n := 2) (by decide +kernel) hS rfl rfl) hM cw_md_table in_md (by decide) (Nat.le_of_ble_eq_true hre) h1 h2 k
theorem c_lw_law_952 {q : Nat} {fs : List (Option (Option Nat))} (hS : SH[q]? = some (.inr (8, fs))) (hre : Nat.ble rest.length 4 = true) (hM : zF l d M_md_thrown (.ref q :: []) τ v τ') (h1 : cs.1 ≤ r.2.2.1) (h2 : cs.2 ≤ r.2.2.2) (k : zV l (d + 1) (M_lw_law L xs) 955 ls (v.toList ++ rest) τ' cs r) : zV l (d + 1) (M_lw_law L xs) 952 ls (.ref q :: rest) τ cs r := zi_call (zJ_virt (M := M_lw_law L xs) (as := []) d_lw_law_952 zC8 rfl ml_lw_82 im_md_thrown sl_md_thrown cw_md_thrown ⟨by decide, by decide⟩ (n := 0) (by decide +kernel) hS rfl rfl) hM cw_md_thrown in_md (by decide) (Nat.le_of_ble_eq_true hre) h1 h2 k
theorem c_lw_law_990 {κ : Int} {a1 a2 a3 : Value} (hre : Nat.ble rest.length 4 = true) (hM : zH l d M_lw_washOut ([a1, a2, a3]) τ κ τ') (h1 : cs.1 + 1 ≤ r.2.2.1) (h2 : cs.2 + 6 ≤ r.2.2.2) (k : zV l (d + 1) (M_lw_law L xs) 993 ls (vi κ :: rest) τ' (cs.1 + 1, cs.2 + 6) r) : zV l (d + 1) (M_lw_law L xs) 990 ls (a3 :: a2 :: a1 :: rest) τ cs r := zr_call (zJ_stat (M := M_lw_law L xs) (as := [a1, a2, a3]) d_lw_law_990 ml_lw_135 sm_lw_washOut in_lw cw_lw_washOut ⟨by decide, by decide⟩ (n := 3) (by decide +kernel) rfl rfl) hM cw_lw_washOut in_lw (by decide) (Nat.le_of_ble_eq_true hre) rfl h1 h2 k
theorem c_lw_law_1002 {q : Nat} {fs : List (Option (Option Nat))} {a1 : Value} (hS : SH[q]? = some (.inr (8, fs))) (hre : Nat.ble rest.length 4 = true) (hM : zF l d M_md_washOut (.ref q :: [a1]) τ v τ') (h1 : cs.1 ≤ r.2.2.1) (h2 : cs.2 ≤ r.2.2.2) (k : zV l (d + 1) (M_lw_law L xs) 1005 ls (v.toList ++ rest) τ' cs r) : zV l (d + 1) (M_lw_law L xs) 1002 ls (a1 :: .ref q :: rest) τ cs r := zi_call (zJ_virt (M := M_lw_law L xs) (as := [a1]) d_lw_law_1002 zC8 rfl ml_lw_137 im_md_washOut sl_md_washOut cw_md_washOut ⟨by decide, by decide⟩ (n := 1) (by decide +kernel) hS rfl rfl) hM cw_md_washOut in_md (by decide) (Nat.le_of_ble_eq_true hre) h1 h2 k
theorem c_lw_law_1008 {q : Nat} {fs : List (Option (Option Nat))} (hS : SH[q]? = some (.inr (8, fs))) (hre : Nat.ble rest.length 4 = true) (hM : zF l d M_md_thrown (.ref q :: []) τ v τ') (h1 : cs.1 ≤ r.2.2.1) (h2 : cs.2 ≤ r.2.2.2) (k : zV l (d + 1) (M_lw_law L xs) 1011 ls (v.toList ++ rest) τ' cs r) : zV l (d + 1) (M_lw_law L xs) 1008 ls (.ref q :: rest) τ cs r := zi_call (zJ_virt (M := M_lw_law L xs) (as := []) d_lw_law_1008 zC8 rfl ml_lw_82 im_md_thrown sl_md_thrown cw_md_thrown ⟨by decide, by decide⟩ (n := 0) (by decide +kernel) hS rfl rfl) hM cw_md_thrown in_md (by decide) (Nat.le_of_ble_eq_true hre) h1 h2 k
theorem c_lw_law_1046 {κ : Int} {a1 a2 a3 : Value} (hre : Nat.ble rest.length 4 = true) (hM : zH l d M_lw_reserve ([a1, a2, a3]) τ κ τ') (h1 : cs.1 + 1 ≤ r.2.2.1) (h2 : cs.2 + 6 ≤ r.2.2.2) (k : zV l (d + 1) (M_lw_law L xs) 1049 ls (vi κ :: rest) τ' (cs.1 + 1, cs.2 + 6) r) : zV l (d + 1) (M_lw_law L xs) 1046 ls (a3 :: a2 :: a1 :: rest) τ cs r := zr_call (zJ_stat (M := M_lw_law L xs) (as := [a1, a2, a3]) d_lw_law_1046 ml_lw_138 sm_lw_reserve in_lw cw_lw_reserve ⟨by decide, by decide⟩ (n := 3) (by decide +kernel) rfl rfl) hM cw_lw_reserve in_lw (by decide) (Nat.le_of_ble_eq_true hre) rfl h1 h2 k
theorem c_lw_law_1058 {q : Nat} {fs : List (Option (Option Nat))} {a1 : Value} (hS : SH[q]? = some (.inr (8, fs))) (hre : Nat.ble rest.length 4 = true) (hM : zF l d M_md_reserve (.ref q :: [a1]) τ v τ') (h1 : cs.1 ≤ r.2.2.1) (h2 : cs.2 ≤ r.2.2.2) (k : zV l (d + 1) (M_lw_law L xs) 1061 ls (v.toList ++ rest) τ' cs r) : zV l (d + 1) (M_lw_law L xs) 1058 ls (a1 :: .ref q :: rest) τ cs r := zi_call (zJ_virt (M := M_lw_law L xs) (as := [a1]) d_lw_law_1058 zC8 rfl ml_lw_140 im_md_reserve sl_md_reserve cw_md_reserve ⟨by decide, by decide⟩ (n := 1) (by decide +kernel) hS rfl rfl) hM cw_md_reserve in_md (by decide) (Nat.le_of_ble_eq_true hre) h1 h2 k
theorem c_lw_law_1064 {q : Nat} {fs : List (Option (Option Nat))} (hS : SH[q]? = some (.inr (8, fs))) (hre : Nat.ble rest.length 4 = true) (hM : zF l d M_md_thrown (.ref q :: []) τ v τ') (h1 : cs.1 ≤ r.2.2.1) (h2 : cs.2 ≤ r.2.2.2) (k : zV l (d + 1) (M_lw_law L xs) 1067 ls (v.toList ++ rest) τ' cs r) : zV l (d + 1) (M_lw_law L xs) 1064 ls (.ref q :: rest) τ cs r := zi_call (zJ_virt (M := M_lw_law L xs) (as := []) d_lw_law_1064 zC8 rfl ml_lw_82 im_md_thrown sl_md_thrown cw_md_thrown ⟨by decide, by decide⟩ (n := 0) (by decide +kernel) hS rfl rfl) hM cw_md_thrown in_md (by decide) (Nat.le_of_ble_eq_true hre) h1 h2 k
theorem c_lw_law_1095 {q : Nat} {fs : List (Option (Option Nat))} (hS : SH[q]? = some (.inr (7, fs))) (hre : Nat.ble rest.length 4 = true) (hM : zF l d M_lr_missing (.ref q :: []) τ v τ') (h1 : cs.1 ≤ r.2.2.1) (h2 : cs.2 ≤ r.2.2.2) (k : zV l (d + 1) (M_lw_law L xs) 1098 ls (v.toList ++ rest) τ' cs r) : zV l (d + 1) (M_lw_law L xs) 1095 ls (.ref q :: rest) τ cs r := zi_call (zJ_virt (M := M_lw_law L xs) (as := []) d_lw_law_1095 zC7 rfl ml_lw_141 im_lr_missing sl_lr_missing cw_lr_missing ⟨by decide, by decide⟩ (n := 0) (by decide +kernel) hS rfl rfl) hM cw_lr_missing in_lr (by decide) (Nat.le_of_ble_eq_true hre) h1 h2 k
theorem c_lw_law_1099 {q : Nat} {fs : List (Option (Option Nat))} (hS : SH[q]? = some (.inr (8, fs))) (hre : Nat.ble rest.length 4 = true) (hM : zF l d M_md_missing (.ref q :: []) τ v τ') (h1 : cs.1 ≤ r.2.2.1) (h2 : cs.2 ≤ r.2.2.2) (k : zV l (d + 1) (M_lw_law L xs) 1102 ls (v.toList ++ rest) τ' cs r) : zV l (d + 1) (M_lw_law L xs) 1099 ls (.ref q :: rest) τ cs r := zi_call (zJ_virt (M := M_lw_law L xs) (as := []) d_lw_law_1099 zC8 rfl ml_lw_144 im_md_missing sl_md_missing cw_md_missing ⟨by decide, by decide⟩ (n := 0) (by decide +kernel) hS rfl rfl) hM cw_md_missing in_md (by decide) (Nat.le_of_ble_eq_true hre) h1 h2 k
theorem c_lw_law_1109 {κ : Int} {a1 a2 : Value} (hre : Nat.ble rest.length 4 = true) (hM : zH l d M_lw_catchUp ([a1, a2]) τ κ τ') (h1 : cs.1 + 1 ≤ r.2.2.1) (h2 : cs.2 + 6 ≤ r.2.2.2) (k : zV l (d + 1) (M_lw_law L xs) 1112 ls (vi κ :: rest) τ' (cs.1 + 1, cs.2 + 6) r) : zV l (d + 1) (M_lw_law L xs) 1109 ls (a2 :: a1 :: rest) τ cs r := zr_call (zJ_stat (M := M_lw_law L xs) (as := [a1, a2]) d_lw_law_1109 ml_lw_145 sm_lw_catchUp in_lw cw_lw_catchUp ⟨by decide, by decide⟩ (n := 2) (by decide +kernel) rfl rfl) hM cw_lw_catchUp in_lw (by decide) (Nat.le_of_ble_eq_true hre) rfl h1 h2 k
theorem c_lw_law_1115 {q : Nat} {fs : List (Option (Option Nat))} (hS : SH[q]? = some (.inr (8, fs))) (hre : Nat.ble rest.length 4 = true) (hM : zF l d M_md_catchUp (.ref q :: []) τ v τ') (h1 : cs.1 ≤ r.2.2.1) (h2 : cs.2 ≤ r.2.2.2) (k : zV l (d + 1) (M_lw_law L xs) 1118 ls (v.toList ++ rest) τ' cs r) : zV l (d + 1) (M_lw_law L xs) 1115 ls (.ref q :: rest) τ cs r := zi_call (zJ_virt (M := M_lw_law L xs) (as := []) d_lw_law_1115 zC8 rfl ml_lw_148 im_md_catchUp sl_md_catchUp cw_md_catchUp ⟨by decide, by decide⟩ (n := 0) (by decide +kernel) hS rfl rfl) hM cw_md_catchUp in_md (by decide) (Nat.le_of_ble_eq_true hre) h1 h2 k
theorem c_lw_law_1121 {q : Nat} {fs : List (Option (Option Nat))} (hS : SH[q]? = some (.inr (8, fs))) (hre : Nat.ble rest.length 4 = true) (hM : zF l d M_md_thrown (.ref q :: []) τ v τ') (h1 : cs.1 ≤ r.2.2.1) (h2 : cs.2 ≤ r.2.2.2) (k : zV l (d + 1) (M_lw_law L xs) 1124 ls (v.toList ++ rest) τ' cs r) : zV l (d + 1) (M_lw_law L xs) 1121 ls (.ref q :: rest) τ cs r := zi_call (zJ_virt (M := M_lw_law L xs) (as := []) d_lw_law_1121 zC8 rfl ml_lw_82 im_md_thrown sl_md_thrown cw_md_thrown ⟨by decide, by decide⟩ (n := 0) (by decide +kernel) hS rfl rfl) hM cw_md_thrown in_md (by decide) (Nat.le_of_ble_eq_true hre) h1 h2 k
theorem c_lw_law_1165 {κ : Int} {a1 a2 a3 a4 : Value} (hre : Nat.ble rest.length 4 = true) (hM : zH l d M_lw_catchDate ([a1, a2, a3, a4]) τ κ τ') (h1 : cs.1 + 1 ≤ r.2.2.1) (h2 : cs.2 + 6 ≤ r.2.2.2) (k : zV l (d + 1) (M_lw_law L xs) 1168 ls (vi κ :: rest) τ' (cs.1 + 1, cs.2 + 6) r) : zV l (d + 1) (M_lw_law L xs) 1165 ls (a4 :: a3 :: a2 :: a1 :: rest) τ cs r := zr_call (zJ_stat (M := M_lw_law L xs) (as := [a1, a2, a3, a4]) d_lw_law_1165 ml_lw_149 sm_lw_catchDate in_lw cw_lw_catchDate ⟨by decide, by decide⟩ (n := 4) (by decide +kernel) rfl rfl) hM cw_lw_catchDate in_lw (by decide) (Nat.le_of_ble_eq_true hre) rfl h1 h2 k
theorem c_lw_law_1183 {q : Nat} {fs : List (Option (Option Nat))} {a1 a2 : Value} (hS : SH[q]? = some (.inr (8, fs))) (hre : Nat.ble rest.length 4 = true) (hM : zF l d M_md_catchDate (.ref q :: [a1, a2]) τ v τ') (h1 : cs.1 ≤ r.2.2.1) (h2 : cs.2 ≤ r.2.2.2) (k : zV l (d + 1) (M_lw_law L xs) 1186 ls (v.toList ++ rest) τ' cs r) : zV l (d + 1) (M_lw_law L xs) 1183 ls (a2 :: a1 :: .ref q :: rest) τ cs r := zi_call (zJ_virt (M := M_lw_law L xs) (as := [a1, a2]) d_lw_law_1183 zC8 rfl ml_lw_151 im_md_catchDate sl_md_catchDate cw_md_catchDate ⟨by decide, by decide⟩ (n := 2) (by decide +kernel) hS rfl rfl) hM cw_md_catchDate in_md (by decide) (Nat.le_of_ble_eq_true hre) h1 h2 k
theorem c_lw_law_1189 {q : Nat} {fs : List (Option (Option Nat))} (hS : SH[q]? = some (.inr (8, fs))) (hre : Nat.ble rest.length 4 = true) (hM : zF l d M_md_thrown (.ref q :: []) τ v τ') (h1 : cs.1 ≤ r.2.2.1) (h2 : cs.2 ≤ r.2.2.2) (k : zV l (d + 1) (M_lw_law L xs) 1192 ls (v.toList ++ rest) τ' cs r) : zV l (d + 1) (M_lw_law L xs) 1189 ls (.ref q :: rest) τ cs r := zi_call (zJ_virt (M := M_lw_law L xs) (as := []) d_lw_law_1189 zC8 rfl ml_lw_82 im_md_thrown sl_md_thrown cw_md_thrown ⟨by decide, by decide⟩ (n := 0) (by decide +kernel) hS rfl rfl) hM cw_md_thrown in_md (by decide) (Nat.le_of_ble_eq_true hre) h1 h2 k
end ZW1
/-- one turn of the law: from the case's first instruction to the loop's step -/
def zLC (l : Launch) (d L : Nat) (xs : Nat → Int32) (j : Nat) (cs : Nat × Nat) (τ : tS) (pc : Nat) : Prop := ∃ (τ2 : tS) (cs2 : Nat × Nat), (cs2.1 ≤ cs.1 + 1 ∧ cs2.2 ≤ cs.2 + 6) ∧ (∃ n R p f e : Nat, RL τ2 n R p f e) ∧ ∀ r : zR, cs.1 + 1 ≤ r.2.2.1 → cs.2 + 6 ≤ r.2.2.2 → zV l (d + 66) (M_lw_law L xs) 1219 [.ref 999, .ref 0, .ref 37, .ref 62, vi (j : Int), .null, .null] [] τ2 cs2 r → zV l (d + 66) (M_lw_law L xs) pc [.ref 999, .ref 0, .ref 37, .ref 62, vi (j : Int), .null, .null] [] τ cs r
theorem lc_teams {l : Launch} {d L : Nat} {xs : Nat → Int32} {j : Nat} {cs : Nat × Nat} {τ : tS} {n R p f e : Nat} (hL : L ≤ 2560) (hj : j + 5 ≤ L) (h : RL τ n R p f e) : zLC l d L xs j cs τ 132 := by
  obtain ⟨κ, τ1, τ2, n2, R2, p2, f2, e2, hH, hm, hκ, zκ, hR⟩ := st_teams (l := l) (d := d) h (zin_x (xs ((j : Int) + 1).toNat))
  refine ⟨τ2, (cs.1 + 1, cs.2 + 6), ⟨Nat.le_refl _, Nat.le_refl _⟩, ⟨n2, R2, p2, f2, e2, hR⟩, fun r h1 h2 hk => ?_⟩
  refine zr_aload_n d_lw_law_132 rfl ?_
  refine zr_aload_n d_lw_law_133 rfl ?_
  refine zi_iload d_lw_law_134 rfl ?_
  refine zi_iconst d_lw_law_136 ?_
  refine zi_iadd d_lw_law_137 ?_
  refine zl_s hL d_lw_law_138 (by omega) (by omega) ?_
  refine c_lw_law_139 rfl hH h1 h2 ?_
  refine zi_istore d_lw_law_142 (by show 5 < 7; decide) rfl ?_
  refine zr_aload_n d_lw_law_144 rfl ?_
  refine zr_aload_n d_lw_law_145 rfl ?_
  refine zi_iload d_lw_law_146 rfl ?_
  refine zi_iconst d_lw_law_148 ?_
  refine zi_iadd d_lw_law_149 ?_
  refine zl_s hL d_lw_law_150 (by omega) (by omega) ?_
  refine c_lw_law_151 rfl rfl hm h1 h2 ?_
  refine zr_aload_n d_lw_law_154 rfl ?_
  refine c_lw_law_155 rfl rfl (md_thrown (d := d + 64)) h1 h2 ?_
  show zV _ _ _ _ _ (vi (τ2 37 0) :: _) _ _ _
  rw [hκ]
  refine zi_iload d_lw_law_158 rfl ?_
  refine zi_icmp_eq 165 d_lw_law_160 (by decide) zκ zκ (fun _ => ?_) (fun g => absurd rfl g)
  refine zr_goto 1219 d_lw_law_165 (by decide) ?_
  exact zE4 hk (by refine ⟨?_, ?_, ?_, ?_, ?_, ?_, ?_, trivial⟩ <;> first | exact Or.inl rfl | exact Or.inr rfl) rfl
theorem lc_ban {l : Launch} {d L : Nat} {xs : Nat → Int32} {j : Nat} {cs : Nat × Nat} {τ : tS} {n R p f e : Nat} (hL : L ≤ 2560) (hj : j + 5 ≤ L) (h : RL τ n R p f e) : zLC l d L xs j cs τ 168 := by
  obtain ⟨κ, b, τ1, τ2, n2, R2, p2, f2, e2, hH, hm, hκ, zκ, zb, hb, hR⟩ := st_ban (l := l) (d := d) h (zin_x (xs ((j : Int) + 1).toNat)) (zin_x (xs ((j : Int) + 2).toNat)) (zin_x (xs ((j : Int) + 3).toNat))
  refine ⟨τ2, (cs.1 + 1, cs.2 + 6), ⟨Nat.le_refl _, Nat.le_refl _⟩, ⟨n2, R2, p2, f2, e2, hR⟩, fun r h1 h2 hk => ?_⟩
  refine zr_aload_n d_lw_law_168 rfl ?_
  refine zr_aload_n d_lw_law_169 rfl ?_
  refine zi_iload d_lw_law_170 rfl ?_
  refine zi_iconst d_lw_law_172 ?_
  refine zi_iadd d_lw_law_173 ?_
  refine zl_s hL d_lw_law_174 (by omega) (by omega) ?_
  refine zr_aload_n d_lw_law_175 rfl ?_
  refine zi_iload d_lw_law_176 rfl ?_
  refine zi_iconst d_lw_law_178 ?_
  refine zi_iadd d_lw_law_179 ?_
  refine zl_s hL d_lw_law_180 (by omega) (by omega) ?_
  refine zr_aload_n d_lw_law_181 rfl ?_
  refine zi_iload d_lw_law_182 rfl ?_
  refine zi_iconst d_lw_law_184 ?_
  refine zi_iadd d_lw_law_185 ?_
  refine zl_s hL d_lw_law_186 (by omega) (by omega) ?_
  refine zr_aload_n d_lw_law_187 rfl ?_
  refine c_lw_law_188 rfl hH h1 h2 ?_
  refine zi_istore d_lw_law_191 (by show 5 < 7; decide) rfl ?_
  refine zr_aload_n d_lw_law_193 rfl ?_
  refine zr_aload_n d_lw_law_194 rfl ?_
  refine zi_iload d_lw_law_195 rfl ?_
  refine zi_iconst d_lw_law_197 ?_
  refine zi_iadd d_lw_law_198 ?_
  refine zl_s hL d_lw_law_199 (by omega) (by omega) ?_
  refine zr_aload_n d_lw_law_200 rfl ?_
  refine zi_iload d_lw_law_201 rfl ?_
  refine zi_iconst d_lw_law_203 ?_
  refine zi_iadd d_lw_law_204 ?_
  refine zl_s hL d_lw_law_205 (by omega) (by omega) ?_
  refine zr_aload_n d_lw_law_206 rfl ?_
  refine zi_iload d_lw_law_207 rfl ?_
  refine zi_iconst d_lw_law_209 ?_
  refine zi_iadd d_lw_law_210 ?_
  refine zl_s hL d_lw_law_211 (by omega) (by omega) ?_
  refine c_lw_law_212 rfl rfl hm h1 h2 ?_
  refine zi_istore d_lw_law_215 (by show 6 < 7; decide) rfl ?_
  refine zr_aload_n d_lw_law_217 rfl ?_
  refine c_lw_law_218 rfl rfl (md_thrown (d := d + 64)) h1 h2 ?_
  show zV _ _ _ _ _ (vi (τ2 37 0) :: _) _ _ _
  rw [hκ]
  refine zi_iload d_lw_law_221 rfl ?_
  refine zi_icmp_eq 228 d_lw_law_223 (by decide) zκ zκ (fun _ => ?_) (fun g => absurd rfl g)
  refine zi_iload d_lw_law_228 rfl ?_
  refine zi_if_ne 245 d_lw_law_230 (by decide) zκ (fun _ => ?_) (fun e0 => ?_)
  · refine zr_goto 1219 d_lw_law_245 (by decide) ?_
    exact zE4 hk (by refine ⟨?_, ?_, ?_, ?_, ?_, ?_, ?_, trivial⟩ <;> first | exact Or.inl rfl | exact Or.inr rfl) rfl
  · refine zr_aload_n d_lw_law_233 rfl ?_
    refine zi_iconst d_lw_law_234 ?_
    refine zl_cmp 245 (hb e0) d_lw_law_235 d_lw_law_236 d_lw_law_238 d_lw_law_239 d_lw_law_240 (by decide) rfl ?_
    refine zr_goto 1219 d_lw_law_245 (by decide) ?_
    exact zE4 hk (by refine ⟨?_, ?_, ?_, ?_, ?_, ?_, ?_, trivial⟩ <;> first | exact Or.inl rfl | exact Or.inr rfl) rfl
theorem lc_shareGround {l : Launch} {d L : Nat} {xs : Nat → Int32} {j : Nat} {cs : Nat × Nat} {τ : tS} {n R p f e : Nat} (hL : L ≤ 2560) (hj : j + 5 ≤ L) (h : RL τ n R p f e) : zLC l d L xs j cs τ 248 := by
  obtain ⟨κ, b, τ1, τ2, n2, R2, p2, f2, e2, hH, hm, hκ, zκ, zb, hb, hR⟩ := st_shareGround (l := l) (d := d) h (zin_x (xs ((j : Int) + 1).toNat)) (zin_x (xs ((j : Int) + 2).toNat))
  refine ⟨τ2, (cs.1 + 1, cs.2 + 6), ⟨Nat.le_refl _, Nat.le_refl _⟩, ⟨n2, R2, p2, f2, e2, hR⟩, fun r h1 h2 hk => ?_⟩
  refine zr_aload_n d_lw_law_248 rfl ?_
  refine zr_aload_n d_lw_law_249 rfl ?_
  refine zi_iload d_lw_law_250 rfl ?_
  refine zi_iconst d_lw_law_252 ?_
  refine zi_iadd d_lw_law_253 ?_
  refine zl_s hL d_lw_law_254 (by omega) (by omega) ?_
  refine zr_aload_n d_lw_law_255 rfl ?_
  refine zi_iload d_lw_law_256 rfl ?_
  refine zi_iconst d_lw_law_258 ?_
  refine zi_iadd d_lw_law_259 ?_
  refine zl_s hL d_lw_law_260 (by omega) (by omega) ?_
  refine zr_aload_n d_lw_law_261 rfl ?_
  refine c_lw_law_262 rfl hH h1 h2 ?_
  refine zi_istore d_lw_law_265 (by show 5 < 7; decide) rfl ?_
  refine zr_aload_n d_lw_law_267 rfl ?_
  refine zr_aload_n d_lw_law_268 rfl ?_
  refine zi_iload d_lw_law_269 rfl ?_
  refine zi_iconst d_lw_law_271 ?_
  refine zi_iadd d_lw_law_272 ?_
  refine zl_s hL d_lw_law_273 (by omega) (by omega) ?_
  refine zr_aload_n d_lw_law_274 rfl ?_
  refine zi_iload d_lw_law_275 rfl ?_
  refine zi_iconst d_lw_law_277 ?_
  refine zi_iadd d_lw_law_278 ?_
  refine zl_s hL d_lw_law_279 (by omega) (by omega) ?_
  refine c_lw_law_280 rfl rfl hm h1 h2 ?_
  refine zi_istore d_lw_law_283 (by show 6 < 7; decide) rfl ?_
  refine zr_aload_n d_lw_law_285 rfl ?_
  refine c_lw_law_286 rfl rfl (md_thrown (d := d + 64)) h1 h2 ?_
  show zV _ _ _ _ _ (vi (τ2 37 0) :: _) _ _ _
  rw [hκ]
  refine zi_iload d_lw_law_289 rfl ?_
  refine zi_icmp_eq 296 d_lw_law_291 (by decide) zκ zκ (fun _ => ?_) (fun g => absurd rfl g)
  refine zi_iload d_lw_law_296 rfl ?_
  refine zi_if_ne 313 d_lw_law_298 (by decide) zκ (fun _ => ?_) (fun e0 => ?_)
  · refine zr_goto 1219 d_lw_law_313 (by decide) ?_
    exact zE4 hk (by refine ⟨?_, ?_, ?_, ?_, ?_, ?_, ?_, trivial⟩ <;> first | exact Or.inl rfl | exact Or.inr rfl) rfl
  · refine zr_aload_n d_lw_law_301 rfl ?_
    refine zi_iconst d_lw_law_302 ?_
    refine zl_cmp 313 (hb e0) d_lw_law_303 d_lw_law_304 d_lw_law_306 d_lw_law_307 d_lw_law_308 (by decide) rfl ?_
    refine zr_goto 1219 d_lw_law_313 (by decide) ?_
    exact zE4 hk (by refine ⟨?_, ?_, ?_, ?_, ?_, ?_, ?_, trivial⟩ <;> first | exact Or.inl rfl | exact Or.inr rfl) rfl
theorem lc_fixGame {l : Launch} {d L : Nat} {xs : Nat → Int32} {j : Nat} {cs : Nat × Nat} {τ : tS} {n R p f e : Nat} (hL : L ≤ 2560) (hj : j + 5 ≤ L) (h : RL τ n R p f e) : zLC l d L xs j cs τ 316 := by
  obtain ⟨κ, b, τ1, τ2, n2, R2, p2, f2, e2, hH, hm, hκ, zκ, zb, hb, hR⟩ := st_fixGame (l := l) (d := d) h (zin_x (xs ((j : Int) + 1).toNat)) (zin_x (xs ((j : Int) + 2).toNat)) (zin_x (xs ((j : Int) + 3).toNat))
  refine ⟨τ2, (cs.1 + 1, cs.2 + 6), ⟨Nat.le_refl _, Nat.le_refl _⟩, ⟨n2, R2, p2, f2, e2, hR⟩, fun r h1 h2 hk => ?_⟩
  refine zr_aload_n d_lw_law_316 rfl ?_
  refine zr_aload_n d_lw_law_317 rfl ?_
  refine zi_iload d_lw_law_318 rfl ?_
  refine zi_iconst d_lw_law_320 ?_
  refine zi_iadd d_lw_law_321 ?_
  refine zl_s hL d_lw_law_322 (by omega) (by omega) ?_
  refine zr_aload_n d_lw_law_323 rfl ?_
  refine zi_iload d_lw_law_324 rfl ?_
  refine zi_iconst d_lw_law_326 ?_
  refine zi_iadd d_lw_law_327 ?_
  refine zl_s hL d_lw_law_328 (by omega) (by omega) ?_
  refine zr_aload_n d_lw_law_329 rfl ?_
  refine zi_iload d_lw_law_330 rfl ?_
  refine zi_iconst d_lw_law_332 ?_
  refine zi_iadd d_lw_law_333 ?_
  refine zl_s hL d_lw_law_334 (by omega) (by omega) ?_
  refine zr_aload_n d_lw_law_335 rfl ?_
  refine c_lw_law_336 rfl hH h1 h2 ?_
  refine zi_istore d_lw_law_339 (by show 5 < 7; decide) rfl ?_
  refine zr_aload_n d_lw_law_341 rfl ?_
  refine zr_aload_n d_lw_law_342 rfl ?_
  refine zi_iload d_lw_law_343 rfl ?_
  refine zi_iconst d_lw_law_345 ?_
  refine zi_iadd d_lw_law_346 ?_
  refine zl_s hL d_lw_law_347 (by omega) (by omega) ?_
  refine zr_aload_n d_lw_law_348 rfl ?_
  refine zi_iload d_lw_law_349 rfl ?_
  refine zi_iconst d_lw_law_351 ?_
  refine zi_iadd d_lw_law_352 ?_
  refine zl_s hL d_lw_law_353 (by omega) (by omega) ?_
  refine zr_aload_n d_lw_law_354 rfl ?_
  refine zi_iload d_lw_law_355 rfl ?_
  refine zi_iconst d_lw_law_357 ?_
  refine zi_iadd d_lw_law_358 ?_
  refine zl_s hL d_lw_law_359 (by omega) (by omega) ?_
  refine c_lw_law_360 rfl rfl hm h1 h2 ?_
  refine zi_istore d_lw_law_363 (by show 6 < 7; decide) rfl ?_
  refine zr_aload_n d_lw_law_365 rfl ?_
  refine c_lw_law_366 rfl rfl (md_thrown (d := d + 64)) h1 h2 ?_
  show zV _ _ _ _ _ (vi (τ2 37 0) :: _) _ _ _
  rw [hκ]
  refine zi_iload d_lw_law_369 rfl ?_
  refine zi_icmp_eq 376 d_lw_law_371 (by decide) zκ zκ (fun _ => ?_) (fun g => absurd rfl g)
  refine zi_iload d_lw_law_376 rfl ?_
  refine zi_if_ne 393 d_lw_law_378 (by decide) zκ (fun _ => ?_) (fun e0 => ?_)
  · refine zr_goto 1219 d_lw_law_393 (by decide) ?_
    exact zE4 hk (by refine ⟨?_, ?_, ?_, ?_, ?_, ?_, ?_, trivial⟩ <;> first | exact Or.inl rfl | exact Or.inr rfl) rfl
  · refine zr_aload_n d_lw_law_381 rfl ?_
    refine zi_iconst d_lw_law_382 ?_
    refine zl_cmp 393 (hb e0) d_lw_law_383 d_lw_law_384 d_lw_law_386 d_lw_law_387 d_lw_law_388 (by decide) rfl ?_
    refine zr_goto 1219 d_lw_law_393 (by decide) ?_
    exact zE4 hk (by refine ⟨?_, ?_, ?_, ?_, ?_, ?_, ?_, trivial⟩ <;> first | exact Or.inl rfl | exact Or.inr rfl) rfl
theorem lc_awayCap {l : Launch} {d L : Nat} {xs : Nat → Int32} {j : Nat} {cs : Nat × Nat} {τ : tS} {n R p f e : Nat} (hL : L ≤ 2560) (hj : j + 5 ≤ L) (h : RL τ n R p f e) : zLC l d L xs j cs τ 396 := by
  obtain ⟨κ, τ1, τ2, n2, R2, p2, f2, e2, hH, hm, hκ, zκ, hR⟩ := st_awayCap (l := l) (d := d) h (zin_x (xs ((j : Int) + 1).toNat))
  refine ⟨τ2, (cs.1 + 1, cs.2 + 6), ⟨Nat.le_refl _, Nat.le_refl _⟩, ⟨n2, R2, p2, f2, e2, hR⟩, fun r h1 h2 hk => ?_⟩
  refine zr_aload_n d_lw_law_396 rfl ?_
  refine zr_aload_n d_lw_law_397 rfl ?_
  refine zi_iload d_lw_law_398 rfl ?_
  refine zi_iconst d_lw_law_400 ?_
  refine zi_iadd d_lw_law_401 ?_
  refine zl_s hL d_lw_law_402 (by omega) (by omega) ?_
  refine c_lw_law_403 rfl hH h1 h2 ?_
  refine zi_istore d_lw_law_406 (by show 5 < 7; decide) rfl ?_
  refine zr_aload_n d_lw_law_408 rfl ?_
  refine zr_aload_n d_lw_law_409 rfl ?_
  refine zi_iload d_lw_law_410 rfl ?_
  refine zi_iconst d_lw_law_412 ?_
  refine zi_iadd d_lw_law_413 ?_
  refine zl_s hL d_lw_law_414 (by omega) (by omega) ?_
  refine c_lw_law_415 rfl rfl hm h1 h2 ?_
  refine zr_aload_n d_lw_law_418 rfl ?_
  refine c_lw_law_419 rfl rfl (md_thrown (d := d + 64)) h1 h2 ?_
  show zV _ _ _ _ _ (vi (τ2 37 0) :: _) _ _ _
  rw [hκ]
  refine zi_iload d_lw_law_422 rfl ?_
  refine zi_icmp_eq 429 d_lw_law_424 (by decide) zκ zκ (fun _ => ?_) (fun g => absurd rfl g)
  refine zr_goto 1219 d_lw_law_429 (by decide) ?_
  exact zE4 hk (by refine ⟨?_, ?_, ?_, ?_, ?_, ?_, ?_, trivial⟩ <;> first | exact Or.inl rfl | exact Or.inr rfl) rfl
theorem lc_makePlain {l : Launch} {d L : Nat} {xs : Nat → Int32} {j : Nat} {cs : Nat × Nat} {τ : tS} {n R p f e : Nat} (hL : L ≤ 2560) (hj : j + 5 ≤ L) (h : RL τ n R p f e) : zLC l d L xs j cs τ 432 := by
  obtain ⟨b0, hb0, hbx⟩ : ∃ b0 : Int, (b0 = 0 ∨ b0 = 1) ∧ (b0 = 0 ↔ (xs ((j : Int) + 1).toNat).toInt = 0) := by
    by_cases e0 : (xs ((j : Int) + 1).toNat).toInt = 0
    · exact ⟨0, Or.inl rfl, fun _ => e0, fun _ => rfl⟩
    · exact ⟨1, Or.inr rfl, fun g => absurd g (by decide), fun g => absurd g e0⟩
  obtain ⟨b, τ1, τ2, n2, R2, p2, f2, e2, hc, hm, zb, hR⟩ := st_makePlain (l := l) (d := d) h hb0
  refine ⟨τ2, cs, ⟨by omega, by omega⟩, ⟨n2, R2, p2, f2, e2, hR⟩, fun r h1 h2 hk => ?_⟩
  have k2 : zV l (d + 66) (M_lw_law L xs) 465 [.ref 999, .ref 0, .ref 37, .ref 62, vi (j : Int), .null, .null] (vi b0 :: .ref 37 :: vi b :: []) τ1 cs r := by
    refine c_lw_law_465 rfl rfl hm (by omega) (by omega) ?_
    refine zi_icmp_eq 1219 d_lw_law_468 (by decide) zb zb (fun _ => ?_) (fun g => absurd rfl g)
    exact zE4 hk (by refine ⟨?_, ?_, ?_, ?_, ?_, ?_, ?_, trivial⟩ <;> first | exact Or.inl rfl | exact Or.inr rfl) rfl
  have k1 : zV l (d + 66) (M_lw_law L xs) 447 [.ref 999, .ref 0, .ref 37, .ref 62, vi (j : Int), .null, .null] (vi b0 :: .ref 0 :: []) τ cs r := by
    refine c_lw_law_447 rfl rfl hc (by omega) (by omega) ?_
    refine zr_aload_n d_lw_law_450 rfl ?_
    refine zr_aload_n d_lw_law_451 rfl ?_
    refine zi_iload d_lw_law_452 rfl ?_
    refine zi_iconst d_lw_law_454 ?_
    refine zi_iadd d_lw_law_455 ?_
    refine zl_s hL d_lw_law_456 (by omega) (by omega) ?_
    refine zi_if_eq 464 d_lw_law_457 (by decide) (zin_x _) (fun g9 => ?_) (fun g9 => ?_)
    · have e9 : b0 = 0 := hbx.mpr g9
      refine zi_iconst d_lw_law_464 ?_
      exact zE5 k2 (by rw [e9]; first | done | rfl)
    · have e9 : b0 = 1 := by rcases hb0 with g | g; exact absurd (hbx.mp g) g9; exact g
      refine zi_iconst d_lw_law_460 ?_
      refine zr_goto 465 d_lw_law_461 (by decide) ?_
      exact zE5 k2 (by rw [e9]; first | done | rfl)
  refine zr_aload_n d_lw_law_432 rfl ?_
  refine zr_aload_n d_lw_law_433 rfl ?_
  refine zi_iload d_lw_law_434 rfl ?_
  refine zi_iconst d_lw_law_436 ?_
  refine zi_iadd d_lw_law_437 ?_
  refine zl_s hL d_lw_law_438 (by omega) (by omega) ?_
  refine zi_if_eq 446 d_lw_law_439 (by decide) (zin_x _) (fun g9 => ?_) (fun g9 => ?_)
  · have e9 : b0 = 0 := hbx.mpr g9
    refine zi_iconst d_lw_law_446 ?_
    exact zE5 k1 (by rw [e9]; first | done | rfl)
  · have e9 : b0 = 1 := by rcases hb0 with g | g; exact absurd (hbx.mp g) g9; exact g
    refine zi_iconst d_lw_law_442 ?_
    refine zr_goto 447 d_lw_law_443 (by decide) ?_
    exact zE5 k1 (by rw [e9]; first | done | rfl)
theorem lc_make {l : Launch} {d L : Nat} {xs : Nat → Int32} {j : Nat} {cs : Nat × Nat} {τ : tS} {n R p f e : Nat} (hL : L ≤ 2560) (hj : j + 5 ≤ L) (h : RL τ n R p f e) : zLC l d L xs j cs τ 473 := by
  obtain ⟨κ, b, τ1, τ2, n2, R2, p2, f2, e2, hH, hm, hκ, zκ, zb, hb, hR⟩ := st_make (l := l) (d := d) h (zin_x (xs ((j : Int) + 1).toNat))
  refine ⟨τ2, (cs.1 + 1, cs.2 + 6), ⟨Nat.le_refl _, Nat.le_refl _⟩, ⟨n2, R2, p2, f2, e2, hR⟩, fun r h1 h2 hk => ?_⟩
  refine zr_aload_n d_lw_law_473 rfl ?_
  refine zr_aload_n d_lw_law_474 rfl ?_
  refine zi_iload d_lw_law_475 rfl ?_
  refine zi_iconst d_lw_law_477 ?_
  refine zi_iadd d_lw_law_478 ?_
  refine zl_s hL d_lw_law_479 (by omega) (by omega) ?_
  refine zr_aload_n d_lw_law_480 rfl ?_
  refine c_lw_law_481 rfl hH h1 h2 ?_
  refine zi_istore d_lw_law_484 (by show 5 < 7; decide) rfl ?_
  refine zr_aload_n d_lw_law_486 rfl ?_
  refine zr_aload_n d_lw_law_487 rfl ?_
  refine zi_iload d_lw_law_488 rfl ?_
  refine zi_iconst d_lw_law_490 ?_
  refine zi_iadd d_lw_law_491 ?_
  refine zl_s hL d_lw_law_492 (by omega) (by omega) ?_
  refine c_lw_law_493 rfl rfl hm h1 h2 ?_
  refine zi_istore d_lw_law_496 (by show 6 < 7; decide) rfl ?_
  refine zr_aload_n d_lw_law_498 rfl ?_
  refine c_lw_law_499 rfl rfl (md_thrown (d := d + 64)) h1 h2 ?_
  show zV _ _ _ _ _ (vi (τ2 37 0) :: _) _ _ _
  rw [hκ]
  refine zi_iload d_lw_law_502 rfl ?_
  refine zi_icmp_eq 509 d_lw_law_504 (by decide) zκ zκ (fun _ => ?_) (fun g => absurd rfl g)
  refine zi_iload d_lw_law_509 rfl ?_
  refine zi_if_ne 526 d_lw_law_511 (by decide) zκ (fun _ => ?_) (fun e0 => ?_)
  · refine zr_goto 1219 d_lw_law_526 (by decide) ?_
    exact zE4 hk (by refine ⟨?_, ?_, ?_, ?_, ?_, ?_, ?_, trivial⟩ <;> first | exact Or.inl rfl | exact Or.inr rfl) rfl
  · refine zr_aload_n d_lw_law_514 rfl ?_
    refine zi_iconst d_lw_law_515 ?_
    refine zl_cmp 526 (hb e0) d_lw_law_516 d_lw_law_517 d_lw_law_519 d_lw_law_520 d_lw_law_521 (by decide) rfl ?_
    refine zr_goto 1219 d_lw_law_526 (by decide) ?_
    exact zE4 hk (by refine ⟨?_, ?_, ?_, ?_, ?_, ?_, ?_, trivial⟩ <;> first | exact Or.inl rfl | exact Or.inr rfl) rfl
theorem lc_rounds {l : Launch} {d L : Nat} {xs : Nat → Int32} {j : Nat} {cs : Nat × Nat} {τ : tS} {n R p f e : Nat} (hL : L ≤ 2560) (hj : j + 5 ≤ L) (h : RL τ n R p f e) : zLC l d L xs j cs τ 529 := by
  obtain ⟨b, τ1, τ2, n2, R2, p2, f2, e2, hc, hm, zb, hR⟩ := st_rounds (l := l) (d := d) h
  refine ⟨τ2, cs, ⟨by omega, by omega⟩, ⟨n2, R2, p2, f2, e2, hR⟩, fun r h1 h2 hk => ?_⟩
  refine zr_aload_n d_lw_law_529 rfl ?_
  refine c_lw_law_530 rfl rfl hc (by omega) (by omega) ?_
  refine zr_aload_n d_lw_law_533 rfl ?_
  refine c_lw_law_534 rfl rfl hm (by omega) (by omega) ?_
  refine zi_icmp_eq 1219 d_lw_law_537 (by decide) zb zb (fun _ => ?_) (fun g => absurd rfl g)
  exact zE4 hk (by refine ⟨?_, ?_, ?_, ?_, ?_, ?_, ?_, trivial⟩ <;> first | exact Or.inl rfl | exact Or.inr rfl) rfl
theorem lc_opponent {l : Launch} {d L : Nat} {xs : Nat → Int32} {j : Nat} {cs : Nat × Nat} {τ : tS} {n R p f e : Nat} (hL : L ≤ 2560) (hj : j + 5 ≤ L) (h : RL τ n R p f e) : zLC l d L xs j cs τ 542 := by
  obtain ⟨κ, b, τ1, τ2, n2, R2, p2, f2, e2, hH, hm, hκ, zκ, zb, hb, hR⟩ := st_opponent (l := l) (d := d) h (zin_x (xs ((j : Int) + 1).toNat)) (zin_x (xs ((j : Int) + 2).toNat))
  refine ⟨τ2, (cs.1 + 1, cs.2 + 6), ⟨Nat.le_refl _, Nat.le_refl _⟩, ⟨n2, R2, p2, f2, e2, hR⟩, fun r h1 h2 hk => ?_⟩
  refine zr_aload_n d_lw_law_542 rfl ?_
  refine zr_aload_n d_lw_law_543 rfl ?_
  refine zi_iload d_lw_law_544 rfl ?_
  refine zi_iconst d_lw_law_546 ?_
  refine zi_iadd d_lw_law_547 ?_
  refine zl_s hL d_lw_law_548 (by omega) (by omega) ?_
  refine zr_aload_n d_lw_law_549 rfl ?_
  refine zi_iload d_lw_law_550 rfl ?_
  refine zi_iconst d_lw_law_552 ?_
  refine zi_iadd d_lw_law_553 ?_
  refine zl_s hL d_lw_law_554 (by omega) (by omega) ?_
  refine zr_aload_n d_lw_law_555 rfl ?_
  refine c_lw_law_556 rfl hH h1 h2 ?_
  refine zi_istore d_lw_law_559 (by show 5 < 7; decide) rfl ?_
  refine zr_aload_n d_lw_law_561 rfl ?_
  refine zr_aload_n d_lw_law_562 rfl ?_
  refine zi_iload d_lw_law_563 rfl ?_
  refine zi_iconst d_lw_law_565 ?_
  refine zi_iadd d_lw_law_566 ?_
  refine zl_s hL d_lw_law_567 (by omega) (by omega) ?_
  refine zr_aload_n d_lw_law_568 rfl ?_
  refine zi_iload d_lw_law_569 rfl ?_
  refine zi_iconst d_lw_law_571 ?_
  refine zi_iadd d_lw_law_572 ?_
  refine zl_s hL d_lw_law_573 (by omega) (by omega) ?_
  refine c_lw_law_574 rfl rfl hm h1 h2 ?_
  refine zi_istore d_lw_law_577 (by show 6 < 7; decide) rfl ?_
  refine zr_aload_n d_lw_law_579 rfl ?_
  refine c_lw_law_580 rfl rfl (md_thrown (d := d + 64)) h1 h2 ?_
  show zV _ _ _ _ _ (vi (τ2 37 0) :: _) _ _ _
  rw [hκ]
  refine zi_iload d_lw_law_583 rfl ?_
  refine zi_icmp_eq 590 d_lw_law_585 (by decide) zκ zκ (fun _ => ?_) (fun g => absurd rfl g)
  refine zi_iload d_lw_law_590 rfl ?_
  refine zi_if_ne 607 d_lw_law_592 (by decide) zκ (fun _ => ?_) (fun e0 => ?_)
  · refine zr_goto 1219 d_lw_law_607 (by decide) ?_
    exact zE4 hk (by refine ⟨?_, ?_, ?_, ?_, ?_, ?_, ?_, trivial⟩ <;> first | exact Or.inl rfl | exact Or.inr rfl) rfl
  · refine zr_aload_n d_lw_law_595 rfl ?_
    refine zi_iconst d_lw_law_596 ?_
    refine zl_cmp 607 (hb e0) d_lw_law_597 d_lw_law_598 d_lw_law_600 d_lw_law_601 d_lw_law_602 (by decide) rfl ?_
    refine zr_goto 1219 d_lw_law_607 (by decide) ?_
    exact zE4 hk (by refine ⟨?_, ?_, ?_, ?_, ?_, ?_, ?_, trivial⟩ <;> first | exact Or.inl rfl | exact Or.inr rfl) rfl
theorem lc_venue {l : Launch} {d L : Nat} {xs : Nat → Int32} {j : Nat} {cs : Nat × Nat} {τ : tS} {n R p f e : Nat} (hL : L ≤ 2560) (hj : j + 5 ≤ L) (h : RL τ n R p f e) : zLC l d L xs j cs τ 610 := by
  obtain ⟨κ, b, τ1, τ2, n2, R2, p2, f2, e2, hH, hm, hκ, zκ, zb, hb, hR⟩ := st_venue (l := l) (d := d) h (zin_x (xs ((j : Int) + 1).toNat)) (zin_x (xs ((j : Int) + 2).toNat))
  refine ⟨τ2, (cs.1 + 1, cs.2 + 6), ⟨Nat.le_refl _, Nat.le_refl _⟩, ⟨n2, R2, p2, f2, e2, hR⟩, fun r h1 h2 hk => ?_⟩
  refine zr_aload_n d_lw_law_610 rfl ?_
  refine zr_aload_n d_lw_law_611 rfl ?_
  refine zi_iload d_lw_law_612 rfl ?_
  refine zi_iconst d_lw_law_614 ?_
  refine zi_iadd d_lw_law_615 ?_
  refine zl_s hL d_lw_law_616 (by omega) (by omega) ?_
  refine zr_aload_n d_lw_law_617 rfl ?_
  refine zi_iload d_lw_law_618 rfl ?_
  refine zi_iconst d_lw_law_620 ?_
  refine zi_iadd d_lw_law_621 ?_
  refine zl_s hL d_lw_law_622 (by omega) (by omega) ?_
  refine zr_aload_n d_lw_law_623 rfl ?_
  refine c_lw_law_624 rfl hH h1 h2 ?_
  refine zi_istore d_lw_law_627 (by show 5 < 7; decide) rfl ?_
  refine zr_aload_n d_lw_law_629 rfl ?_
  refine zr_aload_n d_lw_law_630 rfl ?_
  refine zi_iload d_lw_law_631 rfl ?_
  refine zi_iconst d_lw_law_633 ?_
  refine zi_iadd d_lw_law_634 ?_
  refine zl_s hL d_lw_law_635 (by omega) (by omega) ?_
  refine zr_aload_n d_lw_law_636 rfl ?_
  refine zi_iload d_lw_law_637 rfl ?_
  refine zi_iconst d_lw_law_639 ?_
  refine zi_iadd d_lw_law_640 ?_
  refine zl_s hL d_lw_law_641 (by omega) (by omega) ?_
  refine c_lw_law_642 rfl rfl hm h1 h2 ?_
  refine zi_istore d_lw_law_645 (by show 6 < 7; decide) rfl ?_
  refine zr_aload_n d_lw_law_647 rfl ?_
  refine c_lw_law_648 rfl rfl (md_thrown (d := d + 64)) h1 h2 ?_
  show zV _ _ _ _ _ (vi (τ2 37 0) :: _) _ _ _
  rw [hκ]
  refine zi_iload d_lw_law_651 rfl ?_
  refine zi_icmp_eq 658 d_lw_law_653 (by decide) zκ zκ (fun _ => ?_) (fun g => absurd rfl g)
  refine zi_iload d_lw_law_658 rfl ?_
  refine zi_if_ne 675 d_lw_law_660 (by decide) zκ (fun _ => ?_) (fun e0 => ?_)
  · refine zr_goto 1219 d_lw_law_675 (by decide) ?_
    exact zE4 hk (by refine ⟨?_, ?_, ?_, ?_, ?_, ?_, ?_, trivial⟩ <;> first | exact Or.inl rfl | exact Or.inr rfl) rfl
  · refine zr_aload_n d_lw_law_663 rfl ?_
    refine zi_iconst d_lw_law_664 ?_
    refine zl_cmp 675 (hb e0) d_lw_law_665 d_lw_law_666 d_lw_law_668 d_lw_law_669 d_lw_law_670 (by decide) rfl ?_
    refine zr_goto 1219 d_lw_law_675 (by decide) ?_
    exact zE4 hk (by refine ⟨?_, ?_, ?_, ?_, ?_, ?_, ?_, trivial⟩ <;> first | exact Or.inl rfl | exact Or.inr rfl) rfl
theorem lc_breaks {l : Launch} {d L : Nat} {xs : Nat → Int32} {j : Nat} {cs : Nat × Nat} {τ : tS} {n R p f e : Nat} (hL : L ≤ 2560) (hj : j + 5 ≤ L) (h : RL τ n R p f e) : zLC l d L xs j cs τ 678 := by
  obtain ⟨κ, b, τ1, τ2, n2, R2, p2, f2, e2, hH, hm, hκ, zκ, zb, hb, hR⟩ := st_breaks (l := l) (d := d) h (zin_x (xs ((j : Int) + 1).toNat))
  refine ⟨τ2, (cs.1 + 1, cs.2 + 6), ⟨Nat.le_refl _, Nat.le_refl _⟩, ⟨n2, R2, p2, f2, e2, hR⟩, fun r h1 h2 hk => ?_⟩
  refine zr_aload_n d_lw_law_678 rfl ?_
  refine zr_aload_n d_lw_law_679 rfl ?_
  refine zi_iload d_lw_law_680 rfl ?_
  refine zi_iconst d_lw_law_682 ?_
  refine zi_iadd d_lw_law_683 ?_
  refine zl_s hL d_lw_law_684 (by omega) (by omega) ?_
  refine zr_aload_n d_lw_law_685 rfl ?_
  refine c_lw_law_686 rfl hH h1 h2 ?_
  refine zi_istore d_lw_law_689 (by show 5 < 7; decide) rfl ?_
  refine zr_aload_n d_lw_law_691 rfl ?_
  refine zr_aload_n d_lw_law_692 rfl ?_
  refine zi_iload d_lw_law_693 rfl ?_
  refine zi_iconst d_lw_law_695 ?_
  refine zi_iadd d_lw_law_696 ?_
  refine zl_s hL d_lw_law_697 (by omega) (by omega) ?_
  refine c_lw_law_698 rfl rfl hm h1 h2 ?_
  refine zi_istore d_lw_law_701 (by show 6 < 7; decide) rfl ?_
  refine zr_aload_n d_lw_law_703 rfl ?_
  refine c_lw_law_704 rfl rfl (md_thrown (d := d + 64)) h1 h2 ?_
  show zV _ _ _ _ _ (vi (τ2 37 0) :: _) _ _ _
  rw [hκ]
  refine zi_iload d_lw_law_707 rfl ?_
  refine zi_icmp_eq 714 d_lw_law_709 (by decide) zκ zκ (fun _ => ?_) (fun g => absurd rfl g)
  refine zi_iload d_lw_law_714 rfl ?_
  refine zi_if_ne 731 d_lw_law_716 (by decide) zκ (fun _ => ?_) (fun e0 => ?_)
  · refine zr_goto 1219 d_lw_law_731 (by decide) ?_
    exact zE4 hk (by refine ⟨?_, ?_, ?_, ?_, ?_, ?_, ?_, trivial⟩ <;> first | exact Or.inl rfl | exact Or.inr rfl) rfl
  · refine zr_aload_n d_lw_law_719 rfl ?_
    refine zi_iconst d_lw_law_720 ?_
    refine zl_cmp 731 (hb e0) d_lw_law_721 d_lw_law_722 d_lw_law_724 d_lw_law_725 d_lw_law_726 (by decide) rfl ?_
    refine zr_goto 1219 d_lw_law_731 (by decide) ?_
    exact zE4 hk (by refine ⟨?_, ?_, ?_, ?_, ?_, ?_, ?_, trivial⟩ <;> first | exact Or.inl rfl | exact Or.inr rfl) rfl
theorem lc_verify {l : Launch} {d L : Nat} {xs : Nat → Int32} {j : Nat} {cs : Nat × Nat} {τ : tS} {n R p f e : Nat} (hL : L ≤ 2560) (hj : j + 5 ≤ L) (h : RL τ n R p f e) : zLC l d L xs j cs τ 734 := by
  obtain ⟨b, τ1, τ2, n2, R2, p2, f2, e2, hc, hm, zb, hR⟩ := st_verify (l := l) (d := d) h
  refine ⟨τ2, cs, ⟨by omega, by omega⟩, ⟨n2, R2, p2, f2, e2, hR⟩, fun r h1 h2 hk => ?_⟩
  refine zr_aload_n d_lw_law_734 rfl ?_
  refine c_lw_law_735 rfl rfl hc (by omega) (by omega) ?_
  refine zr_aload_n d_lw_law_738 rfl ?_
  refine c_lw_law_739 rfl rfl hm (by omega) (by omega) ?_
  refine zi_icmp_eq 1219 d_lw_law_742 (by decide) zb zb (fun _ => ?_) (fun g => absurd rfl g)
  exact zE4 hk (by refine ⟨?_, ?_, ?_, ?_, ?_, ?_, ?_, trivial⟩ <;> first | exact Or.inl rfl | exact Or.inr rfl) rfl
theorem lc_swapRounds {l : Launch} {d L : Nat} {xs : Nat → Int32} {j : Nat} {cs : Nat × Nat} {τ : tS} {n R p f e : Nat} (hL : L ≤ 2560) (hj : j + 5 ≤ L) (h : RL τ n R p f e) : zLC l d L xs j cs τ 747 := by
  obtain ⟨κ, b, τ1, τ2, n2, R2, p2, f2, e2, hH, hm, hκ, zκ, zb, hb, hR⟩ := st_swapRounds (l := l) (d := d) h (zin_x (xs ((j : Int) + 1).toNat)) (zin_x (xs ((j : Int) + 2).toNat))
  refine ⟨τ2, (cs.1 + 1, cs.2 + 6), ⟨Nat.le_refl _, Nat.le_refl _⟩, ⟨n2, R2, p2, f2, e2, hR⟩, fun r h1 h2 hk => ?_⟩
  refine zr_aload_n d_lw_law_747 rfl ?_
  refine zr_aload_n d_lw_law_748 rfl ?_
  refine zi_iload d_lw_law_749 rfl ?_
  refine zi_iconst d_lw_law_751 ?_
  refine zi_iadd d_lw_law_752 ?_
  refine zl_s hL d_lw_law_753 (by omega) (by omega) ?_
  refine zr_aload_n d_lw_law_754 rfl ?_
  refine zi_iload d_lw_law_755 rfl ?_
  refine zi_iconst d_lw_law_757 ?_
  refine zi_iadd d_lw_law_758 ?_
  refine zl_s hL d_lw_law_759 (by omega) (by omega) ?_
  refine zr_aload_n d_lw_law_760 rfl ?_
  refine c_lw_law_761 rfl hH h1 h2 ?_
  refine zi_istore d_lw_law_764 (by show 5 < 7; decide) rfl ?_
  refine zr_aload_n d_lw_law_766 rfl ?_
  refine zr_aload_n d_lw_law_767 rfl ?_
  refine zi_iload d_lw_law_768 rfl ?_
  refine zi_iconst d_lw_law_770 ?_
  refine zi_iadd d_lw_law_771 ?_
  refine zl_s hL d_lw_law_772 (by omega) (by omega) ?_
  refine zr_aload_n d_lw_law_773 rfl ?_
  refine zi_iload d_lw_law_774 rfl ?_
  refine zi_iconst d_lw_law_776 ?_
  refine zi_iadd d_lw_law_777 ?_
  refine zl_s hL d_lw_law_778 (by omega) (by omega) ?_
  refine c_lw_law_779 rfl rfl hm h1 h2 ?_
  refine zi_istore d_lw_law_782 (by show 6 < 7; decide) rfl ?_
  refine zr_aload_n d_lw_law_784 rfl ?_
  refine c_lw_law_785 rfl rfl (md_thrown (d := d + 64)) h1 h2 ?_
  show zV _ _ _ _ _ (vi (τ2 37 0) :: _) _ _ _
  rw [hκ]
  refine zi_iload d_lw_law_788 rfl ?_
  refine zi_icmp_eq 795 d_lw_law_790 (by decide) zκ zκ (fun _ => ?_) (fun g => absurd rfl g)
  refine zi_iload d_lw_law_795 rfl ?_
  refine zi_if_ne 819 d_lw_law_797 (by decide) zκ (fun _ => ?_) (fun e0 => ?_)
  · refine zr_goto 1219 d_lw_law_819 (by decide) ?_
    exact zE4 hk (by refine ⟨?_, ?_, ?_, ?_, ?_, ?_, ?_, trivial⟩ <;> first | exact Or.inl rfl | exact Or.inr rfl) rfl
  · refine zr_aload_n d_lw_law_800 rfl ?_
    refine zi_iconst d_lw_law_801 ?_
    refine zl_ld d_lw_law_802 ?_
    refine zi_iload d_lw_law_803 rfl ?_
    refine zi_if_eq 812 d_lw_law_805 (by decide) ⟨by omega, by omega⟩ (fun g9 => ?_) (fun g9 => ?_)
    · refine zr_lconst (n := 0) d_lw_law_812 ?_
      refine zl_cmpL 819 (hb e0) (by rw [g9]; exact lg_0) d_lw_law_813 d_lw_law_814 (by decide) ?_
      refine zr_goto 1219 d_lw_law_819 (by decide) ?_
      exact zE4 hk (by refine ⟨?_, ?_, ?_, ?_, ?_, ?_, ?_, trivial⟩ <;> first | exact Or.inl rfl | exact Or.inr rfl) rfl
    · refine zr_lconst (n := 1) d_lw_law_808 ?_
      refine zr_goto 813 d_lw_law_809 (by decide) ?_
      refine zl_cmpL 819 (hb e0) (by rw [show b = 1 by omega]; exact lg_1) d_lw_law_813 d_lw_law_814 (by decide) ?_
      refine zr_goto 1219 d_lw_law_819 (by decide) ?_
      exact zE4 hk (by refine ⟨?_, ?_, ?_, ?_, ?_, ?_, ?_, trivial⟩ <;> first | exact Or.inl rfl | exact Or.inr rfl) rfl
theorem lc_result {l : Launch} {d L : Nat} {xs : Nat → Int32} {j : Nat} {cs : Nat × Nat} {τ : tS} {n R p f e : Nat} (hL : L ≤ 2560) (hj : j + 5 ≤ L) (h : RL τ n R p f e) : zLC l d L xs j cs τ 822 := by
  obtain ⟨κ, b, τ1, τ2, n2, R2, p2, f2, e2, hH, hm, hκ, zκ, zb, hb, hR⟩ := st_result (l := l) (d := d) h (zin_x (xs ((j : Int) + 1).toNat)) (zin_x (xs ((j : Int) + 2).toNat)) (zin_x (xs ((j : Int) + 3).toNat)) (zin_x (xs ((j : Int) + 4).toNat))
  refine ⟨τ2, (cs.1 + 1, cs.2 + 6), ⟨Nat.le_refl _, Nat.le_refl _⟩, ⟨n2, R2, p2, f2, e2, hR⟩, fun r h1 h2 hk => ?_⟩
  refine zr_aload_n d_lw_law_822 rfl ?_
  refine zr_aload_n d_lw_law_823 rfl ?_
  refine zi_iload d_lw_law_824 rfl ?_
  refine zi_iconst d_lw_law_826 ?_
  refine zi_iadd d_lw_law_827 ?_
  refine zl_s hL d_lw_law_828 (by omega) (by omega) ?_
  refine zr_aload_n d_lw_law_829 rfl ?_
  refine zi_iload d_lw_law_830 rfl ?_
  refine zi_iconst d_lw_law_832 ?_
  refine zi_iadd d_lw_law_833 ?_
  refine zl_s hL d_lw_law_834 (by omega) (by omega) ?_
  refine zr_aload_n d_lw_law_835 rfl ?_
  refine zi_iload d_lw_law_836 rfl ?_
  refine zi_iconst d_lw_law_838 ?_
  refine zi_iadd d_lw_law_839 ?_
  refine zl_s hL d_lw_law_840 (by omega) (by omega) ?_
  refine zr_aload_n d_lw_law_841 rfl ?_
  refine zi_iload d_lw_law_842 rfl ?_
  refine zi_iconst d_lw_law_844 ?_
  refine zi_iadd d_lw_law_845 ?_
  refine zl_s hL d_lw_law_846 (by omega) (by omega) ?_
  refine zr_aload_n d_lw_law_847 rfl ?_
  refine c_lw_law_848 rfl hH h1 h2 ?_
  refine zi_istore d_lw_law_851 (by show 5 < 7; decide) rfl ?_
  refine zr_aload_n d_lw_law_853 rfl ?_
  refine zr_aload_n d_lw_law_854 rfl ?_
  refine zi_iload d_lw_law_855 rfl ?_
  refine zi_iconst d_lw_law_857 ?_
  refine zi_iadd d_lw_law_858 ?_
  refine zl_s hL d_lw_law_859 (by omega) (by omega) ?_
  refine zr_aload_n d_lw_law_860 rfl ?_
  refine zi_iload d_lw_law_861 rfl ?_
  refine zi_iconst d_lw_law_863 ?_
  refine zi_iadd d_lw_law_864 ?_
  refine zl_s hL d_lw_law_865 (by omega) (by omega) ?_
  refine zr_aload_n d_lw_law_866 rfl ?_
  refine zi_iload d_lw_law_867 rfl ?_
  refine zi_iconst d_lw_law_869 ?_
  refine zi_iadd d_lw_law_870 ?_
  refine zl_s hL d_lw_law_871 (by omega) (by omega) ?_
  refine zr_aload_n d_lw_law_872 rfl ?_
  refine zi_iload d_lw_law_873 rfl ?_
  refine zi_iconst d_lw_law_875 ?_
  refine zi_iadd d_lw_law_876 ?_
  refine zl_s hL d_lw_law_877 (by omega) (by omega) ?_
  refine c_lw_law_878 rfl rfl hm h1 h2 ?_
  refine zi_istore d_lw_law_881 (by show 6 < 7; decide) rfl ?_
  refine zr_aload_n d_lw_law_883 rfl ?_
  refine c_lw_law_884 rfl rfl (md_thrown (d := d + 64)) h1 h2 ?_
  show zV _ _ _ _ _ (vi (τ2 37 0) :: _) _ _ _
  rw [hκ]
  refine zi_iload d_lw_law_887 rfl ?_
  refine zi_icmp_eq 894 d_lw_law_889 (by decide) zκ zκ (fun _ => ?_) (fun g => absurd rfl g)
  refine zi_iload d_lw_law_894 rfl ?_
  refine zi_if_ne 911 d_lw_law_896 (by decide) zκ (fun _ => ?_) (fun e0 => ?_)
  · refine zr_goto 1219 d_lw_law_911 (by decide) ?_
    exact zE4 hk (by refine ⟨?_, ?_, ?_, ?_, ?_, ?_, ?_, trivial⟩ <;> first | exact Or.inl rfl | exact Or.inr rfl) rfl
  · refine zr_aload_n d_lw_law_899 rfl ?_
    refine zi_iconst d_lw_law_900 ?_
    refine zl_cmp 911 (hb e0) d_lw_law_901 d_lw_law_902 d_lw_law_904 d_lw_law_905 d_lw_law_906 (by decide) rfl ?_
    refine zr_goto 1219 d_lw_law_911 (by decide) ?_
    exact zE4 hk (by refine ⟨?_, ?_, ?_, ?_, ?_, ?_, ?_, trivial⟩ <;> first | exact Or.inl rfl | exact Or.inr rfl) rfl
theorem lc_table {l : Launch} {d L : Nat} {xs : Nat → Int32} {j : Nat} {cs : Nat × Nat} {τ : tS} {n R p f e : Nat} (hL : L ≤ 2560) (hj : j + 5 ≤ L) (h : RL τ n R p f e) : zLC l d L xs j cs τ 914 := by
  obtain ⟨κ, b, τ1, τ2, n2, R2, p2, f2, e2, hH, hm, hκ, zκ, zb, hb, hR⟩ := st_table (l := l) (d := d) h (zin_x (xs ((j : Int) + 1).toNat)) (zin_x (xs ((j : Int) + 2).toNat))
  refine ⟨τ2, (cs.1 + 1, cs.2 + 6), ⟨Nat.le_refl _, Nat.le_refl _⟩, ⟨n2, R2, p2, f2, e2, hR⟩, fun r h1 h2 hk => ?_⟩
  refine zr_aload_n d_lw_law_914 rfl ?_
  refine zr_aload_n d_lw_law_915 rfl ?_
  refine zi_iload d_lw_law_916 rfl ?_
  refine zi_iconst d_lw_law_918 ?_
  refine zi_iadd d_lw_law_919 ?_
  refine zl_s hL d_lw_law_920 (by omega) (by omega) ?_
  refine zr_aload_n d_lw_law_921 rfl ?_
  refine zi_iload d_lw_law_922 rfl ?_
  refine zi_iconst d_lw_law_924 ?_
  refine zi_iadd d_lw_law_925 ?_
  refine zl_s hL d_lw_law_926 (by omega) (by omega) ?_
  refine zr_aload_n d_lw_law_927 rfl ?_
  refine c_lw_law_928 rfl hH h1 h2 ?_
  refine zi_istore d_lw_law_931 (by show 5 < 7; decide) rfl ?_
  refine zr_aload_n d_lw_law_933 rfl ?_
  refine zr_aload_n d_lw_law_934 rfl ?_
  refine zi_iload d_lw_law_935 rfl ?_
  refine zi_iconst d_lw_law_937 ?_
  refine zi_iadd d_lw_law_938 ?_
  refine zl_s hL d_lw_law_939 (by omega) (by omega) ?_
  refine zr_aload_n d_lw_law_940 rfl ?_
  refine zi_iload d_lw_law_941 rfl ?_
  refine zi_iconst d_lw_law_943 ?_
  refine zi_iadd d_lw_law_944 ?_
  refine zl_s hL d_lw_law_945 (by omega) (by omega) ?_
  refine c_lw_law_946 rfl rfl hm h1 h2 ?_
  refine zi_istore d_lw_law_949 (by show 6 < 7; decide) rfl ?_
  refine zr_aload_n d_lw_law_951 rfl ?_
  refine c_lw_law_952 rfl rfl (md_thrown (d := d + 64)) h1 h2 ?_
  show zV _ _ _ _ _ (vi (τ2 37 0) :: _) _ _ _
  rw [hκ]
  refine zi_iload d_lw_law_955 rfl ?_
  refine zi_icmp_eq 962 d_lw_law_957 (by decide) zκ zκ (fun _ => ?_) (fun g => absurd rfl g)
  refine zi_iload d_lw_law_962 rfl ?_
  refine zi_if_ne 979 d_lw_law_964 (by decide) zκ (fun _ => ?_) (fun e0 => ?_)
  · refine zr_goto 1219 d_lw_law_979 (by decide) ?_
    exact zE4 hk (by refine ⟨?_, ?_, ?_, ?_, ?_, ?_, ?_, trivial⟩ <;> first | exact Or.inl rfl | exact Or.inr rfl) rfl
  · refine zr_aload_n d_lw_law_967 rfl ?_
    refine zi_iconst d_lw_law_968 ?_
    refine zl_cmp 979 (hb e0) d_lw_law_969 d_lw_law_970 d_lw_law_972 d_lw_law_973 d_lw_law_974 (by decide) rfl ?_
    refine zr_goto 1219 d_lw_law_979 (by decide) ?_
    exact zE4 hk (by refine ⟨?_, ?_, ?_, ?_, ?_, ?_, ?_, trivial⟩ <;> first | exact Or.inl rfl | exact Or.inr rfl) rfl
theorem lc_washOut {l : Launch} {d L : Nat} {xs : Nat → Int32} {j : Nat} {cs : Nat × Nat} {τ : tS} {n R p f e : Nat} (hL : L ≤ 2560) (hj : j + 5 ≤ L) (h : RL τ n R p f e) : zLC l d L xs j cs τ 982 := by
  obtain ⟨κ, b, τ1, τ2, n2, R2, p2, f2, e2, hH, hm, hκ, zκ, zb, hb, hR⟩ := st_washOut (l := l) (d := d) h (zin_x (xs ((j : Int) + 1).toNat))
  refine ⟨τ2, (cs.1 + 1, cs.2 + 6), ⟨Nat.le_refl _, Nat.le_refl _⟩, ⟨n2, R2, p2, f2, e2, hR⟩, fun r h1 h2 hk => ?_⟩
  refine zr_aload_n d_lw_law_982 rfl ?_
  refine zr_aload_n d_lw_law_983 rfl ?_
  refine zi_iload d_lw_law_984 rfl ?_
  refine zi_iconst d_lw_law_986 ?_
  refine zi_iadd d_lw_law_987 ?_
  refine zl_s hL d_lw_law_988 (by omega) (by omega) ?_
  refine zr_aload_n d_lw_law_989 rfl ?_
  refine c_lw_law_990 rfl hH h1 h2 ?_
  refine zi_istore d_lw_law_993 (by show 5 < 7; decide) rfl ?_
  refine zr_aload_n d_lw_law_995 rfl ?_
  refine zr_aload_n d_lw_law_996 rfl ?_
  refine zi_iload d_lw_law_997 rfl ?_
  refine zi_iconst d_lw_law_999 ?_
  refine zi_iadd d_lw_law_1000 ?_
  refine zl_s hL d_lw_law_1001 (by omega) (by omega) ?_
  refine c_lw_law_1002 rfl rfl hm h1 h2 ?_
  refine zi_istore d_lw_law_1005 (by show 6 < 7; decide) rfl ?_
  refine zr_aload_n d_lw_law_1007 rfl ?_
  refine c_lw_law_1008 rfl rfl (md_thrown (d := d + 64)) h1 h2 ?_
  show zV _ _ _ _ _ (vi (τ2 37 0) :: _) _ _ _
  rw [hκ]
  refine zi_iload d_lw_law_1011 rfl ?_
  refine zi_icmp_eq 1018 d_lw_law_1013 (by decide) zκ zκ (fun _ => ?_) (fun g => absurd rfl g)
  refine zi_iload d_lw_law_1018 rfl ?_
  refine zi_if_ne 1035 d_lw_law_1020 (by decide) zκ (fun _ => ?_) (fun e0 => ?_)
  · refine zr_goto 1219 d_lw_law_1035 (by decide) ?_
    exact zE4 hk (by refine ⟨?_, ?_, ?_, ?_, ?_, ?_, ?_, trivial⟩ <;> first | exact Or.inl rfl | exact Or.inr rfl) rfl
  · refine zr_aload_n d_lw_law_1023 rfl ?_
    refine zi_iconst d_lw_law_1024 ?_
    refine zl_cmp 1035 (hb e0) d_lw_law_1025 d_lw_law_1026 d_lw_law_1028 d_lw_law_1029 d_lw_law_1030 (by decide) rfl ?_
    refine zr_goto 1219 d_lw_law_1035 (by decide) ?_
    exact zE4 hk (by refine ⟨?_, ?_, ?_, ?_, ?_, ?_, ?_, trivial⟩ <;> first | exact Or.inl rfl | exact Or.inr rfl) rfl
theorem lc_reserve {l : Launch} {d L : Nat} {xs : Nat → Int32} {j : Nat} {cs : Nat × Nat} {τ : tS} {n R p f e : Nat} (hL : L ≤ 2560) (hj : j + 5 ≤ L) (h : RL τ n R p f e) : zLC l d L xs j cs τ 1038 := by
  obtain ⟨κ, b, τ1, τ2, n2, R2, p2, f2, e2, hH, hm, hκ, zκ, zb, hb, hR⟩ := st_reserve (l := l) (d := d) h (zin_x (xs ((j : Int) + 1).toNat))
  refine ⟨τ2, (cs.1 + 1, cs.2 + 6), ⟨Nat.le_refl _, Nat.le_refl _⟩, ⟨n2, R2, p2, f2, e2, hR⟩, fun r h1 h2 hk => ?_⟩
  refine zr_aload_n d_lw_law_1038 rfl ?_
  refine zr_aload_n d_lw_law_1039 rfl ?_
  refine zi_iload d_lw_law_1040 rfl ?_
  refine zi_iconst d_lw_law_1042 ?_
  refine zi_iadd d_lw_law_1043 ?_
  refine zl_s hL d_lw_law_1044 (by omega) (by omega) ?_
  refine zr_aload_n d_lw_law_1045 rfl ?_
  refine c_lw_law_1046 rfl hH h1 h2 ?_
  refine zi_istore d_lw_law_1049 (by show 5 < 7; decide) rfl ?_
  refine zr_aload_n d_lw_law_1051 rfl ?_
  refine zr_aload_n d_lw_law_1052 rfl ?_
  refine zi_iload d_lw_law_1053 rfl ?_
  refine zi_iconst d_lw_law_1055 ?_
  refine zi_iadd d_lw_law_1056 ?_
  refine zl_s hL d_lw_law_1057 (by omega) (by omega) ?_
  refine c_lw_law_1058 rfl rfl hm h1 h2 ?_
  refine zi_istore d_lw_law_1061 (by show 6 < 7; decide) rfl ?_
  refine zr_aload_n d_lw_law_1063 rfl ?_
  refine c_lw_law_1064 rfl rfl (md_thrown (d := d + 64)) h1 h2 ?_
  show zV _ _ _ _ _ (vi (τ2 37 0) :: _) _ _ _
  rw [hκ]
  refine zi_iload d_lw_law_1067 rfl ?_
  refine zi_icmp_eq 1074 d_lw_law_1069 (by decide) zκ zκ (fun _ => ?_) (fun g => absurd rfl g)
  refine zi_iload d_lw_law_1074 rfl ?_
  refine zi_if_ne 1091 d_lw_law_1076 (by decide) zκ (fun _ => ?_) (fun e0 => ?_)
  · refine zr_goto 1219 d_lw_law_1091 (by decide) ?_
    exact zE4 hk (by refine ⟨?_, ?_, ?_, ?_, ?_, ?_, ?_, trivial⟩ <;> first | exact Or.inl rfl | exact Or.inr rfl) rfl
  · refine zr_aload_n d_lw_law_1079 rfl ?_
    refine zi_iconst d_lw_law_1080 ?_
    refine zl_cmp 1091 (hb e0) d_lw_law_1081 d_lw_law_1082 d_lw_law_1084 d_lw_law_1085 d_lw_law_1086 (by decide) rfl ?_
    refine zr_goto 1219 d_lw_law_1091 (by decide) ?_
    exact zE4 hk (by refine ⟨?_, ?_, ?_, ?_, ?_, ?_, ?_, trivial⟩ <;> first | exact Or.inl rfl | exact Or.inr rfl) rfl
theorem lc_missing {l : Launch} {d L : Nat} {xs : Nat → Int32} {j : Nat} {cs : Nat × Nat} {τ : tS} {n R p f e : Nat} (hL : L ≤ 2560) (hj : j + 5 ≤ L) (h : RL τ n R p f e) : zLC l d L xs j cs τ 1094 := by
  obtain ⟨b, τ1, τ2, n2, R2, p2, f2, e2, hc, hm, zb, hR⟩ := st_missing (l := l) (d := d) h
  refine ⟨τ2, cs, ⟨by omega, by omega⟩, ⟨n2, R2, p2, f2, e2, hR⟩, fun r h1 h2 hk => ?_⟩
  refine zr_aload_n d_lw_law_1094 rfl ?_
  refine c_lw_law_1095 rfl rfl hc (by omega) (by omega) ?_
  refine zr_aload_n d_lw_law_1098 rfl ?_
  refine c_lw_law_1099 rfl rfl hm (by omega) (by omega) ?_
  refine zi_icmp_eq 1219 d_lw_law_1102 (by decide) zb zb (fun _ => ?_) (fun g => absurd rfl g)
  exact zE4 hk (by refine ⟨?_, ?_, ?_, ?_, ?_, ?_, ?_, trivial⟩ <;> first | exact Or.inl rfl | exact Or.inr rfl) rfl
theorem lc_catchUp {l : Launch} {d L : Nat} {xs : Nat → Int32} {j : Nat} {cs : Nat × Nat} {τ : tS} {n R p f e : Nat} (hL : L ≤ 2560) (hj : j + 5 ≤ L) (h : RL τ n R p f e) : zLC l d L xs j cs τ 1107 := by
  obtain ⟨κ, b, τ1, τ2, n2, R2, p2, f2, e2, hH, hm, hκ, zκ, zb, hb, hR⟩ := st_catchUp (l := l) (d := d) h 
  refine ⟨τ2, (cs.1 + 1, cs.2 + 6), ⟨Nat.le_refl _, Nat.le_refl _⟩, ⟨n2, R2, p2, f2, e2, hR⟩, fun r h1 h2 hk => ?_⟩
  refine zr_aload_n d_lw_law_1107 rfl ?_
  refine zr_aload_n d_lw_law_1108 rfl ?_
  refine c_lw_law_1109 rfl hH h1 h2 ?_
  refine zi_istore d_lw_law_1112 (by show 5 < 7; decide) rfl ?_
  refine zr_aload_n d_lw_law_1114 rfl ?_
  refine c_lw_law_1115 rfl rfl hm h1 h2 ?_
  refine zi_istore d_lw_law_1118 (by show 6 < 7; decide) rfl ?_
  refine zr_aload_n d_lw_law_1120 rfl ?_
  refine c_lw_law_1121 rfl rfl (md_thrown (d := d + 64)) h1 h2 ?_
  show zV _ _ _ _ _ (vi (τ2 37 0) :: _) _ _ _
  rw [hκ]
  refine zi_iload d_lw_law_1124 rfl ?_
  refine zi_icmp_eq 1131 d_lw_law_1126 (by decide) zκ zκ (fun _ => ?_) (fun g => absurd rfl g)
  refine zi_iload d_lw_law_1131 rfl ?_
  refine zi_if_ne 1148 d_lw_law_1133 (by decide) zκ (fun _ => ?_) (fun e0 => ?_)
  · refine zr_goto 1219 d_lw_law_1148 (by decide) ?_
    exact zE4 hk (by refine ⟨?_, ?_, ?_, ?_, ?_, ?_, ?_, trivial⟩ <;> first | exact Or.inl rfl | exact Or.inr rfl) rfl
  · refine zr_aload_n d_lw_law_1136 rfl ?_
    refine zi_iconst d_lw_law_1137 ?_
    refine zl_cmp 1148 (hb e0) d_lw_law_1138 d_lw_law_1139 d_lw_law_1141 d_lw_law_1142 d_lw_law_1143 (by decide) rfl ?_
    refine zr_goto 1219 d_lw_law_1148 (by decide) ?_
    exact zE4 hk (by refine ⟨?_, ?_, ?_, ?_, ?_, ?_, ?_, trivial⟩ <;> first | exact Or.inl rfl | exact Or.inr rfl) rfl
theorem lc_catchDate {l : Launch} {d L : Nat} {xs : Nat → Int32} {j : Nat} {cs : Nat × Nat} {τ : tS} {n R p f e : Nat} (hL : L ≤ 2560) (hj : j + 5 ≤ L) (h : RL τ n R p f e) : zLC l d L xs j cs τ 1151 := by
  obtain ⟨κ, b, τ1, τ2, n2, R2, p2, f2, e2, hH, hm, hκ, zκ, zb, hb, hR⟩ := st_catchDate (l := l) (d := d) h (zin_x (xs ((j : Int) + 1).toNat)) (zin_x (xs ((j : Int) + 2).toNat))
  refine ⟨τ2, (cs.1 + 1, cs.2 + 6), ⟨Nat.le_refl _, Nat.le_refl _⟩, ⟨n2, R2, p2, f2, e2, hR⟩, fun r h1 h2 hk => ?_⟩
  refine zr_aload_n d_lw_law_1151 rfl ?_
  refine zr_aload_n d_lw_law_1152 rfl ?_
  refine zi_iload d_lw_law_1153 rfl ?_
  refine zi_iconst d_lw_law_1155 ?_
  refine zi_iadd d_lw_law_1156 ?_
  refine zl_s hL d_lw_law_1157 (by omega) (by omega) ?_
  refine zr_aload_n d_lw_law_1158 rfl ?_
  refine zi_iload d_lw_law_1159 rfl ?_
  refine zi_iconst d_lw_law_1161 ?_
  refine zi_iadd d_lw_law_1162 ?_
  refine zl_s hL d_lw_law_1163 (by omega) (by omega) ?_
  refine zr_aload_n d_lw_law_1164 rfl ?_
  refine c_lw_law_1165 rfl hH h1 h2 ?_
  refine zi_istore d_lw_law_1168 (by show 5 < 7; decide) rfl ?_
  refine zr_aload_n d_lw_law_1170 rfl ?_
  refine zr_aload_n d_lw_law_1171 rfl ?_
  refine zi_iload d_lw_law_1172 rfl ?_
  refine zi_iconst d_lw_law_1174 ?_
  refine zi_iadd d_lw_law_1175 ?_
  refine zl_s hL d_lw_law_1176 (by omega) (by omega) ?_
  refine zr_aload_n d_lw_law_1177 rfl ?_
  refine zi_iload d_lw_law_1178 rfl ?_
  refine zi_iconst d_lw_law_1180 ?_
  refine zi_iadd d_lw_law_1181 ?_
  refine zl_s hL d_lw_law_1182 (by omega) (by omega) ?_
  refine c_lw_law_1183 rfl rfl hm h1 h2 ?_
  refine zi_istore d_lw_law_1186 (by show 6 < 7; decide) rfl ?_
  refine zr_aload_n d_lw_law_1188 rfl ?_
  refine c_lw_law_1189 rfl rfl (md_thrown (d := d + 64)) h1 h2 ?_
  show zV _ _ _ _ _ (vi (τ2 37 0) :: _) _ _ _
  rw [hκ]
  refine zi_iload d_lw_law_1192 rfl ?_
  refine zi_icmp_eq 1199 d_lw_law_1194 (by decide) zκ zκ (fun _ => ?_) (fun g => absurd rfl g)
  refine zi_iload d_lw_law_1199 rfl ?_
  refine zi_if_ne 1216 d_lw_law_1201 (by decide) zκ (fun _ => ?_) (fun e0 => ?_)
  · refine zr_goto 1219 d_lw_law_1216 (by decide) ?_
    exact zE4 hk (by refine ⟨?_, ?_, ?_, ?_, ?_, ?_, ?_, trivial⟩ <;> first | exact Or.inl rfl | exact Or.inr rfl) rfl
  · refine zr_aload_n d_lw_law_1204 rfl ?_
    refine zi_iconst d_lw_law_1205 ?_
    refine zl_cmp 1216 (hb e0) d_lw_law_1206 d_lw_law_1207 d_lw_law_1209 d_lw_law_1210 d_lw_law_1211 (by decide) rfl ?_
    refine zr_goto 1219 d_lw_law_1216 (by decide) ?_
    exact zE4 hk (by refine ⟨?_, ?_, ?_, ?_, ?_, ?_, ?_, trivial⟩ <;> first | exact Or.inl rfl | exact Or.inr rfl) rfl
