/-! the law's helpers (written by wip/gen/t52.py) -/
section ZQ2
variable {l : Launch} {d : Nat} {ls rest : List Value} {τ τ' : tS} {r : zR} {v : Option Value}
theorem c_lw_teams_2 {q : Nat} {fs : List (Option (Option Nat))} {a1 : Value} (hS : SH[q]? = some (.inr (7, fs))) (hre : Nat.ble rest.length 4 = true) (hM : zF l d M_lr_teams (.ref q :: [a1]) τ v τ') (k : zV l (d + 1) M_lw_teams 5 ls (v.toList ++ rest) τ' (0, 0) r) : zV l (d + 1) M_lw_teams 2 ls (a1 :: .ref q :: rest) τ (0, 0) r := zi_call (zJ_virt (as := [a1]) d_lw_teams_2 zC7 rfl ml_lw_7 im_lr_teams sl_lr_teams cw_lr_teams ⟨by decide, by decide⟩ (n := 1) (by decide +kernel) hS rfl rfl) hM cw_lr_teams in_lr (by decide) (Nat.le_of_ble_eq_true hre) (Nat.zero_le _) (Nat.zero_le _) k
theorem c_lw_ban_7 {q : Nat} {fs : List (Option (Option Nat))} {a1 a2 a3 : Value} (hS : SH[q]? = some (.inr (7, fs))) (hre : Nat.ble rest.length 4 = true) (hM : zF l d M_lr_ban (.ref q :: [a1, a2, a3]) τ v τ') (k : zV l (d + 1) M_lw_ban 10 ls (v.toList ++ rest) τ' (0, 0) r) : zV l (d + 1) M_lw_ban 7 ls (a3 :: a2 :: a1 :: .ref q :: rest) τ (0, 0) r := zi_call (zJ_virt (as := [a1, a2, a3]) d_lw_ban_7 zC7 rfl ml_lw_15 im_lr_ban sl_lr_ban cw_lr_ban ⟨by decide, by decide⟩ (n := 3) (by decide +kernel) hS rfl rfl) hM cw_lr_ban in_lr (by decide) (Nat.le_of_ble_eq_true hre) (Nat.zero_le _) (Nat.zero_le _) k
theorem c_lw_shareGround_5 {q : Nat} {fs : List (Option (Option Nat))} {a1 a2 : Value} (hS : SH[q]? = some (.inr (7, fs))) (hre : Nat.ble rest.length 4 = true) (hM : zF l d M_lr_shareGround (.ref q :: [a1, a2]) τ v τ') (k : zV l (d + 1) M_lw_shareGround 8 ls (v.toList ++ rest) τ' (0, 0) r) : zV l (d + 1) M_lw_shareGround 5 ls (a2 :: a1 :: .ref q :: rest) τ (0, 0) r := zi_call (zJ_virt (as := [a1, a2]) d_lw_shareGround_5 zC7 rfl ml_lw_19 im_lr_shareGround sl_lr_shareGround cw_lr_shareGround ⟨by decide, by decide⟩ (n := 2) (by decide +kernel) hS rfl rfl) hM cw_lr_shareGround in_lr (by decide) (Nat.le_of_ble_eq_true hre) (Nat.zero_le _) (Nat.zero_le _) k
theorem c_lw_fixGame_7 {q : Nat} {fs : List (Option (Option Nat))} {a1 a2 a3 : Value} (hS : SH[q]? = some (.inr (7, fs))) (hre : Nat.ble rest.length 4 = true) (hM : zF l d M_lr_fixGame (.ref q :: [a1, a2, a3]) τ v τ') (k : zV l (d + 1) M_lw_fixGame 10 ls (v.toList ++ rest) τ' (0, 0) r) : zV l (d + 1) M_lw_fixGame 7 ls (a3 :: a2 :: a1 :: .ref q :: rest) τ (0, 0) r := zi_call (zJ_virt (as := [a1, a2, a3]) d_lw_fixGame_7 zC7 rfl ml_lw_25 im_lr_fixGame sl_lr_fixGame cw_lr_fixGame ⟨by decide, by decide⟩ (n := 3) (by decide +kernel) hS rfl rfl) hM cw_lr_fixGame in_lr (by decide) (Nat.le_of_ble_eq_true hre) (Nat.zero_le _) (Nat.zero_le _) k
theorem c_lw_awayCap_2 {q : Nat} {fs : List (Option (Option Nat))} {a1 : Value} (hS : SH[q]? = some (.inr (7, fs))) (hre : Nat.ble rest.length 4 = true) (hM : zF l d M_lr_awayCap (.ref q :: [a1]) τ v τ') (k : zV l (d + 1) M_lw_awayCap 5 ls (v.toList ++ rest) τ' (0, 0) r) : zV l (d + 1) M_lw_awayCap 2 ls (a1 :: .ref q :: rest) τ (0, 0) r := zi_call (zJ_virt (as := [a1]) d_lw_awayCap_2 zC7 rfl ml_lw_28 im_lr_awayCap sl_lr_awayCap cw_lr_awayCap ⟨by decide, by decide⟩ (n := 1) (by decide +kernel) hS rfl rfl) hM cw_lr_awayCap in_lr (by decide) (Nat.le_of_ble_eq_true hre) (Nat.zero_le _) (Nat.zero_le _) k
theorem c_lw_make_4 {q : Nat} {fs : List (Option (Option Nat))} {a1 : Value} (hS : SH[q]? = some (.inr (7, fs))) (hre : Nat.ble rest.length 4 = true) (hM : zF l d M_lr_make (.ref q :: [a1]) τ v τ') (k : zV l (d + 1) M_lw_make 7 ls (v.toList ++ rest) τ' (0, 0) r) : zV l (d + 1) M_lw_make 4 ls (a1 :: .ref q :: rest) τ (0, 0) r := zi_call (zJ_virt (as := [a1]) d_lw_make_4 zC7 rfl ml_lw_31 im_lr_make sl_lr_make cw_lr_make ⟨by decide, by decide⟩ (n := 1) (by decide +kernel) hS rfl rfl) hM cw_lr_make in_lr (by decide) (Nat.le_of_ble_eq_true hre) (Nat.zero_le _) (Nat.zero_le _) k
theorem c_lw_opponent_5 {q : Nat} {fs : List (Option (Option Nat))} {a1 a2 : Value} (hS : SH[q]? = some (.inr (7, fs))) (hre : Nat.ble rest.length 4 = true) (hM : zF l d M_lr_opponent (.ref q :: [a1, a2]) τ v τ') (k : zV l (d + 1) M_lw_opponent 8 ls (v.toList ++ rest) τ' (0, 0) r) : zV l (d + 1) M_lw_opponent 5 ls (a2 :: a1 :: .ref q :: rest) τ (0, 0) r := zi_call (zJ_virt (as := [a1, a2]) d_lw_opponent_5 zC7 rfl ml_lw_35 im_lr_opponent sl_lr_opponent cw_lr_opponent ⟨by decide, by decide⟩ (n := 2) (by decide +kernel) hS rfl rfl) hM cw_lr_opponent in_lr (by decide) (Nat.le_of_ble_eq_true hre) (Nat.zero_le _) (Nat.zero_le _) k
theorem c_lw_venue_5 {q : Nat} {fs : List (Option (Option Nat))} {a1 a2 : Value} (hS : SH[q]? = some (.inr (7, fs))) (hre : Nat.ble rest.length 4 = true) (hM : zF l d M_lr_venue (.ref q :: [a1, a2]) τ v τ') (k : zV l (d + 1) M_lw_venue 8 ls (v.toList ++ rest) τ' (0, 0) r) : zV l (d + 1) M_lw_venue 5 ls (a2 :: a1 :: .ref q :: rest) τ (0, 0) r := zi_call (zJ_virt (as := [a1, a2]) d_lw_venue_5 zC7 rfl ml_lw_40 im_lr_venue sl_lr_venue cw_lr_venue ⟨by decide, by decide⟩ (n := 2) (by decide +kernel) hS rfl rfl) hM cw_lr_venue in_lr (by decide) (Nat.le_of_ble_eq_true hre) (Nat.zero_le _) (Nat.zero_le _) k
theorem c_lw_breaks_4 {q : Nat} {fs : List (Option (Option Nat))} {a1 : Value} (hS : SH[q]? = some (.inr (7, fs))) (hre : Nat.ble rest.length 4 = true) (hM : zF l d M_lr_breaks (.ref q :: [a1]) τ v τ') (k : zV l (d + 1) M_lw_breaks 7 ls (v.toList ++ rest) τ' (0, 0) r) : zV l (d + 1) M_lw_breaks 4 ls (a1 :: .ref q :: rest) τ (0, 0) r := zi_call (zJ_virt (as := [a1]) d_lw_breaks_4 zC7 rfl ml_lw_43 im_lr_breaks sl_lr_breaks cw_lr_breaks ⟨by decide, by decide⟩ (n := 1) (by decide +kernel) hS rfl rfl) hM cw_lr_breaks in_lr (by decide) (Nat.le_of_ble_eq_true hre) (Nat.zero_le _) (Nat.zero_le _) k
theorem c_lw_swapRounds_5 {q : Nat} {fs : List (Option (Option Nat))} {a1 a2 : Value} (hS : SH[q]? = some (.inr (7, fs))) (hre : Nat.ble rest.length 4 = true) (hM : zF l d M_lr_swapRounds (.ref q :: [a1, a2]) τ v τ') (k : zV l (d + 1) M_lw_swapRounds 8 ls (v.toList ++ rest) τ' (0, 0) r) : zV l (d + 1) M_lw_swapRounds 5 ls (a2 :: a1 :: .ref q :: rest) τ (0, 0) r := zi_call (zJ_virt (as := [a1, a2]) d_lw_swapRounds_5 zC7 rfl ml_lw_46 im_lr_swapRounds sl_lr_swapRounds cw_lr_swapRounds ⟨by decide, by decide⟩ (n := 2) (by decide +kernel) hS rfl rfl) hM cw_lr_swapRounds in_lr (by decide) (Nat.le_of_ble_eq_true hre) (Nat.zero_le _) (Nat.zero_le _) k
theorem c_lw_result_9 {q : Nat} {fs : List (Option (Option Nat))} {a1 a2 a3 a4 : Value} (hS : SH[q]? = some (.inr (7, fs))) (hre : Nat.ble rest.length 4 = true) (hM : zF l d M_lr_result (.ref q :: [a1, a2, a3, a4]) τ v τ') (k : zV l (d + 1) M_lw_result 12 ls (v.toList ++ rest) τ' (0, 0) r) : zV l (d + 1) M_lw_result 9 ls (a4 :: a3 :: a2 :: a1 :: .ref q :: rest) τ (0, 0) r := zi_call (zJ_virt (as := [a1, a2, a3, a4]) d_lw_result_9 zC7 rfl ml_lw_50 im_lr_result sl_lr_result cw_lr_result ⟨by decide, by decide⟩ (n := 4) (by decide +kernel) hS rfl rfl) hM cw_lr_result in_lr (by decide) (Nat.le_of_ble_eq_true hre) (Nat.zero_le _) (Nat.zero_le _) k
theorem c_lw_table_5 {q : Nat} {fs : List (Option (Option Nat))} {a1 a2 : Value} (hS : SH[q]? = some (.inr (7, fs))) (hre : Nat.ble rest.length 4 = true) (hM : zF l d M_lr_table (.ref q :: [a1, a2]) τ v τ') (k : zV l (d + 1) M_lw_table 8 ls (v.toList ++ rest) τ' (0, 0) r) : zV l (d + 1) M_lw_table 5 ls (a2 :: a1 :: .ref q :: rest) τ (0, 0) r := zi_call (zJ_virt (as := [a1, a2]) d_lw_table_5 zC7 rfl ml_lw_56 im_lr_table sl_lr_table cw_lr_table ⟨by decide, by decide⟩ (n := 2) (by decide +kernel) hS rfl rfl) hM cw_lr_table in_lr (by decide) (Nat.le_of_ble_eq_true hre) (Nat.zero_le _) (Nat.zero_le _) k
theorem c_lw_washOut_4 {q : Nat} {fs : List (Option (Option Nat))} {a1 : Value} (hS : SH[q]? = some (.inr (7, fs))) (hre : Nat.ble rest.length 4 = true) (hM : zF l d M_lr_washOut (.ref q :: [a1]) τ v τ') (k : zV l (d + 1) M_lw_washOut 7 ls (v.toList ++ rest) τ' (0, 0) r) : zV l (d + 1) M_lw_washOut 4 ls (a1 :: .ref q :: rest) τ (0, 0) r := zi_call (zJ_virt (as := [a1]) d_lw_washOut_4 zC7 rfl ml_lw_59 im_lr_washOut sl_lr_washOut cw_lr_washOut ⟨by decide, by decide⟩ (n := 1) (by decide +kernel) hS rfl rfl) hM cw_lr_washOut in_lr (by decide) (Nat.le_of_ble_eq_true hre) (Nat.zero_le _) (Nat.zero_le _) k
theorem c_lw_reserve_4 {q : Nat} {fs : List (Option (Option Nat))} {a1 : Value} (hS : SH[q]? = some (.inr (7, fs))) (hre : Nat.ble rest.length 4 = true) (hM : zF l d M_lr_reserve (.ref q :: [a1]) τ v τ') (k : zV l (d + 1) M_lw_reserve 7 ls (v.toList ++ rest) τ' (0, 0) r) : zV l (d + 1) M_lw_reserve 4 ls (a1 :: .ref q :: rest) τ (0, 0) r := zi_call (zJ_virt (as := [a1]) d_lw_reserve_4 zC7 rfl ml_lw_62 im_lr_reserve sl_lr_reserve cw_lr_reserve ⟨by decide, by decide⟩ (n := 1) (by decide +kernel) hS rfl rfl) hM cw_lr_reserve in_lr (by decide) (Nat.le_of_ble_eq_true hre) (Nat.zero_le _) (Nat.zero_le _) k
theorem c_lw_catchUp_3 {q : Nat} {fs : List (Option (Option Nat))} (hS : SH[q]? = some (.inr (7, fs))) (hre : Nat.ble rest.length 4 = true) (hM : zF l d M_lr_catchUp (.ref q :: []) τ v τ') (k : zV l (d + 1) M_lw_catchUp 6 ls (v.toList ++ rest) τ' (0, 0) r) : zV l (d + 1) M_lw_catchUp 3 ls (.ref q :: rest) τ (0, 0) r := zi_call (zJ_virt (as := []) d_lw_catchUp_3 zC7 rfl ml_lw_65 im_lr_catchUp sl_lr_catchUp cw_lr_catchUp ⟨by decide, by decide⟩ (n := 0) (by decide +kernel) hS rfl rfl) hM cw_lr_catchUp in_lr (by decide) (Nat.le_of_ble_eq_true hre) (Nat.zero_le _) (Nat.zero_le _) k
theorem c_lw_catchDate_5 {q : Nat} {fs : List (Option (Option Nat))} {a1 a2 : Value} (hS : SH[q]? = some (.inr (7, fs))) (hre : Nat.ble rest.length 4 = true) (hM : zF l d M_lr_catchDate (.ref q :: [a1, a2]) τ v τ') (k : zV l (d + 1) M_lw_catchDate 8 ls (v.toList ++ rest) τ' (0, 0) r) : zV l (d + 1) M_lw_catchDate 5 ls (a2 :: a1 :: .ref q :: rest) τ (0, 0) r := zi_call (zJ_virt (as := [a1, a2]) d_lw_catchDate_5 zC7 rfl ml_lw_69 im_lr_catchDate sl_lr_catchDate cw_lr_catchDate ⟨by decide, by decide⟩ (n := 2) (by decide +kernel) hS rfl rfl) hM cw_lr_catchDate in_lr (by decide) (Nat.le_of_ble_eq_true hre) (Nat.zero_le _) (Nat.zero_le _) k
end ZQ2
/-- a helper's end: k, the world, at most one cell made -/
abbrev zH (l : Launch) (d : Nat) (M : zM) (as : List Value) (τ : tS) (k : Int) (τ' : tS) : Prop := zMet l d M as (SH, zq τ) (.inl (some (vi k)), (SH, zq τ'), 1, 6)
section ZQ3
variable {l : Launch} {d : Nat} {M : zM} {pc : Nat} {ls st : List Value} {τ : tS} {cs : Nat × Nat} {r : zR}
theorem zi_out {b : Int} (hd : decode M.2.1 pc = .ok (.i2l, 1)) (hd2 : decode M.2.1 (pc + 1) = .ok (.lastore, 1)) (k : zV l d M (pc + 1 + 1) ls st (tU τ 62 0 b) cs r) : zV l d M pc ls (vi b :: vi 0 :: .ref 62 :: st) τ cs r := by
  refine zr_i2l hd ?_
  refine zr_last (n := 1) hd2 rfl (zin_in (a := 0) (by decide) (by decide) (by decide)) ?_
  have e : (Int32.ofInt 0).toNatClampNeg = 0 := by decide
  show zW l d M (pc + 1 + 1) ls st (SH, zU (zq τ) 62 (Int32.ofInt 0).toNatClampNeg (Int32.ofInt b)) cs r
  rw [e, zq_U]
  exact k
theorem zi_outL {x : Int64} {b : Int} (e0 : x = (Int32.ofInt b).toInt64) (hd2 : decode M.2.1 pc = .ok (.lastore, 1)) (k : zV l d M (pc + 1) ls st (tU τ 62 0 b) cs r) : zV l d M pc ls (.long x :: vi 0 :: .ref 62 :: st) τ cs r := by
  rw [e0]
  refine zr_last (n := 1) hd2 rfl (zin_in (a := 0) (by decide) (by decide) (by decide)) ?_
  have e : (Int32.ofInt 0).toNatClampNeg = 0 := by decide
  show zW l d M (pc + 1) ls st (SH, zU (zq τ) 62 (Int32.ofInt 0).toNatClampNeg (Int32.ofInt b)) cs r
  rw [e, zq_U]
  exact k
theorem lg_0 : Int64.ofNat ((0 : Fin 2) : Nat) = (Int32.ofInt 0).toInt64 := by decide
theorem lg_1 : Int64.ofNat ((1 : Fin 2) : Nat) = (Int32.ofInt 1).toInt64 := by decide
end ZQ3
theorem lw_teams_ok {l : Launch} {d : Nat} {τ τ1 : tS} {a1 : Int} (hM : zF l (d + 64) M_lr_teams [.ref 0, vi a1] τ (none) τ1) : zH l (d + 65) M_lw_teams [.ref 0, vi a1] τ 0 (τ1) := by
  refine zMet_of (ls := [.ref 0, vi a1, .null]) pn_lw rfl (by simp [vi, Value.category]) rfl rfl ?_
  refine zr_aload_n d_lw_teams_0 rfl ?_
  refine zi_iload_n d_lw_teams_1 rfl ?_
  refine c_lw_teams_2 rfl rfl hM ?_
  refine zr_goto 11 d_lw_teams_5 (by decide) ?_
  refine zi_iconst d_lw_teams_11 ?_
  exact zk_iret rfl d_lw_teams_12 (Nat.zero_le _) (Nat.zero_le _) rfl rfl
theorem lw_teams_e1 {l : Launch} {d : Nat} {τ : tS} {a1 : Int} (hM : zG l (d + 64) M_lr_teams [.ref 0, vi a1] τ "java/lang/IllegalArgumentException" τ) : zH l (d + 65) M_lw_teams [.ref 0, vi a1] τ 1 τ := by
  refine zMet_of (ls := [.ref 0, vi a1, .null]) pn_lw rfl (by simp [vi, Value.category]) rfl rfl ?_
  refine zr_aload_n d_lw_teams_0 rfl ?_
  refine zi_iload_n d_lw_teams_1 rfl ?_
  refine zr_callC (pre := []) (suf := []) (x := (0, 5, 8, 13)) (n := 1) (k := 2) (la := 1) (zJ_virt (as := [vi a1]) d_lw_teams_2 zC7 rfl ml_lw_7 im_lr_teams sl_lr_teams cw_lr_teams ⟨by decide, by decide⟩ (n := 1) (by decide +kernel) rfl rfl rfl) hM cw_lr_teams in_lr (by decide) (by decide) rfl rfl (fun y hy => absurd hy List.not_mem_nil) ⟨⟨by decide, by decide⟩, by decide, kl_lw_13⟩ ca_0 (by decide) (by decide) (by decide) (fun hx hb h k => lv_astore_n hx hb d_lw_teams_8 rfl h (by decide) rfl (fun ls' _ => k ls')) d_lw_teams_9 d_lw_teams_10 rfl
theorem lw_ban_ok {l : Launch} {d : Nat} {τ τ1 : tS} {a1 a2 a3 : Int} {b : Int} (hM : zF l (d + 64) M_lr_ban [.ref 0, vi a1, vi a2, vi a3] τ (some (vi b)) τ1) : zH l (d + 65) M_lw_ban [.ref 0, vi a1, vi a2, vi a3, .ref 62] τ 0 (tU τ1 62 0 b) := by
  refine zMet_of (ls := [.ref 0, vi a1, vi a2, vi a3, .ref 62, .null]) pn_lw rfl (by simp [vi, Value.category]) rfl rfl ?_
  refine zr_aload d_lw_ban_0 rfl ?_
  refine zi_iconst d_lw_ban_2 ?_
  refine zr_aload_n d_lw_ban_3 rfl ?_
  refine zi_iload_n d_lw_ban_4 rfl ?_
  refine zi_iload_n d_lw_ban_5 rfl ?_
  refine zi_iload_n d_lw_ban_6 rfl ?_
  refine c_lw_ban_7 rfl rfl hM ?_
  show zV _ _ _ _ _ (vi b :: vi 0 :: .ref 62 :: []) _ _ _
  refine zi_out d_lw_ban_10 d_lw_ban_11 ?_
  refine zr_goto 19 d_lw_ban_12 (by decide) ?_
  refine zi_iconst d_lw_ban_19 ?_
  exact zk_iret rfl d_lw_ban_20 (Nat.zero_le _) (Nat.zero_le _) rfl rfl
theorem lw_ban_e1 {l : Launch} {d : Nat} {τ : tS} {a1 a2 a3 : Int} (hM : zG l (d + 64) M_lr_ban [.ref 0, vi a1, vi a2, vi a3] τ "java/lang/IllegalArgumentException" τ) : zH l (d + 65) M_lw_ban [.ref 0, vi a1, vi a2, vi a3, .ref 62] τ 1 τ := by
  refine zMet_of (ls := [.ref 0, vi a1, vi a2, vi a3, .ref 62, .null]) pn_lw rfl (by simp [vi, Value.category]) rfl rfl ?_
  refine zr_aload d_lw_ban_0 rfl ?_
  refine zi_iconst d_lw_ban_2 ?_
  refine zr_aload_n d_lw_ban_3 rfl ?_
  refine zi_iload_n d_lw_ban_4 rfl ?_
  refine zi_iload_n d_lw_ban_5 rfl ?_
  refine zi_iload_n d_lw_ban_6 rfl ?_
  refine zr_callC (pre := []) (suf := []) (x := (0, 12, 15, 13)) (n := 1) (k := 5) (la := 2) (zJ_virt (as := [vi a1, vi a2, vi a3]) d_lw_ban_7 zC7 rfl ml_lw_15 im_lr_ban sl_lr_ban cw_lr_ban ⟨by decide, by decide⟩ (n := 3) (by decide +kernel) rfl rfl rfl) hM cw_lr_ban in_lr (by decide) (by decide) rfl rfl (fun y hy => absurd hy List.not_mem_nil) ⟨⟨by decide, by decide⟩, by decide, kl_lw_13⟩ ca_0 (by decide) (by decide) (by decide) (fun hx hb h k => lv_astore hx hb d_lw_ban_15 h (by decide) rfl (fun ls' _ => k ls')) d_lw_ban_17 d_lw_ban_18 rfl
theorem lw_shareGround_ok {l : Launch} {d : Nat} {τ τ1 : tS} {a1 a2 : Int} {b : Int} (hM : zF l (d + 64) M_lr_shareGround [.ref 0, vi a1, vi a2] τ (some (vi b)) τ1) : zH l (d + 65) M_lw_shareGround [.ref 0, vi a1, vi a2, .ref 62] τ 0 (tU τ1 62 0 b) := by
  refine zMet_of (ls := [.ref 0, vi a1, vi a2, .ref 62, .null]) pn_lw rfl (by simp [vi, Value.category]) rfl rfl ?_
  refine zr_aload_n d_lw_shareGround_0 rfl ?_
  refine zi_iconst d_lw_shareGround_1 ?_
  refine zr_aload_n d_lw_shareGround_2 rfl ?_
  refine zi_iload_n d_lw_shareGround_3 rfl ?_
  refine zi_iload_n d_lw_shareGround_4 rfl ?_
  refine c_lw_shareGround_5 rfl rfl hM ?_
  show zV _ _ _ _ _ (vi b :: vi 0 :: .ref 62 :: []) _ _ _
  refine zi_out d_lw_shareGround_8 d_lw_shareGround_9 ?_
  refine zr_goto 21 d_lw_shareGround_10 (by decide) ?_
  refine zi_iconst d_lw_shareGround_21 ?_
  exact zk_iret rfl d_lw_shareGround_22 (Nat.zero_le _) (Nat.zero_le _) rfl rfl
theorem lw_shareGround_e1 {l : Launch} {d : Nat} {τ : tS} {a1 a2 : Int} (hM : zG l (d + 64) M_lr_shareGround [.ref 0, vi a1, vi a2] τ "java/lang/IllegalArgumentException" τ) : zH l (d + 65) M_lw_shareGround [.ref 0, vi a1, vi a2, .ref 62] τ 1 τ := by
  refine zMet_of (ls := [.ref 0, vi a1, vi a2, .ref 62, .null]) pn_lw rfl (by simp [vi, Value.category]) rfl rfl ?_
  refine zr_aload_n d_lw_shareGround_0 rfl ?_
  refine zi_iconst d_lw_shareGround_1 ?_
  refine zr_aload_n d_lw_shareGround_2 rfl ?_
  refine zi_iload_n d_lw_shareGround_3 rfl ?_
  refine zi_iload_n d_lw_shareGround_4 rfl ?_
  refine zr_callC (pre := []) (suf := [(0, 10, 17, 23)]) (x := (0, 10, 13, 13)) (n := 1) (k := 4) (la := 2) (zJ_virt (as := [vi a1, vi a2]) d_lw_shareGround_5 zC7 rfl ml_lw_19 im_lr_shareGround sl_lr_shareGround cw_lr_shareGround ⟨by decide, by decide⟩ (n := 2) (by decide +kernel) rfl rfl rfl) hM cw_lr_shareGround in_lr (by decide) (by decide) rfl rfl (fun y hy => absurd hy List.not_mem_nil) ⟨⟨by decide, by decide⟩, by decide, kl_lw_13⟩ ca_0 (by decide) (by decide) (by decide) (fun hx hb h k => lv_astore hx hb d_lw_shareGround_13 h (by decide) rfl (fun ls' _ => k ls')) d_lw_shareGround_15 d_lw_shareGround_16 rfl
theorem lw_shareGround_e2 {l : Launch} {d : Nat} {τ : tS} {a1 a2 : Int} (hM : zG l (d + 64) M_lr_shareGround [.ref 0, vi a1, vi a2] τ "java/lang/IllegalStateException" τ) : zH l (d + 65) M_lw_shareGround [.ref 0, vi a1, vi a2, .ref 62] τ 2 τ := by
  refine zMet_of (ls := [.ref 0, vi a1, vi a2, .ref 62, .null]) pn_lw rfl (by simp [vi, Value.category]) rfl rfl ?_
  refine zr_aload_n d_lw_shareGround_0 rfl ?_
  refine zi_iconst d_lw_shareGround_1 ?_
  refine zr_aload_n d_lw_shareGround_2 rfl ?_
  refine zi_iload_n d_lw_shareGround_3 rfl ?_
  refine zi_iload_n d_lw_shareGround_4 rfl ?_
  refine zr_callC (pre := [(0, 10, 13, 13)]) (suf := []) (x := (0, 10, 17, 23)) (n := 2) (k := 4) (la := 2) (zJ_virt (as := [vi a1, vi a2]) d_lw_shareGround_5 zC7 rfl ml_lw_19 im_lr_shareGround sl_lr_shareGround cw_lr_shareGround ⟨by decide, by decide⟩ (n := 2) (by decide +kernel) rfl rfl rfl) hM cw_lr_shareGround in_lr (by decide) (by decide) rfl rfl (by
    intro y hy
    simp only [List.mem_cons, List.not_mem_nil, or_false] at hy
    rcases hy with rfl
    · exact ⟨⟨by decide, by decide⟩, by decide, _, kl_lw_13, by decide⟩) ⟨⟨by decide, by decide⟩, by decide, kl_lw_23⟩ ca_1 (by decide) (by decide) (by decide) (fun hx hb h k => lv_astore hx hb d_lw_shareGround_17 h (by decide) rfl (fun ls' _ => k ls')) d_lw_shareGround_19 d_lw_shareGround_20 rfl
theorem lw_fixGame_ok {l : Launch} {d : Nat} {τ τ1 : tS} {a1 a2 a3 : Int} {b : Int} (hM : zF l (d + 64) M_lr_fixGame [.ref 0, vi a1, vi a2, vi a3] τ (some (vi b)) τ1) : zH l (d + 65) M_lw_fixGame [.ref 0, vi a1, vi a2, vi a3, .ref 62] τ 0 (tU τ1 62 0 b) := by
  refine zMet_of (ls := [.ref 0, vi a1, vi a2, vi a3, .ref 62, .null]) pn_lw rfl (by simp [vi, Value.category]) rfl rfl ?_
  refine zr_aload d_lw_fixGame_0 rfl ?_
  refine zi_iconst d_lw_fixGame_2 ?_
  refine zr_aload_n d_lw_fixGame_3 rfl ?_
  refine zi_iload_n d_lw_fixGame_4 rfl ?_
  refine zi_iload_n d_lw_fixGame_5 rfl ?_
  refine zi_iload_n d_lw_fixGame_6 rfl ?_
  refine c_lw_fixGame_7 rfl rfl hM ?_
  show zV _ _ _ _ _ (vi b :: vi 0 :: .ref 62 :: []) _ _ _
  refine zi_out d_lw_fixGame_10 d_lw_fixGame_11 ?_
  refine zr_goto 23 d_lw_fixGame_12 (by decide) ?_
  refine zi_iconst d_lw_fixGame_23 ?_
  exact zk_iret rfl d_lw_fixGame_24 (Nat.zero_le _) (Nat.zero_le _) rfl rfl
theorem lw_fixGame_e1 {l : Launch} {d : Nat} {τ : tS} {a1 a2 a3 : Int} (hM : zG l (d + 64) M_lr_fixGame [.ref 0, vi a1, vi a2, vi a3] τ "java/lang/IllegalArgumentException" τ) : zH l (d + 65) M_lw_fixGame [.ref 0, vi a1, vi a2, vi a3, .ref 62] τ 1 τ := by
  refine zMet_of (ls := [.ref 0, vi a1, vi a2, vi a3, .ref 62, .null]) pn_lw rfl (by simp [vi, Value.category]) rfl rfl ?_
  refine zr_aload d_lw_fixGame_0 rfl ?_
  refine zi_iconst d_lw_fixGame_2 ?_
  refine zr_aload_n d_lw_fixGame_3 rfl ?_
  refine zi_iload_n d_lw_fixGame_4 rfl ?_
  refine zi_iload_n d_lw_fixGame_5 rfl ?_
  refine zi_iload_n d_lw_fixGame_6 rfl ?_
  refine zr_callC (pre := []) (suf := [(0, 12, 19, 23)]) (x := (0, 12, 15, 13)) (n := 1) (k := 5) (la := 2) (zJ_virt (as := [vi a1, vi a2, vi a3]) d_lw_fixGame_7 zC7 rfl ml_lw_25 im_lr_fixGame sl_lr_fixGame cw_lr_fixGame ⟨by decide, by decide⟩ (n := 3) (by decide +kernel) rfl rfl rfl) hM cw_lr_fixGame in_lr (by decide) (by decide) rfl rfl (fun y hy => absurd hy List.not_mem_nil) ⟨⟨by decide, by decide⟩, by decide, kl_lw_13⟩ ca_0 (by decide) (by decide) (by decide) (fun hx hb h k => lv_astore hx hb d_lw_fixGame_15 h (by decide) rfl (fun ls' _ => k ls')) d_lw_fixGame_17 d_lw_fixGame_18 rfl
theorem lw_fixGame_e2 {l : Launch} {d : Nat} {τ : tS} {a1 a2 a3 : Int} (hM : zG l (d + 64) M_lr_fixGame [.ref 0, vi a1, vi a2, vi a3] τ "java/lang/IllegalStateException" τ) : zH l (d + 65) M_lw_fixGame [.ref 0, vi a1, vi a2, vi a3, .ref 62] τ 2 τ := by
  refine zMet_of (ls := [.ref 0, vi a1, vi a2, vi a3, .ref 62, .null]) pn_lw rfl (by simp [vi, Value.category]) rfl rfl ?_
  refine zr_aload d_lw_fixGame_0 rfl ?_
  refine zi_iconst d_lw_fixGame_2 ?_
  refine zr_aload_n d_lw_fixGame_3 rfl ?_
  refine zi_iload_n d_lw_fixGame_4 rfl ?_
  refine zi_iload_n d_lw_fixGame_5 rfl ?_
  refine zi_iload_n d_lw_fixGame_6 rfl ?_
  refine zr_callC (pre := [(0, 12, 15, 13)]) (suf := []) (x := (0, 12, 19, 23)) (n := 2) (k := 5) (la := 2) (zJ_virt (as := [vi a1, vi a2, vi a3]) d_lw_fixGame_7 zC7 rfl ml_lw_25 im_lr_fixGame sl_lr_fixGame cw_lr_fixGame ⟨by decide, by decide⟩ (n := 3) (by decide +kernel) rfl rfl rfl) hM cw_lr_fixGame in_lr (by decide) (by decide) rfl rfl (by
    intro y hy
    simp only [List.mem_cons, List.not_mem_nil, or_false] at hy
    rcases hy with rfl
    · exact ⟨⟨by decide, by decide⟩, by decide, _, kl_lw_13, by decide⟩) ⟨⟨by decide, by decide⟩, by decide, kl_lw_23⟩ ca_1 (by decide) (by decide) (by decide) (fun hx hb h k => lv_astore hx hb d_lw_fixGame_19 h (by decide) rfl (fun ls' _ => k ls')) d_lw_fixGame_21 d_lw_fixGame_22 rfl
theorem lw_awayCap_ok {l : Launch} {d : Nat} {τ τ1 : tS} {a1 : Int} (hM : zF l (d + 64) M_lr_awayCap [.ref 0, vi a1] τ (none) τ1) : zH l (d + 65) M_lw_awayCap [.ref 0, vi a1] τ 0 (τ1) := by
  refine zMet_of (ls := [.ref 0, vi a1, .null]) pn_lw rfl (by simp [vi, Value.category]) rfl rfl ?_
  refine zr_aload_n d_lw_awayCap_0 rfl ?_
  refine zi_iload_n d_lw_awayCap_1 rfl ?_
  refine c_lw_awayCap_2 rfl rfl hM ?_
  refine zr_goto 11 d_lw_awayCap_5 (by decide) ?_
  refine zi_iconst d_lw_awayCap_11 ?_
  exact zk_iret rfl d_lw_awayCap_12 (Nat.zero_le _) (Nat.zero_le _) rfl rfl
theorem lw_awayCap_e1 {l : Launch} {d : Nat} {τ : tS} {a1 : Int} (hM : zG l (d + 64) M_lr_awayCap [.ref 0, vi a1] τ "java/lang/IllegalArgumentException" τ) : zH l (d + 65) M_lw_awayCap [.ref 0, vi a1] τ 1 τ := by
  refine zMet_of (ls := [.ref 0, vi a1, .null]) pn_lw rfl (by simp [vi, Value.category]) rfl rfl ?_
  refine zr_aload_n d_lw_awayCap_0 rfl ?_
  refine zi_iload_n d_lw_awayCap_1 rfl ?_
  refine zr_callC (pre := []) (suf := []) (x := (0, 5, 8, 13)) (n := 1) (k := 2) (la := 1) (zJ_virt (as := [vi a1]) d_lw_awayCap_2 zC7 rfl ml_lw_28 im_lr_awayCap sl_lr_awayCap cw_lr_awayCap ⟨by decide, by decide⟩ (n := 1) (by decide +kernel) rfl rfl rfl) hM cw_lr_awayCap in_lr (by decide) (by decide) rfl rfl (fun y hy => absurd hy List.not_mem_nil) ⟨⟨by decide, by decide⟩, by decide, kl_lw_13⟩ ca_0 (by decide) (by decide) (by decide) (fun hx hb h k => lv_astore_n hx hb d_lw_awayCap_8 rfl h (by decide) rfl (fun ls' _ => k ls')) d_lw_awayCap_9 d_lw_awayCap_10 rfl
theorem lw_make_ok {l : Launch} {d : Nat} {τ τ1 : tS} {a1 : Int} {b : Int} (hM : zF l (d + 64) M_lr_make [.ref 0, vi a1] τ (some (vi b)) τ1) : zH l (d + 65) M_lw_make [.ref 0, vi a1, .ref 62] τ 0 (tU τ1 62 0 b) := by
  refine zMet_of (ls := [.ref 0, vi a1, .ref 62, .null]) pn_lw rfl (by simp [vi, Value.category]) rfl rfl ?_
  refine zr_aload_n d_lw_make_0 rfl ?_
  refine zi_iconst d_lw_make_1 ?_
  refine zr_aload_n d_lw_make_2 rfl ?_
  refine zi_iload_n d_lw_make_3 rfl ?_
  refine c_lw_make_4 rfl rfl hM ?_
  show zV _ _ _ _ _ (vi b :: vi 0 :: .ref 62 :: []) _ _ _
  refine zi_out d_lw_make_7 d_lw_make_8 ?_
  refine zr_goto 18 d_lw_make_9 (by decide) ?_
  refine zi_iconst d_lw_make_18 ?_
  exact zk_iret rfl d_lw_make_19 (Nat.zero_le _) (Nat.zero_le _) rfl rfl
theorem lw_make_e1 {l : Launch} {d : Nat} {τ : tS} {a1 : Int} (hM : zG l (d + 64) M_lr_make [.ref 0, vi a1] τ "java/lang/IllegalArgumentException" τ) : zH l (d + 65) M_lw_make [.ref 0, vi a1, .ref 62] τ 1 τ := by
  refine zMet_of (ls := [.ref 0, vi a1, .ref 62, .null]) pn_lw rfl (by simp [vi, Value.category]) rfl rfl ?_
  refine zr_aload_n d_lw_make_0 rfl ?_
  refine zi_iconst d_lw_make_1 ?_
  refine zr_aload_n d_lw_make_2 rfl ?_
  refine zi_iload_n d_lw_make_3 rfl ?_
  refine zr_callC (pre := []) (suf := [(0, 9, 15, 23)]) (x := (0, 9, 12, 13)) (n := 1) (k := 3) (la := 1) (zJ_virt (as := [vi a1]) d_lw_make_4 zC7 rfl ml_lw_31 im_lr_make sl_lr_make cw_lr_make ⟨by decide, by decide⟩ (n := 1) (by decide +kernel) rfl rfl rfl) hM cw_lr_make in_lr (by decide) (by decide) rfl rfl (fun y hy => absurd hy List.not_mem_nil) ⟨⟨by decide, by decide⟩, by decide, kl_lw_13⟩ ca_0 (by decide) (by decide) (by decide) (fun hx hb h k => lv_astore_n hx hb d_lw_make_12 rfl h (by decide) rfl (fun ls' _ => k ls')) d_lw_make_13 d_lw_make_14 rfl
theorem lw_make_e2 {l : Launch} {d : Nat} {τ : tS} {a1 : Int} (hM : zG l (d + 64) M_lr_make [.ref 0, vi a1] τ "java/lang/IllegalStateException" τ) : zH l (d + 65) M_lw_make [.ref 0, vi a1, .ref 62] τ 2 τ := by
  refine zMet_of (ls := [.ref 0, vi a1, .ref 62, .null]) pn_lw rfl (by simp [vi, Value.category]) rfl rfl ?_
  refine zr_aload_n d_lw_make_0 rfl ?_
  refine zi_iconst d_lw_make_1 ?_
  refine zr_aload_n d_lw_make_2 rfl ?_
  refine zi_iload_n d_lw_make_3 rfl ?_
  refine zr_callC (pre := [(0, 9, 12, 13)]) (suf := []) (x := (0, 9, 15, 23)) (n := 2) (k := 3) (la := 1) (zJ_virt (as := [vi a1]) d_lw_make_4 zC7 rfl ml_lw_31 im_lr_make sl_lr_make cw_lr_make ⟨by decide, by decide⟩ (n := 1) (by decide +kernel) rfl rfl rfl) hM cw_lr_make in_lr (by decide) (by decide) rfl rfl (by
    intro y hy
    simp only [List.mem_cons, List.not_mem_nil, or_false] at hy
    rcases hy with rfl
    · exact ⟨⟨by decide, by decide⟩, by decide, _, kl_lw_13, by decide⟩) ⟨⟨by decide, by decide⟩, by decide, kl_lw_23⟩ ca_1 (by decide) (by decide) (by decide) (fun hx hb h k => lv_astore_n hx hb d_lw_make_15 rfl h (by decide) rfl (fun ls' _ => k ls')) d_lw_make_16 d_lw_make_17 rfl
theorem lw_opponent_ok {l : Launch} {d : Nat} {τ τ1 : tS} {a1 a2 : Int} {b : Int} (hM : zF l (d + 64) M_lr_opponent [.ref 0, vi a1, vi a2] τ (some (vi b)) τ1) : zH l (d + 65) M_lw_opponent [.ref 0, vi a1, vi a2, .ref 62] τ 0 (tU τ1 62 0 b) := by
  refine zMet_of (ls := [.ref 0, vi a1, vi a2, .ref 62, .null]) pn_lw rfl (by simp [vi, Value.category]) rfl rfl ?_
  refine zr_aload_n d_lw_opponent_0 rfl ?_
  refine zi_iconst d_lw_opponent_1 ?_
  refine zr_aload_n d_lw_opponent_2 rfl ?_
  refine zi_iload_n d_lw_opponent_3 rfl ?_
  refine zi_iload_n d_lw_opponent_4 rfl ?_
  refine c_lw_opponent_5 rfl rfl hM ?_
  show zV _ _ _ _ _ (vi b :: vi 0 :: .ref 62 :: []) _ _ _
  refine zi_out d_lw_opponent_8 d_lw_opponent_9 ?_
  refine zr_goto 17 d_lw_opponent_10 (by decide) ?_
  refine zi_iconst d_lw_opponent_17 ?_
  exact zk_iret rfl d_lw_opponent_18 (Nat.zero_le _) (Nat.zero_le _) rfl rfl
theorem lw_opponent_e1 {l : Launch} {d : Nat} {τ : tS} {a1 a2 : Int} (hM : zG l (d + 64) M_lr_opponent [.ref 0, vi a1, vi a2] τ "java/lang/IndexOutOfBoundsException" τ) : zH l (d + 65) M_lw_opponent [.ref 0, vi a1, vi a2, .ref 62] τ 1 τ := by
  refine zMet_of (ls := [.ref 0, vi a1, vi a2, .ref 62, .null]) pn_lw rfl (by simp [vi, Value.category]) rfl rfl ?_
  refine zr_aload_n d_lw_opponent_0 rfl ?_
  refine zi_iconst d_lw_opponent_1 ?_
  refine zr_aload_n d_lw_opponent_2 rfl ?_
  refine zi_iload_n d_lw_opponent_3 rfl ?_
  refine zi_iload_n d_lw_opponent_4 rfl ?_
  refine zr_callC (pre := []) (suf := []) (x := (0, 10, 13, 38)) (n := 1) (k := 4) (la := 2) (zJ_virt (as := [vi a1, vi a2]) d_lw_opponent_5 zC7 rfl ml_lw_35 im_lr_opponent sl_lr_opponent cw_lr_opponent ⟨by decide, by decide⟩ (n := 2) (by decide +kernel) rfl rfl rfl) hM cw_lr_opponent in_lr (by decide) (by decide) rfl rfl (fun y hy => absurd hy List.not_mem_nil) ⟨⟨by decide, by decide⟩, by decide, kl_lw_38⟩ ca_2 (by decide) (by decide) (by decide) (fun hx hb h k => lv_astore hx hb d_lw_opponent_13 h (by decide) rfl (fun ls' _ => k ls')) d_lw_opponent_15 d_lw_opponent_16 rfl
theorem lw_venue_ok {l : Launch} {d : Nat} {τ τ1 : tS} {a1 a2 : Int} {b : Int} (hM : zF l (d + 64) M_lr_venue [.ref 0, vi a1, vi a2] τ (some (vi b)) τ1) : zH l (d + 65) M_lw_venue [.ref 0, vi a1, vi a2, .ref 62] τ 0 (tU τ1 62 0 b) := by
  refine zMet_of (ls := [.ref 0, vi a1, vi a2, .ref 62, .null]) pn_lw rfl (by simp [vi, Value.category]) rfl rfl ?_
  refine zr_aload_n d_lw_venue_0 rfl ?_
  refine zi_iconst d_lw_venue_1 ?_
  refine zr_aload_n d_lw_venue_2 rfl ?_
  refine zi_iload_n d_lw_venue_3 rfl ?_
  refine zi_iload_n d_lw_venue_4 rfl ?_
  refine c_lw_venue_5 rfl rfl hM ?_
  show zV _ _ _ _ _ (vi b :: vi 0 :: .ref 62 :: []) _ _ _
  refine zi_out d_lw_venue_8 d_lw_venue_9 ?_
  refine zr_goto 17 d_lw_venue_10 (by decide) ?_
  refine zi_iconst d_lw_venue_17 ?_
  exact zk_iret rfl d_lw_venue_18 (Nat.zero_le _) (Nat.zero_le _) rfl rfl
theorem lw_venue_e1 {l : Launch} {d : Nat} {τ : tS} {a1 a2 : Int} (hM : zG l (d + 64) M_lr_venue [.ref 0, vi a1, vi a2] τ "java/lang/IndexOutOfBoundsException" τ) : zH l (d + 65) M_lw_venue [.ref 0, vi a1, vi a2, .ref 62] τ 1 τ := by
  refine zMet_of (ls := [.ref 0, vi a1, vi a2, .ref 62, .null]) pn_lw rfl (by simp [vi, Value.category]) rfl rfl ?_
  refine zr_aload_n d_lw_venue_0 rfl ?_
  refine zi_iconst d_lw_venue_1 ?_
  refine zr_aload_n d_lw_venue_2 rfl ?_
  refine zi_iload_n d_lw_venue_3 rfl ?_
  refine zi_iload_n d_lw_venue_4 rfl ?_
  refine zr_callC (pre := []) (suf := []) (x := (0, 10, 13, 38)) (n := 1) (k := 4) (la := 2) (zJ_virt (as := [vi a1, vi a2]) d_lw_venue_5 zC7 rfl ml_lw_40 im_lr_venue sl_lr_venue cw_lr_venue ⟨by decide, by decide⟩ (n := 2) (by decide +kernel) rfl rfl rfl) hM cw_lr_venue in_lr (by decide) (by decide) rfl rfl (fun y hy => absurd hy List.not_mem_nil) ⟨⟨by decide, by decide⟩, by decide, kl_lw_38⟩ ca_2 (by decide) (by decide) (by decide) (fun hx hb h k => lv_astore hx hb d_lw_venue_13 h (by decide) rfl (fun ls' _ => k ls')) d_lw_venue_15 d_lw_venue_16 rfl
theorem lw_breaks_ok {l : Launch} {d : Nat} {τ τ1 : tS} {a1 : Int} {b : Int} (hM : zF l (d + 64) M_lr_breaks [.ref 0, vi a1] τ (some (vi b)) τ1) : zH l (d + 65) M_lw_breaks [.ref 0, vi a1, .ref 62] τ 0 (tU τ1 62 0 b) := by
  refine zMet_of (ls := [.ref 0, vi a1, .ref 62, .null]) pn_lw rfl (by simp [vi, Value.category]) rfl rfl ?_
  refine zr_aload_n d_lw_breaks_0 rfl ?_
  refine zi_iconst d_lw_breaks_1 ?_
  refine zr_aload_n d_lw_breaks_2 rfl ?_
  refine zi_iload_n d_lw_breaks_3 rfl ?_
  refine c_lw_breaks_4 rfl rfl hM ?_
  show zV _ _ _ _ _ (vi b :: vi 0 :: .ref 62 :: []) _ _ _
  refine zi_out d_lw_breaks_7 d_lw_breaks_8 ?_
  refine zr_goto 15 d_lw_breaks_9 (by decide) ?_
  refine zi_iconst d_lw_breaks_15 ?_
  exact zk_iret rfl d_lw_breaks_16 (Nat.zero_le _) (Nat.zero_le _) rfl rfl
theorem lw_breaks_e1 {l : Launch} {d : Nat} {τ : tS} {a1 : Int} (hM : zG l (d + 64) M_lr_breaks [.ref 0, vi a1] τ "java/lang/IndexOutOfBoundsException" τ) : zH l (d + 65) M_lw_breaks [.ref 0, vi a1, .ref 62] τ 1 τ := by
  refine zMet_of (ls := [.ref 0, vi a1, .ref 62, .null]) pn_lw rfl (by simp [vi, Value.category]) rfl rfl ?_
  refine zr_aload_n d_lw_breaks_0 rfl ?_
  refine zi_iconst d_lw_breaks_1 ?_
  refine zr_aload_n d_lw_breaks_2 rfl ?_
  refine zi_iload_n d_lw_breaks_3 rfl ?_
  refine zr_callC (pre := []) (suf := []) (x := (0, 9, 12, 38)) (n := 1) (k := 3) (la := 1) (zJ_virt (as := [vi a1]) d_lw_breaks_4 zC7 rfl ml_lw_43 im_lr_breaks sl_lr_breaks cw_lr_breaks ⟨by decide, by decide⟩ (n := 1) (by decide +kernel) rfl rfl rfl) hM cw_lr_breaks in_lr (by decide) (by decide) rfl rfl (fun y hy => absurd hy List.not_mem_nil) ⟨⟨by decide, by decide⟩, by decide, kl_lw_38⟩ ca_2 (by decide) (by decide) (by decide) (fun hx hb h k => lv_astore_n hx hb d_lw_breaks_12 rfl h (by decide) rfl (fun ls' _ => k ls')) d_lw_breaks_13 d_lw_breaks_14 rfl
theorem lw_swapRounds_ok {l : Launch} {d : Nat} {τ τ1 : tS} {a1 a2 : Int} {b : Int} (hb : b = 0 ∨ b = 1) (hM : zF l (d + 64) M_lr_swapRounds [.ref 0, vi a1, vi a2] τ (some (vi b)) τ1) : zH l (d + 65) M_lw_swapRounds [.ref 0, vi a1, vi a2, .ref 62] τ 0 (tU τ1 62 0 b) := by
  refine zMet_of (ls := [.ref 0, vi a1, vi a2, .ref 62, .null]) pn_lw rfl (by simp [vi, Value.category]) rfl rfl ?_
  refine zr_aload_n d_lw_swapRounds_0 rfl ?_
  refine zi_iconst d_lw_swapRounds_1 ?_
  refine zr_aload_n d_lw_swapRounds_2 rfl ?_
  refine zi_iload_n d_lw_swapRounds_3 rfl ?_
  refine zi_iload_n d_lw_swapRounds_4 rfl ?_
  refine c_lw_swapRounds_5 rfl rfl hM ?_
  show zV _ _ _ _ _ (vi b :: vi 0 :: .ref 62 :: []) _ _ _
  refine zi_if_eq 15 d_lw_swapRounds_8 (by decide) ⟨by omega, by omega⟩ (fun h8 => ?_) (fun h8 => ?_)
  · refine zr_lconst (n := 0) d_lw_swapRounds_15 ?_
    refine zi_outL (b := 0) lg_0 d_lw_swapRounds_16 ?_
    have e : b = 0 := h8
    rw [e]
    refine zr_goto 28 d_lw_swapRounds_17 (by decide) ?_
    refine zi_iconst d_lw_swapRounds_28 ?_
    exact zk_iret rfl d_lw_swapRounds_29 (Nat.zero_le _) (Nat.zero_le _) rfl rfl
  · refine zr_lconst (n := 1) d_lw_swapRounds_11 ?_
    refine zr_goto 16 d_lw_swapRounds_12 (by decide) ?_
    refine zi_outL (b := 1) lg_1 d_lw_swapRounds_16 ?_
    have e : b = 1 := by rcases hb with h | h; exact absurd h h8; exact h
    rw [e]
    refine zr_goto 28 d_lw_swapRounds_17 (by decide) ?_
    refine zi_iconst d_lw_swapRounds_28 ?_
    exact zk_iret rfl d_lw_swapRounds_29 (Nat.zero_le _) (Nat.zero_le _) rfl rfl
theorem lw_swapRounds_e1 {l : Launch} {d : Nat} {τ : tS} {a1 a2 : Int} (hM : zG l (d + 64) M_lr_swapRounds [.ref 0, vi a1, vi a2] τ "java/lang/IndexOutOfBoundsException" τ) : zH l (d + 65) M_lw_swapRounds [.ref 0, vi a1, vi a2, .ref 62] τ 1 τ := by
  refine zMet_of (ls := [.ref 0, vi a1, vi a2, .ref 62, .null]) pn_lw rfl (by simp [vi, Value.category]) rfl rfl ?_
  refine zr_aload_n d_lw_swapRounds_0 rfl ?_
  refine zi_iconst d_lw_swapRounds_1 ?_
  refine zr_aload_n d_lw_swapRounds_2 rfl ?_
  refine zi_iload_n d_lw_swapRounds_3 rfl ?_
  refine zi_iload_n d_lw_swapRounds_4 rfl ?_
  refine zr_callC (pre := []) (suf := [(0, 17, 24, 23)]) (x := (0, 17, 20, 38)) (n := 1) (k := 4) (la := 2) (zJ_virt (as := [vi a1, vi a2]) d_lw_swapRounds_5 zC7 rfl ml_lw_46 im_lr_swapRounds sl_lr_swapRounds cw_lr_swapRounds ⟨by decide, by decide⟩ (n := 2) (by decide +kernel) rfl rfl rfl) hM cw_lr_swapRounds in_lr (by decide) (by decide) rfl rfl (fun y hy => absurd hy List.not_mem_nil) ⟨⟨by decide, by decide⟩, by decide, kl_lw_38⟩ ca_2 (by decide) (by decide) (by decide) (fun hx hb h k => lv_astore hx hb d_lw_swapRounds_20 h (by decide) rfl (fun ls' _ => k ls')) d_lw_swapRounds_22 d_lw_swapRounds_23 rfl
theorem lw_swapRounds_e2 {l : Launch} {d : Nat} {τ : tS} {a1 a2 : Int} (hM : zG l (d + 64) M_lr_swapRounds [.ref 0, vi a1, vi a2] τ "java/lang/IllegalStateException" τ) : zH l (d + 65) M_lw_swapRounds [.ref 0, vi a1, vi a2, .ref 62] τ 2 τ := by
  refine zMet_of (ls := [.ref 0, vi a1, vi a2, .ref 62, .null]) pn_lw rfl (by simp [vi, Value.category]) rfl rfl ?_
  refine zr_aload_n d_lw_swapRounds_0 rfl ?_
  refine zi_iconst d_lw_swapRounds_1 ?_
  refine zr_aload_n d_lw_swapRounds_2 rfl ?_
  refine zi_iload_n d_lw_swapRounds_3 rfl ?_
  refine zi_iload_n d_lw_swapRounds_4 rfl ?_
  refine zr_callC (pre := [(0, 17, 20, 38)]) (suf := []) (x := (0, 17, 24, 23)) (n := 2) (k := 4) (la := 2) (zJ_virt (as := [vi a1, vi a2]) d_lw_swapRounds_5 zC7 rfl ml_lw_46 im_lr_swapRounds sl_lr_swapRounds cw_lr_swapRounds ⟨by decide, by decide⟩ (n := 2) (by decide +kernel) rfl rfl rfl) hM cw_lr_swapRounds in_lr (by decide) (by decide) rfl rfl (by
    intro y hy
    simp only [List.mem_cons, List.not_mem_nil, or_false] at hy
    rcases hy with rfl
    · exact ⟨⟨by decide, by decide⟩, by decide, _, kl_lw_38, by decide⟩) ⟨⟨by decide, by decide⟩, by decide, kl_lw_23⟩ ca_1 (by decide) (by decide) (by decide) (fun hx hb h k => lv_astore hx hb d_lw_swapRounds_24 h (by decide) rfl (fun ls' _ => k ls')) d_lw_swapRounds_26 d_lw_swapRounds_27 rfl
theorem lw_result_ok {l : Launch} {d : Nat} {τ τ1 : tS} {a1 a2 a3 a4 : Int} {b : Int} (hM : zF l (d + 64) M_lr_result [.ref 0, vi a1, vi a2, vi a3, vi a4] τ (some (vi b)) τ1) : zH l (d + 65) M_lw_result [.ref 0, vi a1, vi a2, vi a3, vi a4, .ref 62] τ 0 (tU τ1 62 0 b) := by
  refine zMet_of (ls := [.ref 0, vi a1, vi a2, vi a3, vi a4, .ref 62, .null]) pn_lw rfl (by simp [vi, Value.category]) rfl rfl ?_
  refine zr_aload d_lw_result_0 rfl ?_
  refine zi_iconst d_lw_result_2 ?_
  refine zr_aload_n d_lw_result_3 rfl ?_
  refine zi_iload_n d_lw_result_4 rfl ?_
  refine zi_iload_n d_lw_result_5 rfl ?_
  refine zi_iload_n d_lw_result_6 rfl ?_
  refine zi_iload d_lw_result_7 rfl ?_
  refine c_lw_result_9 rfl rfl hM ?_
  show zV _ _ _ _ _ (vi b :: vi 0 :: .ref 62 :: []) _ _ _
  refine zi_out d_lw_result_12 d_lw_result_13 ?_
  refine zr_goto 33 d_lw_result_14 (by decide) ?_
  refine zi_iconst d_lw_result_33 ?_
  exact zk_iret rfl d_lw_result_34 (Nat.zero_le _) (Nat.zero_le _) rfl rfl
theorem lw_result_e1 {l : Launch} {d : Nat} {τ : tS} {a1 a2 a3 a4 : Int} (hM : zG l (d + 64) M_lr_result [.ref 0, vi a1, vi a2, vi a3, vi a4] τ "java/lang/IndexOutOfBoundsException" τ) : zH l (d + 65) M_lw_result [.ref 0, vi a1, vi a2, vi a3, vi a4, .ref 62] τ 1 τ := by
  refine zMet_of (ls := [.ref 0, vi a1, vi a2, vi a3, vi a4, .ref 62, .null]) pn_lw rfl (by simp [vi, Value.category]) rfl rfl ?_
  refine zr_aload d_lw_result_0 rfl ?_
  refine zi_iconst d_lw_result_2 ?_
  refine zr_aload_n d_lw_result_3 rfl ?_
  refine zi_iload_n d_lw_result_4 rfl ?_
  refine zi_iload_n d_lw_result_5 rfl ?_
  refine zi_iload_n d_lw_result_6 rfl ?_
  refine zi_iload d_lw_result_7 rfl ?_
  refine zr_callC (pre := []) (suf := [(0, 14, 21, 13), (0, 14, 25, 54), (0, 14, 29, 23)]) (x := (0, 14, 17, 38)) (n := 1) (k := 6) (la := 2) (zJ_virt (as := [vi a1, vi a2, vi a3, vi a4]) d_lw_result_9 zC7 rfl ml_lw_50 im_lr_result sl_lr_result cw_lr_result ⟨by decide, by decide⟩ (n := 4) (by decide +kernel) rfl rfl rfl) hM cw_lr_result in_lr (by decide) (by decide) rfl rfl (fun y hy => absurd hy List.not_mem_nil) ⟨⟨by decide, by decide⟩, by decide, kl_lw_38⟩ ca_2 (by decide) (by decide) (by decide) (fun hx hb h k => lv_astore hx hb d_lw_result_17 h (by decide) rfl (fun ls' _ => k ls')) d_lw_result_19 d_lw_result_20 rfl
theorem lw_result_e2 {l : Launch} {d : Nat} {τ : tS} {a1 a2 a3 a4 : Int} (hM : zG l (d + 64) M_lr_result [.ref 0, vi a1, vi a2, vi a3, vi a4] τ "java/lang/IllegalArgumentException" τ) : zH l (d + 65) M_lw_result [.ref 0, vi a1, vi a2, vi a3, vi a4, .ref 62] τ 2 τ := by
  refine zMet_of (ls := [.ref 0, vi a1, vi a2, vi a3, vi a4, .ref 62, .null]) pn_lw rfl (by simp [vi, Value.category]) rfl rfl ?_
  refine zr_aload d_lw_result_0 rfl ?_
  refine zi_iconst d_lw_result_2 ?_
  refine zr_aload_n d_lw_result_3 rfl ?_
  refine zi_iload_n d_lw_result_4 rfl ?_
  refine zi_iload_n d_lw_result_5 rfl ?_
  refine zi_iload_n d_lw_result_6 rfl ?_
  refine zi_iload d_lw_result_7 rfl ?_
  refine zr_callC (pre := [(0, 14, 17, 38)]) (suf := [(0, 14, 25, 54), (0, 14, 29, 23)]) (x := (0, 14, 21, 13)) (n := 2) (k := 6) (la := 2) (zJ_virt (as := [vi a1, vi a2, vi a3, vi a4]) d_lw_result_9 zC7 rfl ml_lw_50 im_lr_result sl_lr_result cw_lr_result ⟨by decide, by decide⟩ (n := 4) (by decide +kernel) rfl rfl rfl) hM cw_lr_result in_lr (by decide) (by decide) rfl rfl (by
    intro y hy
    simp only [List.mem_cons, List.not_mem_nil, or_false] at hy
    rcases hy with rfl
    · exact ⟨⟨by decide, by decide⟩, by decide, _, kl_lw_38, by decide⟩) ⟨⟨by decide, by decide⟩, by decide, kl_lw_13⟩ ca_0 (by decide) (by decide) (by decide) (fun hx hb h k => lv_astore hx hb d_lw_result_21 h (by decide) rfl (fun ls' _ => k ls')) d_lw_result_23 d_lw_result_24 rfl
theorem lw_result_e3 {l : Launch} {d : Nat} {τ : tS} {a1 a2 a3 a4 : Int} (hM : zG l (d + 64) M_lr_result [.ref 0, vi a1, vi a2, vi a3, vi a4] τ "java/util/NoSuchElementException" τ) : zH l (d + 65) M_lw_result [.ref 0, vi a1, vi a2, vi a3, vi a4, .ref 62] τ 3 τ := by
  refine zMet_of (ls := [.ref 0, vi a1, vi a2, vi a3, vi a4, .ref 62, .null]) pn_lw rfl (by simp [vi, Value.category]) rfl rfl ?_
  refine zr_aload d_lw_result_0 rfl ?_
  refine zi_iconst d_lw_result_2 ?_
  refine zr_aload_n d_lw_result_3 rfl ?_
  refine zi_iload_n d_lw_result_4 rfl ?_
  refine zi_iload_n d_lw_result_5 rfl ?_
  refine zi_iload_n d_lw_result_6 rfl ?_
  refine zi_iload d_lw_result_7 rfl ?_
  refine zr_callC (pre := [(0, 14, 17, 38), (0, 14, 21, 13)]) (suf := [(0, 14, 29, 23)]) (x := (0, 14, 25, 54)) (n := 3) (k := 6) (la := 2) (zJ_virt (as := [vi a1, vi a2, vi a3, vi a4]) d_lw_result_9 zC7 rfl ml_lw_50 im_lr_result sl_lr_result cw_lr_result ⟨by decide, by decide⟩ (n := 4) (by decide +kernel) rfl rfl rfl) hM cw_lr_result in_lr (by decide) (by decide) rfl rfl (by
    intro y hy
    simp only [List.mem_cons, List.not_mem_nil, or_false] at hy
    rcases hy with rfl | rfl
    · exact ⟨⟨by decide, by decide⟩, by decide, _, kl_lw_38, by decide⟩
    · exact ⟨⟨by decide, by decide⟩, by decide, _, kl_lw_13, by decide⟩) ⟨⟨by decide, by decide⟩, by decide, kl_lw_54⟩ ca_3 (by decide) (by decide) (by decide) (fun hx hb h k => lv_astore hx hb d_lw_result_25 h (by decide) rfl (fun ls' _ => k ls')) d_lw_result_27 d_lw_result_28 rfl
theorem lw_result_e4 {l : Launch} {d : Nat} {τ : tS} {a1 a2 a3 a4 : Int} (hM : zG l (d + 64) M_lr_result [.ref 0, vi a1, vi a2, vi a3, vi a4] τ "java/lang/IllegalStateException" τ) : zH l (d + 65) M_lw_result [.ref 0, vi a1, vi a2, vi a3, vi a4, .ref 62] τ 4 τ := by
  refine zMet_of (ls := [.ref 0, vi a1, vi a2, vi a3, vi a4, .ref 62, .null]) pn_lw rfl (by simp [vi, Value.category]) rfl rfl ?_
  refine zr_aload d_lw_result_0 rfl ?_
  refine zi_iconst d_lw_result_2 ?_
  refine zr_aload_n d_lw_result_3 rfl ?_
  refine zi_iload_n d_lw_result_4 rfl ?_
  refine zi_iload_n d_lw_result_5 rfl ?_
  refine zi_iload_n d_lw_result_6 rfl ?_
  refine zi_iload d_lw_result_7 rfl ?_
  refine zr_callC (pre := [(0, 14, 17, 38), (0, 14, 21, 13), (0, 14, 25, 54)]) (suf := []) (x := (0, 14, 29, 23)) (n := 4) (k := 6) (la := 2) (zJ_virt (as := [vi a1, vi a2, vi a3, vi a4]) d_lw_result_9 zC7 rfl ml_lw_50 im_lr_result sl_lr_result cw_lr_result ⟨by decide, by decide⟩ (n := 4) (by decide +kernel) rfl rfl rfl) hM cw_lr_result in_lr (by decide) (by decide) rfl rfl (by
    intro y hy
    simp only [List.mem_cons, List.not_mem_nil, or_false] at hy
    rcases hy with rfl | rfl | rfl
    · exact ⟨⟨by decide, by decide⟩, by decide, _, kl_lw_38, by decide⟩
    · exact ⟨⟨by decide, by decide⟩, by decide, _, kl_lw_13, by decide⟩
    · exact ⟨⟨by decide, by decide⟩, by decide, _, kl_lw_54, by decide⟩) ⟨⟨by decide, by decide⟩, by decide, kl_lw_23⟩ ca_1 (by decide) (by decide) (by decide) (fun hx hb h k => lv_astore hx hb d_lw_result_29 h (by decide) rfl (fun ls' _ => k ls')) d_lw_result_31 d_lw_result_32 rfl
theorem lw_table_ok {l : Launch} {d : Nat} {τ τ1 : tS} {a1 a2 : Int} {b : Int} (hM : zF l (d + 64) M_lr_table [.ref 0, vi a1, vi a2] τ (some (vi b)) τ1) : zH l (d + 65) M_lw_table [.ref 0, vi a1, vi a2, .ref 62] τ 0 (tU τ1 62 0 b) := by
  refine zMet_of (ls := [.ref 0, vi a1, vi a2, .ref 62, .null]) pn_lw rfl (by simp [vi, Value.category]) rfl rfl ?_
  refine zr_aload_n d_lw_table_0 rfl ?_
  refine zi_iconst d_lw_table_1 ?_
  refine zr_aload_n d_lw_table_2 rfl ?_
  refine zi_iload_n d_lw_table_3 rfl ?_
  refine zi_iload_n d_lw_table_4 rfl ?_
  refine c_lw_table_5 rfl rfl hM ?_
  show zV _ _ _ _ _ (vi b :: vi 0 :: .ref 62 :: []) _ _ _
  refine zi_out d_lw_table_8 d_lw_table_9 ?_
  refine zr_goto 17 d_lw_table_10 (by decide) ?_
  refine zi_iconst d_lw_table_17 ?_
  exact zk_iret rfl d_lw_table_18 (Nat.zero_le _) (Nat.zero_le _) rfl rfl
theorem lw_table_e1 {l : Launch} {d : Nat} {τ : tS} {a1 a2 : Int} (hM : zG l (d + 64) M_lr_table [.ref 0, vi a1, vi a2] τ "java/lang/IndexOutOfBoundsException" τ) : zH l (d + 65) M_lw_table [.ref 0, vi a1, vi a2, .ref 62] τ 1 τ := by
  refine zMet_of (ls := [.ref 0, vi a1, vi a2, .ref 62, .null]) pn_lw rfl (by simp [vi, Value.category]) rfl rfl ?_
  refine zr_aload_n d_lw_table_0 rfl ?_
  refine zi_iconst d_lw_table_1 ?_
  refine zr_aload_n d_lw_table_2 rfl ?_
  refine zi_iload_n d_lw_table_3 rfl ?_
  refine zi_iload_n d_lw_table_4 rfl ?_
  refine zr_callC (pre := []) (suf := []) (x := (0, 10, 13, 38)) (n := 1) (k := 4) (la := 2) (zJ_virt (as := [vi a1, vi a2]) d_lw_table_5 zC7 rfl ml_lw_56 im_lr_table sl_lr_table cw_lr_table ⟨by decide, by decide⟩ (n := 2) (by decide +kernel) rfl rfl rfl) hM cw_lr_table in_lr (by decide) (by decide) rfl rfl (fun y hy => absurd hy List.not_mem_nil) ⟨⟨by decide, by decide⟩, by decide, kl_lw_38⟩ ca_2 (by decide) (by decide) (by decide) (fun hx hb h k => lv_astore hx hb d_lw_table_13 h (by decide) rfl (fun ls' _ => k ls')) d_lw_table_15 d_lw_table_16 rfl
theorem lw_washOut_ok {l : Launch} {d : Nat} {τ τ1 : tS} {a1 : Int} {b : Int} (hM : zF l (d + 64) M_lr_washOut [.ref 0, vi a1] τ (some (vi b)) τ1) : zH l (d + 65) M_lw_washOut [.ref 0, vi a1, .ref 62] τ 0 (tU τ1 62 0 b) := by
  refine zMet_of (ls := [.ref 0, vi a1, .ref 62, .null]) pn_lw rfl (by simp [vi, Value.category]) rfl rfl ?_
  refine zr_aload_n d_lw_washOut_0 rfl ?_
  refine zi_iconst d_lw_washOut_1 ?_
  refine zr_aload_n d_lw_washOut_2 rfl ?_
  refine zi_iload_n d_lw_washOut_3 rfl ?_
  refine c_lw_washOut_4 rfl rfl hM ?_
  show zV _ _ _ _ _ (vi b :: vi 0 :: .ref 62 :: []) _ _ _
  refine zi_out d_lw_washOut_7 d_lw_washOut_8 ?_
  refine zr_goto 18 d_lw_washOut_9 (by decide) ?_
  refine zi_iconst d_lw_washOut_18 ?_
  exact zk_iret rfl d_lw_washOut_19 (Nat.zero_le _) (Nat.zero_le _) rfl rfl
theorem lw_washOut_e1 {l : Launch} {d : Nat} {τ : tS} {a1 : Int} (hM : zG l (d + 64) M_lr_washOut [.ref 0, vi a1] τ "java/lang/IndexOutOfBoundsException" τ) : zH l (d + 65) M_lw_washOut [.ref 0, vi a1, .ref 62] τ 1 τ := by
  refine zMet_of (ls := [.ref 0, vi a1, .ref 62, .null]) pn_lw rfl (by simp [vi, Value.category]) rfl rfl ?_
  refine zr_aload_n d_lw_washOut_0 rfl ?_
  refine zi_iconst d_lw_washOut_1 ?_
  refine zr_aload_n d_lw_washOut_2 rfl ?_
  refine zi_iload_n d_lw_washOut_3 rfl ?_
  refine zr_callC (pre := []) (suf := [(0, 9, 15, 23)]) (x := (0, 9, 12, 38)) (n := 1) (k := 3) (la := 1) (zJ_virt (as := [vi a1]) d_lw_washOut_4 zC7 rfl ml_lw_59 im_lr_washOut sl_lr_washOut cw_lr_washOut ⟨by decide, by decide⟩ (n := 1) (by decide +kernel) rfl rfl rfl) hM cw_lr_washOut in_lr (by decide) (by decide) rfl rfl (fun y hy => absurd hy List.not_mem_nil) ⟨⟨by decide, by decide⟩, by decide, kl_lw_38⟩ ca_2 (by decide) (by decide) (by decide) (fun hx hb h k => lv_astore_n hx hb d_lw_washOut_12 rfl h (by decide) rfl (fun ls' _ => k ls')) d_lw_washOut_13 d_lw_washOut_14 rfl
theorem lw_washOut_e2 {l : Launch} {d : Nat} {τ : tS} {a1 : Int} (hM : zG l (d + 64) M_lr_washOut [.ref 0, vi a1] τ "java/lang/IllegalStateException" τ) : zH l (d + 65) M_lw_washOut [.ref 0, vi a1, .ref 62] τ 2 τ := by
  refine zMet_of (ls := [.ref 0, vi a1, .ref 62, .null]) pn_lw rfl (by simp [vi, Value.category]) rfl rfl ?_
  refine zr_aload_n d_lw_washOut_0 rfl ?_
  refine zi_iconst d_lw_washOut_1 ?_
  refine zr_aload_n d_lw_washOut_2 rfl ?_
  refine zi_iload_n d_lw_washOut_3 rfl ?_
  refine zr_callC (pre := [(0, 9, 12, 38)]) (suf := []) (x := (0, 9, 15, 23)) (n := 2) (k := 3) (la := 1) (zJ_virt (as := [vi a1]) d_lw_washOut_4 zC7 rfl ml_lw_59 im_lr_washOut sl_lr_washOut cw_lr_washOut ⟨by decide, by decide⟩ (n := 1) (by decide +kernel) rfl rfl rfl) hM cw_lr_washOut in_lr (by decide) (by decide) rfl rfl (by
    intro y hy
    simp only [List.mem_cons, List.not_mem_nil, or_false] at hy
    rcases hy with rfl
    · exact ⟨⟨by decide, by decide⟩, by decide, _, kl_lw_38, by decide⟩) ⟨⟨by decide, by decide⟩, by decide, kl_lw_23⟩ ca_1 (by decide) (by decide) (by decide) (fun hx hb h k => lv_astore_n hx hb d_lw_washOut_15 rfl h (by decide) rfl (fun ls' _ => k ls')) d_lw_washOut_16 d_lw_washOut_17 rfl
theorem lw_reserve_ok {l : Launch} {d : Nat} {τ τ1 : tS} {a1 : Int} {b : Int} (hM : zF l (d + 64) M_lr_reserve [.ref 0, vi a1] τ (some (vi b)) τ1) : zH l (d + 65) M_lw_reserve [.ref 0, vi a1, .ref 62] τ 0 (tU τ1 62 0 b) := by
  refine zMet_of (ls := [.ref 0, vi a1, .ref 62, .null]) pn_lw rfl (by simp [vi, Value.category]) rfl rfl ?_
  refine zr_aload_n d_lw_reserve_0 rfl ?_
  refine zi_iconst d_lw_reserve_1 ?_
  refine zr_aload_n d_lw_reserve_2 rfl ?_
  refine zi_iload_n d_lw_reserve_3 rfl ?_
  refine c_lw_reserve_4 rfl rfl hM ?_
  show zV _ _ _ _ _ (vi b :: vi 0 :: .ref 62 :: []) _ _ _
  refine zi_out d_lw_reserve_7 d_lw_reserve_8 ?_
  refine zr_goto 18 d_lw_reserve_9 (by decide) ?_
  refine zi_iconst d_lw_reserve_18 ?_
  exact zk_iret rfl d_lw_reserve_19 (Nat.zero_le _) (Nat.zero_le _) rfl rfl
theorem lw_reserve_e1 {l : Launch} {d : Nat} {τ : tS} {a1 : Int} (hM : zG l (d + 64) M_lr_reserve [.ref 0, vi a1] τ "java/lang/IllegalArgumentException" τ) : zH l (d + 65) M_lw_reserve [.ref 0, vi a1, .ref 62] τ 1 τ := by
  refine zMet_of (ls := [.ref 0, vi a1, .ref 62, .null]) pn_lw rfl (by simp [vi, Value.category]) rfl rfl ?_
  refine zr_aload_n d_lw_reserve_0 rfl ?_
  refine zi_iconst d_lw_reserve_1 ?_
  refine zr_aload_n d_lw_reserve_2 rfl ?_
  refine zi_iload_n d_lw_reserve_3 rfl ?_
  refine zr_callC (pre := []) (suf := [(0, 9, 15, 23)]) (x := (0, 9, 12, 13)) (n := 1) (k := 3) (la := 1) (zJ_virt (as := [vi a1]) d_lw_reserve_4 zC7 rfl ml_lw_62 im_lr_reserve sl_lr_reserve cw_lr_reserve ⟨by decide, by decide⟩ (n := 1) (by decide +kernel) rfl rfl rfl) hM cw_lr_reserve in_lr (by decide) (by decide) rfl rfl (fun y hy => absurd hy List.not_mem_nil) ⟨⟨by decide, by decide⟩, by decide, kl_lw_13⟩ ca_0 (by decide) (by decide) (by decide) (fun hx hb h k => lv_astore_n hx hb d_lw_reserve_12 rfl h (by decide) rfl (fun ls' _ => k ls')) d_lw_reserve_13 d_lw_reserve_14 rfl
theorem lw_reserve_e2 {l : Launch} {d : Nat} {τ : tS} {a1 : Int} (hM : zG l (d + 64) M_lr_reserve [.ref 0, vi a1] τ "java/lang/IllegalStateException" τ) : zH l (d + 65) M_lw_reserve [.ref 0, vi a1, .ref 62] τ 2 τ := by
  refine zMet_of (ls := [.ref 0, vi a1, .ref 62, .null]) pn_lw rfl (by simp [vi, Value.category]) rfl rfl ?_
  refine zr_aload_n d_lw_reserve_0 rfl ?_
  refine zi_iconst d_lw_reserve_1 ?_
  refine zr_aload_n d_lw_reserve_2 rfl ?_
  refine zi_iload_n d_lw_reserve_3 rfl ?_
  refine zr_callC (pre := [(0, 9, 12, 13)]) (suf := []) (x := (0, 9, 15, 23)) (n := 2) (k := 3) (la := 1) (zJ_virt (as := [vi a1]) d_lw_reserve_4 zC7 rfl ml_lw_62 im_lr_reserve sl_lr_reserve cw_lr_reserve ⟨by decide, by decide⟩ (n := 1) (by decide +kernel) rfl rfl rfl) hM cw_lr_reserve in_lr (by decide) (by decide) rfl rfl (by
    intro y hy
    simp only [List.mem_cons, List.not_mem_nil, or_false] at hy
    rcases hy with rfl
    · exact ⟨⟨by decide, by decide⟩, by decide, _, kl_lw_13, by decide⟩) ⟨⟨by decide, by decide⟩, by decide, kl_lw_23⟩ ca_1 (by decide) (by decide) (by decide) (fun hx hb h k => lv_astore_n hx hb d_lw_reserve_15 rfl h (by decide) rfl (fun ls' _ => k ls')) d_lw_reserve_16 d_lw_reserve_17 rfl
theorem lw_catchUp_ok {l : Launch} {d : Nat} {τ τ1 : tS} {b : Int} (hM : zF l (d + 64) M_lr_catchUp [.ref 0] τ (some (vi b)) τ1) : zH l (d + 65) M_lw_catchUp [.ref 0, .ref 62] τ 0 (tU τ1 62 0 b) := by
  refine zMet_of (ls := [.ref 0, .ref 62, .null]) pn_lw rfl (by simp [vi, Value.category]) rfl rfl ?_
  refine zr_aload_n d_lw_catchUp_0 rfl ?_
  refine zi_iconst d_lw_catchUp_1 ?_
  refine zr_aload_n d_lw_catchUp_2 rfl ?_
  refine c_lw_catchUp_3 rfl rfl hM ?_
  show zV _ _ _ _ _ (vi b :: vi 0 :: .ref 62 :: []) _ _ _
  refine zi_out d_lw_catchUp_6 d_lw_catchUp_7 ?_
  refine zr_goto 14 d_lw_catchUp_8 (by decide) ?_
  refine zi_iconst d_lw_catchUp_14 ?_
  exact zk_iret rfl d_lw_catchUp_15 (Nat.zero_le _) (Nat.zero_le _) rfl rfl
theorem lw_catchUp_e1 {l : Launch} {d : Nat} {τ : tS} (hM : zG l (d + 64) M_lr_catchUp [.ref 0] τ "java/lang/IllegalStateException" τ) : zH l (d + 65) M_lw_catchUp [.ref 0, .ref 62] τ 1 τ := by
  refine zMet_of (ls := [.ref 0, .ref 62, .null]) pn_lw rfl (by simp [vi, Value.category]) rfl rfl ?_
  refine zr_aload_n d_lw_catchUp_0 rfl ?_
  refine zi_iconst d_lw_catchUp_1 ?_
  refine zr_aload_n d_lw_catchUp_2 rfl ?_
  refine zr_callC (pre := []) (suf := []) (x := (0, 8, 11, 23)) (n := 1) (k := 2) (la := 1) (zJ_virt (as := []) d_lw_catchUp_3 zC7 rfl ml_lw_65 im_lr_catchUp sl_lr_catchUp cw_lr_catchUp ⟨by decide, by decide⟩ (n := 0) (by decide +kernel) rfl rfl rfl) hM cw_lr_catchUp in_lr (by decide) (by decide) rfl rfl (fun y hy => absurd hy List.not_mem_nil) ⟨⟨by decide, by decide⟩, by decide, kl_lw_23⟩ ca_1 (by decide) (by decide) (by decide) (fun hx hb h k => lv_astore_n hx hb d_lw_catchUp_11 rfl h (by decide) rfl (fun ls' _ => k ls')) d_lw_catchUp_12 d_lw_catchUp_13 rfl
theorem lw_catchDate_ok {l : Launch} {d : Nat} {τ τ1 : tS} {a1 a2 : Int} {b : Int} (hM : zF l (d + 64) M_lr_catchDate [.ref 0, vi a1, vi a2] τ (some (vi b)) τ1) : zH l (d + 65) M_lw_catchDate [.ref 0, vi a1, vi a2, .ref 62] τ 0 (tU τ1 62 0 b) := by
  refine zMet_of (ls := [.ref 0, vi a1, vi a2, .ref 62, .null]) pn_lw rfl (by simp [vi, Value.category]) rfl rfl ?_
  refine zr_aload_n d_lw_catchDate_0 rfl ?_
  refine zi_iconst d_lw_catchDate_1 ?_
  refine zr_aload_n d_lw_catchDate_2 rfl ?_
  refine zi_iload_n d_lw_catchDate_3 rfl ?_
  refine zi_iload_n d_lw_catchDate_4 rfl ?_
  refine c_lw_catchDate_5 rfl rfl hM ?_
  show zV _ _ _ _ _ (vi b :: vi 0 :: .ref 62 :: []) _ _ _
  refine zi_out d_lw_catchDate_8 d_lw_catchDate_9 ?_
  refine zr_goto 21 d_lw_catchDate_10 (by decide) ?_
  refine zi_iconst d_lw_catchDate_21 ?_
  exact zk_iret rfl d_lw_catchDate_22 (Nat.zero_le _) (Nat.zero_le _) rfl rfl
theorem lw_catchDate_e1 {l : Launch} {d : Nat} {τ : tS} {a1 a2 : Int} (hM : zG l (d + 64) M_lr_catchDate [.ref 0, vi a1, vi a2] τ "java/lang/IndexOutOfBoundsException" τ) : zH l (d + 65) M_lw_catchDate [.ref 0, vi a1, vi a2, .ref 62] τ 1 τ := by
  refine zMet_of (ls := [.ref 0, vi a1, vi a2, .ref 62, .null]) pn_lw rfl (by simp [vi, Value.category]) rfl rfl ?_
  refine zr_aload_n d_lw_catchDate_0 rfl ?_
  refine zi_iconst d_lw_catchDate_1 ?_
  refine zr_aload_n d_lw_catchDate_2 rfl ?_
  refine zi_iload_n d_lw_catchDate_3 rfl ?_
  refine zi_iload_n d_lw_catchDate_4 rfl ?_
  refine zr_callC (pre := []) (suf := [(0, 10, 17, 54)]) (x := (0, 10, 13, 38)) (n := 1) (k := 4) (la := 2) (zJ_virt (as := [vi a1, vi a2]) d_lw_catchDate_5 zC7 rfl ml_lw_69 im_lr_catchDate sl_lr_catchDate cw_lr_catchDate ⟨by decide, by decide⟩ (n := 2) (by decide +kernel) rfl rfl rfl) hM cw_lr_catchDate in_lr (by decide) (by decide) rfl rfl (fun y hy => absurd hy List.not_mem_nil) ⟨⟨by decide, by decide⟩, by decide, kl_lw_38⟩ ca_2 (by decide) (by decide) (by decide) (fun hx hb h k => lv_astore hx hb d_lw_catchDate_13 h (by decide) rfl (fun ls' _ => k ls')) d_lw_catchDate_15 d_lw_catchDate_16 rfl
theorem lw_catchDate_e2 {l : Launch} {d : Nat} {τ : tS} {a1 a2 : Int} (hM : zG l (d + 64) M_lr_catchDate [.ref 0, vi a1, vi a2] τ "java/util/NoSuchElementException" τ) : zH l (d + 65) M_lw_catchDate [.ref 0, vi a1, vi a2, .ref 62] τ 2 τ := by
  refine zMet_of (ls := [.ref 0, vi a1, vi a2, .ref 62, .null]) pn_lw rfl (by simp [vi, Value.category]) rfl rfl ?_
  refine zr_aload_n d_lw_catchDate_0 rfl ?_
  refine zi_iconst d_lw_catchDate_1 ?_
  refine zr_aload_n d_lw_catchDate_2 rfl ?_
  refine zi_iload_n d_lw_catchDate_3 rfl ?_
  refine zi_iload_n d_lw_catchDate_4 rfl ?_
  refine zr_callC (pre := [(0, 10, 13, 38)]) (suf := []) (x := (0, 10, 17, 54)) (n := 2) (k := 4) (la := 2) (zJ_virt (as := [vi a1, vi a2]) d_lw_catchDate_5 zC7 rfl ml_lw_69 im_lr_catchDate sl_lr_catchDate cw_lr_catchDate ⟨by decide, by decide⟩ (n := 2) (by decide +kernel) rfl rfl rfl) hM cw_lr_catchDate in_lr (by decide) (by decide) rfl rfl (by
    intro y hy
    simp only [List.mem_cons, List.not_mem_nil, or_false] at hy
    rcases hy with rfl
    · exact ⟨⟨by decide, by decide⟩, by decide, _, kl_lw_38, by decide⟩) ⟨⟨by decide, by decide⟩, by decide, kl_lw_54⟩ ca_3 (by decide) (by decide) (by decide) (fun hx hb h k => lv_astore hx hb d_lw_catchDate_17 h (by decide) rfl (fun ls' _ => k ls')) d_lw_catchDate_19 d_lw_catchDate_20 rfl
