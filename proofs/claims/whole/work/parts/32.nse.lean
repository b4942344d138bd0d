/-! throwing NoSuchElementException: its constructor has another link than those of java.lang (written by wip/gen/t21.py) -/
abbrev zNE : String := "java/util/NoSuchElementException"
abbrev zRE : String := "java/lang/RuntimeException"
def znC : List Cond := Bundle.passSAtoms zNE zRE 13 prog_20_method_4_code ++ Bundle.chainSAtoms zRE ["java/lang/Exception"]
/-- the words: those of the library's row but for its first link, and that link -/
def znA : List Cond := znC ++ (Bundle.ownAtoms "LeagueRounds" 267 zNE []).filter (fun w => ! decide (w ∈ Bundle.chainSAtoms zNE []))
theorem zn_tab : znA.all (fun w => decide (w ∈ zhw) || (decide (w ∈ tables_1 ++ k2_sels lw_privs) && zgood w)) = true := by decide +kernel
theorem zn_thr : (Bundle.throwableAtoms ++ Bundle.throwableSAtoms).all (fun w => decide (w ∈ znA)) = true := by decide +kernel
theorem zn_in {A : Nat → Prop} {s : State} (h : zT A s) {args : Array Value} : ∀ w ∈ znA, w.before args s = true := by
  intro w hw
  have h1 := List.all_eq_true.mp zn_tab w hw
  simp only [Bool.or_eq_true, Bool.and_eq_true, decide_eq_true_eq] at h1
  rcases h1 with h1 | ⟨h1, h2⟩
  · simp only [zhw, List.mem_cons, List.not_mem_nil, or_false] at h1
    rcases h1 with rfl | rfl | rfl | rfl
    · exact zsl_isRef h.2.2.2.1
    · exact zsl_isRef h.2.2.2.2
    · exact zsl_lays h.2.2.2.1
    · exact zsl_lays h.2.2.2.2
  · exact h.w ⟨by rcases List.mem_append.mp h1 with g | g; exact List.mem_append_right _ g; exact List.mem_append_left _ g, h2⟩
theorem zn_d0 : decode prog_20_method_4_code 0 = .ok (.aload_n 0, 1) := by decide +kernel
theorem zn_d1 : decode prog_20_method_4_code 1 = .ok (.aload_n 1, 1) := by decide +kernel
theorem zn_d2 : decode prog_20_method_4_code 2 = .ok (.invokespecial 13, 3) := by decide +kernel
theorem zn_d5 : decode prog_20_method_4_code 5 = .ok (.return_, 1) := by decide +kernel
