/-! the words of throwing (written by wip/gen/data.py) -/
theorem ca_0 : zI (.castable "java/lang/IllegalArgumentException" "java/lang/IllegalArgumentException") := zI_2 158 (by decide +kernel) rfl
theorem at_0 : zAt 59 63 "java/lang/IllegalArgumentException" := by
  refine ⟨?_, kl_lr_59, zI_1 14 (by decide +kernel) rfl, by decide +kernel⟩
  have h : (Bundle.ownAtoms "LeagueRounds" 63 "java/lang/IllegalArgumentException" zch).all (fun w => decide (w ∈ zhw) || (decide (w ∈ tables_1 ++ k2_sels lw_privs) && zgood w)) = true := by decide +kernel
  intro w hw
  have h1 := List.all_eq_true.mp h w hw
  simp only [Bool.or_eq_true, Bool.and_eq_true, decide_eq_true_eq] at h1
  rcases h1 with h1 | ⟨h1, h2⟩
  · exact Or.inl h1
  · exact Or.inr ⟨by rcases List.mem_append.mp h1 with g | g; exact List.mem_append_right _ g; exact List.mem_append_left _ g, h2⟩
theorem ca_1 : zI (.castable "java/lang/IllegalStateException" "java/lang/IllegalStateException") := zI_3 30 (by decide +kernel) rfl
theorem at_1 : zAt 100 104 "java/lang/IllegalStateException" := by
  refine ⟨?_, kl_lr_100, zI_1 15 (by decide +kernel) rfl, by decide +kernel⟩
  have h : (Bundle.ownAtoms "LeagueRounds" 104 "java/lang/IllegalStateException" zch).all (fun w => decide (w ∈ zhw) || (decide (w ∈ tables_1 ++ k2_sels lw_privs) && zgood w)) = true := by decide +kernel
  intro w hw
  have h1 := List.all_eq_true.mp h w hw
  simp only [Bool.or_eq_true, Bool.and_eq_true, decide_eq_true_eq] at h1
  rcases h1 with h1 | ⟨h1, h2⟩
  · exact Or.inl h1
  · exact Or.inr ⟨by rcases List.mem_append.mp h1 with g | g; exact List.mem_append_right _ g; exact List.mem_append_left _ g, h2⟩
theorem ca_2 : zI (.castable "java/lang/IndexOutOfBoundsException" "java/lang/IndexOutOfBoundsException") := zI_3 173 (by decide +kernel) rfl
theorem at_2 : zAt 163 167 "java/lang/IndexOutOfBoundsException" := by
  refine ⟨?_, kl_lr_163, zI_1 16 (by decide +kernel) rfl, by decide +kernel⟩
  have h : (Bundle.ownAtoms "LeagueRounds" 167 "java/lang/IndexOutOfBoundsException" zch).all (fun w => decide (w ∈ zhw) || (decide (w ∈ tables_1 ++ k2_sels lw_privs) && zgood w)) = true := by decide +kernel
  intro w hw
  have h1 := List.all_eq_true.mp h w hw
  simp only [Bool.or_eq_true, Bool.and_eq_true, decide_eq_true_eq] at h1
  rcases h1 with h1 | ⟨h1, h2⟩
  · exact Or.inl h1
  · exact Or.inr ⟨by rcases List.mem_append.mp h1 with g | g; exact List.mem_append_right _ g; exact List.mem_append_left _ g, h2⟩
theorem ca_3 : zI (.castable "java/util/NoSuchElementException" "java/util/NoSuchElementException") := zI_4 12 (by decide +kernel) rfl
