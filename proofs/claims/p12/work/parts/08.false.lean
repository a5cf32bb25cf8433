/-! ===== a start of the Statement's own with the empty script: the claim is false ===== -/
theorem rf_tabs : tables_1.all (fun c => c.onTables || c.before start1.args0 (start1.aboutOf #[])) = true := by decide +kernel
theorem rf_words : ∀ c ∈ (Cond.code x code maxLocals ret :: tables_1), c.before start1.args0 (start1.aboutOf #[]) = true := by
  intro c hc
  have h0 := start1.words c hc
  have hv : start1.about.vm = (start1.aboutOf #[]).vm := rfl
  rcases List.mem_cons.mp hc with h | h
  · exact va_tabs (by rw [h]; rfl) hv h0
  · have h1 := List.all_eq_true.mp rf_tabs c h
    rw [Bool.or_eq_true] at h1
    rcases h1 with h1 | h1
    · exact va_tabs h1 hv h0
    · exact h1
set_option maxRecDepth 16384 in
theorem rf_at : AtStart classFile x code maxLocals ret World_1 tables_1 room_1 Calls_1 rest_1 Pre_1 launch0 start1.p0 start1.e0 (start1.aboutOf #[]) ⟨0, 0⟩ start1.args0 Lib.HandBits.below0 :=
  ⟨lists_1, trivial, launch0.admits_env _ _ _, launch0.least_env, fairChoices_fair.cas, fairChoices_fair.clock, rfl, by decide +kernel, by decide +kernel,
    (Spec.applies_iff rfl).mpr ⟨rfl, rfl, rfl, by decide +kernel, by decide +kernel, by decide +kernel, launch0.hasRoom_least _ room_1 (by decide +kernel) (by decide +kernel) (by decide +kernel) (by decide +kernel) (by decide +kernel) (by decide +kernel), atoms_intro rf_words⟩,
    trivial, (show rest_1_c.before start1.args0 (start1.aboutOf #[]) = true by decide +kernel), (show (Cond.and given_1 narrow_1).before start1.args0 (start1.aboutOf #[]) = true by decide +kernel)⟩
/-- THE CLAIM IS FALSE: at the launch of the Statement's own witness, with the empty script -/
theorem rf_false : ¬ Claimed_1_1 ∧ ¬ Claimed_1_2 :=
  rf_no (b := 0) (xs := []) rfl rf_at (launch0.hasRoom_least _ rf_R (by decide +kernel) (by decide +kernel) (by decide +kernel) (by decide +kernel) (by decide +kernel) (by decide +kernel))
    ⟨rfl, ⟨_, rfl, rfl, ⟨fun k h => (by cases h), _, rfl, _, rfl⟩, (by decide)⟩, (by decide), (show (Cond.and given_1 narrow_1).before start1.args0 (start1.aboutOf #[]) = true by decide +kernel)⟩ (by decide)
/-- so the owed statement has no proof -/
theorem rf_owed : ¬ (Claimed_1_1 ∧ Claimed_1_2) := fun h => rf_false.1 h.1
