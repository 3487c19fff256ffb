-- THE START, AND ALL STEPS
theorem inv_0 : ∃ v0 w0, f_V_init = some v0 ∧ f_R_init = some w0 ∧ Inv v0 w0 (fun _ => none) (fun _ => none) := by
  refine ⟨_, _, rfl, rfl, 0, by decide, rfl, rfl, ⟨rfl, rfl, rfl, ⟨0, by decide, rfl⟩, rfl⟩, fun b hb => Or.inl ?_, ⟨⟨rfl, rfl, rfl, rfl, ?_, rfl, rfl, rfl, rfl⟩, [], ⟨⟨by decide, fun e he => by cases he⟩, rfl, Or.inl rfl, fun _ => rfl⟩, rfl, fun i e he => by simp at he⟩, fun i hi => absurd hi (by omega)⟩
  · have : b = 0 ∨ b = 1 ∨ b = 2 ∨ b = 3 := by omega
    rcases this with rfl | rfl | rfl | rfl <;> decide
  · decide
theorem zpure : ∃ (Inv : ZI) (v0 : VSt) (w0 : RSt), f_V_init = some v0 ∧ f_R_init = some w0 ∧ Inv v0 w0 (fun _ => none) (fun _ => none) ∧ zSteps Inv := by
  obtain ⟨v0, w0, h1, h2, h3⟩ := inv_0
  exact ⟨Inv, v0, w0, h1, h2, h3, r_change, r_fork, r_swap, r_merge, r_watch, r_head, r_commits, r_parent, r_ancestors, r_meet, r_value, r_queued, r_time, r_hash, r_events, r_event⟩
