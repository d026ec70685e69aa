/-! ===== the start, and all of it ===== -/
theorem rl_start : Rl σX0 σM0 := by
  refine ⟨fun k hk => rfl, ⟨0, by omega, rfl, rfl, fun k hk => absurd hk (by omega)⟩, ⟨0, by omega, rfl, rfl, fun k hk => absurd hk (by omega)⟩, ⟨(fun i => if i = 3 then 1 else if i = 4 then 10 else 0, fun _ _ => 0), ?_, ?_, ?_, Or.inl rfl⟩, ⟨rfl, Or.inl rfl⟩, ⟨⟨rfl, rfl, rfl, rfl⟩, ?_, ?_⟩⟩
  · refine ⟨by decide, ?_, ?_, ?_, ?_⟩
    · intro i hi; exact absurd hi (Nat.not_lt_zero i)
    · intro i hi; exact absurd hi (Nat.not_lt_zero i)
    · intro i j hi; exact absurd hi (Nat.not_lt_zero i)
    · intro i hi; exact absurd hi (Nat.not_lt_zero i)
  · refine ⟨⟨rfl, rfl, rfl, rfl, rfl, rfl⟩, ?_, ?_, ?_⟩
    · intro i hi; exact absurd hi (Nat.not_lt_zero i)
    · intro i hi; exact absurd hi (Nat.not_lt_zero i)
    · intro i hi; exact absurd hi (Nat.not_lt_zero i)
  · have w : ∀ j, gA σM0 1 j = if j = 4 then 10 else if j = 3 then 1 else 0 := fun j => rfl
    refine ⟨⟨rfl, rfl, rfl, rfl, rfl, rfl⟩, ?_, ?_, ?_⟩
    · intro i hi; exact absurd hi (Nat.not_lt_zero i)
    · intro i hi; exact absurd hi (Nat.not_lt_zero i)
    · intro a b ha hb
      rw [w, w, if_neg (by omega), if_neg (by omega), if_neg (by omega), if_neg (by omega)]
      exact ⟨rfl, rfl⟩
  · decide +kernel
  · decide +kernel
theorem sims_all : SIMS Rl := ⟨sim_letter, sim_town, sim_place, sim_slope, sim_errand, sim_set, sim_leg, sim_safe, sim_day, sim_likely, sim_worth, sim_best, sim_bestMinutes, sim_bestLikely, sim_bestWorth, sim_sure, sim_bestDriver, sim_leftOut, sim_runOn, sim_push, sim_hill, sim_mend, sim_mendFrom, sim_onFoot, sim_onTheWay, sim_row, sim_clear, sim_judge, sim_lots, sim_image, sim_on, sim_count⟩
