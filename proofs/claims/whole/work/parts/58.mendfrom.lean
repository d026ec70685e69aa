/-! ===== mendFrom ===== -/
theorem MFL (a : Int32) (g : Int64) (σ τ : ST) : ∀ (j x fu fu' : Nat), x + j = 100 → j < fu → j < fu' → ∃ r, fX4_mendFrom_L59 (fun σ_6 => some ((-9), σ_6)) fu a g (nI x) σ = some (r, σ) ∧ fX5_mendFrom_L47 (fun σ_8 => some ((-9), σ_8)) fu' a g (nI x) τ = some (r, τ) := by
  intro j
  induction j with
  | zero =>
    intro x fu fu' hx h1 h2
    obtain ⟨fu, rfl⟩ : ∃ f, fu = f + 1 := ⟨fu - 1, by omega⟩
    obtain ⟨fu', rfl⟩ : ∃ f, fu' = f + 1 := ⟨fu' - 1, by omega⟩
    refine ⟨-9, ?_, ?_⟩
    · rw [fX4_mendFrom_L59, if_pos (by rw [show (99 : Int32) = nI 99 from rfl, nI_lt_iff (by omega) (by omega)]; omega)]
    · rw [fX5_mendFrom_L47, if_pos (by rw [show (100 : Int32) = nI 100 from rfl, nI_le_iff (by omega) (by omega)]; omega)]
  | succ j ih =>
    intro x fu fu' hx h1 h2
    obtain ⟨fu, rfl⟩ : ∃ f, fu = f + 1 := ⟨fu - 1, by omega⟩
    obtain ⟨fu', rfl⟩ : ∃ f, fu' = f + 1 := ⟨fu' - 1, by omega⟩
    rw [fX4_mendFrom_L59, if_neg (by rw [show (99 : Int32) = nI 99 from rfl, nI_lt_iff (by omega) (by omega)]; omega), fX5_mendFrom_L47, if_neg (show ¬ 100 ≤ nI x from by rw [show (100 : Int32) = nI 100 from rfl, nI_le_iff (by omega) (by omega)]; omega), bnd_ap, bnd_ap, show nI x + 1 = nI (x + 1) from by rw [l1, na_add]]
    by_cases y : (lg_cmp ((Int32.toInt64 (nI x)) * g) ((Int32.toInt64 a) * 1000000000000)) < 0
    · rw [if_pos y, if_pos y]; exact ih (x + 1) fu fu' (by omega) (by omega) (by omega)
    · rw [if_neg y, if_neg y]; exact ⟨_, rfl, rfl⟩
theorem sim_mendFrom (a : Int32) : SIMi Rl (fX4_mendFrom a) (fX5_mendFrom a) := by
  intro σ τ h
  obtain ⟨g1, g2, g3, ⟨A, wA, xA, mA, lA⟩, g5, ⟨⟨m5, m6, m7, m14⟩, g7⟩⟩ := id h
  have hP := wA.1.1
  unfold fX4_mendFrom fX5_mendFrom
  by_cases c1 : 0 ≤ a
  · rw [if_pos c1, if_pos c1]
    by_cases c2 : a ≤ 999
    · rw [if_pos c2, if_pos c2, noT mA wA, cali_s]
      by_cases z : A.1 0 = 0
      · rw [if_pos z, if_neg n10, if_pos (by rw [xA.1.1, z]; rfl)]
        exact ref_i h (-3) 3 (by decide) (by omega) (by omega)
      · have l : LegX σ A := by rcases lA with l | l; omega; exact l
        obtain ⟨σ', τ', g, e1, e2, e3, e4⟩ := MEN wA (by omega) xA mA l g2 m5 m6 m7
        rw [if_neg z, if_pos rfl, if_neg (by rw [xA.1.1, show (0 : Int32) = nI 0 from rfl, nI_eq_iff (by omega) (by omega)]; exact z), e1, call_s, e2, call_s, bnd_ap, bnd_ap, bnd_ap, bnd_ap]
        obtain ⟨r, u1, u2⟩ := MFL a g σ' τ' 99 1 FU FU (by omega) (by rw [FU_eq]; omega) (by rw [FU_eq]; omega)
        exact ⟨r, σ', τ', u1, u2, Rl_s h e3 e4⟩
    · rw [if_neg c2, if_neg c2]; exact ref_i h (-6) 6 (by decide) (by omega) (by omega)
  · rw [if_neg c1, if_neg c1]; exact ref_i h (-4) 4 (by decide) (by omega) (by omega)
