/-! ===== mend, mendFrom ===== -/
theorem MEN {σ τ : ST} {A : TW} (wA : WFT A) (hP : 0 < A.1 0) (xA : XT σ 3 6 A) (mA : MT (gA τ 1) A) (l : LegX σ A) (hr : RowR σ τ) (m5 : gI τ 5 = 0) (m6 : gI τ 6 = 0) (m7 : gI τ 7 = -9) : ∃ (σ' τ' : ST) (g : Int64), fX4_gainIfSureUpTo (gI σ 3 - 1) σ = some (g, σ') ∧ fX5_mended τ = some (g, τ') ∧ xS σ σ' ∧ mS τ τ' := by
  obtain ⟨σ', τ1, τ2, a, b, u1, u2, u3, u4, u5, u6⟩ := GSU (m := A.1 0 - 1) (fl := 5) wA hP xA mA l hr m5 m6 m7 (by omega) (Or.inl ⟨rfl, by omega⟩)
  refine ⟨σ', sI τ2 5 0, b - a, ?_, ?_, u5, u6⟩
  · rw [xA.1.1, show nI (A.1 0) - 1 = nI (A.1 0 - 1) from pk_sub (b := 1) (by omega), u1]
  · unfold fX5_mended
    rw [show ald (gA τ 1) 200 5 = ald (gA τ 1) 200 (nI 5) from rfl, ald_n (by omega) (by omega), mA.1.2.2.2.2.2, u2, call_s, bnd_ap, bnd_ap, show ald (gA (sI τ1 5 1) 1) 200 5 = ald (gA τ1 1) 200 (nI 5) from rfl, ald_n (by omega) (by omega), u3, mA.1.2.2.2.2.2, u4, call_s, bnd_ap, bnd_ap]
theorem sim_mend (a b : Int32) : SIMi Rl (fX4_mend a b) (fX5_mend a b) := by
  intro σ τ h
  obtain ⟨g1, g2, g3, ⟨A, wA, xA, mA, lA⟩, g5, ⟨⟨m5, m6, m7, m14⟩, g7⟩⟩ := id h
  have hP := wA.1.1
  unfold fX4_mend fX5_mend
  by_cases c1 : a < 0
  · rw [if_pos c1, if_pos c1]; exact ref_i h (-4) 4 (by decide) (by omega) (by omega)
  · rw [if_neg c1, if_neg c1]
    by_cases c2 : 1 ≤ b
    · rw [if_pos c2, if_pos c2]
      by_cases c3 : 999 < a
      · rw [if_pos c3, if_pos c3]; exact ref_i h (-6) 6 (by decide) (by omega) (by omega)
      · rw [if_neg c3, if_neg c3]
        by_cases c4 : b ≤ 99
        · rw [if_pos c4, if_pos c4, noT mA wA, cali_s]
          by_cases z : A.1 0 = 0
          · rw [if_pos z, if_neg n10, if_pos (by rw [xA.1.1, z]; rfl)]
            exact ref_i h (-3) 3 (by decide) (by omega) (by omega)
          · have l : LegX σ A := by rcases lA with l | l; omega; exact l
            obtain ⟨σ', τ', g, e1, e2, e3, e4⟩ := MEN wA (by omega) xA mA l g2 m5 m6 m7
            rw [if_neg z, if_pos rfl, if_neg (by rw [xA.1.1, show (0 : Int32) = nI 0 from rfl, nI_eq_iff (by omega) (by omega)]; exact z), e1, call_s, e2, call_s]
            have hR := Rl_s h e3 e4
            by_cases y : (lg_cmp ((Int32.toInt64 b) * g) ((Int32.toInt64 a) * 1000000000000)) < 0
            · rw [if_pos y, if_pos y]; exact ⟨_, _, _, rfl, rfl, hR⟩
            · rw [if_neg y, if_neg y]; exact ⟨_, _, _, rfl, rfl, hR⟩
        · rw [if_neg c4, if_neg c4]; exact ref_i h (-6) 6 (by decide) (by omega) (by omega)
    · rw [if_neg c2, if_neg c2]; exact ref_i h (-4) 4 (by decide) (by omega) (by omega)
