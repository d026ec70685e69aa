/-! ===== day ===== -/
theorem noT {τ : ST} {A : TW} (mA : MT (gA τ 1) A) (wA : WFT A) : fX5_isNoTown τ = some (if A.1 0 = 0 then 1 else 0, τ) := by
  have hP := wA.1.1
  unfold fX5_isNoTown
  rw [show (0 : Int32) = nI 0 from rfl, ald_n (by omega) (by omega), mA.1.1]
  by_cases z : A.1 0 = 0
  · rw [if_pos z, if_pos (by rw [z])]
  · rw [if_neg z, if_neg (by rw [nI_eq_iff (by omega) (by omega)]; exact z)]
theorem sim_day (a : Int32) : SIMi Rl (fX4_day a) (fX5_day a) := by
  intro σ τ h
  obtain ⟨g1, g2, g3, ⟨A, wA, xA, mA, lA⟩, g5, ⟨⟨m5, m6, m7, m14⟩, g7⟩⟩ := id h
  have hP := wA.1.1
  unfold fX4_day fX5_day
  by_cases n : a < 0
  · rw [if_pos n, if_pos n]; exact ref_i h (-2) 2 (by decide) (by omega) (by omega)
  · rw [if_neg n, if_neg n]
    by_cases b : a ≤ 2
    · rw [if_pos b, if_pos b, noT mA wA, cali_s]
      by_cases z : A.1 0 = 0
      · rw [if_pos z, if_neg n10, if_pos (by rw [xA.1.1, z]; rfl)]
        exact ref_i h (-3) 3 (by decide) (by omega) (by omega)
      · have l : LegX σ A := by rcases lA with l | l; omega; exact l
        obtain ⟨σ', τ', k, m, c, e1, e2, e3, e4, e5, e6, e7, e8, e9⟩ := RDAY wA (by omega) xA mA l g2 m5 m6 m7
        rw [if_neg z, if_pos rfl, if_neg (by rw [xA.1.1, show (0 : Int32) = nI 0 from rfl, nI_eq_iff (by omega) (by omega)]; exact z), e1, calv_s, show (5 : Int32) = nI 5 from rfl, ald_n (by omega) (by omega), mA.1.2.2.2.2.2, e2, calv_s]
        have hR := Rl_s h e3 e4
        by_cases a0 : a = 0
        · rw [if_pos a0, if_pos a0, e7, e8]; exact ⟨_, _, _, rfl, rfl, hR⟩
        · rw [if_neg a0, if_neg a0]
          by_cases a1 : a = 1
          · rw [if_pos a1, if_pos a1, e9.1]; exact ⟨_, _, _, rfl, rfl, hR⟩
          · rw [if_neg a1, if_neg a1, e9.2.1]; exact ⟨_, _, _, rfl, rfl, hR⟩
    · rw [if_neg b, if_neg b]; exact ref_i h (-2) 2 (by decide) (by omega) (by omega)
