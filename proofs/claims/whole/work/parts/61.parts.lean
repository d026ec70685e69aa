/-! ===== likely, worth, hill ===== -/
theorem PFR {σ τ : ST} {A : TW} (h : Rl σ τ) (wA : WFT A) (xA : XT σ 3 6 A) (mA : MT (gA τ 1) A) (x1 : Int32) (fX fM : ST → Option (Int64 × ST)) (H : (x1 = 0 ∨ x1 = 1) → 0 < A.1 0 → ∃ (r : Int64) (σ' τ' : ST), fX σ = some (r, σ') ∧ fM τ = some (r, τ') ∧ Rl σ' τ') : ∃ (r : Int64) (σ' τ' : ST), cali (fX4_refusalOfPart x1 σ) (fun r_2 σ_1 => bnd (r_2 : Int32) (fun x2_3 => (if 0 ≤ x2_3 then fX σ_1 else call (fX4_refuseLong x2_3 σ_1) (fun r_8 σ_7 => some (r_8, σ_7))))) = some (r, σ') ∧ cali (fX5_isNoPart x1 τ) (fun r_2 σ_1 => (if r_2 = 0 then cali (fX5_isNoTown σ_1) (fun r_4 σ_3 => (if r_4 = 0 then fM σ_3 else call (fX5_noLong (-3) σ_3) (fun r_10 σ_9 => some (r_10, σ_9)))) else call (fX5_noLong (-2) σ_1) (fun r_12 σ_11 => some (r_12, σ_11)))) = some (r, τ') ∧ Rl σ' τ' := by
  have hP := wA.1.1
  unfold fX4_refusalOfPart fX5_isNoPart
  have fin : ∀ c : Int32, ∀ k : Nat, -c = nI k → 1 ≤ k → k < 7 → ∃ (r : Int64) (σ' τ' : ST), call (fX4_refuseLong c σ) (fun r_8 σ_7 => some (r_8, σ_7)) = some (r, σ') ∧ call (fX5_noLong c τ) (fun r_10 σ_9 => some (r_10, σ_9)) = some (r, τ') ∧ Rl σ' τ' := by
    intro c k e k1 k2
    obtain ⟨r, σ', τ', e1, e2, e3⟩ := ref_l h c k e k1 k2
    exact ⟨r, σ', τ', by rw [e1, call_s], by rw [e2, call_s], e3⟩
  by_cases w : x1 = 0 ∨ x1 = 1
  · have a1 : ¬ x1 < 0 := by rcases w with rfl | rfl <;> decide
    have a2 : x1 ≤ 1 := by rcases w with rfl | rfl <;> decide
    have a3 : (if x1 = 0 then some ((0 : Int32), τ) else if x1 = 1 then some (0, τ) else some (1, τ)) = some (0, τ) := by
      rcases w with rfl | rfl
      · rw [if_pos rfl]
      · rw [if_neg n10, if_pos rfl]
    rw [if_neg a1, if_pos a2, a3, cali_s, if_pos rfl, noT mA wA, cali_s]
    by_cases z : A.1 0 = 0
    · rw [if_pos z, if_neg n10, if_pos (by rw [xA.1.1, z]; rfl), cali_s, bnd_ap, if_neg (by decide)]
      exact fin (-3) 3 (by decide) (by omega) (by omega)
    · rw [if_neg z, if_pos rfl, if_neg (by rw [xA.1.1, show (0 : Int32) = nI 0 from rfl, nI_eq_iff (by omega) (by omega)]; exact z), cali_s, bnd_ap, if_pos (by decide)]
      exact H w (by omega)
  · have b0 : ¬ x1 = 0 := fun e => w (Or.inl e)
    have b1 : ¬ x1 = 1 := fun e => w (Or.inr e)
    have e2 : (if x1 < 0 then some ((-2 : Int32), σ) else if x1 ≤ 1 then (if gI σ 3 = 0 then some (-3, σ) else some (0, σ)) else some (-2, σ)) = some (-2, σ) := by
      by_cases wn : x1 < 0
      · rw [if_pos wn]
      · rw [if_neg wn]
        obtain ⟨k, hk, rfl⟩ := na_of wn
        have k0 : k ≠ 0 := fun z => b0 (by rw [z]; rfl)
        have k1 : k ≠ 1 := fun z => b1 (by rw [z]; rfl)
        rw [if_neg (by rw [l1, nI_le_iff (by omega) (by omega)]; omega)]
    rw [if_neg b0, if_neg b1, e2, cali_s, cali_s, bnd_ap, if_neg (by decide), if_neg n10]
    exact fin (-2) 2 (by decide) (by omega) (by omega)
theorem sim_likely (a : Int32) : SIMl Rl (fX4_likely a) (fX5_likely a) := by
  intro σ τ h
  obtain ⟨g1, g2, g3, ⟨A, wA, xA, mA, lA⟩, g5, ⟨⟨m5, m6, m7, m14⟩, g7⟩⟩ := id h
  unfold fX4_likely fX5_likely
  refine PFR h wA xA mA a _ _ ?_
  intro w hP
  have l : LegX σ A := by rcases lA with l | l; omega; exact l
  obtain ⟨σ', τ', k, m, c, e1, e2, e3, e4, e5, e6, e7, e8, e9⟩ := RDAY wA hP xA mA l g2 m5 m6 m7
  rw [e1, calv_s, show (5 : Int32) = nI 5 from rfl, ald_n (by omega) (by omega), mA.1.2.2.2.2.2, e2, calv_s, e9.2.2.1.1, e9.2.2.1.2.1]
  obtain ⟨r, p1, p2⟩ := PART (lN c) a w σ' τ'
  rw [p1, p2, call_s, call_s]
  exact ⟨r, σ', τ', rfl, rfl, Rl_s h e3 e4⟩
theorem sim_worth (a : Int32) : SIMl Rl (fX4_worth a) (fX5_worth a) := by
  intro σ τ h
  obtain ⟨g1, g2, g3, ⟨A, wA, xA, mA, lA⟩, g5, ⟨⟨m5, m6, m7, m14⟩, g7⟩⟩ := id h
  unfold fX4_worth fX5_worth
  refine PFR h wA xA mA a _ _ ?_
  intro w hP
  have l : LegX σ A := by rcases lA with l | l; omega; exact l
  obtain ⟨σ', τ', k, m, c, e1, e2, e3, e4, e5, e6, e7, e8, e9⟩ := RDAY wA hP xA mA l g2 m5 m6 m7
  rw [e1, calv_s, show (5 : Int32) = nI 5 from rfl, ald_n (by omega) (by omega), mA.1.2.2.2.2.2, e2, calv_s, e9.2.2.2.1]
  obtain ⟨r, p1, p2⟩ := PART (gL τ' 1) a w σ' τ'
  rw [p1, p2, call_s, call_s]
  exact ⟨r, σ', τ', rfl, rfl, Rl_s h e3 e4⟩
theorem sim_hill (a : Int32) : SIMl Rl (fX4_hill a) (fX5_hill a) := by
  intro σ τ h
  obtain ⟨g1, g2, g3, ⟨A, wA, xA, mA, lA⟩, g5, ⟨⟨m5, m6, m7, m14⟩, g7⟩⟩ := id h
  unfold fX4_hill fX5_hill
  refine PFR h wA xA mA a _ _ ?_
  intro w hP
  have l : LegX σ A := by rcases lA with l | l; omega; exact l
  obtain ⟨σ', τ1, τ2, x, y, e1, e2, e3, e4, e5, e6⟩ := GSU (fl := 6) wA hP xA mA l g2 m5 m6 m7 hP (Or.inr ⟨rfl, rfl⟩)
  rw [show (0 : Int32) = nI 0 from rfl, e1, call_s, show (5 : Int32) = nI 5 from rfl, ald_n (by omega) (by omega), mA.1.2.2.2.2.2, e2, call_s, bnd_ap, bnd_ap, ald_n (by omega) (by omega), show gA (sI τ1 6 1) 1 5 = nI (A.1 5) from by rw [gA_sI, e3]; exact mA.1.2.2.2.2.2, e4, call_s, bnd_ap, bnd_ap]
  obtain ⟨r, p1, p2⟩ := PART (y - x) a w σ' (sI τ2 6 0)
  rw [p1, call_s]
  rw [show (sI τ2 6 (nI 0)) = sI τ2 6 0 from rfl, p2, call_s]
  exact ⟨r, σ', _, rfl, rfl, Rl_s h e5 e6⟩
