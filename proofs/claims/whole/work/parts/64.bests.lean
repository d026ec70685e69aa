/-! ===== best, bestMinutes, bestLikely, bestWorth ===== -/
theorem BFR {σ τ : ST} {A : TW} (h : Rl σ τ) (wA : WFT A) (xA : XT σ 3 6 A) (mA : MT (gA τ 1) A) (x1 : Int32) (fX fM : ST → Option (Int32 × ST)) (H : 0 < A.1 0 → ∃ (r : Int32) (σ' τ' : ST), fX σ = some (r, σ') ∧ fM τ = some (r, τ') ∧ Rl σ' τ') : ∃ (r : Int32) (σ' τ' : ST), cali (fX4_refusalOfBest x1 σ) (fun r_2 σ_1 => bnd (r_2 : Int32) (fun x2_3 => (if 0 ≤ x2_3 then fX σ_1 else cali (fX4_refuse x2_3 σ_1) (fun r_8 σ_7 => some (r_8, σ_7))))) = some (r, σ') ∧ cali (fX5_isNoBest x1 τ) (fun r_2 σ_1 => (if r_2 = 0 then cali (fX5_isNoTown σ_1) (fun r_4 σ_3 => (if r_4 = 0 then fM σ_3 else cali (fX5_no (-3) σ_3) (fun r_10 σ_9 => some (r_10, σ_9)))) else cali (fX5_no (-2) σ_1) (fun r_12 σ_11 => some (r_12, σ_11)))) = some (r, τ') ∧ Rl σ' τ' := by
  have hP := wA.1.1
  unfold fX4_refusalOfBest fX5_isNoBest
  by_cases n : x1 < 0
  · rw [if_pos n, if_pos n, cali_s, cali_s, bnd_ap, if_neg (by decide), if_neg n10]
    exact ref_i h (-2) 2 (by decide) (by omega) (by omega)
  · rw [if_neg n, if_neg n]
    by_cases b : x1 ≤ 2
    · rw [if_pos b, if_pos b, cali_s, if_pos rfl, noT mA wA, cali_s]
      by_cases z : A.1 0 = 0
      · rw [if_pos z, if_neg n10, if_pos (by rw [xA.1.1, z]; rfl), cali_s, bnd_ap, if_neg (by decide)]
        exact ref_i h (-3) 3 (by decide) (by omega) (by omega)
      · rw [if_neg z, if_pos rfl, if_neg (by rw [xA.1.1, show (0 : Int32) = nI 0 from rfl, nI_eq_iff (by omega) (by omega)]; exact z), cali_s, bnd_ap, if_pos (by decide)]
        exact H (by omega)
    · rw [if_neg b, if_neg b, cali_s, cali_s, bnd_ap, if_neg (by decide), if_neg n10]
      exact ref_i h (-2) 2 (by decide) (by omega) (by omega)
theorem sim_bestMinutes (a : Int32) : SIMi Rl (fX4_bestMinutes a) (fX5_bestMinutes a) := by
  intro σ τ h
  obtain ⟨g1, g2, g3, ⟨A, wA, xA, mA, lA⟩, g5, ⟨⟨m5, m6, m7, m14⟩, g7⟩⟩ := id h
  unfold fX4_bestMinutes fX5_bestMinutes
  refine BFR h wA xA mA a _ _ ?_
  intro hP
  have l : LegX σ A := by rcases lA with l | l; omega; exact l
  obtain ⟨σ', τ', e1, e2, e3, e4, e5, e6, e7, e8⟩ := BST wA hP xA mA l m5 m6 m7 a
  rw [e1, e2, calv_s, calv_s, e5]
  exact ⟨_, _, _, rfl, rfl, Rl_s h e3 e4⟩
theorem sim_best (a b : Int32) : SIMi Rl (fX4_best a b) (fX5_best a b) := by
  intro σ τ h
  obtain ⟨g1, g2, g3, ⟨A, wA, xA, mA, lA⟩, g5, ⟨⟨m5, m6, m7, m14⟩, g7⟩⟩ := id h
  have hE := wA.1.2.2.1
  unfold fX4_best fX5_best
  refine BFR h wA xA mA a _ _ ?_
  intro hP
  have l : LegX σ A := by rcases lA with l | l; omega; exact l
  by_cases n : b < 0
  · rw [if_pos n, if_pos n]
    exact ref_i h (-1) 1 (by decide) (by omega) (by omega)
  · obtain ⟨v, hv, rfl⟩ := na_of n
    rw [if_neg n, if_neg n, show ald (gA τ 1) 200 2 = ald (gA τ 1) 200 (nI 2) from rfl, ald_n (by omega) (by omega), mA.1.2.2.1, xA.1.2.2.1]
    by_cases c : v < A.1 2
    · rw [if_pos (by rw [nI_lt_iff (by omega) (by omega)]; exact c), if_pos (by rw [nI_lt_iff (by omega) (by omega)]; exact c)]
      obtain ⟨σ', τ', e1, e2, e3, e4, e5, e6, e7, e8⟩ := BST wA hP xA mA l m5 m6 m7 a
      rw [e1, e2, calv_s, calv_s, ald_n (by omega) (by omega), ald_n (by omega) (by omega), e8 v c]
      exact ⟨_, _, _, rfl, rfl, Rl_s h e3 e4⟩
    · rw [if_neg (by rw [nI_lt_iff (by omega) (by omega)]; exact c), if_neg (by rw [nI_lt_iff (by omega) (by omega)]; exact c)]
      exact ref_i h (-1) 1 (by decide) (by omega) (by omega)
theorem BPR {σ τ : ST} {A : TW} (h : Rl σ τ) (wA : WFT A) (xA : XT σ 3 6 A) (mA : MT (gA τ 1) A) (x1 x2 : Int32) (fX fM : ST → Option (Int64 × ST)) (H : (x2 = 0 ∨ x2 = 1) → 0 < A.1 0 → ∃ (r : Int64) (σ' τ' : ST), fX σ = some (r, σ') ∧ fM τ = some (r, τ') ∧ Rl σ' τ') : ∃ (r : Int64) (σ' τ' : ST), cali (fX4_refusalOfBestPart x1 x2 σ) (fun r_2 σ_1 => bnd (r_2 : Int32) (fun x2_3 => (if 0 ≤ x2_3 then fX σ_1 else call (fX4_refuseLong x2_3 σ_1) (fun r_8 σ_7 => some (r_8, σ_7))))) = some (r, σ') ∧ cali (fX5_isNoBest x1 τ) (fun r_2 σ_1 => (if r_2 = 0 then cali (fX5_isNoPart x2 σ_1) (fun r_6 σ_5 => (if r_6 = 0 then cali (fX5_isNoTown σ_5) (fun r_4 σ_3 => (if r_4 = 0 then fM σ_3 else call (fX5_noLong (-3) σ_3) (fun r_10 σ_9 => some (r_10, σ_9)))) else call (fX5_noLong (-2) σ_5) (fun r_12 σ_11 => some (r_12, σ_11)))) else call (fX5_noLong (-2) σ_1) (fun r_4 σ_3 => some (r_4, σ_3)))) = some (r, τ') ∧ Rl σ' τ' := by
  have fin : ∃ (r : Int64) (σ' τ' : ST), call (fX4_refuseLong (-2) σ) (fun r_8 σ_7 => some (r_8, σ_7)) = some (r, σ') ∧ call (fX5_noLong (-2) τ) (fun r_10 σ_9 => some (r_10, σ_9)) = some (r, τ') ∧ Rl σ' τ' := by
    obtain ⟨r, σ', τ', e1, e2, e3⟩ := ref_l h (-2) 2 (by decide) (by omega) (by omega)
    exact ⟨r, σ', τ', by rw [e1, call_s], by rw [e2, call_s], e3⟩
  unfold fX4_refusalOfBestPart fX5_isNoBest
  by_cases n : x1 < 0
  · rw [if_pos n, if_pos n, cali_s, cali_s, bnd_ap, if_neg (by decide), if_neg n10]
    exact fin
  · rw [if_neg n, if_neg n]
    by_cases b : x1 ≤ 2
    · rw [if_pos b, if_pos b, cali_s, if_pos rfl, fold_i]
      exact PFR h wA xA mA x2 fX fM H
    · rw [if_neg b, if_neg b, cali_s, cali_s, bnd_ap, if_neg (by decide), if_neg n10]
      exact fin
theorem sim_bestLikely (a b : Int32) : SIMl Rl (fX4_bestLikely a b) (fX5_bestLikely a b) := by
  intro σ τ h
  obtain ⟨g1, g2, g3, ⟨A, wA, xA, mA, lA⟩, g5, ⟨⟨m5, m6, m7, m14⟩, g7⟩⟩ := id h
  unfold fX4_bestLikely fX5_bestLikely
  refine BPR h wA xA mA a b _ _ ?_
  intro w hP
  have l : LegX σ A := by rcases lA with l | l; omega; exact l
  obtain ⟨σ', τ', e1, e2, e3, e4, e5, e6, e7, e8⟩ := BST wA hP xA mA l m5 m6 m7 a
  rw [e1, e2, calv_s, calv_s, e6]
  obtain ⟨r, p1, p2⟩ := PART (gL τ' 2) b w σ' τ'
  rw [p1, p2, call_s, call_s]
  exact ⟨r, σ', τ', rfl, rfl, Rl_s h e3 e4⟩
theorem sim_bestWorth (a b : Int32) : SIMl Rl (fX4_bestWorth a b) (fX5_bestWorth a b) := by
  intro σ τ h
  obtain ⟨g1, g2, g3, ⟨A, wA, xA, mA, lA⟩, g5, ⟨⟨m5, m6, m7, m14⟩, g7⟩⟩ := id h
  unfold fX4_bestWorth fX5_bestWorth
  refine BPR h wA xA mA a b _ _ ?_
  intro w hP
  have l : LegX σ A := by rcases lA with l | l; omega; exact l
  obtain ⟨σ', τ', e1, e2, e3, e4, e5, e6, e7, e8⟩ := BST wA hP xA mA l m5 m6 m7 a
  rw [e1, e2, calv_s, calv_s, e7]
  obtain ⟨r, p1, p2⟩ := PART (gL τ' 3) b w σ' τ'
  rw [p1, p2, call_s, call_s]
  exact ⟨r, σ', τ', rfl, rfl, Rl_s h e3 e4⟩
