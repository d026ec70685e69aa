theorem FU_eq : FU = 1000 := rfl
/-- the worths of the errands from i on -/
def wsum (A : TW) (i : Nat) : Nat → Int32 → Int32
  | 0, x => x
  | n + 1, x => wsum A (i + 1) n (x + nI (A.2 9 i))
theorem xall {σ : ST} {A : TW} (wA : WFT A) (xA : XT σ 3 6 A) (ke : Int32 → ST → Option (Int32 × ST)) : ∀ (n i : Nat) (x : Int32) (m : Nat), i + n = A.1 2 → n < m → fX2_allWorth_4_L4 ke m x (nI i) σ = ke (wsum A i n x) σ := by
  have hE := wA.1.2.2.1
  have x2 : gI σ 5 = nI (A.1 2) := xA.1.2.2.1
  intro n
  induction n with
  | zero =>
    intro i x m h1 h2
    obtain ⟨m, rfl⟩ : ∃ k, m = k + 1 := ⟨m - 1, by omega⟩
    rw [fX2_allWorth_4_L4, x2, if_pos (by rw [nI_le_iff (by omega) (by omega)]; omega)]
    rfl
  | succ n ih =>
    intro i x m h1 h2
    obtain ⟨m, rfl⟩ : ∃ k, m = k + 1 := ⟨m - 1, by omega⟩
    have e : gA σ 15 i = nI (A.2 9 i) := (xA.2.2.2 i (by omega)).2.2.1
    rw [fX2_allWorth_4_L4, x2, if_neg (by rw [nI_le_iff (by omega) (by omega)]; omega), ald_n (by omega) (by omega), e]
    simp only [bnd_ap, ← nI_succ]
    rw [ih (i + 1) _ m (by omega) (by omega)]
    rfl
theorem mall {τ : ST} {A : TW} (wA : WFT A) (mA : MT (gA τ 1) A) (ke : Int32 → ST → Option (Int32 × ST)) : ∀ (n i : Nat) (x : Int32) (m : Nat), i + n = A.1 2 → n < m → fX5_count_L26 ke m x (nI i) τ = ke (wsum A i n x) τ := by
  have hE := wA.1.2.2.1
  have x2 : gA τ 1 2 = nI (A.1 2) := mA.1.2.2.1
  intro n
  induction n with
  | zero =>
    intro i x m h1 h2
    obtain ⟨m, rfl⟩ : ∃ k, m = k + 1 := ⟨m - 1, by omega⟩
    rw [fX5_count_L26, ald_e (j := 2) (show (2 : Int32) = nI 2 from rfl) (by omega) (by omega), x2, if_pos (by rw [nI_le_iff (by omega) (by omega)]; omega)]
    rfl
  | succ n ih =>
    intro i x m h1 h2
    obtain ⟨m, rfl⟩ : ∃ k, m = k + 1 := ⟨m - 1, by omega⟩
    have e := (mA.2.2.1 i (by omega)).2.2.1
    rw [fX5_count_L26, ald_e (j := 2) (show (2 : Int32) = nI 2 from rfl) (by omega) (by omega), x2, if_neg (by rw [nI_le_iff (by omega) (by omega)]; omega), ix42, ald_n (by omega) (by omega), e]
    simp only [bnd_ap, ← nI_succ]
    rw [ih (i + 1) _ m (by omega) (by omega)]
    rfl
theorem nI_m10 {k : Nat} (h : 10 ≤ k) : nI k - 10 = nI (k - 10) := by rw [l10]; exact pk_sub h
theorem sim_count (a : Int32) : SIMi Rl (fX4_count a) (fX5_count a) := by
  intro σ τ h
  obtain ⟨g1, ⟨L, hL, r1, r2, r3⟩, ⟨n, hn, t1, t2, t3⟩, ⟨A, wA, xA, mA, lA⟩, g5, g6⟩ := id h
  obtain ⟨⟨x0, x1, x2, x3, x4, x5⟩, xr⟩ := id xA
  obtain ⟨⟨m0, m1, m2, m3, m4, m5⟩, mr⟩ := id mA
  have x1 : gI σ 4 = nI (A.1 1) := x1
  have x2 : gI σ 5 = nI (A.1 2) := x2
  have x3 : gI σ 6 = nI (A.1 3) := x3
  have x4 : gI σ 7 = nI (A.1 4) := x4
  have x5 : gI σ 8 = nI (A.1 5) := x5
  unfold fX4_count fX5_count
  by_cases q : a < 0
  · have q1 : a < 11 := by
      rw [Int32.lt_iff_toInt_lt] at q ⊢
      have e1 : (0 : Int32).toInt = 0 := by decide
      have e2 : (11 : Int32).toInt = 11 := by decide
      omega
    have ne : ∀ k : Nat, k < 100 → ¬ a = nI k := fun k hk z => by rw [z] at q; exact nI_nneg (by omega) q
    simp only [if_pos q, if_pos q1]
    unfold fX4_count_J22 fX5_count_J16
    rw [if_neg (show ¬ a = 0 from ne 0 (by omega)), if_neg (show ¬ a = 1 from ne 1 (by omega)), if_neg (show ¬ a = 2 from ne 2 (by omega)), if_neg (show ¬ a = 3 from ne 3 (by omega)), if_neg (show ¬ a = 4 from ne 4 (by omega)), if_neg (show ¬ a = 5 from ne 5 (by omega)), if_neg (show ¬ a = 6 from ne 6 (by omega)), if_neg (show ¬ a = 7 from ne 7 (by omega)), if_neg (show ¬ a = 8 from ne 8 (by omega)), if_neg (show ¬ a = 6 from ne 6 (by omega)), if_neg (show ¬ a = 7 from ne 7 (by omega)), if_neg (show ¬ a = 8 from ne 8 (by omega)), if_pos q1]
    exact ⟨_, _, _, rfl, rfl, h⟩
  · simp only [if_neg q]
    obtain ⟨k, hk, rfl⟩ := na_of q
    by_cases q5 : k ≤ 5
    · rw [if_pos (show nI k < 11 by rw [l11, nI_lt_iff (by omega) (by omega)]; omega), if_neg (show ¬ 5 < nI k by rw [l5, nI_lt_iff (by omega) (by omega)]; omega), ald_n (by omega) (by omega)]
      unfold fX4_count_J22 fX4_settingOf
      rcases (show k = 0 ∨ k = 1 ∨ k = 2 ∨ k = 3 ∨ k = 4 ∨ k = 5 by omega) with rfl | rfl | rfl | rfl | rfl | rfl
      · rw [m0]; exact ⟨nI (A.1 0), σ, τ, by rw [← x0]; rfl, rfl, h⟩
      · rw [m1]; exact ⟨nI (A.1 1), σ, τ, by rw [← x1]; rfl, rfl, h⟩
      · rw [m2]; exact ⟨nI (A.1 2), σ, τ, by rw [← x2]; rfl, rfl, h⟩
      · rw [m3]; exact ⟨nI (A.1 3), σ, τ, by rw [← x3]; rfl, rfl, h⟩
      · rw [m4]; exact ⟨nI (A.1 4), σ, τ, by rw [← x4]; rfl, rfl, h⟩
      · rw [m5]; exact ⟨nI (A.1 5), σ, τ, by rw [← x5]; rfl, rfl, h⟩
    · rw [if_pos (show 5 < nI k by rw [l5, nI_lt_iff (by omega) (by omega)]; omega)]
      by_cases q6 : k ≤ 8
      · rw [if_pos (show nI k < 11 by rw [l11, nI_lt_iff (by omega) (by omega)]; omega)]
        rcases (show k = 6 ∨ k = 7 ∨ k = 8 by omega) with rfl | rfl | rfl
        · have e1 : fX4_count_J22 (nI 6) σ = cali (fX2_allWorth_4 σ) (fun r_8 σ_7 => some (r_8, σ_7)) := rfl
          have e2 : fX5_count_J16 (nI 6) τ = fX5_count_L26 (fun x2_8 σ_9 => some (x2_8, σ_9)) FU 0 0 τ := rfl
          have e3 : fX2_allWorth_4 σ = some (wsum A 0 (A.1 2) 0, σ) := xall wA xA (fun x1_6 σ_7 => some (x1_6, σ_7)) (A.1 2) 0 0 FU (by omega) (by rw [FU_eq]; have := wA.1.2.2.1; omega)
          rw [e1, e2, e3]
          exact ⟨_, σ, τ, rfl, mall wA mA (fun x2_8 σ_9 => some (x2_8, σ_9)) (A.1 2) 0 0 FU (by omega) (by rw [FU_eq]; have := wA.1.2.2.1; omega), h⟩
        · exact ⟨gI σ 0, σ, τ, rfl, by rw [r1, ← r2]; rfl, h⟩
        · exact ⟨gI σ 2, σ, τ, rfl, by rw [t1, ← t2]; rfl, h⟩
      · have ne : ∀ j : Nat, j < 9 → ¬ nI k = nI j := fun j hj z => by rw [nI_eq_iff (by omega) (by omega)] at z; omega
        have J1 : fX5_count_J16 (nI k) τ = (if nI k < 11 then some ((-9), τ) else (if 16 < nI k then some ((-9), τ) else ald (gA τ 0) 7 (nI k - 10) (fun v_1 => some (v_1, τ)))) := by
          unfold fX5_count_J16
          rw [if_neg (show ¬ nI k = 6 from ne 6 (by omega)), if_neg (show ¬ nI k = 7 from ne 7 (by omega)), if_neg (show ¬ nI k = 8 from ne 8 (by omega))]
        have J2 : fX4_count_J22 (nI k) σ = some (-9, σ) := by
          unfold fX4_count_J22
          rw [if_neg (show ¬ nI k = 0 from ne 0 (by omega)), if_neg (show ¬ nI k = 1 from ne 1 (by omega)), if_neg (show ¬ nI k = 2 from ne 2 (by omega)), if_neg (show ¬ nI k = 3 from ne 3 (by omega)), if_neg (show ¬ nI k = 4 from ne 4 (by omega)), if_neg (show ¬ nI k = 5 from ne 5 (by omega)), if_neg (show ¬ nI k = 6 from ne 6 (by omega)), if_neg (show ¬ nI k = 7 from ne 7 (by omega)), if_neg (show ¬ nI k = 8 from ne 8 (by omega))]
        rw [J1, J2]
        by_cases z1 : nI k < 11
        · simp only [if_pos z1]
          exact ⟨_, _, _, rfl, rfl, h⟩
        · simp only [if_neg z1]
          by_cases z2 : 16 < nI k
          · simp only [if_pos z2]
            exact ⟨_, _, _, rfl, rfl, h⟩
          · simp only [if_neg z2]
            have y1 : 11 ≤ k := by rw [l11, nI_lt_iff (by omega) (by omega)] at z1; omega
            have y2 : k ≤ 16 := by rw [l16, nI_lt_iff (by omega) (by omega)] at z2; omega
            rw [nI_m10 (by omega), ald_n (by omega) (by omega), ald_n (by omega) (by omega), g1 (k - 10) (by omega)]
            exact ⟨_, _, _, rfl, rfl, h⟩
