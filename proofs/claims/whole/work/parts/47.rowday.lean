/-! ===== a day by the row ===== -/
/-- the surroundings stand as long as these stand -/
theorem ENV_g {σ τ σ' τ' : ST} {A B : TW} {D R : Nat} (h : ENV σ τ A B D R) (c1 : ∀ k, (3 ≤ k ∧ k < 9) ∨ k = 23 ∨ k = 24 → gI σ' k = gI σ k) (c2 : ∀ k, k < 4 ∨ (6 ≤ k ∧ k < 17) ∨ k = 39 ∨ k = 40 → gA σ' k = gA σ k) (m1 : ∀ k, (5 ≤ k ∧ k < 8) ∨ k = 9 ∨ k = 10 → gI τ' k = gI τ k) (m2 : ∀ k, k = 1 ∨ (8 ≤ k ∧ k < 12) → gA τ' k = gA τ k) : ENV σ' τ' A B D R := by
  obtain ⟨w, p, x, m, l, s, ⟨d1, d2, d3⟩, r1, r2, r3⟩ := h
  refine ⟨w, p, XT_c x (fun k hk => c1 _ (by omega)) (fun k hk => c2 _ (by omega)), by rw [m2 1 (by omega)]; exact m, ?_, ?_, ⟨d1, (c1 23 (by omega)).trans d2, (m1 9 (by omega)).trans d3⟩, r1, (c1 24 (by omega)).trans r2, (m1 10 (by omega)).trans r3⟩
  · intro i hi
    have := l i hi
    unfold LgP at this ⊢
    rw [c2 0 (by omega), c2 1 (by omega), c2 2 (by omega), c2 3 (by omega), m2 8 (by omega), m2 9 (by omega), m2 10 (by omega), m2 11 (by omega)]
    exact this
  · intro q hq
    obtain ⟨s, u, h1, h2, h3, h4, h5, h6⟩ := s q hq
    have e1 : puN τ' B q = puN τ B q := by unfold puN; rw [m1 7 (by omega)]
    have e2 : stN τ' B q = stN τ B q := by unfold stN; rw [e1, m1 5 (by omega), m1 6 (by omega)]
    have e3 : pdN τ' B q = pdN τ B q := by unfold pdN; rw [e1, e2]
    exact ⟨s, u, h1, h2, by rw [c2 39 (by omega)]; exact h3, e2.trans h4, by rw [c2 40 (by omega)]; exact h5, e3.trans h6⟩
def rX (σ σ' : ST) : Prop := (∀ k, k < 21 ∨ k = 23 ∨ k = 24 → gI σ' k = gI σ k) ∧ (∀ k, k ≠ 41 → k ≠ 42 → k ≠ 44 → gA σ' k = gA σ k)
def rM (τ τ' : ST) : Prop := (∀ k, k < 8 ∨ k = 14 ∨ 17 ≤ k → gI τ' k = gI τ k) ∧ (∀ k, k ≠ 12 → gA τ' k = gA τ k)
theorem rX.xS {a b : ST} (h : rX a b) : xS a b := ⟨fun k hk => h.1 k (by omega), fun k hk => h.2 k (by omega) (by omega) (by omega)⟩
theorem rM.mS {a b : ST} (h : rM a b) : mS a b := ⟨fun k hk => h.1 k (by omega), fun k hk => h.2 k (by omega)⟩
theorem ROWGO {σ τ : ST} {A B : TW} {D : Nat} (E : ENV σ (sI (sI τ 9 (nI D)) 10 (nI (B.1 4))) A B D (B.1 4)) (hr : RowR σ τ) (h0 : ¬ gA τ 8 0 = 100000) (H : ∀ w p, w < A.1 0 → p < A.1 0 → ¬ gA τ 8 (8 * w) = 100000 → ¬ gA τ 8 (8 * w + p) = 100000 → ¬ gA τ 8 (8 * p) = 100000) (but : Int32) : ∃ (σ1 τ1 σ' τ' : ST) (n k m c : Nat), fX4_orderOfRow but σ = some (nI n, σ1) ∧ fX3_goBy_51 (nI n) σ1 = some σ' ∧ fX5_byRow but τ = some τ1 ∧ fX5_go (nI D) τ1 = some τ' ∧ rX σ σ' ∧ rM τ τ' ∧ k ≤ 12 ∧ m ≤ 372000 ∧ gI σ' 25 = nI m ∧ gI τ' 11 = nI m ∧ DC σ' τ' (gI τ 15, gI τ 16) k c := by
  obtain ⟨⟨wA, wB, e2, e0, eE, eF⟩, hp0, xA, mB, _⟩ := id E
  have mB' : MT (gA τ 1) B := mB
  obtain ⟨L, hL, r1, r2, r3⟩ := hr
  obtain ⟨σ1, τ1, n, g1, g2, g3, g4, g5, g6⟩ : ∃ (σ' τ' : ST) (n : Nat), n ≤ 5 ∧ fX4_orderOfRow but σ = some (nI n, σ') ∧ fX5_byRow but τ = some τ' ∧ oX σ σ' ∧ oM τ τ' ∧ OT σ' τ' (A.1 2) n := by
    obtain ⟨σ', τ', n, g1, g2, g3, g4, g5, g6⟩ := ORL wA.1.2.2.1 hL but L 0 FU FU 0 0 σ (sI τ 8 0) (by omega) (by rw [FU_eq]; omega) (by rw [FU_eq]; omega) (by omega) (by omega) (fun _ _ _ => rfl) r1 r2 xA.1.2.2.1 (by rw [← eE]; exact mB'.1.2.2.1) r3 ⟨rfl, fun y hy => absurd hy (by have : cnt 0 = 0 := rfl; omega)⟩
    refine ⟨σ', τ', n, g1, ?_, ?_, g4, oM.tr (b := sI τ 8 0) ⟨fun k hk => by rw [gI_sI, if_neg hk], fun _ _ => rfl⟩ g5, g6⟩
    · unfold fX4_orderOfRow
      rw [bnd_ap, bnd_ap, bnd_ap]
      exact g2 _
    · unfold fX5_byRow
      rw [bnd_ap, bnd_ap, bnd_ap]
      exact g3 _
  have E1 : ENV σ1 (sI (sI τ1 9 (nI D)) 10 (nI (B.1 4))) A B D (B.1 4) := ENV_g E (fun k hk => g4.1 k) (fun k hk => g4.2 k (by omega)) (fun k hk => by
    rw [gI_sI, gI_sI, gI_sI, gI_sI]
    by_cases z : k = 10
    · rw [if_pos z, if_pos z]
    · rw [if_neg z, if_neg z]
      by_cases z : k = 9
      · rw [if_pos z, if_pos z]
      · rw [if_neg z, if_neg z]; exact g5.1 k (by omega)) (fun k hk => g5.2 k (by omega))
  obtain ⟨σ', τ', k, m, c, u1, u2, u3, ⟨u4, u5⟩, u6, u7, u8, u9, u10⟩ := GO_51 E1 g1 g6.1 g6.2 (by rw [g5.2 8 (by omega)]; exact h0) (by rw [g5.2 8 (by omega)]; exact H)
  refine ⟨σ1, τ1, σ', τ', n, k, m, c, g2, u1, g3, u2, ⟨fun j hj => (u3.1 j hj).trans (g4.1 j), fun j a1 a2 a3 => (u3.2 j a1 a2).trans (g4.2 j a3)⟩, ⟨fun j hj => (u4 j (by omega)).trans (g5.1 j (by omega)), fun j hj => (u5 j).trans (g5.2 j hj)⟩, u6, u7, u8, u9, ?_⟩
  rw [← g5.1 15 (by omega), ← g5.1 16 (by omega)]
  exact u10
/-- the day as it is -/
theorem RDAY {σ τ : ST} {A : TW} (wA : WFT A) (hP : 0 < A.1 0) (xA : XT σ 3 6 A) (mA : MT (gA τ 1) A) (l : LegX σ A) (hr : RowR σ τ) (m5 : gI τ 5 = 0) (m6 : gI τ 6 = 0) (m7 : gI τ 7 = -9) : ∃ (σ' τ' : ST) (k m c : Nat), fX4_goByRow σ = some σ' ∧ fX5_dayOfRow (nI (A.1 5)) τ = some τ' ∧ xS σ σ' ∧ mS τ τ' ∧ k ≤ 12 ∧ m ≤ 372000 ∧ gI σ' 25 = nI m ∧ gI τ' 11 = nI m ∧ DC σ' τ' (gI τ 15, gI τ 16) k c := by
  obtain ⟨σ1, s1, s2, s3, s4, s5⟩ := SUP wA xA
  obtain ⟨τ1, t1, t2, t3, t4, t5⟩ := legs_go2 (σ := σ1) wA hP mA (by
    intro i hi
    rw [s2.2 0 (by omega) (by omega), s2.2 1 (by omega) (by omega), s2.2 2 (by omega) (by omega), s2.2 3 (by omega) (by omega)]
    exact l i hi)
  have E := ENV_0 (τ := τ1) wA hP xA (MT_f t2 mA) t3 s2 s5 wA.1.2.2.2.2.2 s3 s4 ((t2.1 5).trans m5) ((t2.1 6).trans m6) ((t2.1 7).trans m7)
  have hr1 : RowR σ1 τ1 := by
    obtain ⟨L, hL, r1, r2, r3⟩ := hr
    exact ⟨L, hL, (s2.1 0 (by omega) (by omega)).trans r1, (t2.1 17).trans r2, by rw [s2.2 43 (by omega) (by omega), t2.2.2 13 (by omega)]; exact r3⟩
  obtain ⟨σ2, τ2, σ3, τ3, n, k, m, c, u1, u2, u3, u4, u5, u6, u7, u8, u9, u10, u11⟩ := ROWGO E hr1 t4 t5 (-9)
  refine ⟨σ3, τ3, k, m, c, ?_, ?_, s2.xS.tr u5.xS, t2.mS.tr u6.mS, u7, u8, u9, u10, ?_⟩
  · unfold fX4_goByRow
    rw [s1, calv_s, u1, cali_s, u2, calv_s]
  · unfold fX5_dayOfRow
    rw [t1, calv_s, u3, calv_s, u4, calv_s]
  · rw [← t2.1 15, ← t2.1 16]; exact u11
