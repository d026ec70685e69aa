/-! ===== a row's worth, the order made once by the class ===== -/
def wM (τ τ' : ST) : Prop := (∀ k, k < 8 ∨ k = 14 ∨ 17 ≤ k → gI τ' k = gI τ k) ∧ (∀ k, k < 8 ∨ 13 ≤ k → gA τ' k = gA τ k)
theorem wM.rf (σ : ST) : wM σ σ := ⟨fun _ _ => rfl, fun _ _ => rfl⟩
theorem wM.tr {a b c : ST} (h : wM a b) (g : wM b c) : wM a c := ⟨fun k q => (g.1 k q).trans (h.1 k q), fun k q => (g.2 k q).trans (h.2 k q)⟩
theorem wM.mS {a b : ST} (h : wM a b) : mS a b := ⟨fun k hk => h.1 k (by omega), fun k hk => h.2 k (by omega)⟩
theorem RowR_c {σ σ' τ τ' : ST} (h : RowR σ τ) (e1 : gI σ' 0 = gI σ 0) (e2 : gA σ' 43 = gA σ 43) (e3 : gI τ' 17 = gI τ 17) (e4 : gA τ' 13 = gA τ 13) : RowR σ' τ' := by
  obtain ⟨L, hL, r1, r2, r3⟩ := h
  exact ⟨L, hL, e1.trans r1, e3.trans r2, by rw [e2, e4]; exact r3⟩
/-- what a day needs, legs still to be laid by the reference -/
def PRE (σ τ : ST) (A B : TW) (D : Nat) : Prop := (WFT A ∧ WFT B ∧ B.2 = A.2 ∧ B.1 0 = A.1 0 ∧ B.1 2 = A.1 2 ∧ B.1 3 = A.1 3) ∧ 0 < A.1 0 ∧ XT σ 3 6 A ∧ MT (gA τ 1) B ∧ LegX σ B ∧ (∀ p, p < A.1 0 → ∃ s u : Nat, s ≤ 10 ∧ u ≤ 10 ∧ gA σ 39 p = nI s ∧ stN τ B p = nI s ∧ gA σ 40 p = nI u ∧ pdN τ B p = nI u) ∧ (D ≤ 5 ∧ gI σ 23 = nI D) ∧ gI σ 24 = nI (B.1 4)
theorem LegX_c {σ σ' : ST} {A : TW} (h : LegX σ A) (e : ∀ k, k < 4 → gA σ' k = gA σ k) : LegX σ' A := by
  intro i hi
  rw [e 0 (by omega), e 1 (by omega), e 2 (by omega), e 3 (by omega)]
  exact h i hi
theorem PRE_ENV {σ τ : ST} {A B : TW} {D : Nat} (h : PRE σ τ A B D) : ∃ τ', fX5_legs τ = some τ' ∧ fM τ τ' ∧ ENV σ (sI (sI τ' 9 (nI D)) 10 (nI (B.1 4))) A B D (B.1 4) ∧ ¬ gA τ' 8 0 = 100000 ∧ ∀ w p, w < A.1 0 → p < A.1 0 → ¬ gA τ' 8 (8 * w) = 100000 → ¬ gA τ' 8 (8 * w + p) = 100000 → ¬ gA τ' 8 (8 * p) = 100000 := by
  obtain ⟨⟨wA, wB, e2, e0, eE, eF⟩, hp, xA, mB, l, s, ⟨hD, d1⟩, r1⟩ := h
  obtain ⟨τ1, t1, t2, t3, t4, t5⟩ := legs_go2 wB (by omega) mB l
  rw [e0] at t5
  have mB1 : MT (gA τ1 1) B := MT_f t2 mB
  refine ⟨τ1, t1, t2, ⟨⟨wA, wB, e2, e0, eE, eF⟩, hp, xA, mB1, fun i hi => t3 i hi, ?_, ⟨hD, d1, rfl⟩, wB.1.2.2.2.2.1, r1, rfl⟩, t4, t5⟩
  intro p hp
  obtain ⟨s0, u0, h1, h2, h3, h4, h5, h6⟩ := s p hp
  have f5 : gI (sI (sI τ1 9 (nI D)) 10 (nI (B.1 4))) 5 = gI τ 5 := by rw [gI_sI, if_neg (by omega), gI_sI, if_neg (by omega)]; exact t2.1 5
  have f6 : gI (sI (sI τ1 9 (nI D)) 10 (nI (B.1 4))) 6 = gI τ 6 := by rw [gI_sI, if_neg (by omega), gI_sI, if_neg (by omega)]; exact t2.1 6
  have f7 : gI (sI (sI τ1 9 (nI D)) 10 (nI (B.1 4))) 7 = gI τ 7 := by rw [gI_sI, if_neg (by omega), gI_sI, if_neg (by omega)]; exact t2.1 7
  have e1 : puN (sI (sI τ1 9 (nI D)) 10 (nI (B.1 4))) B p = puN τ B p := by unfold puN; rw [f7]
  have e2 : stN (sI (sI τ1 9 (nI D)) 10 (nI (B.1 4))) B p = stN τ B p := by unfold stN; rw [e1, f5, f6]
  have e3 : pdN (sI (sI τ1 9 (nI D)) 10 (nI (B.1 4))) B p = pdN τ B p := by unfold pdN; rw [e1, e2]
  exact ⟨s0, u0, h1, h2, h3, e2.trans h4, h5, e3.trans h6⟩
theorem WROW {σ τ σ0 σ1 : ST} {A B : TW} {D : Nat} {n : Int32} (h : PRE σ τ A B D) (hr : RowR σ0 τ) (x0 : XT σ0 3 6 A) (ho : fX4_orderOfRow (-9) σ0 = some (n, σ1)) (h44 : gA σ 44 = gA σ1 44) : ∃ (σ' τ' : ST), fX3_goBy_51 n σ = some σ' ∧ fX5_worthOfRow (nI D) τ = some (gL σ' 1, τ') ∧ cF σ σ' ∧ wM τ τ' := by
  obtain ⟨τ1, t1, t2, E, t4, t5⟩ := PRE_ENV h
  obtain ⟨⟨wA, wB, e2, e0, eE, eF⟩, hp, xA, mB, _⟩ := id h
  have mB1 := MT_f t2 mB
  have hr1 : RowR σ0 τ1 := RowR_c hr rfl rfl (t2.1 17) (t2.2.2 13 (by omega))
  obtain ⟨L, hL, r1, r2, r3⟩ := hr1
  obtain ⟨σ2, τ2, m, g1, g2, g3, g4, g5, g6⟩ := ORL wA.1.2.2.1 hL (-9) L 0 FU FU 0 0 σ0 (sI τ1 8 0) (by omega) (by rw [FU_eq]; omega) (by rw [FU_eq]; omega) (by omega) (by omega) (fun _ _ _ => rfl) r1 r2 x0.1.2.2.1 (by rw [← eE]; exact mB1.1.2.2.1) r3 ⟨rfl, fun y hy => absurd hy (by have : cnt 0 = 0 := rfl; omega)⟩
  have g5 : oM τ1 τ2 := oM.tr (b := sI τ1 8 0) ⟨fun k hk => by rw [gI_sI, if_neg hk], fun _ _ => rfl⟩ g5
  have o2 : fX4_orderOfRow (-9) σ0 = some (nI m, σ2) := by
    unfold fX4_orderOfRow
    rw [bnd_ap, bnd_ap, bnd_ap]
    exact g2 _
  have b2 : fX5_byRow (-9) τ1 = some τ2 := by
    unfold fX5_byRow
    rw [bnd_ap, bnd_ap, bnd_ap]
    exact g3 _
  have oo := ho.symm.trans o2
  have on : n = nI m := congrArg Prod.fst (Option.some.inj oo)
  have os : σ1 = σ2 := congrArg Prod.snd (Option.some.inj oo)
  have E1 : ENV σ (sI (sI τ2 9 (nI D)) 10 (nI (B.1 4))) A B D (B.1 4) := ENV_g E (fun k hk => rfl) (fun k hk => rfl) (fun k hk => by
    rw [gI_sI, gI_sI, gI_sI, gI_sI]
    by_cases z : k = 10
    · rw [if_pos z, if_pos z]
    · rw [if_neg z, if_neg z]
      by_cases z : k = 9
      · rw [if_pos z, if_pos z]
      · rw [if_neg z, if_neg z]; exact g5.1 k (by omega)) (fun k hk => g5.2 k (by omega))
  obtain ⟨σ', τ', k, q, c, u1, u2, u3, ⟨u4, u5⟩, u6, u7, u8, u9, u10⟩ := GO_51 E1 g1 g6.1 (by rw [h44, os]; exact g6.2) (by rw [g5.2 8 (by omega)]; exact t4) (by rw [g5.2 8 (by omega)]; exact t5)
  refine ⟨σ', τ', by rw [on]; exact u1, ?_, u3, ⟨fun j hj => ?_, fun j hj => ?_⟩⟩
  · unfold fX5_worthOfRow fX5_dayOfRow
    rw [t1, calv_s, b2, calv_s, u2, calv_s, calv_s, u10.2.2.2.1]
  · rw [u4 j (by omega), g5.1 j (by omega), t2.1]
  · rw [u5 j, g5.2 j (by omega), t2.2.2 j (by omega)]
def ASIS (σ : ST) (A : TW) : Prop := ∀ i, i < A.1 0 → gA σ 39 i = stI (nI (A.2 0 i)) (nI (A.2 1 i)) (nI (A.2 2 i)) ∧ gA σ 40 i = puI (nI (A.2 0 i)) (nI (A.2 1 i)) (nI (A.2 2 i))
theorem PRE_0 {σ τ : ST} {A : TW} {D : Nat} (wA : WFT A) (h0 : 0 < A.1 0) (xA : XT σ 3 6 A) (mA : MT (gA τ 1) A) (l : LegX σ A) (s : ASIS σ A) (hD : D ≤ 5) (e1 : gI σ 23 = nI D) (e2 : gI σ 24 = nI (A.1 4)) (m5 : gI τ 5 = 0) (m6 : gI τ 6 = 0) (m7 : gI τ 7 = -9) : PRE σ τ A A D := by
  have hP := wA.1.1
  refine ⟨⟨wA, wA, rfl, rfl, rfl, rfl⟩, h0, xA, mA, l, ?_, ⟨hD, e1⟩, e2⟩
  intro p hp
  obtain ⟨w1, w2, w3⟩ := wA.2.1 p hp
  obtain ⟨a, ha, ea⟩ := stI_le (A.2 0 p) (by omega) (A.2 1 p) (by omega) (A.2 2 p) (by omega)
  obtain ⟨b, hb, eb⟩ := puI_le (A.2 0 p) (by omega) (A.2 1 p) (by omega) (A.2 2 p) (by omega)
  exact ⟨a, b, by omega, by omega, by rw [(s p hp).1, ea], by rw [stN_0 m5 m6 m7 (by omega), ea], by rw [(s p hp).2, eb], by rw [pdN_0 m5 m6 m7 (by omega), eb]⟩
theorem jml {a b : Int64} (h : a ≤ b) : jmaxl b a = b := by
  unfold jmaxl
  by_cases z : a < b
  · rw [if_pos z]
  · rw [if_neg z]; exact Int64.le_antisymm h (Int64.not_lt.mp z)
theorem jmg {a b : Int64} (h : ¬ a ≤ b) : jmaxl b a = a := by
  unfold jmaxl
  rw [if_neg (fun q => h (Int64.le_of_lt q))]
