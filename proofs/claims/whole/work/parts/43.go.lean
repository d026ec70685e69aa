/-! ===== a day by order 51 ===== -/
theorem GOL_51 {A B : TW} {D R n : Nat} {q : Int32 × Int32} : ∀ (j x fu fu' : Nat) (σ τ : ST) (w k m c : Nat), x + j = n → n ≤ 5 → j < fu → j < fu' → ENV σ τ A B D R → DY σ τ q w k m c → k ≤ 1 + 2 * x → w < A.1 0 → ¬ gA τ 8 (8 * w) = 100000 → (∀ w p, w < A.1 0 → p < A.1 0 → ¬ gA τ 8 (8 * w) = 100000 → ¬ gA τ 8 (8 * w + p) = 100000 → ¬ gA τ 8 (8 * p) = 100000) → gI τ 8 = nI n → (∀ x, x < n → ∃ e, e < A.1 2 ∧ gA σ 44 x = nI e ∧ gA τ 12 x = nI e) → ∃ (σ' τ' : ST) (w' k' m' c' : Nat), (∀ ke, fX3_goBy_51_L43 ke fu (nI n) (nI x) σ = ke σ') ∧ (∀ ke, fX5_go_L51 ke fu' (nI w) (nI x) τ = ke (nI w') τ') ∧ cF σ σ' ∧ mF τ τ' ∧ DY σ' τ' q w' k' m' c' ∧ k' ≤ 1 + 2 * n ∧ w' < A.1 0 ∧ (¬ gA τ 8 (8 * w') = 100000 ∧ ∀ j, 2 ≤ j → gL τ' j = gL τ j) := by
  intro j
  induction j with
  | zero =>
    intro x fu fu' σ τ w k m c hx hn h1 h2 E Y hk hw hb _ t8 _
    obtain ⟨fu, rfl⟩ : ∃ f, fu = f + 1 := ⟨fu - 1, by omega⟩
    obtain ⟨fu', rfl⟩ : ∃ f, fu' = f + 1 := ⟨fu' - 1, by omega⟩
    refine ⟨σ, τ, w, k, m, c, fun ke => ?_, fun ke => ?_, cF.rf _, mF.rf _, Y, by omega, hw, hb, fun _ _ => rfl⟩
    · unfold fX3_goBy_51_L43
      rw [if_pos (by rw [nI_le_iff (by omega) (by omega)]; omega)]
    · unfold fX5_go_L51
      rw [if_pos (by rw [t8, nI_le_iff (by omega) (by omega)]; omega)]
  | succ j ih =>
    intro x fu fu' σ τ w k m c hx hn h1 h2 E Y hk hw hb H t8 O
    obtain ⟨fu, rfl⟩ : ∃ f, fu = f + 1 := ⟨fu - 1, by omega⟩
    obtain ⟨fu', rfl⟩ : ∃ f, fu' = f + 1 := ⟨fu' - 1, by omega⟩
    obtain ⟨e, he, o1, o2⟩ := O x (by omega)
    obtain ⟨σ1, τ1, w1, k1, m1, c1, v1, v2, v3, v4, v5, v6, v7, v8⟩ := VIS E Y hw he (by omega) (by omega) o2
    have hb1 : ¬ gA τ 8 (8 * w1) = 100000 := by
      rcases v8.1 with v8 | v8
      · rw [v8]; exact hb
      · exact H w w1 hw v7 hb v8
    obtain ⟨σ2, τ2, w2, k2, m2, c2, u1, u2, u3, u4, u5, u6, u7, u8⟩ := ih (x + 1) fu fu' σ1 τ1 w1 k1 m1 c1 (by omega) hn (by omega) (by omega) (ENV_f E v3 v4) v5 (by omega) v7 (by rw [v4.2]; exact hb1) (by rw [v4.2]; exact H) ((v4.1 8 (by omega)).trans t8) (fun x hx => by
      obtain ⟨e, he, o1, o2⟩ := O x hx
      exact ⟨e, he, by rw [v3.2 44 (by omega) (by omega)]; exact o1, by rw [v4.2]; exact o2⟩)
    obtain ⟨⟨wA, wB, e2, e0, eE, eF⟩, hp0, xA, mB, _⟩ := id E
    have hE := wA.1.2.2.1
    obtain ⟨m7, _⟩ := mB.2.2.1 e (by omega)
    rw [e2] at m7
    refine ⟨σ2, τ2, w2, k2, m2, c2, fun ke => ?_, fun ke => ?_, v3.tr u3, v4.tr u4, u5, u6, u7, by have u8 := u8.1; rw [v4.2] at u8; exact u8, fun j hj => (u8.2 j hj).trans (v8.2 j hj)⟩
    · unfold fX3_goBy_51_L43
      rw [if_neg (by rw [nI_le_iff (by omega) (by omega)]; omega), if_neg (by rw [l5, nI_le_iff (by omega) (by omega)]; omega), ald_n (by omega) (by omega), o1, v1, calv_s, bnd_ap, show nI x + 1 = nI (x + 1) from by rw [l1, na_add]]
      exact u1 ke
    · unfold fX5_go_L51
      rw [if_neg (by rw [t8, nI_le_iff (by omega) (by omega)]; omega), ald_n (by omega) (by omega), o2, bnd_ap, ix40, ald_n (by omega) (by omega), bnd_ap, m7, v2]
      exact u2 ke
theorem GO_51L {σ τ : ST} {A B : TW} {D n : Nat} (E : ENV σ (sI (sI τ 9 (nI D)) 10 (nI (B.1 4))) A B D (B.1 4)) (hn : n ≤ 5) (t8 : gI τ 8 = nI n) (O : ∀ x, x < n → ∃ e, e < A.1 2 ∧ gA σ 44 x = nI e ∧ gA τ 12 x = nI e) (h0 : ¬ gA τ 8 0 = 100000) (H : ∀ w p, w < A.1 0 → p < A.1 0 → ¬ gA τ 8 (8 * w) = 100000 → ¬ gA τ 8 (8 * w + p) = 100000 → ¬ gA τ 8 (8 * p) = 100000) : ∃ (σ' τ' : ST) (k m c : Nat), fX3_goBy_51 (nI n) σ = some σ' ∧ fX5_go (nI D) τ = some τ' ∧ cF σ σ' ∧ ((∀ j, j < 9 ∨ j = 14 ∨ 17 ≤ j → gI τ' j = gI τ j) ∧ ∀ j, gA τ' j = gA τ j) ∧ k ≤ 12 ∧ m ≤ 372000 ∧ gI σ' 25 = nI m ∧ gI τ' 11 = nI m ∧ DC σ' τ' (gI τ 15, gI τ 16) k c ∧ ∀ j, 2 ≤ j → gL τ' j = gL τ j := by
  obtain ⟨σ1, s1⟩ : ∃ z, z = sL (sL (sI (sI (sI (sI (sI σ 21 0) 22 0) 25 0) 26 0) 27 0) 0 1000000000000) 1 0 := ⟨_, rfl⟩
  obtain ⟨τ1, t1⟩ : ∃ z, z = sL (sL (sI (sI (sI (sI (sI τ 9 (nI D)) 10 (nI (B.1 4))) 11 0) 12 0) 13 0) 0 1000000000000) 1 0 := ⟨_, rfl⟩
  have c1 : cF σ σ1 := by
    rw [s1]
    exact ⟨fun j hj => by rw [gI_sL, gI_sL, gI_sI, if_neg (by omega), gI_sI, if_neg (by omega), gI_sI, if_neg (by omega), gI_sI, if_neg (by omega), gI_sI, if_neg (by omega)], fun j _ _ => rfl⟩
  have d1 : mF (sI (sI τ 9 (nI D)) 10 (nI (B.1 4))) τ1 := by
    rw [t1]
    exact ⟨fun j hj => by rw [gI_sL, gI_sL, gI_sI, if_neg (by omega), gI_sI, if_neg (by omega), gI_sI, if_neg (by omega)], fun j => rfl⟩
  have d1A : ∀ j, gA τ1 j = gA τ j := fun j => (d1.2 j).trans rfl
  have E1 := ENV_f E c1 d1
  have mB : MT (gA τ1 1) B := E1.2.2.2.1
  have hp0 := E.2.1
  have Y1 : DY σ1 τ1 (gI τ 15, gI τ 16) 0 0 0 1000000000000 := by
    refine ⟨by rw [s1]; rfl, ⟨by rw [s1]; rfl, by rw [t1]; rfl, by omega⟩, by rw [s1, t1]; rfl, by rw [s1, t1]; rfl, ⟨by rw [s1]; rfl, by rw [t1]; rfl, by decide, by omega⟩, by rw [s1, t1]; rfl, by rw [s1]; rfl, ?_, fun j hj => absurd hj (by omega)⟩
    rw [t1]
    show (gI τ 15, gI τ 16) = _
    split <;> rfl
  obtain ⟨σ2, τ2, c2, v1, v2, v3, v4, v5, v6, v7⟩ := ST_ev E1 Y1 hp0 (by omega)
  have A2 : ∀ j, gA τ2 j = gA τ j := fun j => (v4.2 j).trans (d1A j)
  have t82 : gI τ2 8 = nI n := by rw [v4.1 8 (by omega), d1.1 8 (by omega)]; exact t8
  obtain ⟨σ3, τ3, w3, k3, m3, c3, u1, u2, u3, u4, u5, u6, u7, u8⟩ := GOL_51 (n := n) n 0 FU FU σ2 τ2 0 1 0 c2 (by omega) hn (by rw [FU_eq]; omega) (by rw [FU_eq]; omega) (ENV_f E1 v3 v4) v7 (by omega) hp0 (by rw [A2]; exact h0) (by rw [A2]; exact H) t82 (fun x hx => by
    obtain ⟨e, he, o1, o2⟩ := O x hx
    exact ⟨e, he, by rw [v3.2 44 (by omega) (by omega), c1.2 44 (by omega) (by omega)]; exact o1, by rw [A2]; exact o2⟩)
  have A3 : ∀ j, gA τ3 j = gA τ j := fun j => (u4.2 j).trans (A2 j)
  obtain ⟨σ4, τ4, d, c4, hd, f1, f2, f3, f4, f5, f6, f7⟩ := DR_ev (p := 0) (ENV_f E1 (v3.tr u3) (v4.tr u4)) u5 u7 hp0 (by omega) (by have u8 := u8.1; rw [A3, Nat.add_zero]; rw [A2] at u8; exact u8)
  obtain ⟨y1, ⟨y2, y3, y4⟩, y5⟩ := u5
  obtain ⟨z1, ⟨z2, z3, z4⟩, z5⟩ := f7
  have mfr : mF τ1 (sI τ4 11 (nI (m3 + d))) := (v4.tr (u4.tr f4)).tr ⟨fun j hj => by rw [gI_sI, if_neg (by omega)], fun _ => rfl⟩
  refine ⟨σ4, sI τ4 11 (nI (m3 + d)), k3 + 1, m3 + d, c4, ?_, ?_, ((c1.tr v3).tr u3).tr f3, ⟨fun j hj => ?_, fun j => (mfr.2 j).trans (d1A j)⟩, by omega, by omega, z2, z3, z5, fun j hj => (f6.2 j hj).trans ((u8.2 j hj).trans ((v6.2 j hj).trans (by rw [t1, gL_sL, if_neg (by omega), gL_sL, if_neg (by omega)]; rfl)))⟩
  · unfold fX3_goBy_51
    rw [bnd_ap, bnd_ap, bnd_ap, bnd_ap, bnd_ap, bnd_ap, bnd_ap, ← s1, v1, calv_s, bnd_ap]
    refine (u1 _).trans ?_
    rw [show (0 : Int32) = nI 0 from rfl, f1, calv_s]
  · unfold fX5_go
    have e4 : gA (sI τ 9 (nI D)) 1 4 = nI (B.1 4) := by rw [show gA (sI τ 9 (nI D)) 1 = gA τ1 1 from (d1A 1).symm]; exact mB.1.2.2.2.2.1
    rw [bnd_ap, show (4 : Int32) = nI 4 from rfl, ald_n (by omega) (by omega), e4, bnd_ap, bnd_ap, bnd_ap, bnd_ap, bnd_ap, bnd_ap, ← t1, show fX5_start 0 τ1 = some τ2 from v2, calv_s, bnd_ap, bnd_ap]
    refine (u2 _).trans ?_
    rw [show (0 : Int32) = nI 0 from rfl, f2, cali_s, y3, na_add, bnd_ap]
  · rw [mfr.1 j (by omega), d1.1 j (by omega), gI_sI, if_neg (by omega), gI_sI, if_neg (by omega)]
theorem GO_51 {σ τ : ST} {A B : TW} {D n : Nat} (E : ENV σ (sI (sI τ 9 (nI D)) 10 (nI (B.1 4))) A B D (B.1 4)) (hn : n ≤ 5) (t8 : gI τ 8 = nI n) (O : ∀ x, x < n → ∃ e, e < A.1 2 ∧ gA σ 44 x = nI e ∧ gA τ 12 x = nI e) (h0 : ¬ gA τ 8 0 = 100000) (H : ∀ w p, w < A.1 0 → p < A.1 0 → ¬ gA τ 8 (8 * w) = 100000 → ¬ gA τ 8 (8 * w + p) = 100000 → ¬ gA τ 8 (8 * p) = 100000) : ∃ (σ' τ' : ST) (k m c : Nat), fX3_goBy_51 (nI n) σ = some σ' ∧ fX5_go (nI D) τ = some τ' ∧ cF σ σ' ∧ ((∀ j, j < 9 ∨ j = 14 ∨ 17 ≤ j → gI τ' j = gI τ j) ∧ ∀ j, gA τ' j = gA τ j) ∧ k ≤ 12 ∧ m ≤ 372000 ∧ gI σ' 25 = nI m ∧ gI τ' 11 = nI m ∧ DC σ' τ' (gI τ 15, gI τ 16) k c := by
  obtain ⟨σ', τ', k, m, c, u1, u2, u3, u4, u5, u6, u7, u8, u9, _⟩ := GO_51L E hn t8 O h0 H
  exact ⟨σ', τ', k, m, c, u1, u2, u3, u4, u5, u6, u7, u8, u9⟩
/-! ===== a day by order 52 ===== -/
theorem GOL_52 {A B : TW} {D R n : Nat} {q : Int32 × Int32} : ∀ (j x fu fu' : Nat) (σ τ : ST) (w k m c : Nat), x + j = n → n ≤ 5 → j < fu → j < fu' → ENV σ τ A B D R → DY σ τ q w k m c → k ≤ 1 + 2 * x → w < A.1 0 → ¬ gA τ 8 (8 * w) = 100000 → (∀ w p, w < A.1 0 → p < A.1 0 → ¬ gA τ 8 (8 * w) = 100000 → ¬ gA τ 8 (8 * w + p) = 100000 → ¬ gA τ 8 (8 * p) = 100000) → gI τ 8 = nI n → (∀ x, x < n → ∃ e, e < A.1 2 ∧ gA σ 45 x = nI e ∧ gA τ 12 x = nI e) → ∃ (σ' τ' : ST) (w' k' m' c' : Nat), (∀ ke, fX3_goBy_52_L43 ke fu (nI n) (nI x) σ = ke σ') ∧ (∀ ke, fX5_go_L51 ke fu' (nI w) (nI x) τ = ke (nI w') τ') ∧ cF σ σ' ∧ mF τ τ' ∧ DY σ' τ' q w' k' m' c' ∧ k' ≤ 1 + 2 * n ∧ w' < A.1 0 ∧ (¬ gA τ 8 (8 * w') = 100000 ∧ ∀ j, 2 ≤ j → gL τ' j = gL τ j) := by
  intro j
  induction j with
  | zero =>
    intro x fu fu' σ τ w k m c hx hn h1 h2 E Y hk hw hb _ t8 _
    obtain ⟨fu, rfl⟩ : ∃ f, fu = f + 1 := ⟨fu - 1, by omega⟩
    obtain ⟨fu', rfl⟩ : ∃ f, fu' = f + 1 := ⟨fu' - 1, by omega⟩
    refine ⟨σ, τ, w, k, m, c, fun ke => ?_, fun ke => ?_, cF.rf _, mF.rf _, Y, by omega, hw, hb, fun _ _ => rfl⟩
    · unfold fX3_goBy_52_L43
      rw [if_pos (by rw [nI_le_iff (by omega) (by omega)]; omega)]
    · unfold fX5_go_L51
      rw [if_pos (by rw [t8, nI_le_iff (by omega) (by omega)]; omega)]
  | succ j ih =>
    intro x fu fu' σ τ w k m c hx hn h1 h2 E Y hk hw hb H t8 O
    obtain ⟨fu, rfl⟩ : ∃ f, fu = f + 1 := ⟨fu - 1, by omega⟩
    obtain ⟨fu', rfl⟩ : ∃ f, fu' = f + 1 := ⟨fu' - 1, by omega⟩
    obtain ⟨e, he, o1, o2⟩ := O x (by omega)
    obtain ⟨σ1, τ1, w1, k1, m1, c1, v1, v2, v3, v4, v5, v6, v7, v8⟩ := VIS E Y hw he (by omega) (by omega) o2
    have hb1 : ¬ gA τ 8 (8 * w1) = 100000 := by
      rcases v8.1 with v8 | v8
      · rw [v8]; exact hb
      · exact H w w1 hw v7 hb v8
    obtain ⟨σ2, τ2, w2, k2, m2, c2, u1, u2, u3, u4, u5, u6, u7, u8⟩ := ih (x + 1) fu fu' σ1 τ1 w1 k1 m1 c1 (by omega) hn (by omega) (by omega) (ENV_f E v3 v4) v5 (by omega) v7 (by rw [v4.2]; exact hb1) (by rw [v4.2]; exact H) ((v4.1 8 (by omega)).trans t8) (fun x hx => by
      obtain ⟨e, he, o1, o2⟩ := O x hx
      exact ⟨e, he, by rw [v3.2 45 (by omega) (by omega)]; exact o1, by rw [v4.2]; exact o2⟩)
    obtain ⟨⟨wA, wB, e2, e0, eE, eF⟩, hp0, xA, mB, _⟩ := id E
    have hE := wA.1.2.2.1
    obtain ⟨m7, _⟩ := mB.2.2.1 e (by omega)
    rw [e2] at m7
    refine ⟨σ2, τ2, w2, k2, m2, c2, fun ke => ?_, fun ke => ?_, v3.tr u3, v4.tr u4, u5, u6, u7, by have u8 := u8.1; rw [v4.2] at u8; exact u8, fun j hj => (u8.2 j hj).trans (v8.2 j hj)⟩
    · unfold fX3_goBy_52_L43
      rw [if_neg (by rw [nI_le_iff (by omega) (by omega)]; omega), if_neg (by rw [l5, nI_le_iff (by omega) (by omega)]; omega), ald_n (by omega) (by omega), o1, v1, calv_s, bnd_ap, show nI x + 1 = nI (x + 1) from by rw [l1, na_add]]
      exact u1 ke
    · unfold fX5_go_L51
      rw [if_neg (by rw [t8, nI_le_iff (by omega) (by omega)]; omega), ald_n (by omega) (by omega), o2, bnd_ap, ix40, ald_n (by omega) (by omega), bnd_ap, m7, v2]
      exact u2 ke
theorem GO_52 {σ τ : ST} {A B : TW} {D n : Nat} (E : ENV σ (sI (sI τ 9 (nI D)) 10 (nI (B.1 4))) A B D (B.1 4)) (hn : n ≤ 5) (t8 : gI τ 8 = nI n) (O : ∀ x, x < n → ∃ e, e < A.1 2 ∧ gA σ 45 x = nI e ∧ gA τ 12 x = nI e) (h0 : ¬ gA τ 8 0 = 100000) (H : ∀ w p, w < A.1 0 → p < A.1 0 → ¬ gA τ 8 (8 * w) = 100000 → ¬ gA τ 8 (8 * w + p) = 100000 → ¬ gA τ 8 (8 * p) = 100000) : ∃ (σ' τ' : ST) (k m c : Nat), fX3_goBy_52 (nI n) σ = some σ' ∧ fX5_go (nI D) τ = some τ' ∧ cF σ σ' ∧ ((∀ j, j < 9 ∨ j = 14 ∨ 17 ≤ j → gI τ' j = gI τ j) ∧ ∀ j, gA τ' j = gA τ j) ∧ k ≤ 12 ∧ m ≤ 372000 ∧ gI σ' 25 = nI m ∧ gI τ' 11 = nI m ∧ DC σ' τ' (gI τ 15, gI τ 16) k c ∧ ∀ j, 2 ≤ j → gL τ' j = gL τ j := by
  obtain ⟨σ1, s1⟩ : ∃ z, z = sL (sL (sI (sI (sI (sI (sI σ 21 0) 22 0) 25 0) 26 0) 27 0) 0 1000000000000) 1 0 := ⟨_, rfl⟩
  obtain ⟨τ1, t1⟩ : ∃ z, z = sL (sL (sI (sI (sI (sI (sI τ 9 (nI D)) 10 (nI (B.1 4))) 11 0) 12 0) 13 0) 0 1000000000000) 1 0 := ⟨_, rfl⟩
  have c1 : cF σ σ1 := by
    rw [s1]
    exact ⟨fun j hj => by rw [gI_sL, gI_sL, gI_sI, if_neg (by omega), gI_sI, if_neg (by omega), gI_sI, if_neg (by omega), gI_sI, if_neg (by omega), gI_sI, if_neg (by omega)], fun j _ _ => rfl⟩
  have d1 : mF (sI (sI τ 9 (nI D)) 10 (nI (B.1 4))) τ1 := by
    rw [t1]
    exact ⟨fun j hj => by rw [gI_sL, gI_sL, gI_sI, if_neg (by omega), gI_sI, if_neg (by omega), gI_sI, if_neg (by omega)], fun j => rfl⟩
  have d1A : ∀ j, gA τ1 j = gA τ j := fun j => (d1.2 j).trans rfl
  have E1 := ENV_f E c1 d1
  have mB : MT (gA τ1 1) B := E1.2.2.2.1
  have hp0 := E.2.1
  have Y1 : DY σ1 τ1 (gI τ 15, gI τ 16) 0 0 0 1000000000000 := by
    refine ⟨by rw [s1]; rfl, ⟨by rw [s1]; rfl, by rw [t1]; rfl, by omega⟩, by rw [s1, t1]; rfl, by rw [s1, t1]; rfl, ⟨by rw [s1]; rfl, by rw [t1]; rfl, by decide, by omega⟩, by rw [s1, t1]; rfl, by rw [s1]; rfl, ?_, fun j hj => absurd hj (by omega)⟩
    rw [t1]
    show (gI τ 15, gI τ 16) = _
    split <;> rfl
  obtain ⟨σ2, τ2, c2, v1, v2, v3, v4, v5, v6, v7⟩ := ST_ev E1 Y1 hp0 (by omega)
  have A2 : ∀ j, gA τ2 j = gA τ j := fun j => (v4.2 j).trans (d1A j)
  have t82 : gI τ2 8 = nI n := by rw [v4.1 8 (by omega), d1.1 8 (by omega)]; exact t8
  obtain ⟨σ3, τ3, w3, k3, m3, c3, u1, u2, u3, u4, u5, u6, u7, u8⟩ := GOL_52 (n := n) n 0 FU FU σ2 τ2 0 1 0 c2 (by omega) hn (by rw [FU_eq]; omega) (by rw [FU_eq]; omega) (ENV_f E1 v3 v4) v7 (by omega) hp0 (by rw [A2]; exact h0) (by rw [A2]; exact H) t82 (fun x hx => by
    obtain ⟨e, he, o1, o2⟩ := O x hx
    exact ⟨e, he, by rw [v3.2 45 (by omega) (by omega), c1.2 45 (by omega) (by omega)]; exact o1, by rw [A2]; exact o2⟩)
  have A3 : ∀ j, gA τ3 j = gA τ j := fun j => (u4.2 j).trans (A2 j)
  obtain ⟨σ4, τ4, d, c4, hd, f1, f2, f3, f4, f5, f6, f7⟩ := DR_ev (p := 0) (ENV_f E1 (v3.tr u3) (v4.tr u4)) u5 u7 hp0 (by omega) (by have u8 := u8.1; rw [A3, Nat.add_zero]; rw [A2] at u8; exact u8)
  obtain ⟨y1, ⟨y2, y3, y4⟩, y5⟩ := u5
  obtain ⟨z1, ⟨z2, z3, z4⟩, z5⟩ := f7
  have mfr : mF τ1 (sI τ4 11 (nI (m3 + d))) := (v4.tr (u4.tr f4)).tr ⟨fun j hj => by rw [gI_sI, if_neg (by omega)], fun _ => rfl⟩
  refine ⟨σ4, sI τ4 11 (nI (m3 + d)), k3 + 1, m3 + d, c4, ?_, ?_, ((c1.tr v3).tr u3).tr f3, ⟨fun j hj => ?_, fun j => (mfr.2 j).trans (d1A j)⟩, by omega, by omega, z2, z3, z5, fun j hj => (f6.2 j hj).trans ((u8.2 j hj).trans ((v6.2 j hj).trans (by rw [t1, gL_sL, if_neg (by omega), gL_sL, if_neg (by omega)]; rfl)))⟩
  · unfold fX3_goBy_52
    rw [bnd_ap, bnd_ap, bnd_ap, bnd_ap, bnd_ap, bnd_ap, bnd_ap, ← s1, v1, calv_s, bnd_ap]
    refine (u1 _).trans ?_
    rw [show (0 : Int32) = nI 0 from rfl, f1, calv_s]
  · unfold fX5_go
    have e4 : gA (sI τ 9 (nI D)) 1 4 = nI (B.1 4) := by rw [show gA (sI τ 9 (nI D)) 1 = gA τ1 1 from (d1A 1).symm]; exact mB.1.2.2.2.2.1
    rw [bnd_ap, show (4 : Int32) = nI 4 from rfl, ald_n (by omega) (by omega), e4, bnd_ap, bnd_ap, bnd_ap, bnd_ap, bnd_ap, bnd_ap, ← t1, show fX5_start 0 τ1 = some τ2 from v2, calv_s, bnd_ap, bnd_ap]
    refine (u2 _).trans ?_
    rw [show (0 : Int32) = nI 0 from rfl, f2, cali_s, y3, na_add, bnd_ap]
  · rw [mfr.1 j (by omega), d1.1 j (by omega), gI_sI, if_neg (by omega), gI_sI, if_neg (by omega)]
