/-! ===== one errand on both sides ===== -/
theorem DC_up {σ σ' τ τ' : ST} {q : Int32 × Int32} {k c : Nat} (h : DC σ τ q k c) (e1 : gI σ' 26 = gI τ' 12) (e2 : gI σ' 27 = gI τ' 13) (e3 : gL σ' 0 = gL σ 0) (e4 : gL τ' 0 = gL τ 0) (e5 : gL σ' 1 = gL τ' 1) (e6 : gI σ' 21 = gI σ 21) (e7 : gI τ' 14 = gI τ 14) (e8 : gI τ' 15 = gI τ 15) (e9 : gI τ' 16 = gI τ 16) (a1 : gA σ' 41 = gA σ 41) (a2 : gA σ' 42 = gA σ 42) : DC σ' τ' q k c := by
  obtain ⟨h5, h6, ⟨h7, h8, h9, h10⟩, h11, h12, h13, h14⟩ := h
  refine ⟨e1, e2, ⟨e3.trans h7, e4.trans h8, h9, h10⟩, e5, e6.trans h12, ?_, ?_⟩
  · rw [e7, e8, e9, a1, a2]; exact h13
  · rw [a1, a2]; exact h14
theorem nI_le9 : ¬ (0 : Int32) ≤ -9 := by decide
theorem nI_ge0 {n : Nat} (h : n < 2147483648) : (0 : Int32) ≤ nI n := by rw [l0, nI_le_iff (by omega) h]; omega
/-- whether an errand is left out -/
theorem LV_j {σ τ : ST} {A B : TW} {D R w p : Nat} (E : ENV σ τ A B D R) (y1 : gI σ 22 = nI w) (hw : w < A.1 0) (hp : p < A.1 0) : ∃ t0 : Int32, fX3_leavesOut_J31 (nI p) σ = some (t0, σ) ∧ (∀ (kb : Int32 → Int32 → ST → Option ST) (x3 x4 : Int32), fX5_go_J100 kb (nI w) x3 x4 (nI p) τ = fX5_go_J122 kb (nI w) x3 x4 (nI p) t0 τ) ∧ (t0 = 1 ∨ (t0 = 0 ∧ ¬ gA τ 8 (8 * w + p) = 100000)) := by
  obtain ⟨⟨wA, wB, e2, e0, eE, eF⟩, hp0, xA, mB, l, s, ⟨d1, d2, d3⟩, r⟩ := id E
  have hP := wA.1.1
  have hi : 8 * w + p < 64 := by omega
  unfold fX3_leavesOut_J31 fX3_leavesOut_J32 fX5_go_J100
  rw [bnd_ap, if_pos rfl, y1, minOf (by omega) (by omega), minOf (by omega) (by omega), if_neg n10, if_pos rfl, cali_s, cali_s, ix8']
  rcases l (8 * w + p) hi with ⟨v0, v1, v2, v3, v4⟩ | ⟨d, t, d', t', hd, ht, hd', ht', ⟨v0, z0⟩, ⟨v1, z1⟩, ⟨v2, z2⟩, ⟨v3, z3⟩⟩
  · refine ⟨1, ?_, ?_, Or.inl rfl⟩
    · rw [v0, v2, if_neg nI_le9]; split <;> rfl
    · intro kb x3 x4
      rw [ald_n hi (by omega), v4, if_pos l100000.symm]; rfl
  · refine ⟨0, ?_, ?_, Or.inr ⟨rfl, by rw [z0]; exact n100000 hd⟩⟩
    · rw [v0, v2, if_pos (nI_ge0 (by omega)), if_pos (nI_ge0 (by omega))]; split <;> rfl
    · intro kb x3 x4
      rw [ald_n hi (by omega), z0, if_neg (n100000 hd)]
theorem LV {σ τ : ST} {A B : TW} {D R w p : Nat} (E : ENV σ τ A B D R) (y1 : gI σ 22 = nI w) (hw : w < A.1 0) (hp : p < A.1 0) : ∃ t0 : Int32, fX3_leavesOut (nI p) σ = some (t0, σ) ∧ (∀ (kb : Int32 → Int32 → ST → Option ST) (x3 x4 : Int32), (if (gI τ 9) ≤ 3 then fX5_go_J100 kb (nI w) x3 x4 (nI p) τ else cali (fX5_starts (nI p) τ) (fun r_42 σ_41 => (if r_42 < 10 then fX5_go_J117 kb (nI w) x3 x4 (nI p) σ_41 else fX5_go_J100 kb (nI w) x3 x4 (nI p) σ_41))) = fX5_go_J122 kb (nI w) x3 x4 (nI p) t0 τ) ∧ (t0 = 1 ∨ (t0 = 0 ∧ ¬ gA τ 8 (8 * w + p) = 100000)) := by
  obtain ⟨t0, j1, j2, j3⟩ := LV_j E y1 hw hp
  obtain ⟨⟨wA, wB, e2, e0, eE, eF⟩, hp0, xA, mB, l, s, ⟨d1, d2, d3⟩, r⟩ := id E
  have hP := wA.1.1
  obtain ⟨s0, u0, b1, b2, b3, b4, b5, b6⟩ := s p hp
  unfold fX3_leavesOut fX3_leavesOut_J16
  rw [d2, d3, mst wB mB (by omega), ald_n (by omega) (by omega), b3, b4, j1]
  by_cases z : D ≤ 3
  · refine ⟨t0, ?_, fun kb x3 x4 => ?_, j3⟩
    · rw [if_neg (by rw [l4, nI_eq_iff (by omega) (by omega)]; omega), if_neg (by rw [l5, nI_eq_iff (by omega) (by omega)]; omega)]
    · rw [if_pos (by rw [l3, nI_le_iff (by omega) (by omega)]; omega)]; exact j2 kb x3 x4
  · have z3 : ¬ nI D ≤ 3 := by rw [l3, nI_le_iff (by omega) (by omega)]; omega
    have z45 : ∀ (x y : Option (Int32 × ST)), (if nI D = 4 then x else if nI D = 5 then x else y) = x := by
      intro x y
      by_cases z4 : D = 4
      · rw [if_pos (by rw [l4, nI_eq_iff (by omega) (by omega)]; omega)]
      · rw [if_neg (by rw [l4, nI_eq_iff (by omega) (by omega)]; omega), if_pos (by rw [l5, nI_eq_iff (by omega) (by omega)]; omega)]
    rw [z45]
    by_cases g : 10 ≤ s0
    · refine ⟨t0, ?_, fun kb x3 x4 => ?_, j3⟩
      · rw [if_pos (by rw [l10, nI_le_iff (by omega) (by omega)]; omega)]
      · rw [if_neg z3, cali_s, if_neg (by rw [l10, nI_lt_iff (by omega) (by omega)]; omega)]; exact j2 kb x3 x4
    · refine ⟨1, ?_, fun kb x3 x4 => ?_, Or.inl rfl⟩
      · rw [if_neg (by rw [l10, nI_le_iff (by omega) (by omega)]; omega)]
        unfold fX3_leavesOut_J32
        rw [bnd_ap, if_neg n10]
      · rw [if_neg z3, cali_s, if_pos (by rw [l10, nI_lt_iff (by omega) (by omega)]; omega)]; rfl
/-- whether the engine runs on -/
theorem RO {σ τ : ST} {A B : TW} {D R p e : Nat} (E : ENV σ τ A B D R) (y1 : gI σ 22 = nI p) (hp : p < A.1 0) (he : e < A.1 2) : ∃ r : Int32, (r = 0 ∨ r = 1) ∧ fX3_runsOn (nI e) σ = some (r, σ) ∧ fX5_runsOn (nI p) (nI (A.2 8 e)) τ = some (r, τ) := by
  obtain ⟨⟨wA, wB, e2, e0, eE, eF⟩, hp0, xA, mB, l, s, ⟨d1, d2, d3⟩, r1, r2, r3⟩ := id E
  have hP := wA.1.1
  have hE := wA.1.2.2.1
  obtain ⟨s0, u0, b1, b2, b3, b4, b5, b6⟩ := s p hp
  obtain ⟨x7, x8, x9, x10⟩ := xA.2.2.2 e he
  obtain ⟨w1, w2, w3, w4, w5⟩ := wA.2.2.2.2 e he
  unfold fX3_runsOn fX5_runsOn
  rw [ald_n (by omega) (by omega), x8, r2, d2, d3, y1, mst wB mB (by omega), cali_s, r3, ald_n (by omega) (by omega), b3, b4]
  by_cases a : A.2 8 e ≤ R
  · have a1 : nI (A.2 8 e) ≤ nI R := by rw [nI_le_iff (by omega) (by omega)]; exact a
    have a2 : ¬ nI R < nI (A.2 8 e) := by rw [nI_lt_iff (by omega) (by omega)]; omega
    rw [if_pos a1, if_neg a2]
    by_cases z1 : nI D = 1
    · rw [if_pos z1, if_pos z1]; exact ⟨1, Or.inr rfl, rfl, rfl⟩
    · rw [if_neg z1, if_neg z1]
      by_cases z2 : nI D = 2
      · rw [if_pos z2, if_pos z2]
        by_cases g : (10 : Int32) ≤ nI s0
        · rw [if_pos g, if_pos g]; exact ⟨0, Or.inl rfl, rfl, rfl⟩
        · rw [if_neg g, if_neg g]; exact ⟨1, Or.inr rfl, rfl, rfl⟩
      · rw [if_neg z2, if_neg z2]; exact ⟨0, Or.inl rfl, rfl, rfl⟩
  · have a1 : ¬ nI (A.2 8 e) ≤ nI R := by rw [nI_le_iff (by omega) (by omega)]; exact a
    have a2 : nI R < nI (A.2 8 e) := by rw [nI_lt_iff (by omega) (by omega)]; omega
    rw [if_neg a1, if_pos a2]
    refine ⟨0, Or.inl rfl, rfl, ?_⟩
    by_cases z1 : nI D = 1
    · rw [if_pos z1]
    · rw [if_neg z1]
      by_cases z2 : nI D = 2
      · rw [if_pos z2]; split <;> rfl
      · rw [if_neg z2]
theorem wb64 {w b : Nat} (hw : w < 1000000) (hb : b < 1000000) : Int32.toInt64 (nI w - nI b) = lN w - lN b := by
  apply Int64.toInt_inj.mp
  rw [Int32.toInt_toInt64, Int32.toInt_sub, Int64.toInt_sub, nI_toInt (by omega), nI_toInt (by omega), pk_lT (by omega), pk_lT (by omega), Int.bmod_eq_of_le (by omega) (by omega), Int.bmod_eq_of_le (by omega) (by omega)]
theorem gain64 (l c : Int64) {w b : Nat} (hw : w < 1000000) (hb : b < 1000000) : l + c * Int32.toInt64 (nI w - nI b) = (l + c * Int32.toInt64 (nI w)) - c * Int32.toInt64 (nI b) := by
  rw [wb64 hw hb, nI_64 (by omega), nI_64 (by omega), Int64.mul_sub, Int64.sub_eq_add_neg, Int64.sub_eq_add_neg, Int64.add_assoc]
/-- one errand of the order -/
theorem VIS {σ τ : ST} {A B : TW} {D R : Nat} {q : Int32 × Int32} {w k m c e x : Nat} (E : ENV σ τ A B D R) (h : DY σ τ q w k m c) (hw : w < A.1 0) (he : e < A.1 2) (hk : k + 1 < 12) (hx : x < 10) (hx2 : gA τ 12 x = nI e) : ∃ (σ' τ' : ST) (w' k' m' c' : Nat), fX3_visit (nI e) σ = some σ' ∧ (∀ kb : Int32 → Int32 → ST → Option ST, (if (gI τ 9) ≤ 3 then fX5_go_J100 kb (nI w) (nI x) (nI (40 + 4 * e)) (nI (A.2 7 e)) τ else cali (fX5_starts (nI (A.2 7 e)) τ) (fun r_42 σ_41 => (if r_42 < 10 then fX5_go_J117 kb (nI w) (nI x) (nI (40 + 4 * e)) (nI (A.2 7 e)) σ_41 else fX5_go_J100 kb (nI w) (nI x) (nI (40 + 4 * e)) (nI (A.2 7 e)) σ_41))) = kb (nI w') (nI (x + 1)) τ') ∧ cF σ σ' ∧ mF τ τ' ∧ DY σ' τ' q w' k' m' c' ∧ k' ≤ k + 2 ∧ w' < A.1 0 ∧ ((w' = w ∨ ¬ gA τ 8 (8 * w + w') = 100000) ∧ ∀ j, 2 ≤ j → gL τ' j = gL τ j) := by
  obtain ⟨⟨wA, wB, e2, e0, eE, eF⟩, hp0, xA, mB, l, s, ⟨d1, d2, d3⟩, r1, r2, r3⟩ := id E
  have hP := wA.1.1
  have hE := wA.1.2.2.1
  obtain ⟨x7, x8, x9, x10⟩ := xA.2.2.2 e he
  obtain ⟨w1, w2, w3, w4, w5⟩ := wA.2.2.2.2 e he
  obtain ⟨m7, m8, m9, m10⟩ := mB.2.2.1 e (by omega)
  rw [e2] at m7 m8 m9 m10
  obtain ⟨y1, ⟨y2, y3, y4⟩, y5⟩ := id h
  obtain ⟨t0, v1, v2, v3⟩ := LV E y1 hw w1
  have hge : ¬ nI e < 0 := nI_nneg (by omega)
  have hlt : nI e < gI σ 5 := by rw [xA.1.2.2.1, nI_lt_iff (by omega) (by omega)]; exact he
  have iv : fX3_visit (nI e) σ = (if t0 = 0 then calv (fX3_driveTo (nI (A.2 7 e)) σ) (fun σ_5 => ald (gA σ_5 16) 5 (nI e) (fun v_6 => (if (gI σ_5 25) ≤ v_6 then bnd (sI σ_5 26 ((gI σ_5 26) ||| (1 <<< ((nI e) &&& 31)))) (fun σ_7 => ald (gA σ_7 15) 5 (nI e) (fun v_8 => bnd (sL σ_7 1 ((gL σ_7 1) + ((gL σ_7 0) * (Int32.toInt64 v_8)))) (fun σ_9 => ald (gA σ_9 14) 5 (nI e) (fun v_10 => bnd (sI σ_9 25 ((gI σ_9 25) + v_10)) (fun σ_11 => cali (fX3_runsOn (nI e) σ_11) (fun r_13 σ_12 => (if r_13 = 0 then calv (fX3_startHere σ_12) (fun σ_14 => some σ_14) else ald (gA σ_12 14) 5 (nI e) (fun v_15 => bnd (((gI σ_12 6) * v_15) : Int32) (fun x3_16 => bnd (sI σ_12 27 ((gI σ_12 27) + x3_16)) (fun σ_17 => bnd (sL σ_17 1 ((gL σ_17 1) - ((gL σ_17 0) * (Int32.toInt64 x3_16)))) (fun σ_18 => some σ_18))))))))))) else some σ_5))) else some σ) := by
    unfold fX3_visit
    rw [if_neg hge, if_pos hlt, ald_n (by omega) (by omega), bnd_ap, x7, v1, cali_s]
  rw [iv]
  clear iv
  rcases v3 with v3 | ⟨v3, v4⟩
  · refine ⟨σ, τ, w, k, m, c, by rw [v3, if_neg n10], fun kb => ?_, cF.rf _, mF.rf _, h, by omega, hw, Or.inl rfl, fun _ _ => rfl⟩
    rw [v2]
    unfold fX5_go_J122
    rw [bnd_ap, v3, if_neg n10, bnd_ap, l1, na_add]
  · obtain ⟨σ1, τ1, d, c1, hd, f1, f2, f3, f4, f5, f6, f7⟩ := DR_ev E h hw w1 (by omega) v4
    obtain ⟨τ2, t2⟩ : ∃ z, z = sI τ1 11 (nI (m + d)) := ⟨_, rfl⟩
    rw [← t2] at f7
    have f8 : mF τ τ2 := ⟨fun j hj => by rw [t2, gI_sI, if_neg (by omega)]; exact f4.1 j hj, fun j => by rw [t2]; exact f4.2 j⟩
    obtain ⟨g1, ⟨g2, g3, g4⟩, g5⟩ := id f7
    have E1 := ENV_f E f3 f8
    have A12 : gA τ2 12 x = nI e := by rw [f8.2]; exact hx2
    have M : ∀ kb : Int32 → Int32 → ST → Option ST, fX5_go_J122 kb (nI w) (nI x) (nI (40 + 4 * e)) (nI (A.2 7 e)) 0 τ = (if nI (A.2 10 e) < nI (m + d) then kb (nI (A.2 7 e)) (nI (x + 1)) τ2 else cali (fX5_runsOn (nI (A.2 7 e)) (nI (A.2 8 e)) τ2) (fun r_28 σ_27 => bnd (r_28 : Int32) (fun x8_29 => (if x8_29 = 0 then fX5_go_J203 kb (nI (A.2 7 e)) (nI x) (nI (40 + 4 * e)) (nI (A.2 7 e)) (nI (A.2 8 e)) x8_29 0 σ_27 else ald (gA σ_27 1) 200 3 (fun v_40 => fX5_go_J203 kb (nI (A.2 7 e)) (nI x) (nI (40 + 4 * e)) (nI (A.2 7 e)) (nI (A.2 8 e)) x8_29 (v_40 * (nI (A.2 8 e))) σ_27))))) := by
      intro kb
      unfold fX5_go_J122
      rw [bnd_ap, if_pos rfl, f2, cali_s, y3, na_add, bnd_ap, ← t2, bnd_ap, show nI (40 + 4 * e) + 3 = nI (40 + 4 * e + 3) from by rw [l3, na_add], show nI (40 + 4 * e) + 1 = nI (40 + 4 * e + 1) from by rw [l1, na_add], ald_n (by omega) (by omega), ald_n (by omega) (by omega), f8.2, m10, m8, g3, bnd_ap, bnd_ap, show nI x + 1 = nI (x + 1) from by rw [l1, na_add]]
    rw [v3] at v2
    rw [if_pos v3, f1, calv_s, ald_n (by omega) (by omega), f3.2 16 (by omega) (by omega), x10, g2]
    by_cases tl : m + d ≤ A.2 10 e
    · rw [if_pos (by rw [nI_le_iff (by omega) (by omega)]; exact tl)]
      have tl2 : ¬ nI (A.2 10 e) < nI (m + d) := by rw [nI_lt_iff (by omega) (by omega)]; omega
      obtain ⟨σ4, s4⟩ : ∃ z, z = sI (sL (sI σ1 26 ((gI σ1 26) ||| (1 <<< ((nI e) &&& 31)))) 1 ((gL σ1 1) + ((gL σ1 0) * (Int32.toInt64 (nI (A.2 9 e)))))) 25 (nI (m + d + A.2 8 e)) := ⟨_, rfl⟩
      have c4 : cF σ1 σ4 := by
        rw [s4]
        exact ⟨fun j hj => by rw [gI_sI, if_neg (by omega), gI_sL, gI_sI, if_neg (by omega)], fun j a1 a2 => rfl⟩
      have E4 := ENV_f E1 c4 (mF.rf τ2)
      have p4 : gI σ4 22 = nI (A.2 7 e) := by rw [s4]; exact g1
      obtain ⟨r, hr, ro1, ro2⟩ := RO E4 p4 w1 he
      have cl : ∀ K : ST → Option ST, bnd (sI σ1 26 ((gI σ1 26) ||| (1 <<< ((nI e) &&& 31)))) (fun σ_7 => ald (gA σ_7 15) 5 (nI e) (fun v_8 => bnd (sL σ_7 1 ((gL σ_7 1) + ((gL σ_7 0) * (Int32.toInt64 v_8)))) (fun σ_9 => ald (gA σ_9 14) 5 (nI e) (fun v_10 => bnd (sI σ_9 25 ((gI σ_9 25) + v_10)) K)))) = K σ4 := by
        intro K
        rw [bnd_ap, ald_n (by omega) (by omega), bnd_ap, ald_n (by omega) (by omega), bnd_ap]
        show K (sI (sL (sI σ1 26 ((gI σ1 26) ||| (1 <<< ((nI e) &&& 31)))) 1 ((gL σ1 1) + ((gL σ1 0) * (Int32.toInt64 (gA σ1 15 e))))) 25 (gI σ1 25 + gA σ1 14 e)) = K σ4
        rw [f3.2 15 (by omega) (by omega), f3.2 14 (by omega) (by omega), x9, x8, g2, na_add, ← s4]
      rw [cl, ro1, cali_s]
      have x8' : gA σ4 14 e = nI (A.2 8 e) := by rw [c4.2 14 (by omega) (by omega), f3.2 14 (by omega) (by omega)]; exact x8
      have x6' : gI σ4 6 = nI (A.1 3) := by rw [c4.1 6 (by omega), f3.1 6 (by omega)]; exact xA.1.2.2.2.1
      have hF := wA.1.2.2.2.1
      have m3 : gA τ2 1 3 = nI (A.1 3) := by rw [f8.2, mB.1.2.2.2.1, eF]
      have m9' : gA τ2 1 (40 + 4 * e + 2) = nI (A.2 9 e) := by rw [f8.2]; exact m9
      have J : ∀ (b : Int32) (kb : Int32 → Int32 → ST → Option ST), fX5_go_J203 kb (nI (A.2 7 e)) (nI x) (nI (40 + 4 * e)) (nI (A.2 7 e)) (nI (A.2 8 e)) r b τ2 = (if r = 0 then calv (fX5_start (nI (A.2 7 e)) (sI (sL (sI (sI τ2 12 (gI τ2 12 ||| (1 <<< ((nI e) &&& 31)))) 13 (gI τ2 13 + b)) 1 (gL τ2 1 + gL τ2 0 * Int32.toInt64 (nI (A.2 9 e) - b))) 11 (nI (m + d + A.2 8 e)))) (fun σ_38 => kb (nI (A.2 7 e)) (nI (x + 1)) σ_38) else kb (nI (A.2 7 e)) (nI (x + 1)) (sI (sL (sI (sI τ2 12 (gI τ2 12 ||| (1 <<< ((nI e) &&& 31)))) 13 (gI τ2 13 + b)) 1 (gL τ2 1 + gL τ2 0 * Int32.toInt64 (nI (A.2 9 e) - b))) 11 (nI (m + d + A.2 8 e)))) := by
        intro b kb
        unfold fX5_go_J203
        rw [bnd_ap, ald_n (by omega) (by omega), A12, bnd_ap, bnd_ap, show nI (40 + 4 * e) + 2 = nI (40 + 4 * e + 2) from by rw [l2, na_add], ald_n (by omega) (by omega), bnd_ap, bnd_ap, show nI x + 1 = nI (x + 1) from by rw [l1, na_add]]
        show (if r = 0 then calv (fX5_start (nI (A.2 7 e)) (sI (sL (sI (sI τ2 12 (gI τ2 12 ||| (1 <<< ((nI e) &&& 31)))) 13 (gI τ2 13 + b)) 1 (gL τ2 1 + gL τ2 0 * Int32.toInt64 (gA τ2 1 (40 + 4 * e + 2) - b))) 11 (gI τ2 11 + nI (A.2 8 e)))) (fun σ_38 => kb (nI (A.2 7 e)) (nI (x + 1)) σ_38) else kb (nI (A.2 7 e)) (nI (x + 1)) (sI (sL (sI (sI τ2 12 (gI τ2 12 ||| (1 <<< ((nI e) &&& 31)))) 13 (gI τ2 13 + b)) 1 (gL τ2 1 + gL τ2 0 * Int32.toInt64 (gA τ2 1 (40 + 4 * e + 2) - b))) 11 (gI τ2 11 + nI (A.2 8 e)))) = _
        rw [m9', g3, na_add]
      rcases hr with hr | hr
      · obtain ⟨τ5, t5⟩ : ∃ z, z = sI (sL (sI (sI τ2 12 (gI τ2 12 ||| (1 <<< ((nI e) &&& 31)))) 13 (gI τ2 13 + 0)) 1 (gL τ2 1 + gL τ2 0 * Int32.toInt64 (nI (A.2 9 e) - 0))) 11 (nI (m + d + A.2 8 e)) := ⟨_, rfl⟩
        have c5 : mF τ2 τ5 := by
          rw [t5]
          exact ⟨fun j hj => by rw [gI_sI, if_neg (by omega), gI_sL, gI_sI, if_neg (by omega), gI_sI, if_neg (by omega)], fun j => rfl⟩
        have E5 := ENV_f E4 (cF.rf σ4) c5
        have D5 : DY σ4 τ5 q (A.2 7 e) (k + 1) (m + d + A.2 8 e) c1 := by
          refine ⟨p4, ⟨by rw [s4]; rfl, by rw [t5]; rfl, by omega⟩, DC_up g5 ?_ ?_ (by rw [s4]; rfl) (by rw [t5]; rfl) ?_ (by rw [s4]; rfl) (by rw [t5]; rfl) (by rw [t5]; rfl) (by rw [t5]; rfl) (by rw [s4]; rfl) (by rw [s4]; rfl)⟩
          · rw [s4, t5]
            show gI σ1 26 ||| (1 <<< ((nI e) &&& 31)) = gI τ2 12 ||| (1 <<< ((nI e) &&& 31))
            rw [g5.1]
          · rw [s4, t5]
            show gI σ1 27 = gI τ2 13 + 0
            rw [g5.2.1, Int32.add_zero]
          · rw [s4, t5]
            show (gL σ1 1) + ((gL σ1 0) * (Int32.toInt64 (nI (A.2 9 e)))) = gL τ2 1 + gL τ2 0 * Int32.toInt64 (nI (A.2 9 e) - 0)
            rw [g5.2.2.2.1, g5.2.2.1.1, g5.2.2.1.2.1, Int32.sub_zero]
        obtain ⟨σ6, τ6, c6, h1, h2, h3, h4, h5, h6, h7⟩ := ST_ev E5 D5 w1 (by omega)
        refine ⟨σ6, τ6, A.2 7 e, k + 2, _, c6, ?_, fun kb => ?_, (f3.tr c4).tr h3, (f8.tr c5).tr h4, h7, by omega, w1, Or.inr v4, fun j hj => (h6.2 j hj).trans (by rw [t5, gL_sI, gL_sL, if_neg (by omega), gL_sI, gL_sI, t2, gL_sI]; exact f6.2 j hj)⟩
        · rw [if_pos hr, h1, calv_s]
        · rw [v2, M, if_neg tl2, ro2, cali_s, bnd_ap, if_pos hr, J, if_pos hr, ← t5, h2, calv_s]
      · obtain ⟨τ5, t5⟩ : ∃ z, z = sI (sL (sI (sI τ2 12 (gI τ2 12 ||| (1 <<< ((nI e) &&& 31)))) 13 (gI τ2 13 + nI (A.1 3 * A.2 8 e))) 1 (gL τ2 1 + gL τ2 0 * Int32.toInt64 (nI (A.2 9 e) - nI (A.1 3 * A.2 8 e)))) 11 (nI (m + d + A.2 8 e)) := ⟨_, rfl⟩
        have c5 : mF τ2 τ5 := by
          rw [t5]
          exact ⟨fun j hj => by rw [gI_sI, if_neg (by omega), gI_sL, gI_sI, if_neg (by omega), gI_sI, if_neg (by omega)], fun j => rfl⟩
        have hr0 : ¬ r = 0 := by rw [hr]; exact n10
        have bd : A.1 3 * A.2 8 e ≤ 9 * 60 := Nat.mul_le_mul hF w3
        obtain ⟨σ5, s5⟩ : ∃ z, z = sL (sI σ4 27 (gI σ4 27 + nI (A.1 3 * A.2 8 e))) 1 (gL σ4 1 - gL σ4 0 * Int32.toInt64 (nI (A.1 3 * A.2 8 e))) := ⟨_, rfl⟩
        have c45 : cF σ4 σ5 := by
          rw [s5]
          exact ⟨fun j hj => by rw [gI_sL, gI_sI, if_neg (by omega)], fun j a1 a2 => rfl⟩
        have D5 : DY σ5 τ5 q (A.2 7 e) (k + 1) (m + d + A.2 8 e) c1 := by
          refine ⟨by rw [s5]; exact p4, ⟨by rw [s5, s4]; rfl, by rw [t5]; rfl, by omega⟩, DC_up g5 ?_ ?_ (by rw [s5, s4]; rfl) (by rw [t5]; rfl) ?_ (by rw [s5, s4]; rfl) (by rw [t5]; rfl) (by rw [t5]; rfl) (by rw [t5]; rfl) (by rw [s5, s4]; rfl) (by rw [s5, s4]; rfl)⟩
          · rw [s5, s4, t5]
            show gI σ1 26 ||| (1 <<< ((nI e) &&& 31)) = gI τ2 12 ||| (1 <<< ((nI e) &&& 31))
            rw [g5.1]
          · rw [s5, s4, t5]
            show gI σ1 27 + nI (A.1 3 * A.2 8 e) = gI τ2 13 + nI (A.1 3 * A.2 8 e)
            rw [g5.2.1]
          · rw [s5, s4, t5]
            show ((gL σ1 1) + ((gL σ1 0) * (Int32.toInt64 (nI (A.2 9 e))))) - gL σ1 0 * Int32.toInt64 (nI (A.1 3 * A.2 8 e)) = gL τ2 1 + gL τ2 0 * Int32.toInt64 (nI (A.2 9 e) - nI (A.1 3 * A.2 8 e))
            rw [g5.2.2.2.1, g5.2.2.1.1, g5.2.2.1.2.1, gain64 _ _ (by omega) (by omega)]
        refine ⟨σ5, τ5, A.2 7 e, k + 1, _, c1, ?_, fun kb => ?_, (f3.tr c4).tr c45, f8.tr c5, D5, by omega, w1, Or.inr v4, fun j hj => (by rw [t5, gL_sI, gL_sL, if_neg (by omega), gL_sI, gL_sI, t2, gL_sI]; exact f6.2 j hj)⟩
        · rw [if_neg hr0, ald_n (by omega) (by omega), x8', x6', pk_mul, bnd_ap, bnd_ap, bnd_ap, s5]; rfl
        · rw [v2, M, if_neg tl2, ro2, cali_s, bnd_ap, if_neg hr0, show (3 : Int32) = nI 3 from rfl, ald_n (by omega) (by omega), m3, pk_mul, J, if_neg hr0, ← t5]
    · refine ⟨σ1, τ2, A.2 7 e, k + 1, m + d, c1, ?_, fun kb => ?_, f3, f8, f7, by omega, w1, Or.inr v4, fun j hj => (by rw [t2, gL_sI]; exact f6.2 j hj)⟩
      · rw [if_neg (by rw [nI_le_iff (by omega) (by omega)]; exact tl)]
      · rw [v2, M, if_pos (by rw [nI_lt_iff (by omega) (by omega)]; omega)]
