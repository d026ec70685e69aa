/-! ===== a sure start ===== -/
theorem SSL {σ0 : ST} {A : TW} (wA : WFT A) (xA : XT σ0 3 6 A) {m : Nat} (hm : m < A.1 0) : ∃ σ', (qX σ0 σ' ∧ ∀ i, (i < m + 1 → gA σ' 39 i = 10 ∧ gA σ' 40 i = 10) ∧ (¬ i < m + 1 → gA σ' 39 i = gA σ0 39 i ∧ gA σ' 40 i = gA σ0 40 i)) ∧ ∀ c : (Int64 → ST → Option (Int64 × ST)) × Int64, fX4_gainIfSureUpTo_L15 c.1 FU (nI m) c.2 (nI 0) σ0 = c.1 c.2 σ' := by
  have hP := wA.1.1
  exact loopK (fun (c : (Int64 → ST → Option (Int64 × ST)) × Int64) k i τ => fX4_gainIfSureUpTo_L15 c.1 k (nI m) c.2 (nI i) τ) (fun c τ => c.1 c.2 τ) (m + 1) (fun n τ => qX σ0 τ ∧ ∀ i, (i < n → gA τ 39 i = 10 ∧ gA τ 40 i = 10) ∧ (¬ i < n → gA τ 39 i = gA σ0 39 i ∧ gA τ 40 i = gA σ0 40 i)) (by
    intro i τ hi hI
    obtain ⟨c1, c2⟩ := hI
    have xT := XT_q c1 xA
    refine ⟨sA (sA τ 39 (upd (gA τ 39) i 10)) 40 (upd (gA τ 40) i 10), ⟨c1.tr (qX.up _ _), ?_⟩, ?_⟩
    · intro j
      show (_ → upd (gA τ 39) i _ j = _ ∧ upd (gA τ 40) i _ j = _) ∧ (_ → upd (gA τ 39) i _ j = _ ∧ upd (gA τ 40) i _ j = _)
      rw [upd_ap, upd_ap]
      by_cases z : j = i
      · rw [if_pos z, if_pos z]; exact ⟨fun _ => ⟨rfl, rfl⟩, fun q => absurd q (by omega)⟩
      · rw [if_neg z, if_neg z]; exact ⟨fun q => (c2 j).1 (by omega), fun q => (c2 j).2 (by omega)⟩
    · intro c k
      show fX4_gainIfSureUpTo_L15 c.1 (k + 1) (nI m) c.2 (nI i) τ = _
      rw [fX4_gainIfSureUpTo_L15, if_neg (by rw [nI_lt_iff (by omega) (by omega)]; omega), if_neg (by rw [xT.1.1, nI_le_iff (by omega) (by omega)]; omega), fX3_supposeSureStart, ast_n (by omega) (by omega), ast_n (by omega) (by omega), calv_s, bnd_ap, show nI i + 1 = nI (i + 1) from by rw [l1, na_add]]
      rfl) (by
    intro c k τ hI
    show fX4_gainIfSureUpTo_L15 c.1 (k + 1) (nI m) c.2 (nI (m + 1)) τ = _
    rw [fX4_gainIfSureUpTo_L15, if_pos (by rw [nI_lt_iff (by omega) (by omega)]; omega)]) (m + 1) 0 FU σ0 (by omega) (by rw [FU_eq]; omega) ⟨qX.rf σ0, fun i => ⟨fun q => absurd q (by omega), fun _ => ⟨rfl, rfl⟩⟩⟩
theorem pd10 : ∀ u, u < 5 → jmin 10 (10 + 2 * nI u) = nI 10 := by decide +kernel
/-- the reference's flag fl (5: all start, 6: home starts), the class's places up to m -/
theorem GSU {σ τ : ST} {A : TW} {m fl : Nat} (wA : WFT A) (hP : 0 < A.1 0) (xA : XT σ 3 6 A) (mA : MT (gA τ 1) A) (l : LegX σ A) (hr : RowR σ τ) (m5 : gI τ 5 = 0) (m6 : gI τ 6 = 0) (m7 : gI τ 7 = -9) (hm : m < A.1 0) (hf : (fl = 5 ∧ m + 1 = A.1 0) ∨ (fl = 6 ∧ m = 0)) : ∃ (σ' τ1 τ2 : ST) (a b : Int64), fX4_gainIfSureUpTo (nI m) σ = some (b - a, σ') ∧ fX5_worthOfRow (nI (A.1 5)) τ = some (a, τ1) ∧ gA τ1 1 = gA τ 1 ∧ fX5_worthOfRow (nI (A.1 5)) (sI τ1 fl 1) = some (b, τ2) ∧ xS σ σ' ∧ mS τ (sI τ2 fl 0) := by
  have hP8 := wA.1.1
  obtain ⟨σ2, s1, s2, s3, s4, s5⟩ := SUP wA xA
  have xA2 : XT σ2 3 6 A := XT_sF s2 xA
  have l2 : LegX σ2 A := LegX_c l (fun k hk => s2.2 k (by omega) (by omega))
  have hr2 : RowR σ2 τ := RowR_c hr (s2.1 0 (by omega) (by omega)) (s2.2 43 (by omega) (by omega)) rfl rfl
  obtain ⟨σa, τa, n, hn, o1, _, o3, _, _⟩ := ORD wA xA2 mA hr2 (-9)
  have P0 : PRE σa τ A A (A.1 5) := PRE_0 wA hP (XT_c xA2 (fun k hk => o3.1 _) (fun k hk => o3.2 _ (by omega))) mA (LegX_c l2 (fun k hk => o3.2 k (by omega))) (by
    intro i hi
    rw [o3.2 39 (by omega), o3.2 40 (by omega)]; exact s5 i hi) wA.1.2.2.2.2.2 ((o3.1 23).trans s3) ((o3.1 24).trans s4) m5 m6 m7
  obtain ⟨σ3, τ1, v1, v2, v3, v4⟩ := WROW P0 hr2 xA2 o1 rfl
  have f3 : qX σ2 σ3 ∨ True := Or.inr trivial
  have xA3 : XT σ3 3 6 A := XT_c xA2 (fun k hk => (v3.1 _ (by omega)).trans (o3.1 _)) (fun k hk => (v3.2 _ (by omega) (by omega)).trans (o3.2 _ (by omega)))
  obtain ⟨σ4, ⟨c1, c2⟩, c3⟩ := SSL wA xA3 hm
  have xA4 := XT_q c1 xA3
  have i4 : ∀ k, k < 21 ∨ k = 23 ∨ k = 24 → gI σ4 k = gI σ2 k := fun k hk => (c1.1 k hk).trans ((v3.1 k (by omega)).trans (o3.1 k))
  have a4 : ∀ k, k ≠ 39 → k ≠ 40 → k ≠ 41 → k ≠ 42 → k ≠ 44 → gA σ4 k = gA σ2 k := fun k h1 h2 h3 h4 h5 => (c1.2 k h1 h2 h3 h4).trans ((v3.2 k h3 h4).trans (o3.2 k h5))
  have mT : MT (gA (sI τ1 fl 1) 1) A := by rw [gA_sI, v4.2 1 (by omega)]; exact mA
  have hr4 : RowR σ4 (sI τ1 fl 1) := RowR_c hr2 (i4 0 (by omega)) (a4 43 (by omega) (by omega) (by omega) (by omega) (by omega)) (by rw [gI_sI, if_neg (by omega)]; exact v4.1 17 (by omega)) (v4.2 13 (by omega))
  obtain ⟨σb, τb, n2, hn2, p1, _, p3, _, _⟩ := ORD wA xA4 mT hr4 (-9)
  have q7 : gI (sI τ1 fl 1) 7 = -9 := by rw [gI_sI, if_neg (by omega), v4.1 7 (by omega)]; exact m7
  have P1 : PRE σb (sI τ1 fl 1) A A (A.1 5) := by
    refine ⟨⟨wA, wA, rfl, rfl, rfl, rfl⟩, hP, XT_c xA4 (fun k hk => p3.1 _) (fun k hk => p3.2 _ (by omega)), mT, LegX_c l2 (fun k hk => (p3.2 k (by omega)).trans (a4 k (by omega) (by omega) (by omega) (by omega) (by omega))), ?_, ⟨wA.1.2.2.2.2.2, ((p3.1 23).trans (i4 23 (by omega))).trans s3⟩, ((p3.1 24).trans (i4 24 (by omega))).trans s4⟩
    intro p hp
    obtain ⟨w1, w2, w3⟩ := wA.2.1 p hp
    rw [p3.2 39 (by omega), p3.2 40 (by omega)]
    have pu := puN_0 (A := A) q7 (show p < 8 by omega)
    by_cases y : p < m + 1
    · have st : stN (sI τ1 fl 1) A p = 10 := by
        unfold stN
        rcases hf with ⟨rfl, hf⟩ | ⟨rfl, hf⟩
        · rw [gI_sI, if_pos rfl, if_neg n10]
        · have q5 : gI (sI τ1 6 1) 5 = 0 := by rw [gI_sI, if_neg (by omega), v4.1 5 (by omega)]; exact m5
          rw [if_pos q5, if_neg (show ¬ gI (sI τ1 6 1) 6 = 0 from n10), if_pos (by rw [show p = 0 by omega]; rfl)]
      refine ⟨10, 10, by omega, by omega, ((c2 p).1 y).1, st, ((c2 p).1 y).2, ?_⟩
      unfold pdN
      rw [st, pu]; exact pd10 _ (by omega)
    · obtain ⟨a, ha, ea⟩ := stI_le (A.2 0 p) (by omega) (A.2 1 p) (by omega) (A.2 2 p) (by omega)
      obtain ⟨b, hb, eb⟩ := puI_le (A.2 0 p) (by omega) (A.2 1 p) (by omega) (A.2 2 p) (by omega)
      have st : stN (sI τ1 fl 1) A p = stI (nI (A.2 0 p)) (nI (A.2 1 p)) (nI (A.2 2 p)) := by
        unfold stN
        rcases hf with ⟨rfl, hf⟩ | ⟨rfl, hf⟩
        · omega
        · have q5 : gI (sI τ1 6 1) 5 = 0 := by rw [gI_sI, if_neg (by omega), v4.1 5 (by omega)]; exact m5
          rw [if_pos q5, if_neg (show ¬ gI (sI τ1 6 1) 6 = 0 from n10), if_neg (by rw [l0, nI_eq_iff (by omega) (by omega)]; omega), pu]
      have pd : pdN (sI τ1 fl 1) A p = puI (nI (A.2 0 p)) (nI (A.2 1 p)) (nI (A.2 2 p)) := by unfold pdN puI; rw [st, pu]
      refine ⟨a, b, by omega, by omega, ?_, by rw [st, ea], ?_, by rw [pd, eb]⟩
      · rw [((c2 p).2 y).1, v3.2 39 (by omega) (by omega), o3.2 39 (by omega), (s5 p hp).1, ea]
      · rw [((c2 p).2 y).2, v3.2 40 (by omega) (by omega), o3.2 40 (by omega), (s5 p hp).2, eb]
  obtain ⟨σ5, τ2, x1, x2, x3, x4⟩ := WROW P1 hr4 xA4 p1 rfl
  refine ⟨σ5, τ1, τ2, gL σ3 1, gL σ5 1, ?_, v2, v4.2 1 (by omega), x2, ?_, ?_⟩
  · unfold fX4_gainIfSureUpTo fX4_goByRow
    rw [s1, calv_s, o1, cali_s, v1, calv_s, calv_s, bnd_ap, bnd_ap]
    refine (c3 ((fun x2_6 σ_7 => fX4_gainIfSureUpTo_J48 x2_6 σ_7), gL σ3 1)).trans ?_
    show fX4_gainIfSureUpTo_J48 (gL σ3 1) σ4 = _
    unfold fX4_gainIfSureUpTo_J48
    rw [p1, cali_s, x1, calv_s]
  · exact s2.xS.tr ⟨fun k hk => ((x3.1 k (by omega)).trans (p3.1 k)).trans (i4 k (by omega)), fun k hk => ((x3.2 k (by omega) (by omega)).trans (p3.2 k (by omega))).trans (a4 k (by omega) (by omega) (by omega) (by omega) (by omega))⟩
  · refine ⟨fun k hk => ?_, fun k hk => ((x4.2 k (by omega)).trans rfl).trans (v4.2 k (by omega))⟩
    rw [gI_sI]
    by_cases y : k = fl
    · rw [if_pos y, y]
      rcases hf with ⟨rfl, hf⟩ | ⟨rfl, hf⟩
      · exact m5.symm
      · exact m6.symm
    · rw [if_neg y, x4.1 k (by omega), gI_sI, if_neg y, v4.1 k (by omega)]
