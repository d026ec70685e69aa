/-! ===== town ===== -/
theorem GPr_le {c : Nat → Nat} {n : Nat} : ∀ k p, GPr c n k p → p + k ≤ n := by
  intro k
  induction k with
  | zero => intro p g; exact Nat.le_of_eq g
  | succ k ih =>
    intro p g
    obtain ⟨g1, g2, g3, g4⟩ := g
    have := ih _ g4
    omega
theorem sim_town : SIMi Rl fX4_town fX5_town := by
  intro σ τ h
  obtain ⟨g1, ⟨L, hL, r1, r2, r3⟩, ⟨n, hn, t1, t2, t3⟩, ⟨A, wA, xA, mA, lA⟩, ⟨i1, i2⟩, ⟨⟨m5, m6, m7, m14⟩, mb, mk⟩⟩ := id h
  obtain ⟨c, hc⟩ : ∃ c : Nat → Nat, c = fun k => (gA σ 5 k).toNatClampNeg := ⟨_, rfl⟩
  have cv : ∀ k, k < n → gA σ 5 k = nI (c k) ∧ gA τ 3 k = nI (c k) ∧ c k < 256 := by
    intro k hk
    obtain ⟨v, hv, e1, e2⟩ := t3 k hk
    have e : c k = v := by
      rw [hc]
      show (gA σ 5 k).toNatClampNeg = v
      rw [e1, nI_cl (by omega)]
    rw [e]
    exact ⟨e1, e2, by omega⟩
  have LX : LTX σ n c := ⟨t1, hn, fun k hk => ⟨(cv k hk).1, (cv k hk).2.2⟩⟩
  have LM : LTM τ n c := ⟨t2, hn, fun k hk => (cv k hk).2⟩
  have fin : ∀ (σ' τ' : ST) (A' : TW), (∀ k, k = 0 ∨ k = 1 ∨ (9 ≤ k ∧ k < 15) → gI σ' k = gI σ k) → (∀ k, (17 ≤ k ∧ k < 28) ∨ k = 43 ∨ k = 46 → gA σ' k = gA σ k) → (∀ k, k = 0 ∨ k = 5 ∨ k = 6 ∨ k = 7 ∨ k = 14 ∨ k = 17 → gI τ' k = gI τ k) → (∀ k, k = 0 ∨ k = 2 ∨ k = 4 ∨ k = 5 ∨ k = 13 → gA τ' k = gA τ k) → WFT A' → XT σ' 3 6 A' → MT (gA τ' 1) A' → (A'.1 0 = 0 ∨ LegX σ' A') → Rl (sI σ' 2 0) (sI τ' 1 0) := by
    intro σ' τ' A' x1 x2 y1 y2 wA' xA' mA' lA'
    refine ⟨?_, ⟨L, hL, ?_, ?_, ?_⟩, ⟨0, by omega, rfl, rfl, fun k hk => absurd hk (by omega)⟩, ⟨A', wA', XT_c xA' (fun k hk => by rw [gI_sI, if_neg (by omega)]) (fun k _ => rfl), mA', lA'⟩, ⟨?_, ?_⟩, ⟨⟨?_, ?_, ?_, ?_⟩, ?_, ?_⟩⟩
    · intro k hk
      rw [gA_sI, gA_sI, x2 46 (by omega), y2 0 (by omega)]
      exact g1 k hk
    · rw [gI_sI, if_neg (by omega), x1 0 (by omega)]; exact r1
    · rw [gI_sI, if_neg (by omega), y1 17 (by omega)]; exact r2
    · rw [gA_sI, gA_sI, x2 43 (by omega), y2 13 (by omega)]; exact r3
    · rw [gI_sI, if_neg (by omega), gI_sI, if_neg (by omega), x1 1 (by omega), y1 0 (by omega)]; exact i1
    · rw [gI_sI, if_neg (by omega), x1 1 (by omega), gA_sI, y2 2 (by omega)]
      rcases i2 with i2 | ⟨i2, B, wB, xB, mB⟩
      · exact Or.inl i2
      · exact Or.inr ⟨i2, B, wB, XT_c xB (fun k hk => by rw [gI_sI, if_neg (by omega)]; exact x1 _ (by omega)) (fun k hk => by rw [gA_sI]; exact x2 _ (by omega)), mB⟩
    · rw [gI_sI, if_neg (by omega), y1 5 (by omega)]; exact m5
    · rw [gI_sI, if_neg (by omega), y1 6 (by omega)]; exact m6
    · rw [gI_sI, if_neg (by omega), y1 7 (by omega)]; exact m7
    · rw [gI_sI, if_neg (by omega), y1 14 (by omega)]; exact m14
    · rw [gA_sI, y2 4 (by omega)]; exact mb
    · rw [gA_sI, y2 5 (by omega)]; exact mk
  obtain ⟨τ0, s0⟩ : ∃ z, z = sI (sI τ 2 0) 3 1 := ⟨_, rfl⟩
  have q0 : (∀ k, k ≠ 2 → k ≠ 3 → gI τ0 k = gI τ k) ∧ (∀ k, gA τ0 k = gA τ k) := by
    rw [s0]
    exact ⟨fun k a b => by rw [gI_sI, if_neg b, gI_sI, if_neg a], fun _ => rfl⟩
  have R0 : RS τ0 none 0 := by rw [s0]; exact ⟨rfl, rfl⟩
  obtain ⟨τ1, p1, cs⟩ := PS1 LX fX5_read_J37 n 0 5 FU FU 0 τ0 (by omega) (by omega) (by omega) (by omega) (by rw [FU_eq]; omega) (by rw [FU_eq]; omega) (LTM_c LM (q0.1 1 (by omega) (by omega)) (q0.2 3)) (by
    unfold BGK
    rw [q0.2 4, q0.2 5]
    exact ⟨mb, mk⟩) R0
  have FM : fX1_firstMisfit σ = fX1_firstMisfit_L7 keF FU 5 (nI (leN 5)) (nI 0) σ := by
    unfold fX1_firstMisfit
    rw [bnd_ap, bnd_ap]
    rfl
  have RD : fX5_read τ = fX5_read_L12 fX5_read_J37 FU (nI 0) τ0 := by
    unfold fX5_read
    rw [bnd_ap, bnd_ap, bnd_ap, ← s0]
    rfl
  have f1 : (∀ k, k ≠ 2 → k ≠ 3 → k ≠ 4 → gI τ1 k = gI τ k) ∧ (∀ k, k ≠ 6 → gA τ1 k = gA τ k) := ⟨fun k a b d => (p1.1 k a b d).trans (q0.1 k a b), fun k a => (p1.2 k a).trans (q0.2 k)⟩
  unfold fX4_town fX5_town fX4_tellTown
  rw [FM, RD]
  rcases cs with ⟨b, x, hb, c1, c2, c3, c4⟩ | ⟨k, k1, k2, c1, c2, c3⟩
  · rw [c1, c2, cali_s, bnd_ap, if_neg (nI_nneg (by omega)), cali_s, bnd_ap, bnd_ap]
    unfold fX5_read_J37
    rw [if_pos c4, c3, cali_s, bnd_ap, bnd_ap]
    exact ⟨_, _, _, rfl, rfl, fin σ τ1 A (fun _ _ => rfl) (fun _ _ => rfl) (fun k hk => f1.1 k (by omega) (by omega) (by omega)) (fun k hk => f1.2 k (by omega)) wA xA (by rw [f1.2 1 (by omega)]; exact mA) lA⟩
  · have kn := GPr_le _ _ k2
    obtain ⟨σ1, b1, b2, b3, b4, b5⟩ := bl_6_4 wA xA
    obtain ⟨τ2, d1, d2, d3, d4⟩ := mv_2_8 (sI τ1 2 0)
    have f2 : (∀ k, k ≠ 2 → k ≠ 3 → k ≠ 4 → gI τ2 k = gI τ k) ∧ (∀ k, k ≠ 6 → k ≠ 7 → gA τ2 k = gA τ k) := ⟨fun k a b d => by rw [d2, gI_sI, if_neg a]; exact f1.1 k a b d, fun k a b => by rw [d3 k b, gA_sI]; exact f1.2 k a⟩
    have LX1 : LTX σ1 n c := by
      unfold LTX at LX ⊢
      rw [b3 2 (by omega), b5 5 (by omega)]
      exact LX
    obtain ⟨σ2, τ3, v1, v2, v3⟩ := PS2 (n := n) (c := c) (fun σ_8 => some ((-1), σ_8)) (fun x1_16 σ_17 => some (x1_16, σ_17)) (nI (0 + k)) k 0 (FU - n - 1) FU σ1 τ2 A k2 (by omega) (Or.inl rfl) (by rw [FU_eq]; omega) LX1 (LTM_c LM (f2.1 1 (by omega) (by omega) (by omega)) (f2.2 3 (by omega) (by omega))) (by
      unfold BGK
      rw [f2.2 4 (by omega) (by omega), f2.2 5 (by omega) (by omega)]
      exact ⟨mb, mk⟩) ⟨by rw [d2, gI_sI, if_pos rfl]; rfl, by rw [d2, gI_sI, if_neg (by omega)]; exact c3⟩ wA b2 (by rw [f2.2 1 (by omega) (by omega)]; exact mA)
    have fe : FU - n - 1 + (n - 0) + 1 = FU := by rw [FU_eq]; omega
    rw [fe] at v3
    have J : fX5_read_J37 (nI (0 + k)) τ1 = fX5_read_L69 (fun x1_16 σ_17 => some (x1_16, σ_17)) FU (nI (0 + k)) τ2 := by
      unfold fX5_read_J37
      rw [if_neg (by rw [c3]; exact n10), bnd_ap, d1, calv_s]
    have W : fX1_firstWrongStatement_6 σ1 = fX1_firstWrongStatement_6_L2 (fun σ_8 => some ((-1), σ_8)) FU (nI 0) σ1 := by
      unfold fX1_firstWrongStatement_6
      rw [bnd_ap]
      rfl
    rw [c1, c2, cali_s, bnd_ap, if_pos (show (-1 : Int32) < 0 by decide), b1, calv_s, W, J]
    have f3 : (∀ k, k ≠ 2 → k ≠ 3 → k ≠ 4 → gI τ3 k = gI τ k) ∧ (∀ k, k ≠ 1 → k ≠ 6 → k ≠ 7 → gA τ3 k = gA τ k) := ⟨fun k a b d => (v2.1 k a b d).trans (f2.1 k a b d), fun k a b d => (v2.2 k a b).trans (f2.2 k b d)⟩
    have e3 : (∀ k, k < 15 → gI σ2 k = gI σ k) ∧ (∀ k, k < 28 ∨ 39 ≤ k → gA σ2 k = gA σ k) := ⟨fun k hk => (v1.1 k (by omega)).trans (b3 k (by omega)), fun k hk => (v1.2 k hk).trans (b5 k (by omega))⟩
    rcases v3 with ⟨q, hq, w1, w2⟩ | ⟨w1, w2, A', wA', xA', mA'⟩
    · obtain ⟨τ4, z1, z2, z3, z4⟩ := mv_8_2 τ3
      rw [w1, w2, cali_s, bnd_ap, if_neg (nI_nneg (by omega)), cali_s, bnd_ap, bnd_ap, z1, calv_s, cali_s, bnd_ap, bnd_ap]
      refine ⟨_, _, _, rfl, rfl, fin σ2 τ4 A (fun k hk => e3.1 k (by omega)) (fun k hk => e3.2 k (by omega)) (fun k hk => (z2 k).trans (f3.1 k (by omega) (by omega) (by omega))) (fun k hk => (z3 k (by omega)).trans (f3.2 k (by omega) (by omega) (by omega))) wA (XT_c xA (fun k hk => e3.1 _ (by omega)) (fun k hk => e3.2 _ (by omega))) (MT_e wA (fun i hi => ?_) mA) ?_⟩
      · rw [z4 i hi, v2.2 7 (by omega) (by omega), d4 i hi, gA_sI, f1.2 1 (by omega)]
      · rcases lA with l | l
        · exact Or.inl l
        · exact Or.inr (LegX_c l (fun k hk => e3.2 k (by omega)))
    · obtain ⟨σ3, y1, y2, y3, y4, y5⟩ := bl_4_6 wA' xA'
      obtain ⟨σ4, z1, z2, z3⟩ := measX wA' y2
      have LX4 : LTX σ4 n c := by
        unfold LTX at LX ⊢
        rw [z2.1 2, z2.2.2 5 (by omega), y3 2 (by omega), y5 5 (by omega), e3.1 2 (by omega), e3.2 5 (by omega)]
        exact LX
      have ct : fX1_statements σ4 = some (nI (0 + k), σ4) := by
        unfold fX1_statements
        rw [bnd_ap, bnd_ap]
        have := CNT LX4 (fun x1_7 σ_8 => some (x1_7, σ_8)) k 0 0 (FU - n - 1) (by omega) k2
        rw [fe] at this
        exact this
      rw [w1, w2, cali_s, bnd_ap, if_pos (show (-1 : Int32) < 0 by decide), y1, calv_s, z1, calv_s, ct, cali_s, cali_s, cali_s, bnd_ap, bnd_ap, bnd_ap, bnd_ap]
      exact ⟨_, _, _, rfl, rfl, fin σ4 τ3 A' (fun k hk => ((z2.1 k).trans (y3 k (by omega))).trans (e3.1 k (by omega))) (fun k hk => ((z2.2.2 k (by omega)).trans (y5 k (by omega))).trans (e3.2 k (by omega))) (fun k hk => f3.1 k (by omega) (by omega) (by omega)) (fun k hk => f3.2 k (by omega) (by omega) (by omega)) wA' (z2.XT (by omega) y2) mA' (Or.inr z3)⟩
