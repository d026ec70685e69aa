/-! ===== lots ===== -/
theorem drw_0 (t s : Nat → Int32) (q : Int32 × Int32) (i : Nat) (h : (drw t s i q).1 = 0) : ∀ j, drw t s (i + j) q = drw t s i q := by
  intro j
  induction j with
  | zero => rfl
  | succ j ih =>
    show drw1 (t (i + j)) (decide (s (i + j) = 0)) (drw t s (i + j) q) = _
    rw [ih]
    unfold drw1
    rw [if_pos h]
theorem ev20 {σ : ST} {k i tt : Nat} (hi : i < k) (hk : k ≤ 12) (ht : tt ≤ 10) (et : gA σ 41 i = nI tt) (es : gA σ 42 i = 0 ∨ gA σ 42 i = 1) (kb : Int32 → Int32 → Int32 → Int32 → Int32 → Int32 → ST → Option (Int32 × ST)) (x1 x3 x4 x5 x6 : Int32) (h6 : ¬ x6 = 0) : (if nI tt < 10 then fX3_timesHome_J55 kb x1 x3 x4 x5 (nI i) (nI tt) 0 σ else fX3_timesHome_J55 kb x1 x3 x4 x5 (nI i) (nI tt) 1 σ) = kb x1 (drw1 (gA σ 41 i) (decide (gA σ 42 i = 0)) (x6, x3)).2 x4 x5 (drw1 (gA σ 41 i) (decide (gA σ 42 i = 0)) (x6, x3)).1 (nI (i + 1)) σ := by
  have nx : nI i + 1 = nI (i + 1) := by rw [l1, na_add]
  have J : ∀ y9 z3 : Int32, (y9 = 0 ∨ y9 = 1) → fX3_timesHome_J100 kb x1 z3 x4 x5 (nI i) y9 σ = kb x1 z3 x4 x5 (if y9 = gA σ 42 i then 0 else 1) (nI (i + 1)) σ := by
    intro y9 z3 _
    unfold fX3_timesHome_J100
    rw [ald_n (by omega) (by omega), bnd_ap, bnd_ap, bnd_ap, bnd_ap, nx]
    by_cases z : y9 = gA σ 42 i
    · rw [if_pos z, if_pos z]
    · rw [if_neg z, if_neg z]
  have S : ∀ y9 : Int32, (y9 = 0 ∨ y9 = 1) → (if y9 = gA σ 42 i then (0 : Int32) else 1) = (if decide (gA σ 42 i = 0) then y9 else 1 - y9) := by
    intro y9 hy
    rcases es with e | e <;> rcases hy with rfl | rfl <;> rw [e] <;> decide
  rw [et]
  unfold drw1
  dsimp only
  rw [if_neg h6]
  unfold fX3_timesHome_J55
  by_cases t10 : tt = 10
  · rw [if_pos (show nI tt = 10 by rw [t10]; rfl), if_neg (by rw [t10]; decide), bnd_ap, if_neg (by rw [t10]; decide), if_pos (by rw [t10]; decide), J 1 x3 (Or.inr rfl), S 1 (Or.inr rfl)]
    rcases es with e | e <;> rw [e] <;> rfl
  · rw [if_neg (show ¬ nI tt = 10 by rw [l10, nI_eq_iff (by omega) (by omega)]; exact t10), if_pos (by rw [l10, nI_lt_iff (by omega) (by omega)]; omega), bnd_ap]
    by_cases t0 : tt = 0
    · rw [if_pos (by rw [t0]; decide), if_pos (by rw [t0]; decide), J 0 x3 (Or.inl rfl), S 0 (Or.inl rfl)]
      rcases es with e | e <;> rw [e] <;> rfl
    · have z0 : ¬ nI tt ≤ 0 := by rw [l0, nI_le_iff (by omega) (by omega)]; omega
      rw [if_neg z0, if_neg z0, if_neg (by rw [l10, nI_le_iff (by omega) (by omega)]; omega), bnd_ap]
      unfold dvi rmi
      rw [if_neg (show ¬ (256 : Int32) = 0 by decide)]
      dsimp only
      rw [if_neg (show ¬ (10 : Int32) = 0 by decide)]
      unfold fX3_timesHome_J98
      rw [bnd_ap, bnd_ap, J 0 _ (Or.inl rfl), J 1 _ (Or.inr rfl), S 0 (Or.inl rfl), S 1 (Or.inr rfl)]
      by_cases c : nI tt ≤ ((x3 * 1664525 + 1013904223) &&& 2147483647) / 256 - ((x3 * 1664525 + 1013904223) &&& 2147483647) / 256 / 10 * 10
      · rw [if_pos c, if_pos c]
        rcases es with e | e <;> rw [e] <;> rfl
      · rw [if_neg c, if_neg c]
        rcases es with e | e <;> rw [e] <;> rfl
theorem day20 {σ : ST} {k : Nat} (hk : k ≤ 12) (e21 : gI σ 21 = nI k) (lg : ∀ j, j < k → ∃ t : Nat, t ≤ 10 ∧ gA σ 41 j = nI t ∧ (gA σ 42 j = 0 ∨ gA σ 42 j = 1)) (q : Int32 × Int32) (ke : Int32 → Int32 → Int32 → Int32 → Int32 → ST → Option (Int32 × ST)) (x1 x4 x5 : Int32) : ∀ (j i fu : Nat), i + j = k → j < fu → fX3_timesHome_L20 ke fu x1 (drw (gA σ 41) (gA σ 42) i q).2 x4 x5 (drw (gA σ 41) (gA σ 42) i q).1 (nI i) σ = ke x1 (drw (gA σ 41) (gA σ 42) k q).2 x4 x5 (drw (gA σ 41) (gA σ 42) k q).1 σ := by
  intro j
  induction j with
  | zero =>
    intro i fu h1 h2
    obtain ⟨fu, rfl⟩ : ∃ f, fu = f + 1 := ⟨fu - 1, by omega⟩
    obtain rfl : i = k := by omega
    rw [fX3_timesHome_L20, if_pos (by rw [e21]; exact Int32.le_refl _)]
  | succ j ih =>
    intro i fu h1 h2
    obtain ⟨fu, rfl⟩ : ∃ f, fu = f + 1 := ⟨fu - 1, by omega⟩
    rw [fX3_timesHome_L20, if_neg (by rw [e21, nI_le_iff (by omega) (by omega)]; omega)]
    by_cases z : (drw (gA σ 41) (gA σ 42) i q).1 = 0
    · rw [if_pos z, ← h1, drw_0 _ _ _ _ z]
    · obtain ⟨tt, ht, et, es⟩ := lg i (by omega)
      rw [if_neg z, ald_n (by omega) (by omega), bnd_ap]
      have := ev20 (σ := σ) (k := k) (by omega) hk ht et es (fX3_timesHome_L20 ke fu) x1 (drw (gA σ 41) (gA σ 42) i q).2 x4 x5 _ z
      rw [et]
      refine this.trans ?_
      exact ih (i + 1) fu (by omega) (by omega)
theorem sim_lots (a b : Int32) : SIMi Rl (fX4_lots a b) (fX5_lots a b) := by
  intro σ τ h
  obtain ⟨g1, g2, g3, ⟨A, wA, xA, mA, lA⟩, g5, ⟨⟨m5, m6, m7, m14⟩, g7⟩⟩ := id h
  have hP := wA.1.1
  unfold fX4_lots fX5_lots
  by_cases c1 : 1 ≤ a
  · rw [if_pos c1, if_pos c1]
    by_cases c2 : a ≤ 20
    · rw [if_pos c2, if_pos c2, noT mA wA, cali_s]
      by_cases z : A.1 0 = 0
      · rw [if_pos z, if_neg n10, if_pos (by rw [xA.1.1, z]; rfl)]
        exact ref_i h (-3) 3 (by decide) (by omega) (by omega)
      · have l : LegX σ A := by rcases lA with l | l; omega; exact l
        obtain ⟨N, hN, rfl⟩ := na_of (show ¬ a < 0 by
          intro q
          have := Int32.lt_of_lt_of_le q (show (0 : Int32) ≤ a from Int32.le_trans (by decide) c1)
          exact Int32.lt_irrefl this)
        have hN2 : N ≤ 20 := by rw [show (20 : Int32) = nI 20 from rfl, nI_le_iff (by omega) (by omega)] at c2; exact c2
        obtain ⟨τ0, t0⟩ : ∃ z, z = sI (sI τ 16 b) 14 1 := ⟨_, rfl⟩
        obtain ⟨σ', _, k0, _, _, e1, _, e3, _⟩ := RDAY wA (by omega) xA mA l g2 m5 m6 m7
        have f0 : (∀ k, k = 0 ∨ k = 1 ∨ k = 5 ∨ k = 6 ∨ k = 7 ∨ k = 17 → gI τ0 k = gI τ k) ∧ (∀ k, gA τ0 k = gA τ k) ∧ gI τ0 14 = 1 ∧ gI τ0 16 = b := by
          rw [t0]
          exact ⟨fun k hk => by rw [gI_sI, if_neg (by omega), gI_sI, if_neg (by omega)], fun _ => rfl, rfl, rfl⟩
        have dayC : ∀ τc : ST, mS τ0 τc → ∃ τ' k, fX5_dayOfRow (nI (A.1 5)) (sI τc 15 1) = some τ' ∧ mS τ0 τ' ∧ k ≤ 12 ∧ gI σ' 21 = nI k ∧ (∀ j, j < k → ∃ t : Nat, t ≤ 10 ∧ gA σ' 41 j = nI t ∧ (gA σ' 42 j = 0 ∨ gA σ' 42 j = 1)) ∧ (gI τ' 15, gI τ' 16) = drw (gA σ' 41) (gA σ' 42) k (1, gI τc 16) := by
          intro τc g
          have i1 : ∀ k, k = 5 ∨ k = 6 ∨ k = 7 ∨ k = 17 → gI (sI τc 15 1) k = gI τ k := fun k hk => by rw [gI_sI, if_neg (by omega), g.1 k (by omega), f0.1 k (by omega)]
          have i2 : ∀ k, k < 6 ∨ k = 13 → gA (sI τc 15 1) k = gA τ k := fun k hk => by rw [gA_sI, g.2 k (by omega), f0.2.1 k]
          obtain ⟨σ'', τ', k, m, c, d1, d2, d3, d4, d5, d6, d7, d8, d9⟩ := RDAY (τ := sI τc 15 1) wA (by omega) xA (by rw [i2 1 (by omega)]; exact mA) l (RowR_c g2 rfl rfl (i1 17 (by omega)) (i2 13 (by omega))) ((i1 5 (by omega)).trans m5) ((i1 6 (by omega)).trans m6) ((i1 7 (by omega)).trans m7)
          obtain rfl := Option.some.inj (e1.symm.trans d1)
          obtain ⟨_, _, _, _, q1, q2, q3⟩ := d9
          have i14 : gI τ' 14 = 1 := by
            rw [d4.1 14 (by omega), gI_sI, if_neg (by omega), g.1 14 (by omega)]; exact f0.2.2.1
          rw [i14, if_neg n10] at q2
          refine ⟨τ', k, d2, g.tr ((show mS τc (sI τc 15 1) from ⟨fun k hk => by rw [gI_sI, if_neg (by omega)], fun _ _ => rfl⟩).tr d4), d5, q1, q3, q2⟩
        have loop : ∀ (ke ke' : Int32 → ST → Option (Int32 × ST)) (j d fu fu' : Nat) (x4 : Int32) (τc : ST), d + j = N → j < fu → j < fu' → mS τ0 τc → ∃ r τ', fX3_timesHome_L8 ke fu (nI N) (gI τc 16) x4 (nI d) σ' = ke r σ' ∧ fX5_lots_L54 ke' fu' (nI N) x4 (nI d) τc = ke' r τ' ∧ mS τ0 τ' := by
          intro ke ke' j
          induction j with
          | zero =>
            intro d fu fu' x4 τc hd h1 h2 g
            obtain ⟨fu, rfl⟩ : ∃ f, fu = f + 1 := ⟨fu - 1, by omega⟩
            obtain ⟨fu', rfl⟩ : ∃ f, fu' = f + 1 := ⟨fu' - 1, by omega⟩
            refine ⟨x4, τc, ?_, ?_, g⟩
            · rw [fX3_timesHome_L8, if_pos (by rw [nI_le_iff (by omega) (by omega)]; omega)]
            · rw [fX5_lots_L54, if_pos (by rw [nI_le_iff (by omega) (by omega)]; omega)]
          | succ j ih =>
            intro d fu fu' x4 τc hd h1 h2 g
            obtain ⟨fu, rfl⟩ : ∃ f, fu = f + 1 := ⟨fu - 1, by omega⟩
            obtain ⟨fu', rfl⟩ : ∃ f, fu' = f + 1 := ⟨fu' - 1, by omega⟩
            have nx : nI d + 1 = nI (d + 1) := by rw [l1, na_add]
            obtain ⟨τ', k, d1, d2, d3, d4, d5, d6⟩ := dayC τc g
            have p5 : gA (sI τc 15 1) 1 5 = nI (A.1 5) := by rw [gA_sI, g.2 1 (by omega), f0.2.1 1]; exact mA.1.2.2.2.2.2
            have q1 : gI τ' 15 = (drw (gA σ' 41) (gA σ' 42) k (1, gI τc 16)).1 := congrArg Prod.fst d6
            have q2 : gI τ' 16 = (drw (gA σ' 41) (gA σ' 42) k (1, gI τc 16)).2 := congrArg Prod.snd d6
            have cx : fX3_timesHome_L8 ke (fu + 1) (nI N) (gI τc 16) x4 (nI d) σ' = (if gI τ' 15 = 0 then fX3_timesHome_L8 ke fu (nI N) (gI τ' 16) x4 (nI (d + 1)) σ' else fX3_timesHome_L8 ke fu (nI N) (gI τ' 16) (x4 + 1) (nI (d + 1)) σ') := by
              rw [fX3_timesHome_L8, if_neg (by rw [nI_le_iff (by omega) (by omega)]; omega), bnd_ap, bnd_ap]
              refine (day20 d3 d4 d5 (1, gI τc 16) _ (nI N) x4 (nI d) k 0 FU (by omega) (by rw [FU_eq]; omega)).trans ?_
              rw [← q1, ← q2, bnd_ap, bnd_ap, bnd_ap, nx]
            have cm : fX5_lots_L54 ke' (fu' + 1) (nI N) x4 (nI d) τc = (if gI τ' 15 = 0 then fX5_lots_L54 ke' fu' (nI N) x4 (nI (d + 1)) τ' else fX5_lots_L54 ke' fu' (nI N) (x4 + 1) (nI (d + 1)) τ') := by
              rw [fX5_lots_L54, if_neg (by rw [nI_le_iff (by omega) (by omega)]; omega), bnd_ap, show ald (gA (sI τc 15 1) 1) 200 5 = ald (gA (sI τc 15 1) 1) 200 (nI 5) from rfl, ald_n (by omega) (by omega), p5, d1, calv_s, bnd_ap, bnd_ap, bnd_ap, bnd_ap, nx, Int32.add_zero]
            rw [cx, cm]
            by_cases y : gI τ' 15 = 0
            · rw [if_pos y, if_pos y]
              exact ih (d + 1) fu fu' x4 τ' (by omega) (by omega) (by omega) d2
            · rw [if_neg y, if_neg y]
              exact ih (d + 1) fu fu' (x4 + 1) τ' (by omega) (by omega) (by omega) d2
        obtain ⟨r, τ', y1, y2, y3⟩ := loop (fun x4_27 σ_28 => some (x4_27, σ_28)) (fun x3_14 σ_15 => bnd (sI σ_15 14 0) (fun σ_16 => some (x3_14, σ_16))) N 0 FU FU 0 τ0 (by omega) (by rw [FU_eq]; omega) (by rw [FU_eq]; omega) (mS.rf τ0)
        rw [if_neg z, if_pos rfl, if_neg (by rw [xA.1.1, show (0 : Int32) = nI 0 from rfl, nI_eq_iff (by omega) (by omega)]; exact z), e1, calv_s, bnd_ap, bnd_ap, bnd_ap, ← t0, bnd_ap]
        refine ⟨r, σ', sI τ' 14 0, ?_, ?_, ?_⟩
        · unfold fX3_timesHome
          rw [bnd_ap, bnd_ap, bnd_ap]
          rw [f0.2.2.2] at y1
          rw [show (fX3_timesHome_L8 (fun x4_27 σ_28 => some (x4_27, σ_28)) FU (nI N) b 0 0 σ') = some (r, σ') from y1, cali_s]
        · exact y2
        · exact Rl_s h e3 ⟨fun k hk => by
            rw [gI_sI]
            by_cases z : k = 14
            · rw [if_pos z, z]; exact m14.symm
            · rw [if_neg z, y3.1 k (by omega)]; exact f0.1 k (by omega), fun k hk => by rw [gA_sI, y3.2 k (by omega)]; exact f0.2.1 k⟩
    · rw [if_neg c2, if_neg c2]; exact ref_i h (-6) 6 (by decide) (by omega) (by omega)
  · rw [if_neg c1, if_neg c1]; exact ref_i h (-4) 4 (by decide) (by omega) (by omega)
