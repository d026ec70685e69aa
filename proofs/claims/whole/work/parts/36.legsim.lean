/-- a pair's legs on both sides: none, or the same -/
def LgP (σ τ : ST) (i : Nat) : Prop := (gA σ 0 i = -9 ∧ gA σ 1 i = -9 ∧ gA σ 2 i = -9 ∧ gA σ 3 i = -9 ∧ gA τ 8 i = nI 100000) ∨ (∃ d s d2 s2 : Nat, d ≤ 30720 ∧ s ≤ 9 ∧ d2 ≤ 30720 ∧ s2 ≤ 9 ∧ (gA σ 0 i = nI d ∧ gA τ 8 i = nI d) ∧ (gA σ 1 i = nI s ∧ gA τ 9 i = nI s) ∧ (gA σ 2 i = nI d2 ∧ gA τ 10 i = nI d2) ∧ (gA σ 3 i = nI s2 ∧ gA τ 11 i = nI s2))
def LgR (σ τ : ST) : Prop := ∀ i, i < 64 → LgP σ τ i
theorem LR_of {A : TW} (wA : WFT A) {σ τ : ST} (hx : LegX σ A) (hm : LegM τ A) : LgR σ τ := by
  intro i hi
  obtain ⟨x0, x1, x2, x3⟩ := hx i hi
  obtain ⟨m0, m1, m2, m3⟩ := hm i hi
  have sr := safe_rel wA i hi 10 (by omega)
  rcases leg_rel wA i hi with ⟨q1, q2⟩ | ⟨q1, q2, q3⟩
  · left
    have k1 := q2 10 (by omega)
    have k2 : (ktab A i 10).2 = (-9, -9) := by
      rcases sr with ⟨_, s2⟩ | ⟨d, s, hd, hs, s1, s2⟩
      · exact s2
      · exfalso
        -- none of the lights brings the pair together
        have far : ∀ n, n ≤ 10 → (stab A i n).1 = 100000 := by
          intro n
          induction n with
          | zero => intro _; rfl
          | succ n ih =>
            intro hn
            have e := RR_end wA (t := n) (L := 9) (by omega) (Nat.le_refl 9) i hi
            have e2 := same_L wA (L := n) (by omega) i hi
            have big : 1000000 ≤ dst A n i := by
              rcases e.2.1 with ⟨_, p2⟩ | ⟨p1, _⟩
              · exact p2
              · omega
            have : (gsT A n).1 i = 100000 := by
              rcases e2 with ⟨y, _⟩ | ⟨y1, y2⟩
              · exact y
              · have := (RR_end wA (Nat.le_refl n) (by omega) i hi).2.2.1 y1; omega
            rw [stab, if_neg (by omega)]
            exact ih (by omega)
        have := far 10 (by omega)
        rw [s1] at this
        dsimp only at this
        omega
    rw [k1] at x0 x1
    rw [k2] at x2 x3
    rw [q1] at m0
    exact ⟨x0, x1, x2, x3, m0⟩
  · right
    rcases sr with ⟨s1, s2⟩ | ⟨d, s, hd, hs, s1, s2⟩
    · exfalso
      have h1 : stab A i 10 = if (stab A i 9).1 = 100000 ∧ (gsT A 9).1 i < 100000 then ((gsT A 9).1 i, if i % 9 = 0 then 0 else 9) else stab A i 9 := by rw [stab]
      by_cases c : (stab A i 9).1 = 100000 ∧ (gsT A 9).1 i < 100000
      · rw [if_pos c, s1] at h1
        have z := congrArg (fun q : Nat × Nat => q.1) h1
        dsimp only at z
        omega
      · rw [if_neg c, s1] at h1
        exact c ⟨by rw [← h1], by omega⟩
    · rw [q3] at x0 x1
      rw [s2] at x2 x3
      rw [s1] at m2 m3
      exact ⟨_, _, d, s, q1, q2, hd, hs, ⟨x0, m0⟩, ⟨x1, m1⟩, ⟨x2, m2⟩, ⟨x3, m3⟩⟩
theorem legs_go {σ τ : ST} {A : TW} (wA : WFT A) (mA : MT (gA τ 1) A) (l : LegX σ A) : ∃ τ', fX5_legs τ = some τ' ∧ fM τ τ' ∧ LgR σ τ' := by
  obtain ⟨τ', h1, h2, h3⟩ := legsM wA mA
  exact ⟨τ', h1, h2, LR_of wA l h3⟩
theorem minOf {a b : Nat} (ha : a < 8) (hb : b < 8) (s : Int32) (σ : ST) : fX0_minutesOf (nI a) (nI b) s σ = some (if s = 0 then gA σ 0 (8 * a + b) else gA σ 2 (8 * a + b), σ) := by
  unfold fX0_minutesOf
  rw [bnd_ap, ix8, if_neg (nI_nneg (by omega)), if_pos (by rw [l64, nI_lt_iff (by omega) (by omega)]; omega), ald_n (by omega) (by omega), ald_n (by omega) (by omega)]
  split <;> rfl
theorem staOf {a b : Nat} (ha : a < 8) (hb : b < 8) (s : Int32) (σ : ST) : fX0_stallsOf (nI a) (nI b) s σ = some (if s = 0 then gA σ 1 (8 * a + b) else gA σ 3 (8 * a + b), σ) := by
  unfold fX0_stallsOf
  rw [bnd_ap, ix8, if_neg (nI_nneg (by omega)), if_pos (by rw [l64, nI_lt_iff (by omega) (by omega)]; omega), ald_n (by omega) (by omega), ald_n (by omega) (by omega)]
  split <;> rfl
theorem n100000 {d : Nat} (h : d ≤ 30720) : ¬ nI d = 100000 := by rw [l100000, nI_eq_iff (by omega) (by omega)]; omega
theorem ref_ii {σ τ : ST} (h : Rl σ τ) (c : Int32) (k : Nat) (e : -c = nI k) (h1 : 1 ≤ k) (h2 : k < 7) : ∃ (r : Int32) (σ' τ' : ST), cali (cali (fX4_refuse c σ) (fun r σ => some (r, σ))) (fun r σ => some (r, σ)) = some (r, σ') ∧ cali (cali (fX5_no c τ) (fun r σ => some (r, σ))) (fun r σ => some (r, σ)) = some (r, τ') ∧ Rl σ' τ' := by
  rw [refx k c e h1 h2, nom k c e h2]
  exact ⟨c, _, _, rfl, rfl, Rl_ref h k⟩
theorem fold_i {f : Option (Int32 × ST)} : cali f (fun r σ => some (r, σ)) = f := by cases f <;> rfl
theorem sim_between (a b w : Int32) (s : Int32) (hs : s = 0 ∨ s = 1) : SIMi Rl (fX4_between a b w s) (fX5_legTold a b w s) := by
  intro σ τ h
  obtain ⟨g1, g2, g3, ⟨A, wA, xA, mA, lA⟩, g5, g6⟩ := id h
  have hP := wA.1.1
  unfold fX4_between fX5_legTold
  rcases isP wA xA mA a with ⟨p, hp, rfl, i1, i2⟩ | ⟨i1, i2⟩
  · rw [i1, i2, cali_s, cali_s, if_neg n10, if_pos rfl]
    rcases isP wA xA mA b with ⟨q, hq, rfl, j1, j2⟩ | ⟨j1, j2⟩
    · rw [j1, j2, cali_s, cali_s, if_neg n10, if_pos rfl]
      have l : LegX σ A := by rcases lA with l | l; omega; exact l
      obtain ⟨τ', e1, e2, e3⟩ := legs_go wA mA l
      have J : ∀ w' : Int32, fX5_legTold_J38 (nI p) (nI q) w' s τ = if gA τ' 8 (8 * p + q) = 100000 then some (-9, τ') else if s = 0 then (if w' = 0 then some (gA τ' 8 (8 * p + q), τ') else some (gA τ' 9 (8 * p + q), τ')) else (if w' = 0 then some (gA τ' 10 (8 * p + q), τ') else some (gA τ' 11 (8 * p + q), τ')) := by
        intro w'
        unfold fX5_legTold_J38
        rw [e1, calv_s, bnd_ap, ix8', ald_n (by omega) (by omega), ald_n (by omega) (by omega), ald_n (by omega) (by omega), ald_n (by omega) (by omega), ald_n (by omega) (by omega)]
      have hR := Rl_s h (xS.rf σ) e2.mS
      have lp := e3 (8 * p + q) (by omega)
      by_cases w0 : w = 0
      · subst w0
        rw [if_neg (by decide), if_pos (by decide), if_pos rfl, if_pos rfl, J, minOf (by omega) (by omega), cali_s]
        rcases lp with ⟨y0, y1, y2, y3, y4⟩ | ⟨d, s1, d2, s2, hd, hs1, hd2, hs2, ⟨y0, z0⟩, ⟨y1, z1⟩, ⟨y2, z2⟩, ⟨y3, z3⟩⟩
        · rw [if_pos (show gA τ' 8 (8 * p + q) = 100000 from y4), y0, y2]
          refine ⟨-9, σ, τ', ?_, rfl, hR⟩
          split <;> rfl
        · rw [z0, if_neg (n100000 hd), z2, y0, y2]
          rcases hs with rfl | rfl
          · rw [if_pos rfl, if_pos rfl, if_pos rfl]; exact ⟨_, _, _, rfl, rfl, hR⟩
          · rw [if_neg n10, if_neg n10, if_pos rfl]; exact ⟨_, _, _, rfl, rfl, hR⟩
      · by_cases w1 : w = 1
        · subst w1
          rw [if_neg (by decide), if_pos (by decide), if_neg n10, if_neg n10, if_pos rfl, J, staOf (by omega) (by omega), cali_s]
          rcases lp with ⟨y0, y1, y2, y3, y4⟩ | ⟨d, s1, d2, s2, hd, hs1, hd2, hs2, ⟨y0, z0⟩, ⟨y1, z1⟩, ⟨y2, z2⟩, ⟨y3, z3⟩⟩
          · rw [if_pos (show gA τ' 8 (8 * p + q) = 100000 from y4), y1, y3]
            refine ⟨-9, σ, τ', ?_, rfl, hR⟩
            split <;> rfl
          · rw [z0, if_neg (n100000 hd), z1, z3, y1, y3]
            rcases hs with rfl | rfl
            · rw [if_pos rfl, if_pos rfl, if_neg n10]; exact ⟨_, _, _, rfl, rfl, hR⟩
            · rw [if_neg n10, if_neg n10, if_neg n10]; exact ⟨_, _, _, rfl, rfl, hR⟩
        · simp only [if_neg w0, if_neg w1]
          by_cases wn : w < 0
          · rw [if_pos wn]; exact ref_i h (-2) 2 rfl (by omega) (by omega)
          · rw [if_neg wn]
            obtain ⟨k, hk, rfl⟩ := na_of wn
            have k0 : k ≠ 0 := fun z => w0 (by rw [z]; rfl)
            have k1 : k ≠ 1 := fun z => w1 (by rw [z]; rfl)
            rw [if_neg (by rw [l1, nI_le_iff (by omega) (by omega)]; omega)]
            exact ref_i h (-2) 2 rfl (by omega) (by omega)
    · rw [j1, j2, cali_s, cali_s, if_pos rfl, if_neg n10]
      exact ref_i h (-1) 1 rfl (by omega) (by omega)
  · rw [i1, i2, cali_s, cali_s, if_pos rfl, if_neg n10]
    exact ref_i h (-1) 1 rfl (by omega) (by omega)
theorem sim_leg (a b w : Int32) : SIMi Rl (fX4_leg a b w) (fX5_leg a b w) := by
  intro σ τ h
  unfold fX4_leg fX5_leg
  rw [fold_i, fold_i]
  exact sim_between a b w 0 (Or.inl rfl) σ τ h
theorem sim_safe (a b w : Int32) : SIMi Rl (fX4_safe a b w) (fX5_safe a b w) := by
  intro σ τ h
  unfold fX4_safe fX5_safe
  rw [fold_i, fold_i]
  exact sim_between a b w 1 (Or.inr rfl) σ τ h
theorem sim_onTheWay (a b c : Int32) : SIMi Rl (fX4_onTheWay a b c) (fX5_onTheWay a b c) := by
  intro σ τ h
  obtain ⟨g1, g2, g3, ⟨A, wA, xA, mA, lA⟩, g5, g6⟩ := id h
  have hP := wA.1.1
  unfold fX4_onTheWay fX5_onTheWay
  rcases isP wA xA mA a with ⟨p, hp, rfl, i1, i2⟩ | ⟨i1, i2⟩
  · rw [i1, i2, cali_s, cali_s, if_neg n10, if_pos rfl]
    rcases isP wA xA mA b with ⟨q, hq, rfl, j1, j2⟩ | ⟨j1, j2⟩
    · rw [j1, j2, cali_s, cali_s, if_neg n10, if_pos rfl]
      rcases isP wA xA mA c with ⟨r, hr, rfl, k1, k2⟩ | ⟨k1, k2⟩
      · rw [k1, k2, cali_s, cali_s, if_neg n10, if_pos rfl]
        have l : LegX σ A := by rcases lA with l | l; omega; exact l
        obtain ⟨τ', e1, e2, e3⟩ := legs_go wA mA l
        have hR := Rl_s h (xS.rf σ) e2.mS
        rw [e1, calv_s, ix8', ix8', ix8', ald_n (by omega) (by omega), ald_n (by omega) (by omega), bnd_ap, ald_n (by omega) (by omega), minOf (by omega) (by omega), cali_s, bnd_ap, minOf (by omega) (by omega), cali_s, bnd_ap, minOf (by omega) (by omega), cali_s, if_pos rfl, if_pos rfl, if_pos rfl]
        rcases e3 (8 * q + p) (by omega) with ⟨y0, y1, y2, y3, y4⟩ | ⟨d, s1, d2, s2, hd, hs1, hd2, hs2, ⟨y0, z0⟩, _⟩
        · rw [y0, y4, if_pos (by decide)]
          refine ⟨0, σ, τ', rfl, ?_, hR⟩
          rw [if_pos]
          rcases e3 (8 * p + r) (by omega) with ⟨x0, x1, x2, x3, x4⟩ | ⟨d, s1, d2, s2, hd, hs1, hd2, hs2, ⟨x0, x4⟩, _⟩
          · rw [x4]; decide
          · rw [x4, na_add, l100000, nI_le_iff (by omega) (by omega)]; omega
        · rw [y0, z0, if_neg (nI_nneg (by omega))]
          rcases e3 (8 * p + r) (by omega) with ⟨x0, x1, x2, x3, x4⟩ | ⟨d', s1', d2', s2', hd', hs1', hd2', hs2', ⟨x0, x4⟩, _⟩
          · rw [x0, x4, if_neg (by decide), if_pos (by rw [na_add, l100000, nI_le_iff (by omega) (by omega)]; omega)]
            exact ⟨_, _, _, rfl, rfl, hR⟩
          · rw [x0, x4, if_pos (by rw [l0, nI_le_iff (by omega) (by omega)]; omega), na_add, if_neg (show ¬ 100000 ≤ nI (d + d') by rw [l100000, nI_le_iff (by omega) (by omega)]; omega)]
            rcases e3 (8 * q + r) (by omega) with ⟨v0, v1, v2, v3, v4⟩ | ⟨d'', s1'', d2'', s2'', hd'', hs1'', hd2'', hs2'', ⟨v0, v4⟩, _⟩
            · rw [v0, v4, if_neg (nI_m9 (by omega)), if_neg (show ¬ nI (d + d') = nI 100000 by rw [nI_eq_iff (by omega) (by omega)]; omega)]
              exact ⟨_, _, _, rfl, rfl, hR⟩
            · rw [v0, v4]
              split
              · exact ⟨_, _, _, rfl, rfl, hR⟩
              · exact ⟨_, _, _, rfl, rfl, hR⟩
      · rw [k1, k2, cali_s, cali_s, if_pos rfl, if_neg n10]
        exact ref_i h (-1) 1 rfl (by omega) (by omega)
    · rw [j1, j2, cali_s, cali_s, if_pos rfl, if_neg n10]
      exact ref_i h (-1) 1 rfl (by omega) (by omega)
  · rw [i1, i2, cali_s, cali_s, if_pos rfl, if_neg n10]
    exact ref_i h (-1) 1 rfl (by omega) (by omega)
