/-! ===== an errand, the fuel, a driver added ===== -/
theorem WF_er {A : TW} {p d w t : Nat} (wA : WFT A) (h : A.1 2 < 5) (hp : p < A.1 0) (hd : 1 ≤ d ∧ d ≤ 60) (hw : w ≤ 99) (ht : t ≤ 999) : WFT (ter A p d w t) := by
  obtain ⟨⟨a0, a1, a2, a3, a4, a5⟩, h1, h2, h3, h4⟩ := wA
  refine ⟨⟨a0, a1, show A.1 2 + 1 ≤ 5 by omega, a3, a4, a5⟩, ?_, ?_, ?_, ?_⟩
  · intro i hi
    have := h1 i hi
    show (if i = A.1 2 then A.2 0 i else A.2 0 i) ≤ 5 ∧ (if i = A.1 2 then A.2 1 i else A.2 1 i) ≤ 9 ∧ (if i = A.1 2 then A.2 2 i else A.2 2 i) ≤ 3
    rw [ite_self, ite_self, ite_self]
    exact this
  · intro i hi
    have := h2 i hi
    show (if i = A.1 2 then A.2 3 i else A.2 3 i) < A.1 0 ∧ (if i = A.1 2 then A.2 4 i else A.2 4 i) < A.1 0 ∧ (if i = A.1 2 then A.2 3 i else A.2 3 i) ≠ (if i = A.1 2 then A.2 4 i else A.2 4 i) ∧ 1 ≤ (if i = A.1 2 then A.2 5 i else A.2 5 i) ∧ (if i = A.1 2 then A.2 5 i else A.2 5 i) ≤ 60 ∧ (if i = A.1 2 then A.2 6 i else A.2 6 i) ≤ 9
    rw [ite_self, ite_self, ite_self, ite_self]
    exact this
  · intro i j hi hj
    show ((if i = A.1 2 then A.2 3 i else A.2 3 i) = (if j = A.1 2 then A.2 3 j else A.2 3 j) ∧ (if i = A.1 2 then A.2 4 i else A.2 4 i) = (if j = A.1 2 then A.2 4 j else A.2 4 j)) ∨ ((if i = A.1 2 then A.2 3 i else A.2 3 i) = (if j = A.1 2 then A.2 4 j else A.2 4 j) ∧ (if i = A.1 2 then A.2 4 i else A.2 4 i) = (if j = A.1 2 then A.2 3 j else A.2 3 j)) → i = j
    rw [ite_self, ite_self, ite_self, ite_self]
    exact h3 i j hi hj
  · intro i hi
    have hi : i < A.1 2 + 1 := hi
    show (if i = A.1 2 then p else A.2 7 i) < A.1 0 ∧ 1 ≤ (if i = A.1 2 then d else A.2 8 i) ∧ (if i = A.1 2 then d else A.2 8 i) ≤ 60 ∧ (if i = A.1 2 then w else A.2 9 i) ≤ 99 ∧ (if i = A.1 2 then t else A.2 10 i) ≤ 999
    by_cases e : i = A.1 2
    · rw [if_pos e, if_pos e, if_pos e, if_pos e]; omega
    · rw [if_neg e, if_neg e, if_neg e, if_neg e]; exact h4 i (by omega)
theorem ERA {σ τ : ST} {A : TW} {p d w t : Nat} (wA : WFT A) (xA : XT σ 15 28 A) (mA : MT (gA τ 1) A) (e4 : gI τ 4 = nI 2) (f0 : gA τ 6 0 = nI p) (f1 : gA τ 6 1 = nI d) (f2 : gA τ 6 2 = nI w) (f3 : gA τ 6 3 = nI t) (hp : p < 10) (hd : d < 100) (hw : w < 100) (ht : t < 1000) : OUT (fX2_addErrand_6 (nI p) (nI d) (nI w) (nI t) σ) σ τ := by
  have hP := wA.1.1
  have hE := wA.1.2.2.1
  have x0 : gI σ 15 = nI (A.1 0) := xA.1.1
  have x2 : gI σ 17 = nI (A.1 2) := xA.1.2.2.1
  have m0 : gA τ 1 0 = nI (A.1 0) := mA.1.1
  have m2 : gA τ 1 2 = nI (A.1 2) := mA.1.2.2.1
  have I : fX5_isAsItMustBe τ = (if nI (A.1 0) ≤ nI p then some (0, τ) else if nI d < 1 then some (0, τ) else if 60 < nI d then some (0, τ) else if 5 ≤ nI (A.1 2) then some (0, τ) else some (1, τ)) := by
    unfold fX5_isAsItMustBe
    rw [e4, if_neg (show ¬ nI 2 = 0 by decide), if_neg (show ¬ nI 2 = 1 by decide), if_pos (show nI 2 = 2 from rfl)]
    rw [show ald (gA τ 6) 4 0 = ald (gA τ 6) 4 (nI 0) from rfl, ald_n (by omega) (by omega), show ald (gA τ 1) 200 0 = ald (gA τ 1) 200 (nI 0) from rfl, ald_n (by omega) (by omega), show ald (gA τ 6) 4 1 = ald (gA τ 6) 4 (nI 1) from rfl, ald_n (by omega) (by omega), ald_n (by omega) (by omega), show ald (gA τ 1) 200 2 = ald (gA τ 1) 200 (nI 2) from rfl, ald_n (by omega) (by omega), f0, f1, m0, m2]
  unfold OUT
  rw [I]
  unfold fX2_addErrand_6
  rw [x0, x2]
  have b5 : (5 ≤ nI (A.1 2)) ↔ 5 ≤ A.1 2 := by rw [l5, nI_le_iff (by omega) (by omega)]
  have bp : (nI (A.1 0) ≤ nI p) ↔ A.1 0 ≤ p := nI_le_iff (by omega) (by omega)
  have b1 : (nI d < 1) ↔ d < 1 := by rw [l1, nI_lt_iff (by omega) (by omega)]
  have b60 : (nI d ≤ 60) ↔ d ≤ 60 := by rw [l60, nI_le_iff (by omega) (by omega)]
  have b61 : (60 < nI d) ↔ 60 < d := by rw [l60, nI_lt_iff (by omega) (by omega)]
  by_cases ok : (A.1 2 < 5 ∧ p < A.1 0 ∧ 1 ≤ d ∧ d ≤ 60)
  · right
    obtain ⟨k1, k2, k3, k4⟩ := ok
    rw [if_neg (by rw [b5]; omega), if_neg (by rw [bp]; omega), if_neg (by rw [b1]; omega), if_pos (by rw [b60]; omega), ast_n (by omega) (by omega)]
    obtain ⟨σ1, s1⟩ : ∃ z, z = sA σ 35 (upd (gA σ 35) (A.1 2) (nI p)) := ⟨_, rfl⟩
    rw [← s1, show gI σ1 17 = nI (A.1 2) from by rw [s1]; exact x2, ast_n (by omega) (by omega)]
    obtain ⟨σ2, s2⟩ : ∃ z, z = sA σ1 36 (upd (gA σ1 36) (A.1 2) (nI d)) := ⟨_, rfl⟩
    rw [← s2, show gI σ2 17 = nI (A.1 2) from by rw [s2, s1]; exact x2, ast_n (by omega) (by omega)]
    obtain ⟨σ3, s3⟩ : ∃ z, z = sA σ2 37 (upd (gA σ2 37) (A.1 2) (nI w)) := ⟨_, rfl⟩
    rw [← s3, show gI σ3 17 = nI (A.1 2) from by rw [s3, s2, s1]; exact x2, ast_n (by omega) (by omega), bnd_ap]
    obtain ⟨σ4, s4⟩ : ∃ z, z = sI (sA σ3 38 (upd (gA σ3 38) (A.1 2) (nI t))) 17 (gI (sA σ3 38 (upd (gA σ3 38) (A.1 2) (nI t))) 17 + 1) := ⟨_, rfl⟩
    rw [← s4]
    have g17 : gI σ4 17 = nI (A.1 2 + 1) := by
      rw [s4, gI_sI, if_pos rfl, gI_sA, s3, s2, s1]
      show gI σ 17 + 1 = _
      rw [x2, l1, na_add]
    have gI' : ∀ q, q ≠ 17 → gI σ4 q = gI σ q := fun q hq => by rw [s4, gI_sI, if_neg hq, gI_sA, s3, s2, s1]; rfl
    have gA' : ∀ q, q < 35 ∨ 39 ≤ q → gA σ4 q = gA σ q := fun q h => by rw [s4, gA_sI, gA_sA, if_neg (by omega), s3, gA_sA, if_neg (by omega), s2, gA_sA, if_neg (by omega), s1, gA_sA, if_neg (by omega)]
    have a35 : gA σ4 35 = upd (gA σ 35) (A.1 2) (nI p) := by rw [s4, s3, s2, s1]; rfl
    have a36 : gA σ4 36 = upd (gA σ 36) (A.1 2) (nI d) := by rw [s4, s3, s2, s1]; rfl
    have a37 : gA σ4 37 = upd (gA σ 37) (A.1 2) (nI w) := by rw [s4, s3, s2, s1]; rfl
    have a38 : gA σ4 38 = upd (gA σ 38) (A.1 2) (nI t) := by rw [s4, s3, s2, s1]; rfl
    have st : ∀ (ke : ST → Option ST) (fu i : Nat) (y : ST), i < 4 → gA y 1 2 = nI (A.1 2) → fX5_take_L164 ke (fu + 1) (nI i) y = fX5_take_L164 ke fu (nI (i + 1)) (sA y 1 (upd (gA y 1) (40 + 4 * A.1 2 + i) (gA y 6 i))) := by
      intro ke fu i y hi e
      rw [fX5_take_L164, if_neg (by rw [l4, nI_le_iff (by omega) (by omega)]; omega), show ald (gA y 1) 200 2 = ald (gA y 1) 200 (nI 2) from rfl, ald_n (by omega) (by omega), ald_n (by omega) (by omega), e, ix4, ast_n (by omega) (by omega), bnd_ap, l1, na_add]
    -- the reference's four writes, one by one
    obtain ⟨τ1, t1⟩ : ∃ z, z = sA τ 1 (upd (gA τ 1) (40 + 4 * A.1 2 + 0) (gA τ 6 0)) := ⟨_, rfl⟩
    obtain ⟨τ2, t2⟩ : ∃ z, z = sA τ1 1 (upd (gA τ1 1) (40 + 4 * A.1 2 + 1) (gA τ1 6 1)) := ⟨_, rfl⟩
    obtain ⟨τ3, t3⟩ : ∃ z, z = sA τ2 1 (upd (gA τ2 1) (40 + 4 * A.1 2 + 2) (gA τ2 6 2)) := ⟨_, rfl⟩
    obtain ⟨τ4, t4⟩ : ∃ z, z = sA τ3 1 (upd (gA τ3 1) (40 + 4 * A.1 2 + 3) (gA τ3 6 3)) := ⟨_, rfl⟩
    have r1 : gA τ1 1 = upd (gA τ 1) (40 + 4 * A.1 2 + 0) (nI p) := by rw [t1, gA_sA, if_pos rfl, f0]
    have r2 : gA τ2 1 = upd (gA τ1 1) (40 + 4 * A.1 2 + 1) (nI d) := by rw [t2, gA_sA, if_pos rfl, show gA τ1 6 1 = nI d from by rw [t1]; exact f1]
    have r3 : gA τ3 1 = upd (gA τ2 1) (40 + 4 * A.1 2 + 2) (nI w) := by rw [t3, gA_sA, if_pos rfl, show gA τ2 6 2 = nI w from by rw [t2, t1]; exact f2]
    have r4 : gA τ4 1 = upd (gA τ3 1) (40 + 4 * A.1 2 + 3) (nI t) := by rw [t4, gA_sA, if_pos rfl, show gA τ3 6 3 = nI t from by rw [t3, t2, t1]; exact f3]
    have o4 : ∀ j, (j < 40 + 4 * A.1 2 ∨ 40 + 4 * A.1 2 + 4 ≤ j) → gA τ4 1 j = gA τ 1 j ∧ gA τ3 1 j = gA τ 1 j ∧ gA τ2 1 j = gA τ 1 j ∧ gA τ1 1 j = gA τ 1 j := by
      intro j hj
      have q1 : gA τ1 1 j = gA τ 1 j := by rw [r1, upd_ap, if_neg (by omega)]
      have q2 : gA τ2 1 j = gA τ 1 j := by rw [r2, upd_ap, if_neg (by omega)]; exact q1
      have q3 : gA τ3 1 j = gA τ 1 j := by rw [r3, upd_ap, if_neg (by omega)]; exact q2
      have q4 : gA τ4 1 j = gA τ 1 j := by rw [r4, upd_ap, if_neg (by omega)]; exact q3
      exact ⟨q4, q3, q2, q1⟩
    obtain ⟨n4, n3, n2, n1⟩ := o4 2 (by omega)
    have tk : fX5_take τ = some (sA τ4 1 (upd (gA τ4 1) 2 (nI (A.1 2 + 1)))) := by
      unfold fX5_take
      rw [e4, if_neg (show ¬ nI 2 = 0 by decide), if_neg (show ¬ nI 2 = 1 by decide), if_pos (show nI 2 = 2 from rfl), bnd_ap, FU_eq, show (0 : Int32) = nI 0 from rfl, st _ 999 0 τ (by omega) m2, ← t1, st _ 998 1 τ1 (by omega) (n1.trans m2), ← t2, st _ 997 2 τ2 (by omega) (n2.trans m2), ← t3, st _ 996 3 τ3 (by omega) (n3.trans m2), ← t4, fX5_take_L164, if_pos (by decide), show ald (gA τ4 1) 200 2 = ald (gA τ4 1) 200 (nI 2) from rfl, ald_n (by omega) (by omega), show ast τ4 1 200 2 = ast τ4 1 200 (nI 2) from rfl, ast_n (by omega) (by omega), n4, m2, l1, na_add]
    refine ⟨σ4, _, ter A p d w t, rfl, by rw [if_neg (by rw [bp]; omega), if_neg (by rw [b1]; omega), if_neg (by rw [b61]; omega), if_neg (by rw [b5]; omega)], tk, WF_er wA k1 k2 ⟨k3, k4⟩ (by omega) (by omega), ?_, ?_, ⟨fun q hq => gI' q (by omega), fun q hq => gA' q (by omega)⟩, ⟨fun q => by rw [gI_sA, t4, t3, t2, t1]; rfl, fun q hq => by rw [gA_sA, if_neg hq, t4, gA_sA, if_neg hq, t3, gA_sA, if_neg hq, t2, gA_sA, if_neg hq, t1, gA_sA, if_neg hq]⟩⟩
    · obtain ⟨⟨y0, y1, y2, y3, y4, y5⟩, z1, z2, z3⟩ := xA
      refine ⟨⟨(gI' 15 (by omega)).trans y0, (gI' 16 (by omega)).trans y1, g17, (gI' 18 (by omega)).trans y3, (gI' 19 (by omega)).trans y4, (gI' 20 (by omega)).trans y5⟩, ?_, ?_, ?_⟩
      · intro i hi
        show gA σ4 28 i = nI (if i = A.1 2 then A.2 0 i else A.2 0 i) ∧ gA σ4 29 i = nI (if i = A.1 2 then A.2 1 i else A.2 1 i) ∧ gA σ4 30 i = nI (if i = A.1 2 then A.2 2 i else A.2 2 i)
        rw [ite_self, ite_self, ite_self, gA' 28 (by omega), gA' 29 (by omega), gA' 30 (by omega)]
        exact z1 i hi
      · intro i hi
        show gA σ4 31 i = nI (if i = A.1 2 then A.2 3 i else A.2 3 i) ∧ gA σ4 32 i = nI (if i = A.1 2 then A.2 4 i else A.2 4 i) ∧ gA σ4 33 i = nI (if i = A.1 2 then A.2 5 i else A.2 5 i) ∧ gA σ4 34 i = nI (if i = A.1 2 then A.2 6 i else A.2 6 i)
        rw [ite_self, ite_self, ite_self, ite_self, gA' 31 (by omega), gA' 32 (by omega), gA' 33 (by omega), gA' 34 (by omega)]
        exact z2 i hi
      · intro i hi
        have hi : i < A.1 2 + 1 := hi
        show gA σ4 35 i = nI (if i = A.1 2 then p else A.2 7 i) ∧ gA σ4 36 i = nI (if i = A.1 2 then d else A.2 8 i) ∧ gA σ4 37 i = nI (if i = A.1 2 then w else A.2 9 i) ∧ gA σ4 38 i = nI (if i = A.1 2 then t else A.2 10 i)
        rw [a35, a36, a37, a38, upd_ap, upd_ap, upd_ap, upd_ap]
        by_cases e : i = A.1 2
        · rw [if_pos e, if_pos e, if_pos e, if_pos e, if_pos e, if_pos e, if_pos e, if_pos e]; exact ⟨rfl, rfl, rfl, rfl⟩
        · rw [if_neg e, if_neg e, if_neg e, if_neg e, if_neg e, if_neg e, if_neg e, if_neg e]; exact z3 i (by omega)
    · rw [gA_sA, if_pos rfl]
      obtain ⟨⟨y0, y1, y2, y3, y4, y5⟩, z1, z2, z3⟩ := mA
      have o : ∀ j, j ≠ 2 → (j < 40 + 4 * A.1 2 ∨ 40 + 4 * A.1 2 + 4 ≤ j) → upd (gA τ4 1) 2 (nI (A.1 2 + 1)) j = gA τ 1 j := by
        intro j j0 hj
        rw [upd_ap, if_neg j0]
        exact (o4 j hj).1
      refine ⟨⟨(o 0 (by omega) (by omega)).trans y0, (o 1 (by omega) (by omega)).trans y1, by rw [upd_ap, if_pos rfl]; rfl, (o 3 (by omega) (by omega)).trans y3, (o 4 (by omega) (by omega)).trans y4, (o 5 (by omega) (by omega)).trans y5⟩, ?_, ?_, ?_⟩
      · intro i hi
        have hi : i < A.1 0 := hi
        show upd (gA τ4 1) 2 (nI (A.1 2 + 1)) (10 + 3 * i) = nI (if i = A.1 2 then A.2 0 i else A.2 0 i) ∧ upd (gA τ4 1) 2 (nI (A.1 2 + 1)) (10 + 3 * i + 1) = nI (if i = A.1 2 then A.2 1 i else A.2 1 i) ∧ upd (gA τ4 1) 2 (nI (A.1 2 + 1)) (10 + 3 * i + 2) = nI (if i = A.1 2 then A.2 2 i else A.2 2 i)
        rw [ite_self, ite_self, ite_self, o _ (by omega) (by omega), o _ (by omega) (by omega), o _ (by omega) (by omega)]
        exact z1 i hi
      · intro i hi
        have hi : i < A.1 2 + 1 := hi
        show upd (gA τ4 1) 2 (nI (A.1 2 + 1)) (40 + 4 * i) = nI (if i = A.1 2 then p else A.2 7 i) ∧ upd (gA τ4 1) 2 (nI (A.1 2 + 1)) (40 + 4 * i + 1) = nI (if i = A.1 2 then d else A.2 8 i) ∧ upd (gA τ4 1) 2 (nI (A.1 2 + 1)) (40 + 4 * i + 2) = nI (if i = A.1 2 then w else A.2 9 i) ∧ upd (gA τ4 1) 2 (nI (A.1 2 + 1)) (40 + 4 * i + 3) = nI (if i = A.1 2 then t else A.2 10 i)
        by_cases e : i = A.1 2
        · rw [if_pos e, if_pos e, if_pos e, if_pos e, e]
          refine ⟨?_, ?_, ?_, ?_⟩
          · rw [upd_ap, if_neg (by omega), r4, upd_ap, if_neg (by omega), r3, upd_ap, if_neg (by omega), r2, upd_ap, if_neg (by omega), r1, upd_ap, if_pos (by omega)]
          · rw [upd_ap, if_neg (by omega), r4, upd_ap, if_neg (by omega), r3, upd_ap, if_neg (by omega), r2, upd_ap, if_pos (by omega)]
          · rw [upd_ap, if_neg (by omega), r4, upd_ap, if_neg (by omega), r3, upd_ap, if_pos (by omega)]
          · rw [upd_ap, if_neg (by omega), r4, upd_ap, if_pos (by omega)]
        · rw [if_neg e, if_neg e, if_neg e, if_neg e, o _ (by omega) (by omega), o _ (by omega) (by omega), o _ (by omega) (by omega), o _ (by omega) (by omega)]
          exact z2 i (by omega)
      · intro a b ha hb
        have e1 : wmin (ter A p d w t) a b = wmin A a b := wf_eq _ (fun i _ => ⟨ite_self _, ite_self _, ite_self _⟩)
        have e2 : wlit (ter A p d w t) a b = wlit A a b := wf_eq _ (fun i _ => ⟨ite_self _, ite_self _, ite_self _⟩)
        rw [e1, e2, o _ (by omega) (by omega), o _ (by omega) (by omega)]
        exact z3 a b ha hb
  · left
    refine ⟨?_, ?_⟩
    · by_cases q : 5 ≤ A.1 2
      · rw [if_pos (b5.mpr q)]
      rw [if_neg (by rw [b5]; exact q)]
      by_cases q : A.1 0 ≤ p
      · rw [if_pos (bp.mpr q)]
      rw [if_neg (by rw [bp]; exact q)]
      by_cases q : d < 1
      · rw [if_pos (b1.mpr q)]
      rw [if_neg (by rw [b1]; exact q), if_neg (by rw [b60]; omega)]
    · by_cases q : A.1 0 ≤ p
      · rw [if_pos (bp.mpr q)]
      rw [if_neg (by rw [bp]; exact q)]
      by_cases q : d < 1
      · rw [if_pos (b1.mpr q)]
      rw [if_neg (by rw [b1]; exact q)]
      by_cases q : 60 < d
      · rw [if_pos (b61.mpr q)]
      rw [if_neg (by rw [b61]; exact q), if_pos (b5.mpr (by omega))]
theorem FUA {σ τ : ST} {A : TW} {f r : Nat} (wA : WFT A) (xA : XT σ 15 28 A) (mA : MT (gA τ 1) A) (e4 : gI τ 4 = nI 3) (f0 : gA τ 6 0 = nI f) (f1 : gA τ 6 1 = nI r) (hf : f < 10) (hr : r < 100) : OUT (fX2_useFuel_6 (nI f) (nI r) σ) σ τ := by
  have I : fX5_isAsItMustBe τ = (if 60 < nI r then some (0, τ) else some (1, τ)) := by
    unfold fX5_isAsItMustBe
    rw [e4, if_neg (show ¬ nI 3 = 0 by decide), if_neg (show ¬ nI 3 = 1 by decide), if_neg (show ¬ nI 3 = 2 by decide), if_pos (show nI 3 = 3 from rfl), show ald (gA τ 6) 4 1 = ald (gA τ 6) 4 (nI 1) from rfl, ald_n (by omega) (by omega), f1]
  unfold OUT
  rw [I]
  unfold fX2_useFuel_6
  by_cases c : r ≤ 60
  · right
    rw [if_pos (show nI r ≤ 60 by rw [l60, nI_le_iff (by omega) (by omega)]; exact c), if_neg (show ¬ 60 < nI r by rw [l60, nI_lt_iff (by omega) (by omega)]; omega), bnd_ap, bnd_ap]
    have tk : fX5_take τ = some (sA (sA τ 1 (upd (gA τ 1) 3 (nI f))) 1 (upd (upd (gA τ 1) 3 (nI f)) 4 (nI r))) := by
      unfold fX5_take
      rw [e4, if_neg (show ¬ nI 3 = 0 by decide), if_neg (show ¬ nI 3 = 1 by decide), if_neg (show ¬ nI 3 = 2 by decide), if_pos (show nI 3 = 3 from rfl), show ald (gA τ 6) 4 0 = ald (gA τ 6) 4 (nI 0) from rfl, ald_n (by omega) (by omega), f0, show ast τ 1 200 3 = ast τ 1 200 (nI 3) from rfl, ast_n (by omega) (by omega)]
      show ald (gA τ 6) 4 (nI 1) (fun v_31 => ast (sA τ 1 (upd (gA τ 1) 3 (nI f))) 1 200 (nI 4) v_31 (fun σ_32 => some σ_32)) = _
      rw [ald_n (by omega) (by omega), ast_n (by omega) (by omega), f1]
      rfl
    refine ⟨_, _, tfu A f r, rfl, rfl, tk, ?_, ?_, ?_, ⟨fun q hq => by rw [gI_sI, if_neg (by omega), gI_sI, if_neg (by omega)], fun q hq => rfl⟩, ⟨fun q => rfl, fun q hq => by rw [gA_sA, if_neg hq, gA_sA, if_neg hq]⟩⟩
    · obtain ⟨⟨a0, a1, a2, a3, a4, a5⟩, h⟩ := wA
      exact ⟨⟨a0, a1, a2, show f ≤ 9 by omega, c, a5⟩, h⟩
    · obtain ⟨⟨y0, y1, y2, y3, y4, y5⟩, z⟩ := xA
      exact ⟨⟨y0, y1, y2, rfl, rfl, y5⟩, z⟩
    · rw [gA_sA, if_pos rfl]
      obtain ⟨⟨y0, y1, y2, y3, y4, y5⟩, z1, z2, z3⟩ := mA
      have o : ∀ j, j ≠ 3 → j ≠ 4 → upd (upd (gA τ 1) 3 (nI f)) 4 (nI r) j = gA τ 1 j := fun j j3 j4 => by rw [upd_ap, if_neg j4, upd_ap, if_neg j3]
      refine ⟨⟨(o 0 (by omega) (by omega)).trans y0, (o 1 (by omega) (by omega)).trans y1, (o 2 (by omega) (by omega)).trans y2, rfl, rfl, (o 5 (by omega) (by omega)).trans y5⟩, ?_, ?_, ?_⟩
      · intro i hi
        rw [o _ (by omega) (by omega), o _ (by omega) (by omega), o _ (by omega) (by omega)]
        exact z1 i hi
      · intro i hi
        rw [o _ (by omega) (by omega), o _ (by omega) (by omega), o _ (by omega) (by omega), o _ (by omega) (by omega)]
        exact z2 i hi
      · intro a b ha hb
        have e1 : wmin (tfu A f r) a b = wmin A a b := wf_eq _ (fun i _ => ⟨rfl, rfl, rfl⟩)
        have e2 : wlit (tfu A f r) a b = wlit A a b := wf_eq _ (fun i _ => ⟨rfl, rfl, rfl⟩)
        rw [e1, e2, o _ (by omega) (by omega), o _ (by omega) (by omega)]
        exact z3 a b ha hb
  · left
    rw [if_neg (show ¬ nI r ≤ 60 by rw [l60, nI_le_iff (by omega) (by omega)]; exact c), if_pos (show 60 < nI r by rw [l60, nI_lt_iff (by omega) (by omega)]; omega)]
    exact ⟨rfl, rfl⟩
theorem DRA {σ τ : ST} {A : TW} {d : Nat} (wA : WFT A) (xA : XT σ 15 28 A) (mA : MT (gA τ 1) A) (e4 : gI τ 4 = nI 4) (f0 : gA τ 6 0 = nI d) (hd : d < 10) : OUT (fX2_takeDriver_6 (nI d) σ) σ τ := by
  have I : fX5_isAsItMustBe τ = (if 5 < nI d then some (0, τ) else some (1, τ)) := by
    unfold fX5_isAsItMustBe
    rw [e4, if_neg (show ¬ nI 4 = 0 by decide), if_neg (show ¬ nI 4 = 1 by decide), if_neg (show ¬ nI 4 = 2 by decide), if_neg (show ¬ nI 4 = 3 by decide), show ald (gA τ 6) 4 0 = ald (gA τ 6) 4 (nI 0) from rfl, ald_n (by omega) (by omega), f0]
  unfold OUT
  rw [I]
  unfold fX2_takeDriver_6
  by_cases c : d ≤ 5
  · right
    rw [if_pos (show nI d ≤ 5 by rw [l5, nI_le_iff (by omega) (by omega)]; exact c), if_neg (show ¬ 5 < nI d by rw [l5, nI_lt_iff (by omega) (by omega)]; omega), bnd_ap]
    have tk : fX5_take τ = some (sA τ 1 (upd (gA τ 1) 5 (nI d))) := by
      unfold fX5_take
      rw [e4, if_neg (show ¬ nI 4 = 0 by decide), if_neg (show ¬ nI 4 = 1 by decide), if_neg (show ¬ nI 4 = 2 by decide), if_neg (show ¬ nI 4 = 3 by decide), show ald (gA τ 6) 4 0 = ald (gA τ 6) 4 (nI 0) from rfl, ald_n (by omega) (by omega), f0, show ast τ 1 200 5 = ast τ 1 200 (nI 5) from rfl, ast_n (by omega) (by omega)]
    refine ⟨_, _, tdr A d, rfl, rfl, tk, ?_, ?_, ?_, ⟨fun q hq => by rw [gI_sI, if_neg (by omega)], fun q hq => rfl⟩, ⟨fun q => rfl, fun q hq => by rw [gA_sA, if_neg hq]⟩⟩
    · obtain ⟨⟨a0, a1, a2, a3, a4, a5⟩, h⟩ := wA
      exact ⟨⟨a0, a1, a2, a3, a4, c⟩, h⟩
    · obtain ⟨⟨y0, y1, y2, y3, y4, y5⟩, z⟩ := xA
      exact ⟨⟨y0, y1, y2, y3, y4, rfl⟩, z⟩
    · rw [gA_sA, if_pos rfl]
      obtain ⟨⟨y0, y1, y2, y3, y4, y5⟩, z1, z2, z3⟩ := mA
      have o : ∀ j, j ≠ 5 → upd (gA τ 1) 5 (nI d) j = gA τ 1 j := fun j j5 => by rw [upd_ap, if_neg j5]
      refine ⟨⟨(o 0 (by omega)).trans y0, (o 1 (by omega)).trans y1, (o 2 (by omega)).trans y2, (o 3 (by omega)).trans y3, (o 4 (by omega)).trans y4, rfl⟩, ?_, ?_, ?_⟩
      · intro i hi
        rw [o _ (by omega), o _ (by omega), o _ (by omega)]
        exact z1 i hi
      · intro i hi
        rw [o _ (by omega), o _ (by omega), o _ (by omega), o _ (by omega)]
        exact z2 i hi
      · intro a b ha hb
        have e1 : wmin (tdr A d) a b = wmin A a b := wf_eq _ (fun i _ => ⟨rfl, rfl, rfl⟩)
        have e2 : wlit (tdr A d) a b = wlit A a b := wf_eq _ (fun i _ => ⟨rfl, rfl, rfl⟩)
        rw [e1, e2, o _ (by omega), o _ (by omega)]
        exact z3 a b ha hb
  · left
    rw [if_neg (show ¬ nI d ≤ 5 by rw [l5, nI_le_iff (by omega) (by omega)]; exact c), if_pos (show 5 < nI d by rw [l5, nI_lt_iff (by omega) (by omega)]; omega)]
    exact ⟨rfl, rfl⟩
