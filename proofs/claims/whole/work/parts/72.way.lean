/-! ===== a way added ===== -/
def hsW (A : TW) (a b i : Nat) : Prop := (A.2 3 i = a ∧ A.2 4 i = b) ∨ (A.2 3 i = b ∧ A.2 4 i = a)
theorem wf0 {A : TW} {a b : Nat} : ∀ n, (∀ i, i < n → 1 ≤ A.2 5 i) → (wfold A 5 a b n = 0 ↔ ∀ i, i < n → ¬ hsW A a b i) := by
  intro n
  induction n with
  | zero => intro _; exact ⟨fun _ i hi => absurd hi (by omega), fun _ => rfl⟩
  | succ n ih =>
    intro h
    have ih := ih (fun i hi => h i (by omega))
    rw [wfold]
    by_cases e : (A.2 3 n = a ∧ A.2 4 n = b) ∨ (A.2 3 n = b ∧ A.2 4 n = a)
    · rw [if_pos e]
      have := h n (by omega)
      exact ⟨fun q => by omega, fun q => absurd e (q n (by omega))⟩
    · rw [if_neg e, ih]
      constructor
      · intro q i hi
        by_cases z : i = n
        · rw [z]; exact e
        · exact q i (by omega)
      · intro q i hi
        exact q i (by omega)
theorem HWL {σ : ST} {A : TW} {a b : Nat} (wA : WFT A) (xA : XT σ 15 28 A) (ha : a < 10) (hb : b < 10) (ke : ST → Option (Int32 × ST)) : ∀ (r i fu : Nat), i + r = A.1 1 → r < fu → ((∃ q, i ≤ q ∧ q < A.1 1 ∧ hsW A a b q) → fX2_hasWay_6_L2 ke fu (nI a) (nI b) (nI i) σ = some (1, σ)) ∧ ((∀ q, i ≤ q → q < A.1 1 → ¬ hsW A a b q) → fX2_hasWay_6_L2 ke fu (nI a) (nI b) (nI i) σ = ke σ) := by
  have hW := wA.1.2.1
  have hP := wA.1.1
  have x1 : gI σ 16 = nI (A.1 1) := xA.1.2.1
  intro r
  induction r with
  | zero =>
    intro i fu h1 h2
    obtain ⟨fu, rfl⟩ : ∃ f, fu = f + 1 := ⟨fu - 1, by omega⟩
    refine ⟨fun ⟨q, q1, q2, _⟩ => by omega, fun _ => ?_⟩
    rw [fX2_hasWay_6_L2, x1, if_pos (by rw [nI_le_iff (by omega) (by omega)]; omega)]
  | succ r ih =>
    intro i fu h1 h2
    obtain ⟨fu, rfl⟩ : ∃ f, fu = f + 1 := ⟨fu - 1, by omega⟩
    obtain ⟨w3, w4, _⟩ := wA.2.2.1 i (by omega)
    obtain ⟨v3, v4, _⟩ := xA.2.2.1 i (by omega)
    have v3 : gA σ 31 i = nI (A.2 3 i) := v3
    have v4 : gA σ 32 i = nI (A.2 4 i) := v4
    have nx : nI i + 1 = nI (i + 1) := by rw [l1, na_add]
    have E3a : (nI (A.2 3 i) = nI a) ↔ A.2 3 i = a := nI_eq_iff (by omega) (by omega)
    have E4b : (nI (A.2 4 i) = nI b) ↔ A.2 4 i = b := nI_eq_iff (by omega) (by omega)
    have E3b : (nI (A.2 3 i) = nI b) ↔ A.2 3 i = b := nI_eq_iff (by omega) (by omega)
    have E4a : (nI (A.2 4 i) = nI a) ↔ A.2 4 i = a := nI_eq_iff (by omega) (by omega)
    have J : fX2_hasWay_6_J30 (fX2_hasWay_6_L2 ke fu) (nI a) (nI b) (nI i) σ = (if A.2 3 i = b ∧ A.2 4 i = a then some (1, σ) else fX2_hasWay_6_L2 ke fu (nI a) (nI b) (nI (i + 1)) σ) := by
      unfold fX2_hasWay_6_J30
      rw [ald_n (by omega) (by omega), ald_n (by omega) (by omega), v3, v4, bnd_ap, nx]
      simp only [E3b, E4a]
      by_cases q : A.2 3 i = b
      · rw [if_pos q]
        by_cases t : A.2 4 i = a
        · rw [if_pos t, if_pos ⟨q, t⟩]
        · rw [if_neg t, if_neg (fun h => t h.2)]
      · rw [if_neg q, if_neg (fun h => q h.1)]
    have S : fX2_hasWay_6_L2 ke (fu + 1) (nI a) (nI b) (nI i) σ = (if A.2 3 i = a ∧ A.2 4 i = b then some (1, σ) else if A.2 3 i = b ∧ A.2 4 i = a then some (1, σ) else fX2_hasWay_6_L2 ke fu (nI a) (nI b) (nI (i + 1)) σ) := by
      rw [fX2_hasWay_6_L2, x1, if_neg (by rw [nI_le_iff (by omega) (by omega)]; omega), ald_n (by omega) (by omega), ald_n (by omega) (by omega), v3, v4, J]
      simp only [E3a, E4b]
      by_cases q : A.2 3 i = a
      · rw [if_pos q]
        by_cases t : A.2 4 i = b
        · rw [if_pos t, if_pos (show A.2 3 i = a ∧ A.2 4 i = b from ⟨q, t⟩)]
        · rw [if_neg t, if_neg (show ¬ (A.2 3 i = a ∧ A.2 4 i = b) from fun h => t h.2)]
      · rw [if_neg q, if_neg (fun h : A.2 3 i = a ∧ A.2 4 i = b => q h.1)]
    obtain ⟨i1, i2⟩ := ih (i + 1) fu (by omega) (by omega)
    rw [S]
    constructor
    · rintro ⟨q, q1, q2, q3⟩
      by_cases c1 : A.2 3 i = a ∧ A.2 4 i = b
      · rw [if_pos c1]
      · rw [if_neg c1]
        by_cases c2 : A.2 3 i = b ∧ A.2 4 i = a
        · rw [if_pos c2]
        · rw [if_neg c2]
          apply i1
          refine ⟨q, ?_, q2, q3⟩
          by_cases z : q = i
          · rw [z] at q3
            rcases q3 with q3 | q3
            · exact absurd q3 c1
            · exact absurd q3 c2
          · omega
    · intro h
      have h0 := h i (by omega) (by omega)
      rw [if_neg (fun q => h0 (Or.inl q)), if_neg (fun q => h0 (Or.inr q))]
      exact i2 (fun q q1 q2 => h q (by omega) q2)
theorem WF_wy {A : TW} {a b m l : Nat} (wA : WFT A) (h : A.1 1 < 14) (ha : a < A.1 0) (hb : b < A.1 0) (hab : a ≠ b) (hm : 1 ≤ m ∧ m ≤ 60) (hl : l ≤ 9) (nw : ∀ i, i < A.1 1 → ¬ hsW A a b i) : WFT (twy A a b m l) := by
  obtain ⟨⟨a0, a1, a2, a3, a4, a5⟩, h1, h2, h3, h4⟩ := wA
  refine ⟨⟨a0, show A.1 1 + 1 ≤ 14 by omega, a2, a3, a4, a5⟩, ?_, ?_, ?_, ?_⟩
  · intro i hi
    have := h1 i hi
    show (if i = A.1 1 then A.2 0 i else A.2 0 i) ≤ 5 ∧ (if i = A.1 1 then A.2 1 i else A.2 1 i) ≤ 9 ∧ (if i = A.1 1 then A.2 2 i else A.2 2 i) ≤ 3
    rw [ite_self, ite_self, ite_self]
    exact this
  · intro i hi
    have hi : i < A.1 1 + 1 := hi
    show (if i = A.1 1 then a else A.2 3 i) < A.1 0 ∧ (if i = A.1 1 then b else A.2 4 i) < A.1 0 ∧ (if i = A.1 1 then a else A.2 3 i) ≠ (if i = A.1 1 then b else A.2 4 i) ∧ 1 ≤ (if i = A.1 1 then m else A.2 5 i) ∧ (if i = A.1 1 then m else A.2 5 i) ≤ 60 ∧ (if i = A.1 1 then l else A.2 6 i) ≤ 9
    by_cases e : i = A.1 1
    · rw [if_pos e, if_pos e, if_pos e, if_pos e]; exact ⟨ha, hb, hab, hm.1, hm.2, hl⟩
    · rw [if_neg e, if_neg e, if_neg e, if_neg e]; exact h2 i (by omega)
  · intro i j hi hj
    have hi : i < A.1 1 + 1 := hi
    have hj : j < A.1 1 + 1 := hj
    show ((if i = A.1 1 then a else A.2 3 i) = (if j = A.1 1 then a else A.2 3 j) ∧ (if i = A.1 1 then b else A.2 4 i) = (if j = A.1 1 then b else A.2 4 j)) ∨ ((if i = A.1 1 then a else A.2 3 i) = (if j = A.1 1 then b else A.2 4 j) ∧ (if i = A.1 1 then b else A.2 4 i) = (if j = A.1 1 then a else A.2 3 j)) → i = j
    by_cases ei : i = A.1 1
    · by_cases ej : j = A.1 1
      · intro _; omega
      · rw [if_pos ei, if_pos ei, if_neg ej, if_neg ej]
        intro q
        have := nw j (by omega)
        exact absurd (show hsW A a b j by rcases q with q | q; exact Or.inl ⟨q.1.symm, q.2.symm⟩; exact Or.inr ⟨q.2.symm, q.1.symm⟩) this
    · by_cases ej : j = A.1 1
      · rw [if_neg ei, if_neg ei, if_pos ej, if_pos ej]
        intro q
        have := nw i (by omega)
        exact absurd (show hsW A a b i from q) this
      · rw [if_neg ei, if_neg ei, if_neg ej, if_neg ej]
        exact h3 i j (by omega) (by omega)
  · intro i hi
    have := h4 i hi
    show (if i = A.1 1 then A.2 7 i else A.2 7 i) < A.1 0 ∧ 1 ≤ (if i = A.1 1 then A.2 8 i else A.2 8 i) ∧ (if i = A.1 1 then A.2 8 i else A.2 8 i) ≤ 60 ∧ (if i = A.1 1 then A.2 9 i else A.2 9 i) ≤ 99 ∧ (if i = A.1 1 then A.2 10 i else A.2 10 i) ≤ 999
    rw [ite_self, ite_self, ite_self, ite_self]
    exact this
theorem WYA {σ τ : ST} {A : TW} {a b m l : Nat} (wA : WFT A) (xA : XT σ 15 28 A) (mA : MT (gA τ 1) A) (e4 : gI τ 4 = nI 1) (f0 : gA τ 6 0 = nI a) (f1 : gA τ 6 1 = nI b) (f2 : gA τ 6 2 = nI m) (f3 : gA τ 6 3 = nI l) (ha : a < 10) (hb : b < 10) (hm : m < 100) (hl : l < 10) : OUT (fX2_addWay_6 (nI a) (nI b) (nI m) (nI l) σ) σ τ := by
  have hP := wA.1.1
  have hW := wA.1.2.1
  have x0 : gI σ 15 = nI (A.1 0) := xA.1.1
  have x1 : gI σ 16 = nI (A.1 1) := xA.1.2.1
  have m0 : gA τ 1 0 = nI (A.1 0) := mA.1.1
  have m1 : gA τ 1 1 = nI (A.1 1) := mA.1.2.1
  have b14 : (14 ≤ nI (A.1 1)) ↔ 14 ≤ A.1 1 := by rw [l14, nI_le_iff (by omega) (by omega)]
  have ba : (nI (A.1 0) ≤ nI a) ↔ A.1 0 ≤ a := nI_le_iff (by omega) (by omega)
  have bb : (nI (A.1 0) ≤ nI b) ↔ A.1 0 ≤ b := nI_le_iff (by omega) (by omega)
  have bab : (nI a = nI b) ↔ a = b := nI_eq_iff (by omega) (by omega)
  have b1 : (nI m < 1) ↔ m < 1 := by rw [l1, nI_lt_iff (by omega) (by omega)]
  have b60 : (nI m ≤ 60) ↔ m ≤ 60 := by rw [l60, nI_le_iff (by omega) (by omega)]
  by_cases pr : a < A.1 0 ∧ b < A.1 0 ∧ a ≠ b
  · obtain ⟨p1, p2, p3⟩ := pr
    have wm : gA τ 1 (60 + (8 * a + b)) = nI (wmin A a b) := (mA.2.2.2 a b (by omega) (by omega)).1
    have wz := wf0 (A := A) (a := a) (b := b) (A.1 1) (fun i hi => (wA.2.2.1 i hi).2.2.2.1)
    have wml : wmin A a b ≤ 60 := by
      have : ∀ n, n ≤ A.1 1 → wfold A 5 a b n ≤ 60 := by
        intro n
        induction n with
        | zero => intro _; exact Nat.zero_le _
        | succ n ih =>
          intro hn
          rw [wfold]
          split
          · exact (wA.2.2.1 n (by omega)).2.2.2.2.1
          · exact ih (by omega)
      exact this _ (Nat.le_refl _)
    have I : fX5_isAsItMustBe τ = (if nI m < 1 then some (0, τ) else if nI m ≤ 60 then (if nI (wmin A a b) = 0 then (if 14 ≤ nI (A.1 1) then some (0, τ) else some (1, τ)) else some (0, τ)) else some (0, τ)) := by
      unfold fX5_isAsItMustBe
      rw [e4, if_neg (show ¬ nI 1 = 0 by decide), if_pos (show nI 1 = 1 from rfl)]
      rw [show ald (gA τ 6) 4 0 = ald (gA τ 6) 4 (nI 0) from rfl, show ald (gA τ 6) 4 1 = ald (gA τ 6) 4 (nI 1) from rfl, show ald (gA τ 6) 4 2 = ald (gA τ 6) 4 (nI 2) from rfl, show ald (gA τ 1) 200 0 = ald (gA τ 1) 200 (nI 0) from rfl, show ald (gA τ 1) 200 1 = ald (gA τ 1) 200 (nI 1) from rfl]
      rw [ald_n (by omega) (by omega), ald_n (by omega) (by omega), f0, m0, if_neg (by rw [ba]; omega), ald_n (by omega) (by omega), ald_n (by omega) (by omega), f1, m0, if_neg (by rw [bb]; omega), ald_n (by omega) (by omega), ald_n (by omega) (by omega), f0, f1, if_neg (by rw [bab]; exact p3), ald_n (by omega) (by omega), f2, ald_n (by omega) (by omega), f2, ald_n (by omega) (by omega), ald_n (by omega) (by omega), f0, f1, show (60 : Int32) + 8 * nI a + nI b = nI (60 + (8 * a + b)) from by rw [l60, l8, pk_mul, na_add, na_add, Nat.add_assoc], ald_n (by omega) (by omega), wm, ald_n (by omega) (by omega), m1]
    have HW : fX2_hasWay_6 (nI a) (nI b) σ = some (if wmin A a b = 0 then 0 else 1, σ) := by
      unfold fX2_hasWay_6
      rw [bnd_ap]
      obtain ⟨h1, h2⟩ := HWL wA xA ha hb (fun σ_8 => some (0, σ_8)) (A.1 1) 0 FU (by omega) (by rw [FU_eq]; omega)
      by_cases z : wmin A a b = 0
      · rw [if_pos z]
        exact h2 (fun q _ hq => wz.mp z q hq)
      · rw [if_neg z]
        apply h1
        by_cases ex : ∃ q, 0 ≤ q ∧ q < A.1 1 ∧ hsW A a b q
        · exact ex
        · exact absurd (wz.mpr (fun i hi hh => ex ⟨i, by omega, hi, hh⟩)) z
    have zw : (nI (wmin A a b) = 0) ↔ wmin A a b = 0 := by rw [l0, nI_eq_iff (by omega) (by omega)]
    unfold OUT
    rw [I]
    unfold fX2_addWay_6
    rw [x0, x1, if_neg (show ¬ nI (A.1 0) ≤ nI a by rw [ba]; omega), if_neg (show ¬ nI (A.1 0) ≤ nI b by rw [bb]; omega), if_neg (show ¬ nI a = nI b by rw [bab]; exact p3), HW, cali_s]
    by_cases ok : (A.1 1 < 14 ∧ wmin A a b = 0 ∧ 1 ≤ m ∧ m ≤ 60)
    · right
      obtain ⟨k1, k2, k3, k4⟩ := ok
      have nw := wz.mp k2
      rw [if_neg (show ¬ 14 ≤ nI (A.1 1) by rw [b14]; omega), if_pos k2, if_pos rfl, if_neg (show ¬ nI m < 1 by rw [b1]; omega), if_pos (b60.mpr k4), if_pos (zw.mpr k2), if_neg (show ¬ 14 ≤ nI (A.1 1) by rw [b14]; omega), if_neg (show ¬ nI m < 1 by rw [b1]; omega), if_pos (b60.mpr k4), x1, ast_n (by omega) (by omega)]
      obtain ⟨σ1, s1⟩ : ∃ z, z = sA σ 31 (upd (gA σ 31) (A.1 1) (nI a)) := ⟨_, rfl⟩
      rw [← s1, show gI σ1 16 = nI (A.1 1) from by rw [s1]; exact x1, ast_n (by omega) (by omega)]
      obtain ⟨σ2, s2⟩ : ∃ z, z = sA σ1 32 (upd (gA σ1 32) (A.1 1) (nI b)) := ⟨_, rfl⟩
      rw [← s2, show gI σ2 16 = nI (A.1 1) from by rw [s2, s1]; exact x1, ast_n (by omega) (by omega)]
      obtain ⟨σ3, s3⟩ : ∃ z, z = sA σ2 33 (upd (gA σ2 33) (A.1 1) (nI m)) := ⟨_, rfl⟩
      rw [← s3, show gI σ3 16 = nI (A.1 1) from by rw [s3, s2, s1]; exact x1, ast_n (by omega) (by omega), bnd_ap]
      obtain ⟨σ4, s4⟩ : ∃ z, z = sI (sA σ3 34 (upd (gA σ3 34) (A.1 1) (nI l))) 16 (gI (sA σ3 34 (upd (gA σ3 34) (A.1 1) (nI l))) 16 + 1) := ⟨_, rfl⟩
      rw [← s4]
      have g16 : gI σ4 16 = nI (A.1 1 + 1) := by
        rw [s4, gI_sI, if_pos rfl, gI_sA, s3, s2, s1]
        show gI σ 16 + 1 = _
        rw [x1, l1, na_add]
      have gI' : ∀ q, q ≠ 16 → gI σ4 q = gI σ q := fun q hq => by rw [s4, gI_sI, if_neg hq, gI_sA, s3, s2, s1]; rfl
      have gA' : ∀ q, q < 31 ∨ 35 ≤ q → gA σ4 q = gA σ q := fun q h => by rw [s4, gA_sI, gA_sA, if_neg (by omega), s3, gA_sA, if_neg (by omega), s2, gA_sA, if_neg (by omega), s1, gA_sA, if_neg (by omega)]
      have a31 : gA σ4 31 = upd (gA σ 31) (A.1 1) (nI a) := by rw [s4, s3, s2, s1]; rfl
      have a32 : gA σ4 32 = upd (gA σ 32) (A.1 1) (nI b) := by rw [s4, s3, s2, s1]; rfl
      have a33 : gA σ4 33 = upd (gA σ 33) (A.1 1) (nI m) := by rw [s4, s3, s2, s1]; rfl
      have a34 : gA σ4 34 = upd (gA σ 34) (A.1 1) (nI l) := by rw [s4, s3, s2, s1]; rfl
      -- the reference's writes
      obtain ⟨τ1, t1⟩ : ∃ z, z = sA τ 1 (upd (gA τ 1) (60 + (8 * a + b)) (nI m)) := ⟨_, rfl⟩
      obtain ⟨τ2, t2⟩ : ∃ z, z = sA τ1 1 (upd (gA τ1 1) (130 + (8 * a + b)) (nI l)) := ⟨_, rfl⟩
      obtain ⟨τ3, t3⟩ : ∃ z, z = sA τ2 1 (upd (gA τ2 1) (60 + (8 * b + a)) (nI m)) := ⟨_, rfl⟩
      obtain ⟨τ4, t4⟩ : ∃ z, z = sA τ3 1 (upd (gA τ3 1) (130 + (8 * b + a)) (nI l)) := ⟨_, rfl⟩
      have r1 : gA τ1 1 = upd (gA τ 1) (60 + (8 * a + b)) (nI m) := by rw [t1, gA_sA, if_pos rfl]
      have r2 : gA τ2 1 = upd (gA τ1 1) (130 + (8 * a + b)) (nI l) := by rw [t2, gA_sA, if_pos rfl]
      have r3 : gA τ3 1 = upd (gA τ2 1) (60 + (8 * b + a)) (nI m) := by rw [t3, gA_sA, if_pos rfl]
      have r4 : gA τ4 1 = upd (gA τ3 1) (130 + (8 * b + a)) (nI l) := by rw [t4, gA_sA, if_pos rfl]
      have o4 : ∀ j, j < 60 → gA τ4 1 j = gA τ 1 j := fun j hj => by rw [r4, upd_ap, if_neg (by omega), r3, upd_ap, if_neg (by omega), r2, upd_ap, if_neg (by omega), r1, upd_ap, if_neg (by omega)]
      have F : gA τ1 6 = gA τ 6 ∧ gA τ2 6 = gA τ 6 ∧ gA τ3 6 = gA τ 6 := by rw [t3, t2, t1]; exact ⟨rfl, rfl, rfl⟩
      have st : ∀ (ke : ST → Option ST) (fu : Nat) (y : ST) (ii ji : Int32) (i j fa fb : Nat), ii = nI i → 1 - ii = nI j → i < 2 → j < 2 → gA y 6 = gA τ 6 → gA τ 6 i = nI fa → gA τ 6 j = nI fb → fa < 8 → fb < 8 → fX5_take_L88 ke (fu + 1) ii y = fX5_take_L88 ke fu (nI (i + 1)) (sA (sA y 1 (upd (gA y 1) (60 + (8 * fa + fb)) (nI m))) 1 (upd (gA (sA y 1 (upd (gA y 1) (60 + (8 * fa + fb)) (nI m))) 1) (130 + (8 * fa + fb)) (nI l))) := by
        intro ke fu y ii ji i j fa fb e1 e2 hi hj ey efa efb h8 h8'
        rw [fX5_take_L88, e2, e1, if_neg (by rw [l2, nI_le_iff (by omega) (by omega)]; omega), ald_n (by omega) (by omega), ald_n (by omega) (by omega), ey, efa, efb, bnd_ap, show ald (gA τ 6) 4 2 = ald (gA τ 6) 4 (nI 2) from rfl, ald_n (by omega) (by omega), f2, show (8 : Int32) * nI fa + nI fb = nI (8 * fa + fb) from by rw [l8, pk_mul, na_add], show (60 : Int32) + nI (8 * fa + fb) = nI (60 + (8 * fa + fb)) from by rw [l60, na_add], ast_n (by omega) (by omega), show ald (gA (sA y 1 (upd (gA y 1) (60 + (8 * fa + fb)) (nI m))) 6) 4 3 = ald (gA y 6) 4 (nI 3) from rfl, ald_n (by omega) (by omega), ey, f3, show (130 : Int32) + nI (8 * fa + fb) = nI (130 + (8 * fa + fb)) from by rw [l130, na_add], ast_n (by omega) (by omega), bnd_ap, l1, na_add]
      have tk : fX5_take τ = some (sA τ4 1 (upd (gA τ4 1) 1 (nI (A.1 1 + 1)))) := by
        unfold fX5_take
        rw [e4, if_neg (show ¬ nI 1 = 0 by decide), if_pos (show nI 1 = 1 from rfl), bnd_ap, FU_eq, st _ 999 τ 0 0 0 1 a b rfl (by decide) (by omega) (by omega) rfl f0 f1 (by omega) (by omega), ← t1, ← t2, st _ 998 τ2 (nI (0 + 1)) 0 1 0 b a rfl (by decide) (by omega) (by omega) F.2.1 f1 f0 (by omega) (by omega), ← t3, ← t4, fX5_take_L88, if_pos (by decide), show ald (gA τ4 1) 200 1 = ald (gA τ4 1) 200 (nI 1) from rfl, ald_n (by omega) (by omega), show ast τ4 1 200 1 = ast τ4 1 200 (nI 1) from rfl, ast_n (by omega) (by omega), o4 1 (by omega), m1, l1, na_add]
      refine ⟨σ4, _, twy A a b m l, rfl, rfl, tk, WF_wy wA k1 p1 p2 p3 ⟨k3, k4⟩ (by omega) nw, ?_, ?_, ⟨fun q hq => gI' q (by omega), fun q hq => gA' q (by omega)⟩, ⟨fun q => by rw [gI_sA, t4, t3, t2, t1]; rfl, fun q hq => by rw [gA_sA, if_neg hq, t4, gA_sA, if_neg hq, t3, gA_sA, if_neg hq, t2, gA_sA, if_neg hq, t1, gA_sA, if_neg hq]⟩⟩
      · obtain ⟨⟨y0, y1, y2, y3, y4, y5⟩, z1, z2, z3⟩ := xA
        refine ⟨⟨(gI' 15 (by omega)).trans y0, g16, (gI' 17 (by omega)).trans y2, (gI' 18 (by omega)).trans y3, (gI' 19 (by omega)).trans y4, (gI' 20 (by omega)).trans y5⟩, ?_, ?_, ?_⟩
        · intro i hi
          show gA σ4 28 i = nI (if i = A.1 1 then A.2 0 i else A.2 0 i) ∧ gA σ4 29 i = nI (if i = A.1 1 then A.2 1 i else A.2 1 i) ∧ gA σ4 30 i = nI (if i = A.1 1 then A.2 2 i else A.2 2 i)
          rw [ite_self, ite_self, ite_self, gA' 28 (by omega), gA' 29 (by omega), gA' 30 (by omega)]
          exact z1 i hi
        · intro i hi
          have hi : i < A.1 1 + 1 := hi
          show gA σ4 31 i = nI (if i = A.1 1 then a else A.2 3 i) ∧ gA σ4 32 i = nI (if i = A.1 1 then b else A.2 4 i) ∧ gA σ4 33 i = nI (if i = A.1 1 then m else A.2 5 i) ∧ gA σ4 34 i = nI (if i = A.1 1 then l else A.2 6 i)
          rw [a31, a32, a33, a34, upd_ap, upd_ap, upd_ap, upd_ap]
          by_cases e : i = A.1 1
          · rw [if_pos e, if_pos e, if_pos e, if_pos e, if_pos e, if_pos e, if_pos e, if_pos e]; exact ⟨rfl, rfl, rfl, rfl⟩
          · rw [if_neg e, if_neg e, if_neg e, if_neg e, if_neg e, if_neg e, if_neg e, if_neg e]; exact z2 i (by omega)
        · intro i hi
          show gA σ4 35 i = nI (if i = A.1 1 then A.2 7 i else A.2 7 i) ∧ gA σ4 36 i = nI (if i = A.1 1 then A.2 8 i else A.2 8 i) ∧ gA σ4 37 i = nI (if i = A.1 1 then A.2 9 i else A.2 9 i) ∧ gA σ4 38 i = nI (if i = A.1 1 then A.2 10 i else A.2 10 i)
          rw [ite_self, ite_self, ite_self, ite_self, gA' 35 (by omega), gA' 36 (by omega), gA' 37 (by omega), gA' 38 (by omega)]
          exact z3 i hi
      · rw [gA_sA, if_pos rfl]
        obtain ⟨⟨y0, y1, y2, y3, y4, y5⟩, z1, z2, z3⟩ := mA
        have o : ∀ j, j ≠ 1 → j < 60 → upd (gA τ4 1) 1 (nI (A.1 1 + 1)) j = gA τ 1 j := by
          intro j j0 hj
          rw [upd_ap, if_neg j0]
          exact o4 j hj
        refine ⟨⟨(o 0 (by omega) (by omega)).trans y0, by rw [upd_ap, if_pos rfl]; rfl, (o 2 (by omega) (by omega)).trans y2, (o 3 (by omega) (by omega)).trans y3, (o 4 (by omega) (by omega)).trans y4, (o 5 (by omega) (by omega)).trans y5⟩, ?_, ?_, ?_⟩
        · intro i hi
          have hi : i < A.1 0 := hi
          show upd (gA τ4 1) 1 (nI (A.1 1 + 1)) (10 + 3 * i) = nI (if i = A.1 1 then A.2 0 i else A.2 0 i) ∧ upd (gA τ4 1) 1 (nI (A.1 1 + 1)) (10 + 3 * i + 1) = nI (if i = A.1 1 then A.2 1 i else A.2 1 i) ∧ upd (gA τ4 1) 1 (nI (A.1 1 + 1)) (10 + 3 * i + 2) = nI (if i = A.1 1 then A.2 2 i else A.2 2 i)
          rw [ite_self, ite_self, ite_self, o _ (by omega) (by omega), o _ (by omega) (by omega), o _ (by omega) (by omega)]
          exact z1 i hi
        · intro i hi
          have hi : i < A.1 2 := hi
          have hE := wA.1.2.2.1
          show upd (gA τ4 1) 1 (nI (A.1 1 + 1)) (40 + 4 * i) = nI (if i = A.1 1 then A.2 7 i else A.2 7 i) ∧ upd (gA τ4 1) 1 (nI (A.1 1 + 1)) (40 + 4 * i + 1) = nI (if i = A.1 1 then A.2 8 i else A.2 8 i) ∧ upd (gA τ4 1) 1 (nI (A.1 1 + 1)) (40 + 4 * i + 2) = nI (if i = A.1 1 then A.2 9 i else A.2 9 i) ∧ upd (gA τ4 1) 1 (nI (A.1 1 + 1)) (40 + 4 * i + 3) = nI (if i = A.1 1 then A.2 10 i else A.2 10 i)
          rw [ite_self, ite_self, ite_self, ite_self, o _ (by omega) (by omega), o _ (by omega) (by omega), o _ (by omega) (by omega), o _ (by omega) (by omega)]
          exact z2 i hi
        · intro x y hx hy
          obtain ⟨z5, z6⟩ := z3 x y hx hy
          have w5 : ∀ q, (∀ i, (twy A a b m l).2 3 i = if i = A.1 1 then a else A.2 3 i) → wfold (twy A a b m l) q x y (A.1 1 + 1) = if (a = x ∧ b = y) ∨ (a = y ∧ b = x) then (twy A a b m l).2 q (A.1 1) else wfold (twy A a b m l) q x y (A.1 1) := by
            intro q _
            rw [wfold, show (twy A a b m l).2 3 (A.1 1) = a from if_pos rfl, show (twy A a b m l).2 4 (A.1 1) = b from if_pos rfl]
          have lo : ∀ q, wfold (twy A a b m l) q x y (A.1 1) = wfold A q x y (A.1 1) := fun q => wf_eq _ (fun i hi => ⟨if_neg (by omega), if_neg (by omega), if_neg (by omega)⟩)
          have e1 : wmin (twy A a b m l) x y = if (a = x ∧ b = y) ∨ (a = y ∧ b = x) then m else wmin A x y := by
            show wfold (twy A a b m l) 5 x y (A.1 1 + 1) = _
            rw [w5 5 (fun _ => rfl), lo 5, show (twy A a b m l).2 5 (A.1 1) = m from if_pos rfl]
            rfl
          have e2 : wlit (twy A a b m l) x y = if (a = x ∧ b = y) ∨ (a = y ∧ b = x) then l else wlit A x y := by
            show wfold (twy A a b m l) 6 x y (A.1 1 + 1) = _
            rw [w5 6 (fun _ => rfl), lo 6, show (twy A a b m l).2 6 (A.1 1) = l from if_pos rfl]
            rfl
          rw [e1, e2]
          by_cases c1 : a = y ∧ b = x
          · rw [if_pos (Or.inr c1), if_pos (Or.inr c1)]
            refine ⟨?_, ?_⟩
            · rw [upd_ap, if_neg (by omega), r4, upd_ap, if_neg (by omega), r3, upd_ap, if_pos (by omega)]
            · rw [upd_ap, if_neg (by omega), r4, upd_ap, if_pos (by omega)]
          · by_cases c2 : a = x ∧ b = y
            · rw [if_pos (Or.inl c2), if_pos (Or.inl c2)]
              refine ⟨?_, ?_⟩
              · rw [upd_ap, if_neg (by omega), r4, upd_ap, if_neg (by omega), r3, upd_ap, if_neg (by omega), r2, upd_ap, if_neg (by omega), r1, upd_ap, if_pos (by omega)]
              · rw [upd_ap, if_neg (by omega), r4, upd_ap, if_neg (by omega), r3, upd_ap, if_neg (by omega), r2, upd_ap, if_pos (by omega)]
            · have cc : ¬ ((a = x ∧ b = y) ∨ (a = y ∧ b = x)) := fun q => by rcases q with q | q; exact c2 q; exact c1 q
              rw [if_neg cc, if_neg cc]
              refine ⟨?_, ?_⟩
              · rw [upd_ap, if_neg (by omega), r4, upd_ap, if_neg (by omega), r3, upd_ap, if_neg (by omega), r2, upd_ap, if_neg (by omega), r1, upd_ap, if_neg (by omega)]; exact z5
              · rw [upd_ap, if_neg (by omega), r4, upd_ap, if_neg (by omega), r3, upd_ap, if_neg (by omega), r2, upd_ap, if_neg (by omega), r1, upd_ap, if_neg (by omega)]; exact z6
    · left
      refine ⟨?_, ?_⟩
      · by_cases q : 14 ≤ A.1 1
        · rw [if_pos (b14.mpr q)]
        rw [if_neg (by rw [b14]; exact q)]
        by_cases q : wmin A a b = 0
        · rw [if_pos q, if_pos rfl]
          by_cases q : m < 1
          · rw [if_pos (b1.mpr q)]
          rw [if_neg (by rw [b1]; exact q), if_neg (by rw [b60]; omega)]
        · rw [if_neg q, if_neg n10]
      · by_cases q : m < 1
        · rw [if_pos (b1.mpr q)]
        rw [if_neg (by rw [b1]; exact q)]
        by_cases q : m ≤ 60
        · rw [if_pos (b60.mpr q)]
          by_cases q : wmin A a b = 0
          · rw [if_pos (zw.mpr q), if_pos (b14.mpr (by omega))]
          · rw [if_neg (by rw [zw]; exact q)]
        · rw [if_neg (by rw [b60]; exact q)]
  · left
    refine ⟨?_, ?_⟩
    · unfold fX2_addWay_6
      rw [x0, x1]
      by_cases q : A.1 0 ≤ a
      · rw [if_pos (ba.mpr q), ite_self]
      rw [if_neg (show ¬ nI (A.1 0) ≤ nI a by rw [ba]; exact q)]
      by_cases q : A.1 0 ≤ b
      · rw [if_pos (bb.mpr q), ite_self]
      rw [if_neg (show ¬ nI (A.1 0) ≤ nI b by rw [bb]; exact q), if_pos (bab.mpr (by omega)), ite_self]
    · unfold fX5_isAsItMustBe
      rw [e4, if_neg (show ¬ nI 1 = 0 by decide), if_pos (show nI 1 = 1 from rfl)]
      rw [show ald (gA τ 6) 4 0 = ald (gA τ 6) 4 (nI 0) from rfl, show ald (gA τ 6) 4 1 = ald (gA τ 6) 4 (nI 1) from rfl, show ald (gA τ 1) 200 0 = ald (gA τ 1) 200 (nI 0) from rfl]
      rw [ald_n (by omega) (by omega), ald_n (by omega) (by omega), f0, m0]
      by_cases q : A.1 0 ≤ a
      · rw [if_pos (ba.mpr q)]
      rw [if_neg (show ¬ nI (A.1 0) ≤ nI a by rw [ba]; exact q), ald_n (by omega) (by omega), ald_n (by omega) (by omega), f1, m0]
      by_cases q : A.1 0 ≤ b
      · rw [if_pos (bb.mpr q)]
      rw [if_neg (show ¬ nI (A.1 0) ≤ nI b by rw [bb]; exact q), ald_n (by omega) (by omega), ald_n (by omega) (by omega), f0, f1, if_pos (bab.mpr (by omega))]
