/-! ===== what a statement adds to a town ===== -/
def tpl (A : TW) (k s u : Nat) : TW := (fun i => if i = 0 then A.1 0 + 1 else A.1 i, fun r i => if i = A.1 0 then (if r = 0 then k else if r = 1 then s else if r = 2 then u else A.2 r i) else A.2 r i)
def twy (A : TW) (a b m l : Nat) : TW := (fun i => if i = 1 then A.1 1 + 1 else A.1 i, fun r i => if i = A.1 1 then (if r = 3 then a else if r = 4 then b else if r = 5 then m else if r = 6 then l else A.2 r i) else A.2 r i)
def ter (A : TW) (p d w t : Nat) : TW := (fun i => if i = 2 then A.1 2 + 1 else A.1 i, fun r i => if i = A.1 2 then (if r = 7 then p else if r = 8 then d else if r = 9 then w else if r = 10 then t else A.2 r i) else A.2 r i)
def tfu (A : TW) (f r : Nat) : TW := (fun i => if i = 3 then f else if i = 4 then r else A.1 i, A.2)
def tdr (A : TW) (d : Nat) : TW := (fun i => if i = 5 then d else A.1 i, A.2)
theorem wf_eq {A B : TW} {q a b : Nat} : ∀ n, (∀ i, i < n → B.2 3 i = A.2 3 i ∧ B.2 4 i = A.2 4 i ∧ B.2 q i = A.2 q i) → wfold B q a b n = wfold A q a b n := by
  intro n
  induction n with
  | zero => intro _; rfl
  | succ n ih =>
    intro h
    obtain ⟨h1, h2, h3⟩ := h n (by omega)
    rw [wfold, wfold, h1, h2, h3, ih (fun i hi => h i (by omega))]
def trX (σ σ' : ST) : Prop := (∀ k, k < 15 ∨ 21 ≤ k → gI σ' k = gI σ k) ∧ (∀ k, k < 28 ∨ 39 ≤ k → gA σ' k = gA σ k)
def trM (τ τ' : ST) : Prop := (∀ k, gI τ' k = gI τ k) ∧ (∀ k, k ≠ 1 → gA τ' k = gA τ k)
def OUT (f : Option (Int32 × ST)) (σ τ : ST) : Prop := (f = some (0, σ) ∧ fX5_isAsItMustBe τ = some (0, τ)) ∨ ∃ σ' τ' A', f = some (1, σ') ∧ fX5_isAsItMustBe τ = some (1, τ) ∧ fX5_take τ = some τ' ∧ WFT A' ∧ XT σ' 15 28 A' ∧ MT (gA τ' 1) A' ∧ trX σ σ' ∧ trM τ τ'
/-! places -/
theorem WF_pl {A : TW} {k s u : Nat} (wA : WFT A) (h : A.1 0 < 8) (hk : k < 6) (hs : s < 10) (hu : u ≤ 3) : WFT (tpl A k s u) := by
  obtain ⟨⟨a0, a1, a2, a3, a4, a5⟩, h1, h2, h3, h4⟩ := wA
  refine ⟨⟨show A.1 0 + 1 ≤ 8 by omega, a1, a2, a3, a4, a5⟩, ?_, ?_, ?_, ?_⟩
  · intro i hi
    have hi : i < A.1 0 + 1 := hi
    show (if i = A.1 0 then k else A.2 0 i) ≤ 5 ∧ (if i = A.1 0 then s else A.2 1 i) ≤ 9 ∧ (if i = A.1 0 then u else A.2 2 i) ≤ 3
    by_cases e : i = A.1 0
    · rw [if_pos e, if_pos e, if_pos e]; omega
    · rw [if_neg e, if_neg e, if_neg e]; exact h1 i (by omega)
  · intro i hi
    have := h2 i hi
    show (if i = A.1 0 then A.2 3 i else A.2 3 i) < A.1 0 + 1 ∧ (if i = A.1 0 then A.2 4 i else A.2 4 i) < A.1 0 + 1 ∧ (if i = A.1 0 then A.2 3 i else A.2 3 i) ≠ (if i = A.1 0 then A.2 4 i else A.2 4 i) ∧ 1 ≤ (if i = A.1 0 then A.2 5 i else A.2 5 i) ∧ (if i = A.1 0 then A.2 5 i else A.2 5 i) ≤ 60 ∧ (if i = A.1 0 then A.2 6 i else A.2 6 i) ≤ 9
    rw [ite_self, ite_self, ite_self, ite_self]
    exact ⟨by omega, by omega, this.2.2.1, this.2.2.2.1, this.2.2.2.2.1, this.2.2.2.2.2⟩
  · intro i j hi hj
    show ((if i = A.1 0 then A.2 3 i else A.2 3 i) = (if j = A.1 0 then A.2 3 j else A.2 3 j) ∧ (if i = A.1 0 then A.2 4 i else A.2 4 i) = (if j = A.1 0 then A.2 4 j else A.2 4 j)) ∨ ((if i = A.1 0 then A.2 3 i else A.2 3 i) = (if j = A.1 0 then A.2 4 j else A.2 4 j) ∧ (if i = A.1 0 then A.2 4 i else A.2 4 i) = (if j = A.1 0 then A.2 3 j else A.2 3 j)) → i = j
    rw [ite_self, ite_self, ite_self, ite_self]
    exact h3 i j hi hj
  · intro i hi
    have := h4 i hi
    show (if i = A.1 0 then A.2 7 i else A.2 7 i) < A.1 0 + 1 ∧ 1 ≤ (if i = A.1 0 then A.2 8 i else A.2 8 i) ∧ (if i = A.1 0 then A.2 8 i else A.2 8 i) ≤ 60 ∧ (if i = A.1 0 then A.2 9 i else A.2 9 i) ≤ 99 ∧ (if i = A.1 0 then A.2 10 i else A.2 10 i) ≤ 999
    rw [ite_self, ite_self, ite_self, ite_self]
    exact ⟨by omega, this.2⟩
theorem PLA {σ τ : ST} {A : TW} {k s u : Nat} (wA : WFT A) (xA : XT σ 15 28 A) (mA : MT (gA τ 1) A) (e4 : gI τ 4 = nI 0) (f0 : gA τ 6 0 = nI k) (f1 : gA τ 6 1 = nI s) (f2 : gA τ 6 2 = nI u) (hk : k < 6) (hs : s < 10) (hu : u < 10) : OUT (fX2_addPlace_6 (nI k) (nI s) (nI u) σ) σ τ := by
  have hP := wA.1.1
  have x0 : gI σ 15 = nI (A.1 0) := xA.1.1
  have m0 : gA τ 1 0 = nI (A.1 0) := mA.1.1
  have I : fX5_isAsItMustBe τ = (if 3 < nI u then some (0, τ) else if 8 ≤ nI (A.1 0) then some (0, τ) else some (1, τ)) := by
    unfold fX5_isAsItMustBe
    rw [e4, if_pos (show nI 0 = 0 from rfl), show ald (gA τ 6) 4 2 = ald (gA τ 6) 4 (nI 2) from rfl, ald_n (by omega) (by omega), f2, show ald (gA τ 1) 200 0 = ald (gA τ 1) 200 (nI 0) from rfl, ald_n (by omega) (by omega), m0]
  unfold OUT
  rw [I]
  unfold fX2_addPlace_6
  rw [x0]
  by_cases c1 : 8 ≤ A.1 0
  · left
    rw [if_pos (show 8 ≤ nI (A.1 0) by rw [l8, nI_le_iff (by omega) (by omega)]; exact c1), if_pos (show 8 ≤ nI (A.1 0) by rw [l8, nI_le_iff (by omega) (by omega)]; exact c1), ite_self]
    exact ⟨rfl, rfl⟩
  · have c1' : ¬ 8 ≤ nI (A.1 0) := by rw [l8, nI_le_iff (by omega) (by omega)]; exact c1
    by_cases c2 : u ≤ 3
    · right
      have c2' : ¬ 3 < nI u := by rw [l3, nI_lt_iff (by omega) (by omega)]; omega
      rw [if_neg c1', if_pos (show nI u ≤ 3 by rw [l3, nI_le_iff (by omega) (by omega)]; exact c2), ast_n (by omega) (by omega)]
      rw [show gI (sA σ 28 (upd (gA σ 28) (A.1 0) (nI k))) 15 = nI (A.1 0) from x0, ast_n (by omega) (by omega)]
      obtain ⟨σ2, s2⟩ : ∃ z, z = sA (sA σ 28 (upd (gA σ 28) (A.1 0) (nI k))) 29 (upd (gA (sA σ 28 (upd (gA σ 28) (A.1 0) (nI k))) 29) (A.1 0) (nI s)) := ⟨_, rfl⟩
      rw [← s2, show gI σ2 15 = nI (A.1 0) from by rw [s2]; exact x0, ast_n (by omega) (by omega), bnd_ap]
      obtain ⟨σ4, s4⟩ : ∃ z, z = sI (sA σ2 30 (upd (gA σ2 30) (A.1 0) (nI u))) 15 (gI (sA σ2 30 (upd (gA σ2 30) (A.1 0) (nI u))) 15 + 1) := ⟨_, rfl⟩
      rw [← s4]
      have g15 : gI σ4 15 = nI (A.1 0 + 1) := by
        rw [s4, gI_sI, if_pos rfl, gI_sA, s2]
        show gI σ 15 + 1 = _
        rw [x0, l1, na_add]
      have gI' : ∀ q, q ≠ 15 → gI σ4 q = gI σ q := fun q hq => by rw [s4, gI_sI, if_neg hq, gI_sA, s2]; rfl
      have gA' : ∀ q, q ≠ 28 → q ≠ 29 → q ≠ 30 → gA σ4 q = gA σ q := fun q h1 h2 h3 => by rw [s4, gA_sI, gA_sA, if_neg h3, s2, gA_sA, if_neg h2, gA_sA, if_neg h1]
      have a28 : gA σ4 28 = upd (gA σ 28) (A.1 0) (nI k) := by rw [s4, s2]; rfl
      have a29 : gA σ4 29 = upd (gA σ 29) (A.1 0) (nI s) := by rw [s4, s2]; rfl
      have a30 : gA σ4 30 = upd (gA σ 30) (A.1 0) (nI u) := by rw [s4, s2]; rfl
      obtain ⟨w', hw'⟩ : ∃ z : Nat → Int32, z = upd (upd (upd (upd (gA τ 1) (10 + 3 * A.1 0 + 0) (nI k)) (10 + 3 * A.1 0 + 1) (nI s)) (10 + 3 * A.1 0 + 2) (nI u)) 0 (nI (A.1 0 + 1)) := ⟨_, rfl⟩
      have st : ∀ (ke : ST → Option ST) (fu i : Nat) (t : ST), i < 3 → gA t 1 0 = nI (A.1 0) → fX5_take_L38 ke (fu + 1) (nI i) t = fX5_take_L38 ke fu (nI (i + 1)) (sA t 1 (upd (gA t 1) (10 + 3 * A.1 0 + i) (gA t 6 i))) := by
        intro ke fu i t hi e
        rw [fX5_take_L38, if_neg (by rw [l3, nI_le_iff (by omega) (by omega)]; omega), show ald (gA t 1) 200 0 = ald (gA t 1) 200 (nI 0) from rfl, ald_n (by omega) (by omega), ald_n (by omega) (by omega), e, ix3, ast_n (by omega) (by omega), bnd_ap, l1, na_add]
      have tk : fX5_take τ = some (sA (sA (sA (sA τ 1 (upd (gA τ 1) (10 + 3 * A.1 0 + 0) (nI k))) 1 (upd (upd (gA τ 1) (10 + 3 * A.1 0 + 0) (nI k)) (10 + 3 * A.1 0 + 1) (nI s))) 1 (upd (upd (upd (gA τ 1) (10 + 3 * A.1 0 + 0) (nI k)) (10 + 3 * A.1 0 + 1) (nI s)) (10 + 3 * A.1 0 + 2) (nI u))) 1 w') := by
        unfold fX5_take
        rw [e4, if_pos (show nI 0 = 0 from rfl), bnd_ap, FU_eq, show (0 : Int32) = nI 0 from rfl, st _ 999 0 τ (by omega) m0, f0]
        rw [st _ 998 1 _ (by omega) (by show upd _ _ _ 0 = _; rw [upd_ap, if_neg (by omega)]; exact m0)]
        rw [st _ 997 2 _ (by omega) (by show upd _ _ _ 0 = _; rw [upd_ap, if_neg (by omega)]; exact m0)]
        rw [fX5_take_L38, if_pos (by decide), ald_n (by omega) (by omega), ast_n (by omega) (by omega)]
        show some (sA (sA (sA (sA τ 1 (upd (gA τ 1) (10 + 3 * A.1 0 + 0) (nI k))) 1 (upd (upd (gA τ 1) (10 + 3 * A.1 0 + 0) (nI k)) (10 + 3 * A.1 0 + 1) (gA τ 6 1))) 1 (upd (upd (upd (gA τ 1) (10 + 3 * A.1 0 + 0) (nI k)) (10 + 3 * A.1 0 + 1) (gA τ 6 1)) (10 + 3 * A.1 0 + 2) (gA τ 6 2))) 1 (upd (upd (upd (upd (gA τ 1) (10 + 3 * A.1 0 + 0) (nI k)) (10 + 3 * A.1 0 + 1) (gA τ 6 1)) (10 + 3 * A.1 0 + 2) (gA τ 6 2)) 0 (upd (upd (upd (gA τ 1) (10 + 3 * A.1 0 + 0) (nI k)) (10 + 3 * A.1 0 + 1) (gA τ 6 1)) (10 + 3 * A.1 0 + 2) (gA τ 6 2) 0 + 1))) = _
        rw [f1, f2, upd_ap _ (10 + 3 * A.1 0 + 2) _ 0, if_neg (by omega), upd_ap _ (10 + 3 * A.1 0 + 1) _ 0, if_neg (by omega), upd_ap _ (10 + 3 * A.1 0 + 0) _ 0, if_neg (by omega), m0, l1, na_add, ← hw']
      refine ⟨σ4, _, tpl A k s u, rfl, by rw [if_neg c2', if_neg c1'], tk, WF_pl wA (by omega) hk hs c2, ?_, ?_, ⟨fun q hq => gI' q (by omega), fun q hq => gA' q (by omega) (by omega) (by omega)⟩, ⟨fun _ => rfl, fun q hq => by rw [gA_sA, if_neg hq, gA_sA, if_neg hq, gA_sA, if_neg hq, gA_sA, if_neg hq]⟩⟩
      · obtain ⟨⟨y0, y1, y2, y3, y4, y5⟩, z1, z2, z3⟩ := xA
        refine ⟨⟨g15, (gI' 16 (by omega)).trans y1, (gI' 17 (by omega)).trans y2, (gI' 18 (by omega)).trans y3, (gI' 19 (by omega)).trans y4, (gI' 20 (by omega)).trans y5⟩, ?_, ?_, ?_⟩
        · intro i hi
          have hi : i < A.1 0 + 1 := hi
          show gA σ4 28 i = nI (if i = A.1 0 then k else A.2 0 i) ∧ gA σ4 29 i = nI (if i = A.1 0 then s else A.2 1 i) ∧ gA σ4 30 i = nI (if i = A.1 0 then u else A.2 2 i)
          rw [a28, a29, a30, upd_ap, upd_ap, upd_ap]
          by_cases e : i = A.1 0
          · rw [if_pos e, if_pos e, if_pos e, if_pos e, if_pos e, if_pos e]; exact ⟨rfl, rfl, rfl⟩
          · rw [if_neg e, if_neg e, if_neg e, if_neg e, if_neg e, if_neg e]; exact z1 i (by omega)
        · intro i hi
          show gA σ4 31 i = nI (if i = A.1 0 then A.2 3 i else A.2 3 i) ∧ gA σ4 32 i = nI (if i = A.1 0 then A.2 4 i else A.2 4 i) ∧ gA σ4 33 i = nI (if i = A.1 0 then A.2 5 i else A.2 5 i) ∧ gA σ4 34 i = nI (if i = A.1 0 then A.2 6 i else A.2 6 i)
          rw [ite_self, ite_self, ite_self, ite_self, gA' 31 (by omega) (by omega) (by omega), gA' 32 (by omega) (by omega) (by omega), gA' 33 (by omega) (by omega) (by omega), gA' 34 (by omega) (by omega) (by omega)]
          exact z2 i hi
        · intro i hi
          show gA σ4 35 i = nI (if i = A.1 0 then A.2 7 i else A.2 7 i) ∧ gA σ4 36 i = nI (if i = A.1 0 then A.2 8 i else A.2 8 i) ∧ gA σ4 37 i = nI (if i = A.1 0 then A.2 9 i else A.2 9 i) ∧ gA σ4 38 i = nI (if i = A.1 0 then A.2 10 i else A.2 10 i)
          rw [ite_self, ite_self, ite_self, ite_self, gA' 35 (by omega) (by omega) (by omega), gA' 36 (by omega) (by omega) (by omega), gA' 37 (by omega) (by omega) (by omega), gA' 38 (by omega) (by omega) (by omega)]
          exact z3 i hi
      · rw [gA_sA, if_pos rfl]
        obtain ⟨⟨y0, y1, y2, y3, y4, y5⟩, z1, z2, z3⟩ := mA
        have o : ∀ j, j ≠ 0 → (j < 10 + 3 * A.1 0 ∨ 10 + 3 * A.1 0 + 3 ≤ j) → w' j = gA τ 1 j := by
          intro j j0 hj
          rw [hw', upd_ap, if_neg j0, upd_ap, if_neg (by omega), upd_ap, if_neg (by omega), upd_ap, if_neg (by omega)]
        refine ⟨⟨by rw [hw', upd_ap, if_pos rfl]; rfl, (o 1 (by omega) (by omega)).trans y1, (o 2 (by omega) (by omega)).trans y2, (o 3 (by omega) (by omega)).trans y3, (o 4 (by omega) (by omega)).trans y4, (o 5 (by omega) (by omega)).trans y5⟩, ?_, ?_, ?_⟩
        · intro i hi
          have hi : i < A.1 0 + 1 := hi
          show w' (10 + 3 * i) = nI (if i = A.1 0 then k else A.2 0 i) ∧ w' (10 + 3 * i + 1) = nI (if i = A.1 0 then s else A.2 1 i) ∧ w' (10 + 3 * i + 2) = nI (if i = A.1 0 then u else A.2 2 i)
          by_cases e : i = A.1 0
          · rw [if_pos e, if_pos e, if_pos e, e, hw']
            refine ⟨?_, ?_, ?_⟩
            · rw [upd_ap, if_neg (by omega), upd_ap, if_neg (by omega), upd_ap, if_neg (by omega), upd_ap, if_pos (by omega)]
            · rw [upd_ap, if_neg (by omega), upd_ap, if_neg (by omega), upd_ap, if_pos (by omega)]
            · rw [upd_ap, if_neg (by omega), upd_ap, if_pos (by omega)]
          · rw [if_neg e, if_neg e, if_neg e, o _ (by omega) (by omega), o _ (by omega) (by omega), o _ (by omega) (by omega)]
            exact z1 i (by omega)
        · intro i hi
          have hE := wA.1.2.2.1
          show w' (40 + 4 * i) = nI (if i = A.1 0 then A.2 7 i else A.2 7 i) ∧ w' (40 + 4 * i + 1) = nI (if i = A.1 0 then A.2 8 i else A.2 8 i) ∧ w' (40 + 4 * i + 2) = nI (if i = A.1 0 then A.2 9 i else A.2 9 i) ∧ w' (40 + 4 * i + 3) = nI (if i = A.1 0 then A.2 10 i else A.2 10 i)
          rw [ite_self, ite_self, ite_self, ite_self, o _ (by omega) (by omega), o _ (by omega) (by omega), o _ (by omega) (by omega), o _ (by omega) (by omega)]
          exact z2 i hi
        · intro a b ha hb
          have e1 : wmin (tpl A k s u) a b = wmin A a b := wf_eq _ (fun i _ => ⟨ite_self _, ite_self _, ite_self _⟩)
          have e2 : wlit (tpl A k s u) a b = wlit A a b := wf_eq _ (fun i _ => ⟨ite_self _, ite_self _, ite_self _⟩)
          rw [e1, e2, o _ (by omega) (by omega), o _ (by omega) (by omega)]
          exact z3 a b ha hb
    · left
      rw [if_neg c1', if_neg (show ¬ nI u ≤ 3 by rw [l3, nI_le_iff (by omega) (by omega)]; exact c2), if_pos (show 3 < nI u by rw [l3, nI_lt_iff (by omega) (by omega)]; omega)]
      exact ⟨rfl, rfl⟩
