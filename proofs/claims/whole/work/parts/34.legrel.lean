/-! ===== both tables of legs are one ===== -/
def pr (t M S D : Nat) : Prop := (M = 100000 ∧ 1000000 ≤ D) ∨ (M < 100000 ∧ M ≤ D ∧ (S ≤ t → D = M) ∧ (D = M → S ≤ t))
theorem gmx_le {a b t : Nat} : gmx a b ≤ t ↔ a ≤ t ∧ b ≤ t := by unfold gmx; split <;> omega
theorem gmx_lt {a b t : Nat} : gmx a b < t ↔ a < t ∧ b < t := by unfold gmx; split <;> omega
theorem pr_step {t B M1 S1 D1 M2 S2 D2 M S D : Nat} (h1 : pr t M1 S1 D1) (h2 : pr t M2 S2 D2) (h : pr t M S D) (b1 : M1 < 100000 → M1 ≤ B) (b2 : M2 < 100000 → M2 ≤ B) (hB : 2 * B < 100000) (hD : D ≤ 1000000) : pr t (if M1 + M2 < 100000 ∧ (M1 + M2 < M ∨ (M1 + M2 = M ∧ gmx S1 S2 < S)) then M1 + M2 else M) (if M1 + M2 < 100000 ∧ (M1 + M2 < M ∨ (M1 + M2 = M ∧ gmx S1 S2 < S)) then gmx S1 S2 else S) (if D1 + D2 < D then D1 + D2 else D) := by
  have g1 : gmx S1 S2 ≤ t ↔ S1 ≤ t ∧ S2 ≤ t := gmx_le
  generalize gmx S1 S2 = g at g1
  by_cases q : M1 + M2 < 100000 ∧ (M1 + M2 < M ∨ (M1 + M2 = M ∧ g < S))
  · rw [if_pos q, if_pos q]
    obtain ⟨q1, q2⟩ := q
    rcases h1 with ⟨c1, c2⟩ | ⟨c1, c2, c3, c4⟩
    · omega
    rcases h2 with ⟨e1, e2⟩ | ⟨e1, e2, e3, e4⟩
    · omega
    right
    by_cases z1 : S1 ≤ t
    · have := c3 z1
      by_cases z2 : S2 ≤ t
      · have := e3 z2
        have gg := g1.mpr ⟨z1, z2⟩
        rcases h with ⟨f1, f2⟩ | ⟨f1, f2, f3, f4⟩
        · refine ⟨q1, ?_, fun _ => ?_, fun _ => gg⟩ <;> split <;> omega
        · refine ⟨q1, ?_, fun _ => ?_, fun _ => gg⟩ <;> split <;> omega
      · have n2 : D2 ≠ M2 := fun z => z2 (e4 z)
        have gg : ¬ g ≤ t := fun z => z2 (g1.mp z).2
        rcases h with ⟨f1, f2⟩ | ⟨f1, f2, f3, f4⟩
        · refine ⟨q1, ?_, fun z => absurd z gg, fun z => ?_⟩
          · split <;> omega
          · exfalso; revert z; split <;> omega
        · refine ⟨q1, ?_, fun z => absurd z gg, fun z => ?_⟩
          · split <;> omega
          · exfalso; revert z; split
            · omega
            · intro z
              rcases q2 with q2 | ⟨q2, q3⟩
              · omega
              · have := f4 (by omega); omega
    · have n1 : D1 ≠ M1 := fun z => z1 (c4 z)
      have gg : ¬ g ≤ t := fun z => z1 (g1.mp z).1
      rcases h with ⟨f1, f2⟩ | ⟨f1, f2, f3, f4⟩
      · refine ⟨q1, ?_, fun z => absurd z gg, fun z => ?_⟩
        · split <;> omega
        · exfalso; revert z; split <;> omega
      · refine ⟨q1, ?_, fun z => absurd z gg, fun z => ?_⟩
        · split <;> omega
        · exfalso; revert z; split
          · omega
          · intro z
            rcases q2 with q2 | ⟨q2, q3⟩
            · omega
            · have := f4 (by omega); omega
  · rw [if_neg q, if_neg q]
    rcases h1 with ⟨c1, c2⟩ | ⟨c1, c2, c3, c4⟩
    · rw [if_neg (by omega)]; exact h
    rcases h2 with ⟨e1, e2⟩ | ⟨e1, e2, e3, e4⟩
    · rw [if_neg (by omega)]; exact h
    have b1 := b1 c1
    have b2 := b2 e1
    rcases h with ⟨f1, f2⟩ | ⟨f1, f2, f3, f4⟩
    · exact absurd ⟨by omega, Or.inl (by omega)⟩ q
    · right
      refine ⟨f1, ?_, ?_, ?_⟩
      · split <;> omega
      · intro z; have := f3 z; split <;> omega
      · intro z
        revert z
        split
        · intro z
          -- the sum is as near: then it is as good as what stands
          have z1 : D1 = M1 := by omega
          have z2 : D2 = M2 := by omega
          have gg := g1.mpr ⟨c4 z1, e4 z2⟩
          by_cases zz : S ≤ g
          · omega
          · exact absurd ⟨by omega, Or.inr ⟨by omega, by omega⟩⟩ q
        · exact f4
/-- phase k: what is known of every pair -/
def RR (B k t L P : Nat) (x : MS) (d : Nat → Nat) : Prop := ∀ a b, a < 8 → b < 8 → d (8 * a + b) ≤ 1000000 ∧ pr t (x.1 (8 * a + b)) (x.2 (8 * a + b)) (d (8 * a + b)) ∧ (x.1 (8 * a + b) < 100000 → x.1 (8 * a + b) ≤ 2 * B) ∧ (a = k ∨ b = k → x.1 (8 * a + b) < 100000 → x.1 (8 * a + b) ≤ B) ∧ (a = b → x.1 (8 * a + b) = 0 ∧ x.2 (8 * a + b) = 0) ∧ (a ≠ b → P ≤ a ∨ P ≤ b → x.1 (8 * a + b) = 100000) ∧ x.2 (8 * a + b) ≤ L
theorem gsc_fix {k a b : Nat} {x : MS} (h : ¬ (x.1 (8 * a + k) + x.1 (8 * k + b) < 100000 ∧ (x.1 (8 * a + k) + x.1 (8 * k + b) < x.1 (8 * a + b) ∨ (x.1 (8 * a + k) + x.1 (8 * k + b) = x.1 (8 * a + b) ∧ gmx (x.2 (8 * a + k)) (x.2 (8 * k + b)) < x.2 (8 * a + b))))) : gsc k a b x = x := by unfold gsc; rw [if_neg h]
theorem RR_m {B k t L P a b : Nat} (hk : k < 8) (ha : a < 8) (hb : b < 8) {x : MS} {d : Nat → Nat} (h : RR B k t L P x d) (hn : P ≤ k ∨ P ≤ a ∨ P ≤ b ∨ a = k ∨ b = k) : gsc k a b x = x := by
  apply gsc_fix
  have hak := h a k ha hk
  have hkb := h k b hk hb
  have hab := h a b ha hb
  have g2 : gmx (x.2 (8 * a + k)) (x.2 (8 * k + b)) < x.2 (8 * a + b) ↔ x.2 (8 * a + k) < x.2 (8 * a + b) ∧ x.2 (8 * k + b) < x.2 (8 * a + b) := gmx_lt
  rintro ⟨q1, q2⟩
  by_cases e1 : a = k
  · subst e1
    have := hak.2.2.2.2.1 rfl
    rcases q2 with q2 | ⟨q2, q3⟩
    · omega
    · have := g2.mp q3; omega
  · by_cases e2 : b = k
    · subst e2
      have := hkb.2.2.2.2.1 rfl
      rcases q2 with q2 | ⟨q2, q3⟩
      · omega
      · have := g2.mp q3; omega
    · rcases hn with hn | hn | hn | hn | hn
      · have := hak.2.2.2.2.2.1 e1 (Or.inr hn); omega
      · have := hak.2.2.2.2.2.1 e1 (Or.inl hn); omega
      · have := hkb.2.2.2.2.2.1 (fun z => e2 z.symm) (Or.inr hn); omega
      · exact e1 hn
      · exact e2 hn
theorem RR_s {B k t L P a b : Nat} (hP : P ≤ 8) (hk : k < P) (ha : a < P) (hb : b < P) (hB : 2 * B < 100000) {x : MS} {d : Nat → Nat} (h : RR B k t L P x d) : RR B k t L P (gsc k a b x) (fwc k a b d) := by
  have hak := h a k (by omega) (by omega)
  have hkb := h k b (by omega) (by omega)
  have hab := h a b (by omega) (by omega)
  have st := pr_step hak.2.1 hkb.2.1 hab.2.1 (hak.2.2.2.1 (Or.inr rfl)) (hkb.2.2.2.1 (Or.inl rfl)) hB hab.1
  by_cases e : a = k ∨ b = k
  · -- nothing of the tables changes, and the class's sum is no nearer
    have fx : gsc k a b x = x := RR_m (by omega) (by omega) (by omega) h (by omega)
    rw [fx]
    have c0 : ¬ (x.1 (8 * a + k) + x.1 (8 * k + b) < 100000 ∧ (x.1 (8 * a + k) + x.1 (8 * k + b) < x.1 (8 * a + b) ∨ (x.1 (8 * a + k) + x.1 (8 * k + b) = x.1 (8 * a + b) ∧ gmx (x.2 (8 * a + k)) (x.2 (8 * k + b)) < x.2 (8 * a + b)))) := by
      have g2 : gmx (x.2 (8 * a + k)) (x.2 (8 * k + b)) < x.2 (8 * a + b) ↔ x.2 (8 * a + k) < x.2 (8 * a + b) ∧ x.2 (8 * k + b) < x.2 (8 * a + b) := gmx_lt
      rintro ⟨q1, q2⟩
      rcases e with e | e
      · subst e
        have := hak.2.2.2.2.1 rfl
        rcases q2 with q2 | ⟨q2, q3⟩
        · omega
        · have := g2.mp q3; omega
      · subst e
        have := hkb.2.2.2.2.1 rfl
        rcases q2 with q2 | ⟨q2, q3⟩
        · omega
        · have := g2.mp q3; omega
    rw [if_neg c0, if_neg c0] at st
    intro a' b' ha' hb'
    obtain ⟨r1, r2, r3, r4, r5, r6, r7⟩ := h a' b' ha' hb'
    unfold fwc
    by_cases z : 8 * a' + b' = 8 * a + b
    · rw [if_pos z]
      refine ⟨?_, ?_, r3, r4, r5, r6, r7⟩
      · split <;> omega
      · rw [z]; exact st
    · rw [if_neg z]; exact ⟨r1, r2, r3, r4, r5, r6, r7⟩
  · intro a' b' ha' hb'
    obtain ⟨r1, r2, r3, r4, r5, r6, r7⟩ := h a' b' ha' hb'
    by_cases z : 8 * a' + b' = 8 * a + b
    · have za : a' = a := by omega
      have zb : b' = b := by omega
      subst za; subst zb
      have f1 : fwc k a' b' d (8 * a' + b') = if d (8 * a' + k) + d (8 * k + b') < d (8 * a' + b') then d (8 * a' + k) + d (8 * k + b') else d (8 * a' + b') := by unfold fwc; rw [if_pos rfl]
      have m1 : (gsc k a' b' x).1 (8 * a' + b') = if x.1 (8 * a' + k) + x.1 (8 * k + b') < 100000 ∧ (x.1 (8 * a' + k) + x.1 (8 * k + b') < x.1 (8 * a' + b') ∨ (x.1 (8 * a' + k) + x.1 (8 * k + b') = x.1 (8 * a' + b') ∧ gmx (x.2 (8 * a' + k)) (x.2 (8 * k + b')) < x.2 (8 * a' + b'))) then x.1 (8 * a' + k) + x.1 (8 * k + b') else x.1 (8 * a' + b') := by
        unfold gsc
        split
        · dsimp only; rw [if_pos rfl]
        · rfl
      have m2 : (gsc k a' b' x).2 (8 * a' + b') = if x.1 (8 * a' + k) + x.1 (8 * k + b') < 100000 ∧ (x.1 (8 * a' + k) + x.1 (8 * k + b') < x.1 (8 * a' + b') ∨ (x.1 (8 * a' + k) + x.1 (8 * k + b') = x.1 (8 * a' + b') ∧ gmx (x.2 (8 * a' + k)) (x.2 (8 * k + b')) < x.2 (8 * a' + b'))) then gmx (x.2 (8 * a' + k)) (x.2 (8 * k + b')) else x.2 (8 * a' + b') := by
        unfold gsc
        split
        · dsimp only; rw [if_pos rfl]
        · rfl
      have g7 : gmx (x.2 (8 * a' + k)) (x.2 (8 * k + b')) ≤ L := gmx_le.mpr ⟨hak.2.2.2.2.2.2, hkb.2.2.2.2.2.2⟩
      rw [f1, m1, m2]
      have s3 := hak.2.2.2.1 (Or.inr rfl)
      have s4 := hkb.2.2.2.1 (Or.inl rfl)
      refine ⟨?_, st, ?_, ?_, ?_, ?_, ?_⟩
      · split <;> omega
      · split
        · rename_i q; intro _; omega
        · exact r3
      · intro q; exact absurd q e
      · intro q
        have := r5 q
        split
        · rename_i w
          obtain ⟨w1, w2⟩ := w
          rcases w2 with w2 | ⟨w2, w3⟩
          · omega
          · omega
        · exact this
      · intro q1 q2; omega
      · split
        · exact g7
        · exact r7
    · have f1 : fwc k a b d (8 * a' + b') = d (8 * a' + b') := by unfold fwc; rw [if_neg z]
      have m1 : (gsc k a b x).1 (8 * a' + b') = x.1 (8 * a' + b') := by
        unfold gsc
        split
        · dsimp only; rw [if_neg z]
        · rfl
      have m2 : (gsc k a b x).2 (8 * a' + b') = x.2 (8 * a' + b') := by
        unfold gsc
        split
        · dsimp only; rw [if_neg z]
        · rfl
      rw [f1, m1, m2]
      exact ⟨r1, r2, r3, r4, r5, r6, r7⟩
