/-! ===== a town as numbers, the relation ===== -/
/-- numbers 0 places 1 ways 2 errands 3 fuel 4 run 5 driver; rows 0 kind 1 slope 2 pushers, 3 from 4 to 5 minutes 6 lights, 7 place 8 lasts 9 worth 10 till -/
abbrev TW : Type := (Nat → Nat) × (Nat → Nat → Nat)
def XT (σ : ST) (ti ta : Nat) (A : TW) : Prop :=
  (gI σ ti = nI (A.1 0) ∧ gI σ (ti + 1) = nI (A.1 1) ∧ gI σ (ti + 2) = nI (A.1 2) ∧ gI σ (ti + 3) = nI (A.1 3) ∧ gI σ (ti + 4) = nI (A.1 4) ∧ gI σ (ti + 5) = nI (A.1 5)) ∧
  (∀ i, i < A.1 0 → gA σ ta i = nI (A.2 0 i) ∧ gA σ (ta + 1) i = nI (A.2 1 i) ∧ gA σ (ta + 2) i = nI (A.2 2 i)) ∧
  (∀ i, i < A.1 1 → gA σ (ta + 3) i = nI (A.2 3 i) ∧ gA σ (ta + 4) i = nI (A.2 4 i) ∧ gA σ (ta + 5) i = nI (A.2 5 i) ∧ gA σ (ta + 6) i = nI (A.2 6 i)) ∧
  (∀ i, i < A.1 2 → gA σ (ta + 7) i = nI (A.2 7 i) ∧ gA σ (ta + 8) i = nI (A.2 8 i) ∧ gA σ (ta + 9) i = nI (A.2 9 i) ∧ gA σ (ta + 10) i = nI (A.2 10 i))
/-- the way between a and b among the first n, its row c; 0 without -/
def wfold (A : TW) (c a b : Nat) : Nat → Nat
  | 0 => 0
  | n + 1 => if (A.2 3 n = a ∧ A.2 4 n = b) ∨ (A.2 3 n = b ∧ A.2 4 n = a) then A.2 c n else wfold A c a b n
def wmin (A : TW) (a b : Nat) : Nat := wfold A 5 a b (A.1 1)
def wlit (A : TW) (a b : Nat) : Nat := wfold A 6 a b (A.1 1)
def MT (w : Nat → Int32) (A : TW) : Prop :=
  (w 0 = nI (A.1 0) ∧ w 1 = nI (A.1 1) ∧ w 2 = nI (A.1 2) ∧ w 3 = nI (A.1 3) ∧ w 4 = nI (A.1 4) ∧ w 5 = nI (A.1 5)) ∧
  (∀ i, i < A.1 0 → w (10 + 3 * i) = nI (A.2 0 i) ∧ w (10 + 3 * i + 1) = nI (A.2 1 i) ∧ w (10 + 3 * i + 2) = nI (A.2 2 i)) ∧
  (∀ i, i < A.1 2 → w (40 + 4 * i) = nI (A.2 7 i) ∧ w (40 + 4 * i + 1) = nI (A.2 8 i) ∧ w (40 + 4 * i + 2) = nI (A.2 9 i) ∧ w (40 + 4 * i + 3) = nI (A.2 10 i)) ∧
  (∀ a b, a < 8 → b < 8 → w (60 + (8 * a + b)) = nI (wmin A a b) ∧ w (130 + (8 * a + b)) = nI (wlit A a b))
def WFT (A : TW) : Prop :=
  (A.1 0 ≤ 8 ∧ A.1 1 ≤ 14 ∧ A.1 2 ≤ 5 ∧ A.1 3 ≤ 9 ∧ A.1 4 ≤ 60 ∧ A.1 5 ≤ 5) ∧
  (∀ i, i < A.1 0 → A.2 0 i ≤ 5 ∧ A.2 1 i ≤ 9 ∧ A.2 2 i ≤ 3) ∧
  (∀ i, i < A.1 1 → A.2 3 i < A.1 0 ∧ A.2 4 i < A.1 0 ∧ A.2 3 i ≠ A.2 4 i ∧ 1 ≤ A.2 5 i ∧ A.2 5 i ≤ 60 ∧ A.2 6 i ≤ 9) ∧
  (∀ i j, i < A.1 1 → j < A.1 1 → (A.2 3 i = A.2 3 j ∧ A.2 4 i = A.2 4 j) ∨ (A.2 3 i = A.2 4 j ∧ A.2 4 i = A.2 3 j) → i = j) ∧
  (∀ i, i < A.1 2 → A.2 7 i < A.1 0 ∧ 1 ≤ A.2 8 i ∧ A.2 8 i ≤ 60 ∧ A.2 9 i ≤ 99 ∧ A.2 10 i ≤ 999)
/-- ways with no more lights than t: what lies between a and b (a million: nothing) -/
def dir0 (A : TW) (t a b : Nat) : Nat := if a = b then 0 else if 0 < wmin A a b ∧ wlit A a b ≤ t then wmin A a b else 1000000
/-- one place more to go over, all pairs in their order -/
def fwc (k a b : Nat) (d : Nat → Nat) : Nat → Nat := fun i => if i = 8 * a + b then (if d (8 * a + k) + d (8 * k + b) < d (8 * a + b) then d (8 * a + k) + d (8 * k + b) else d (8 * a + b)) else d i
def fwb (k a : Nat) : Nat → (Nat → Nat) → (Nat → Nat)
  | 0, d => d
  | n + 1, d => fwc k a n (fwb k a n d)
def fwa (k N : Nat) : Nat → (Nat → Nat) → (Nat → Nat)
  | 0, d => d
  | n + 1, d => fwb k n N (fwa k N n d)
def fw (N : Nat) : Nat → (Nat → Nat) → (Nat → Nat)
  | 0, d => d
  | n + 1, d => fwa n N N (fw N n d)
/-- the nearest by ways with no more lights than t -/
def dst (A : TW) (t : Nat) : Nat → Nat := fw (A.1 0) (A.1 0) (fun i => dir0 A t (i / 8) (i % 8))
/-- what the class keeps of a pair, once lights 0 .. n - 1 are through: leg (minutes, stalls), safe (minutes, stalls) -/
def ktab (A : TW) (i : Nat) : Nat → (Int32 × Int32) × (Int32 × Int32)
  | 0 => ((-9, -9), (-9, -9))
  | n + 1 => if 1000000 ≤ dst A n i then ktab A i n else
      ((if (ktab A i n).1.1 < 0 ∨ nI (dst A n i) < (ktab A i n).1.1 then (nI (dst A n i), nI n) else (ktab A i n).1),
       (if (ktab A i n).2.1 < 0 then (nI (dst A n i), nI n) else (ktab A i n).2))
def LegX (σ : ST) (A : TW) : Prop := ∀ i, i < 64 → gA σ 0 i = (ktab A i 10).1.1 ∧ gA σ 1 i = (ktab A i 10).1.2 ∧ gA σ 2 i = (ktab A i 10).2.1 ∧ gA σ 3 i = (ktab A i 10).2.2
def RefR (σ τ : ST) : Prop := ∀ k, k < 7 → gA σ 46 k = gA τ 0 k
def RowR (σ τ : ST) : Prop := ∃ L : Nat, L ≤ 10 ∧ gI σ 0 = nI L ∧ gI τ 17 = nI L ∧ ∀ k, k < L → ∃ v : Nat, v ≤ 9 ∧ gA σ 43 k = nI v ∧ gA τ 13 k = nI v
def LetR (σ τ : ST) : Prop := ∃ n : Nat, n ≤ 96 ∧ gI σ 2 = nI n ∧ gI τ 1 = nI n ∧ ∀ k, k < n → ∃ v : Nat, v ≤ 255 ∧ gA σ 5 k = nI v ∧ gA τ 3 k = nI v
def TwnR (σ τ : ST) : Prop := ∃ A : TW, WFT A ∧ XT σ 3 6 A ∧ MT (gA τ 1) A ∧ (A.1 0 = 0 ∨ LegX σ A)
def ImgR (σ τ : ST) : Prop := gI σ 1 = gI τ 0 ∧ (gI σ 1 = 0 ∨ (gI σ 1 = 1 ∧ ∃ B : TW, WFT B ∧ XT σ 9 17 B ∧ MT (gA τ 2) B))
def ModR (τ : ST) : Prop := (gI τ 5 = 0 ∧ gI τ 6 = 0 ∧ gI τ 7 = -9 ∧ gI τ 14 = 0) ∧ (gA τ 4 0 = 112 ∧ gA τ 4 1 = 119 ∧ gA τ 4 2 = 101 ∧ gA τ 4 3 = 102 ∧ gA τ 4 4 = 100) ∧ (gA τ 5 0 = 112 ∧ gA τ 5 1 = 119 ∧ gA τ 5 2 = 98 ∧ gA τ 5 3 = 104 ∧ gA τ 5 4 = 107 ∧ gA τ 5 5 = 110)
def Rl (σ τ : ST) : Prop := RefR σ τ ∧ RowR σ τ ∧ LetR σ τ ∧ TwnR σ τ ∧ ImgR σ τ ∧ ModR τ
/-- alike but for what no later call looks at -/
def xS (σ σ' : ST) : Prop := (∀ k, k < 15 → gI σ' k = gI σ k) ∧ (∀ k, (k < 28 ∧ k ≠ 4) ∨ k = 43 ∨ k = 46 → gA σ' k = gA σ k)
def mS (τ τ' : ST) : Prop := (∀ k, k = 0 ∨ k = 1 ∨ k = 5 ∨ k = 6 ∨ k = 7 ∨ k = 14 ∨ k = 17 → gI τ' k = gI τ k) ∧ (∀ k, k < 6 ∨ k = 13 → gA τ' k = gA τ k)
theorem xS.rf (σ : ST) : xS σ σ := ⟨fun _ _ => rfl, fun _ _ => rfl⟩
theorem mS.rf (σ : ST) : mS σ σ := ⟨fun _ _ => rfl, fun _ _ => rfl⟩
theorem xS.tr {a b c : ST} (h : xS a b) (g : xS b c) : xS a c := ⟨fun k q => (g.1 k q).trans (h.1 k q), fun k q => (g.2 k q).trans (h.2 k q)⟩
theorem mS.tr {a b c : ST} (h : mS a b) (g : mS b c) : mS a c := ⟨fun k q => (g.1 k q).trans (h.1 k q), fun k q => (g.2 k q).trans (h.2 k q)⟩
theorem XT_c {σ σ' : ST} {ti ta : Nat} {A : TW} (h : XT σ ti ta A) (e1 : ∀ k, k < 6 → gI σ' (ti + k) = gI σ (ti + k)) (e2 : ∀ k, k < 11 → gA σ' (ta + k) = gA σ (ta + k)) : XT σ' ti ta A := by
  obtain ⟨⟨a0, a1, a2, a3, a4, a5⟩, h2, h3, h4⟩ := h
  refine ⟨⟨(e1 0 (by omega)).trans a0, (e1 1 (by omega)).trans a1, (e1 2 (by omega)).trans a2, (e1 3 (by omega)).trans a3, (e1 4 (by omega)).trans a4, (e1 5 (by omega)).trans a5⟩, ?_, ?_, ?_⟩
  · intro i hi
    have := e2 0 (by omega)
    rw [Nat.add_zero] at this
    rw [this, e2 1 (by omega), e2 2 (by omega)]
    exact h2 i hi
  · intro i hi
    rw [e2 3 (by omega), e2 4 (by omega), e2 5 (by omega), e2 6 (by omega)]
    exact h3 i hi
  · intro i hi
    rw [e2 7 (by omega), e2 8 (by omega), e2 9 (by omega), e2 10 (by omega)]
    exact h4 i hi
theorem Rl_s {σ τ σ' τ' : ST} (h : Rl σ τ) (hx : xS σ σ') (hm : mS τ τ') : Rl σ' τ' := by
  obtain ⟨h1, ⟨L, hL, r1, r2, r3⟩, ⟨n, hn, t1, t2, t3⟩, ⟨A, wA, xA, mA, lA⟩, ⟨i1, i2⟩, ⟨m1, m2, m3, m4⟩, mb, mk⟩ := h
  refine ⟨?_, ⟨L, hL, (hx.1 0 (by omega)).trans r1, (hm.1 17 (by omega)).trans r2, ?_⟩, ⟨n, hn, (hx.1 2 (by omega)).trans t1, (hm.1 1 (by omega)).trans t2, ?_⟩, ⟨A, wA, ?_, ?_, ?_⟩, ⟨?_, ?_⟩, ⟨(hm.1 5 (by omega)).trans m1, (hm.1 6 (by omega)).trans m2, (hm.1 7 (by omega)).trans m3, (hm.1 14 (by omega)).trans m4⟩, ?_, ?_⟩
  · intro k hk
    rw [hx.2 46 (by omega), hm.2 0 (by omega)]; exact h1 k hk
  · rw [hx.2 43 (by omega), hm.2 13 (by omega)]; exact r3
  · rw [hx.2 5 (by omega), hm.2 3 (by omega)]; exact t3
  · exact XT_c xA (fun k hk => hx.1 _ (by omega)) (fun k hk => hx.2 _ (by omega))
  · rw [hm.2 1 (by omega)]; exact mA
  · rcases lA with l | l
    · exact Or.inl l
    · right
      intro i hi
      rw [hx.2 0 (by omega), hx.2 1 (by omega), hx.2 2 (by omega), hx.2 3 (by omega)]
      exact l i hi
  · rw [hx.1 1 (by omega), hm.1 0 (by omega)]; exact i1
  · rw [hx.1 1 (by omega)]
    rcases i2 with i | ⟨i, B, wB, xB, mB⟩
    · exact Or.inl i
    · exact Or.inr ⟨i, B, wB, XT_c xB (fun k hk => hx.1 _ (by omega)) (fun k hk => hx.2 _ (by omega)), by rw [hm.2 2 (by omega)]; exact mB⟩
  · rw [hm.2 4 (by omega)]; exact mb
  · rw [hm.2 5 (by omega)]; exact mk
