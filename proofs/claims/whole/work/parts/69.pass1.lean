/-! ===== both read the letters through ===== -/
def GPr (c : Nat → Nat) (n : Nat) : Nat → Nat → Prop
  | 0, p => p = n
  | k + 1, p => p < n ∧ srt (c p) < 5 ∧ fbI c n (srt (c p)) (leN (srt (c p))) 0 (p + 1) = none ∧ GPr c n k (p + 1 + leN (srt (c p)))
theorem leN_le : ∀ s, s < 6 → leN s ≤ 9 ∧ (s < 5 → 2 ≤ leN s) := by decide
def BGK (τ : ST) : Prop := (gA τ 4 0 = 112 ∧ gA τ 4 1 = 119 ∧ gA τ 4 2 = 101 ∧ gA τ 4 3 = 102 ∧ gA τ 4 4 = 100) ∧ (gA τ 5 0 = 112 ∧ gA τ 5 1 = 119 ∧ gA τ 5 2 = 98 ∧ gA τ 5 3 = 104 ∧ gA τ 5 4 = 107 ∧ gA τ 5 5 = 110)
theorem BGK_c {τ τ' : ST} (h : BGK τ) (f : pM' τ τ') : BGK τ' := by
  unfold BGK at h ⊢
  rw [f.2 4 (by omega), f.2 5 (by omega)]
  exact h
theorem PS1 {σ : ST} {n : Nat} {c : Nat → Nat} (LX : LTX σ n c) (ke : Int32 → ST → Option (Int32 × ST)) : ∀ (m p s fu fu' x1 : Nat) (τ : ST), n - p ≤ m → p ≤ n → (p < n ∨ n = 0) → s < 6 → n - p + 12 < fu → n - p < fu' → LTM τ n c → BGK τ → RS τ none p → ∃ τ', pM' τ τ' ∧ ((∃ b x, b ≤ n ∧ fX1_firstMisfit_L7 keF fu s (nI (leN s)) (nI p) σ = some (nI b, σ) ∧ fX5_read_L12 ke fu' (nI x1) τ = ke x τ' ∧ gI τ' 2 = nI b ∧ gI τ' 3 = 0) ∨ (∃ k, 1 ≤ k ∧ GPr c n k p ∧ fX1_firstMisfit_L7 keF fu s (nI (leN s)) (nI p) σ = some (-1, σ) ∧ fX5_read_L12 ke fu' (nI x1) τ = ke (nI (x1 + k)) τ' ∧ gI τ' 3 = 1)) := by
  intro m
  induction m with
  | zero =>
    intro p s fu fu' x1 τ hm hp h0 hs hf hf' L B R
    obtain ⟨fu', rfl⟩ : ∃ f, fu' = f + 1 := ⟨fu' - 1, by omega⟩
    have n0 : n = 0 := by omega
    obtain ⟨τ', u1, u2, u3⟩ := STM L B.1 B.2 hp R
    have sc := (SCB (fu := fu) LX hs hp (by omega)).1 (by omega)
    refine ⟨τ', u2, Or.inl ⟨0, nI x1 + 1, by omega, by rw [sc, if_pos n0], ?_, ?_⟩⟩
    · rcases u3 with ⟨_, v1, v2⟩ | ⟨v1, _⟩
      · rw [fX5_read_L12, u1, calv_s, bnd_ap, if_pos v2]
      · omega
    · rcases u3 with ⟨_, v1, v2⟩ | ⟨v1, _⟩
      · exact ⟨by rw [v1]; congr 1; omega, v2⟩
      · omega
  | succ m ih =>
    intro p s fu fu' x1 τ hm hp h0 hs hf hf' L B R
    obtain ⟨fu', rfl⟩ : ∃ f, fu' = f + 1 := ⟨fu' - 1, by omega⟩
    obtain ⟨τ', u1, u2, u3⟩ := STM L B.1 B.2 hp R
    obtain ⟨sc1, sc2⟩ := SCB LX hs hp (show 12 < fu by omega)
    rcases u3 with ⟨w, v1, v2⟩ | ⟨w1, w2, w3, w4, w5⟩
    · refine ⟨τ', u2, Or.inl ⟨p, nI x1 + 1, hp, ?_, ?_, v1, v2⟩⟩
      · rcases h0 with z | z
        · rcases w with w | w
          · omega
          · exact (sc2 z).1 w
        · rw [sc1 (by omega), if_pos z]
          congr 2
          congr 1
          omega
      · rw [fX5_read_L12, u1, calv_s, bnd_ap, if_pos v2]
    · obtain ⟨_, sc3⟩ := sc2 w1
      obtain ⟨sc4, sc5⟩ := sc3 w2
      obtain ⟨S, hS⟩ : ∃ z, z = srt (c p) := ⟨_, rfl⟩
      rw [← hS] at w2 w3 w4 w5 sc4 sc5
      obtain ⟨le1, le2⟩ := leN_le S (by omega)
      have le3 := le2 w2
      cases hfb : fbI c n S (leN S) 0 (p + 1) with
      | some b =>
        rw [hfb] at w4
        obtain ⟨v1, v2⟩ := w4
        have bb := fbI_some c n S _ _ _ b hfb (by omega)
        refine ⟨τ', u2, Or.inl ⟨b, nI x1 + 1, bb.2, sc4 b hfb, ?_, v1, v2⟩⟩
        rw [fX5_read_L12, u1, calv_s, bnd_ap, if_pos v2]
      | none =>
        rw [hfb] at w4
        obtain ⟨v1, v2⟩ := w4
        obtain ⟨pe, sc6⟩ := sc5 hfb
        have L' : LTM τ' n c := LTM_c L (u2.1 1 (by omega) (by omega) (by omega)) (u2.2 3 (by omega))
        have rd : fX5_read_L12 ke (fu' + 1) (nI x1) τ = (if nI (p + 1 + leN S) < nI n then fX5_read_L12 ke fu' (nI (x1 + 1)) τ' else ke (nI (x1 + 1)) τ') := by
          rw [fX5_read_L12, u1, calv_s, bnd_ap, if_neg (by rw [v2]; exact n10), v1, L'.1, show nI x1 + 1 = nI (x1 + 1) from by rw [l1, na_add]]
        have hn := L.2.1
        by_cases z : p + 1 + leN S < n
        · rw [if_pos (by rw [nI_lt_iff (by omega) (by omega)]; exact z)] at rd
          obtain ⟨τ2, a1, a2⟩ := ih (p + 1 + leN S) S (fu - 1 - leN S) fu' (x1 + 1) τ' (by omega) pe (Or.inl z) (by omega) (by omega) (by omega) L' (BGK_c B u2) ⟨v1, v2⟩
          refine ⟨τ2, u2.tr a1, ?_⟩
          rw [sc6, rd]
          rcases a2 with a2 | ⟨k, k1, k2, k3, k4, k5⟩
          · exact Or.inl a2
          · right
            exact ⟨k + 1, by omega, ⟨w1, by rw [← hS]; exact w2, by rw [← hS]; exact hfb, by rw [← hS]; exact k2⟩, k3, by rw [k4, show x1 + 1 + k = x1 + (k + 1) by omega], k5⟩
        · rw [if_neg (by rw [nI_lt_iff (by omega) (by omega)]; exact z)] at rd
          refine ⟨τ', u2, Or.inr ⟨1, by omega, ⟨w1, by rw [← hS]; exact w2, by rw [← hS]; exact hfb, ?_⟩, ?_, rd, v2⟩⟩
          · rw [← hS]
            show p + 1 + leN S = n
            omega
          · rw [sc6]
            have := (SCB (fu := fu - 1 - leN S) LX (show S < 6 by omega) pe (by omega)).1 (by omega)
            rw [this, if_neg (by omega)]
/-! inside a statement no letter but its last ends one -/
theorem cdN_e : ∀ s, s < 5 → ∀ i, i < leN s → (i + 1 = leN s → cdN s i = 59) ∧ (i + 1 < leN s → cdN s i = 48 ∨ cdN s i = 107) := by decide
theorem srt59 {v : Nat} (h : srt v < 5) : v ≠ 59 := by
  intro e
  rw [e] at h
  exact absurd h (by decide)
theorem INS {c : Nat → Nat} {n p s : Nat} (hs : s < 5) (h : fbI c n s (leN s) 0 (p + 1) = none) : p + 1 + leN s ≤ n ∧ c (p + leN s) = 59 ∧ ∀ i, i + 1 < leN s → c (p + 1 + i) ≠ 59 := by
  have f := fbI_none c n s _ _ _ h
  obtain ⟨le1, le2⟩ := leN_le s (by omega)
  have le3 := le2 hs
  refine ⟨?_, ?_, ?_⟩
  · have := (f (leN s - 1) (by omega)).1
    omega
  · obtain ⟨f1, f2⟩ := f (leN s - 1) (by omega)
    rw [Nat.zero_add, (cdN_e s hs (leN s - 1) (by omega)).1 (by omega), show p + 1 + (leN s - 1) = p + leN s by omega] at f2
    unfold fitB at f2
    rw [if_neg (by omega), if_neg (by omega), decide_eq_true_iff] at f2
    exact f2
  · intro i hi e
    obtain ⟨f1, f2⟩ := f i (by omega)
    rw [Nat.zero_add, e] at f2
    rcases (cdN_e s hs i (by omega)).2 hi with q | q
    · rw [q] at f2; exact absurd f2 (by decide)
    · rw [q] at f2; exact absurd f2 (by decide)
/-- as many statements as ends -/
theorem CNT0 {σ : ST} {n : Nat} {c : Nat → Nat} (LX : LTX σ n c) (ke : Int32 → ST → Option (Int32 × ST)) (x1 : Int32) : ∀ (r q fu : Nat), q + r ≤ n → (∀ i, i < r → c (q + i) ≠ 59) → fX1_statements_L4 ke (fu + r) x1 (nI q) σ = fX1_statements_L4 ke fu x1 (nI (q + r)) σ := by
  obtain ⟨L1, L2, L3⟩ := LX
  intro r
  induction r with
  | zero => intro q fu _ _; rfl
  | succ r ih =>
    intro q fu hq h
    obtain ⟨e1, e2⟩ := L3 q (by omega)
    have h0 := h 0 (by omega)
    rw [Nat.add_zero] at h0
    rw [show fu + (r + 1) = (fu + r) + 1 by omega, fX1_statements_L4, L1, if_neg (by rw [nI_le_iff (by omega) (by omega)]; omega), ald_n (by omega) (by omega), e1, if_neg (by rw [show (59 : Int32) = nI 59 from rfl, nI_eq_iff (by omega) (by omega)]; exact h0), bnd_ap, l1, na_add, ih (q + 1) fu (by omega) (fun i hi => by rw [show q + 1 + i = q + (i + 1) by omega]; exact h (i + 1) (by omega)), show q + 1 + r = q + (r + 1) by omega]
theorem CNT {σ : ST} {n : Nat} {c : Nat → Nat} (LX : LTX σ n c) (ke : Int32 → ST → Option (Int32 × ST)) : ∀ (k p x1 fu : Nat), p ≤ n → GPr c n k p → fX1_statements_L4 ke (fu + (n - p) + 1) (nI x1) (nI p) σ = ke (nI (x1 + k)) σ := by
  obtain ⟨L1, L2, L3⟩ := id LX
  intro k
  induction k with
  | zero =>
    intro p x1 fu hp g
    have g : p = n := g
    rw [fX1_statements_L4, L1, if_pos (by rw [nI_le_iff (by omega) (by omega)]; omega)]
    rfl
  | succ k ih =>
    intro p x1 fu hp g
    obtain ⟨g1, g2, g3, g4⟩ := g
    obtain ⟨i1, i2, i3⟩ := INS g2 g3
    obtain ⟨S, hS⟩ : ∃ z, z = srt (c p) := ⟨_, rfl⟩
    rw [← hS] at i1 i2 i3 g4
    obtain ⟨le1, le2⟩ := leN_le S (by omega)
    have le3 := le2 (by omega)
    have h0 := CNT0 LX ke (nI x1) (leN S) p (fu + (n - (p + 1 + leN S)) + 1 + 1) (by omega) (by
      intro i hi
      by_cases z : i = 0
      · rw [z, Nat.add_zero]; exact srt59 g2
      · have := i3 (i - 1) (by omega)
        rw [show p + 1 + (i - 1) = p + i by omega] at this
        exact this)
    obtain ⟨e1, e2⟩ := L3 (p + leN S) (by omega)
    rw [show fu + (n - p) + 1 = fu + (n - (p + 1 + leN S)) + 1 + 1 + leN S by omega, h0, fX1_statements_L4, L1, if_neg (by rw [nI_le_iff (by omega) (by omega)]; omega), ald_n (by omega) (by omega), e1, i2, if_pos (by rfl), bnd_ap, bnd_ap, show nI x1 + 1 = nI (x1 + 1) from by rw [l1, na_add], show nI (p + leN S) + 1 = nI (p + 1 + leN S) from by rw [l1, na_add]; congr 1; omega, ih (p + 1 + leN S) (x1 + 1) fu i1 g4, show x1 + 1 + k = x1 + (k + 1) by omega]
