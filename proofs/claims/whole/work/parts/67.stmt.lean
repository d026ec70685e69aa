/-! ===== the reference reads one statement ===== -/
def RS (τ : ST) (o : Option Nat) (p : Nat) : Prop := match o with
  | none => gI τ 2 = nI p ∧ gI τ 3 = 1
  | some b => gI τ 2 = nI b ∧ gI τ 3 = 0
def sM (τ τ' : ST) : Prop := (∀ k, k ≠ 2 → k ≠ 3 → gI τ' k = gI τ k) ∧ (∀ k, gA τ' k = gA τ k)
theorem sM.rf (τ : ST) : sM τ τ := ⟨fun _ _ _ => rfl, fun _ => rfl⟩
theorem sM.tr {a b d : ST} (h : sM a b) (g : sM b d) : sM a d := ⟨fun k q r => (g.1 k q r).trans (h.1 k q r), fun k => (g.2 k).trans (h.2 k)⟩
theorem LTM_c {τ τ' : ST} {n : Nat} {c : Nat → Nat} (h : LTM τ n c) (e1 : gI τ' 1 = gI τ 1) (e2 : gA τ' 3 = gA τ 3) : LTM τ' n c := by
  unfold LTM at h ⊢
  rw [e1, e2]; exact h
theorem sM3 (τ : ST) (v : Int32) : sM τ (sI τ 3 v) := ⟨fun k _ h => by rw [gI_sI, if_neg h], fun _ => rfl⟩
theorem sM2 (τ : ST) (v : Int32) : sM τ (sI τ 2 v) := ⟨fun k h _ => by rw [gI_sI, if_neg h], fun _ => rfl⟩
def numf (c : Nat → Nat) : Nat → Nat → Nat → Nat
  | _, 0, y => y
  | p, r + 1, y => numf c (p + 1) r (10 * y + (c p - 48))
theorem d48 {x v : Nat} (h : 48 ≤ v) : (10 * nI x + nI v) - 48 = nI (10 * x + (v - 48)) := by
  rw [l10, pk_mul, na_add, show (48 : Int32) = nI 48 from rfl, pk_sub (by omega), show 10 * x + v - 48 = 10 * x + (v - 48) by omega]
theorem FGL {n s : Nat} {c : Nat → Nat} (k : Nat) (hk : k ≤ 3) (ke : Int32 → ST → Option (Int32 × ST)) : ∀ (r i j p fu : Nat) (x2 : Int32) (τ : ST) (o : Option Nat), LTM τ n c → i + r = k → r < fu → p + r ≤ 300 → (∀ q, q < r → cdN s (j + q) = 48) → RS τ o p → ∃ x2' τ', fX5_figures_L4 ke fu (nI k) x2 (nI i) τ = ke x2' τ' ∧ RS τ' (oo o (fbI c n s r j p)) (p + r) ∧ (oo o (fbI c n s r j p) = none → ∀ y, x2 = nI y → x2' = nI (numf c p r y)) ∧ sM τ τ' := by
  intro r
  induction r with
  | zero =>
    intro i j p fu x2 τ o L h1 h2 hp cd R
    obtain ⟨fu, rfl⟩ : ∃ f, fu = f + 1 := ⟨fu - 1, by omega⟩
    refine ⟨x2, τ, ?_, ?_, fun _ y hy => hy, sM.rf τ⟩
    · rw [fX5_figures_L4, if_pos (by rw [nI_le_iff (by omega) (by omega)]; omega)]
    · cases o with
      | none => exact R
      | some b => exact R
  | succ r ih =>
    intro i j p fu x2 τ o L h1 h2 hp cd R
    obtain ⟨fu, rfl⟩ : ∃ f, fu = f + 1 := ⟨fu - 1, by omega⟩
    obtain ⟨L1, L2, L3⟩ := id L
    have nx : nI i + 1 = nI (i + 1) := by rw [l1, na_add]
    have cd' : ∀ q, q < r → cdN s (j + 1 + q) = 48 := fun q hq => by rw [show j + 1 + q = j + (q + 1) by omega]; exact cd (q + 1) (by omega)
    -- a misfit at b: nothing more is read
    have mis : ∀ b, (gI τ 2 = nI b) → ∃ x2' τ', fX5_figures_L4 ke fu (nI k) x2 (nI (i + 1)) (sI τ 3 0) = ke x2' τ' ∧ RS τ' (some b) (p + (r + 1)) ∧ sM τ τ' := by
      intro b e
      obtain ⟨x2', τ', u1, u2, u3, u4⟩ := ih (i + 1) (j + 1) (p + 1) fu x2 (sI τ 3 0) (some b) (LTM_c L rfl rfl) (by omega) (by omega) (by omega) cd' ⟨e, rfl⟩
      exact ⟨x2', τ', u1, u2, (sM3 τ 0).tr u4⟩
    rw [fX5_figures_L4, if_neg (by rw [nI_le_iff (by omega) (by omega)]; omega)]
    cases o with
    | some b =>
      obtain ⟨R1, R2⟩ := R
      obtain ⟨x2', τ', u1, u2, u3⟩ := mis b R1
      refine ⟨x2', τ', ?_, u2, (fun h => by cases h), u3⟩
      rw [if_pos R2, bnd_ap, bnd_ap, nx]
      exact u1
    | none =>
      obtain ⟨R1, R2⟩ := R
      rw [R2, R1, L1, if_neg n10, fbI]
      show ∃ x2' τ', _ ∧ RS τ' (if n ≤ p then some p else if fitB (cdN s j) (c p) = true then fbI c n s r (j + 1) (p + 1) else some p) (p + (r + 1)) ∧ ((if n ≤ p then some p else if fitB (cdN s j) (c p) = true then fbI c n s r (j + 1) (p + 1) else some p) = none → ∀ y, x2 = nI y → x2' = nI (numf c p (r + 1) y)) ∧ sM τ τ'
      obtain ⟨x2', τ', u1, u2, u3⟩ := mis p R1
      by_cases z : n ≤ p
      · rw [if_pos z, if_pos (by rw [nI_le_iff (by omega) (by omega)]; exact z)]
        refine ⟨x2', τ', ?_, u2, (fun h => by cases h), u3⟩
        rw [bnd_ap, bnd_ap, nx]
        exact u1
      · obtain ⟨e1, e2⟩ := L3 p (by omega)
        have q48 := cd 0 (by omega)
        rw [Nat.add_zero] at q48
        rw [if_neg z, if_neg (show ¬ nI n ≤ nI p by rw [nI_le_iff (by omega) (by omega)]; exact z), q48, ald_n (by omega) (by omega), e1]
        unfold fitB
        rw [if_neg (show ¬ (48 : Nat) = 107 by omega), if_pos (show (48 : Nat) = 48 from rfl)]
        by_cases a : c p < 48
        · rw [if_pos (show nI (c p) < 48 by rw [show (48 : Int32) = nI 48 from rfl, nI_lt_iff (by omega) (by omega)]; exact a), if_neg (show ¬ decide (48 ≤ c p ∧ c p ≤ 57) = true by rw [decide_eq_true_iff]; omega)]
          refine ⟨x2', τ', ?_, u2, (fun h => by cases h), u3⟩
          rw [bnd_ap, bnd_ap, nx]
          exact u1
        · rw [if_neg (show ¬ nI (c p) < 48 by rw [show (48 : Int32) = nI 48 from rfl, nI_lt_iff (by omega) (by omega)]; exact a), ald_n (by omega) (by omega), e1]
          by_cases b : 57 < c p
          · rw [if_pos (show 57 < nI (c p) by rw [show (57 : Int32) = nI 57 from rfl, nI_lt_iff (by omega) (by omega)]; exact b), if_neg (show ¬ decide (48 ≤ c p ∧ c p ≤ 57) = true by rw [decide_eq_true_iff]; omega)]
            refine ⟨x2', τ', ?_, u2, (fun h => by cases h), u3⟩
            rw [bnd_ap, bnd_ap, nx]
            exact u1
          · rw [if_neg (show ¬ 57 < nI (c p) by rw [show (57 : Int32) = nI 57 from rfl, nI_lt_iff (by omega) (by omega)]; exact b), if_pos (show decide (48 ≤ c p ∧ c p ≤ 57) = true by rw [decide_eq_true_iff]; omega), ald_n (by omega) (by omega), e1, bnd_ap, bnd_ap, bnd_ap, nx, show nI p + 1 = nI (p + 1) from by rw [l1, na_add]]
            obtain ⟨y2, τ2, w1, w2, w3, w4⟩ := ih (i + 1) (j + 1) (p + 1) fu ((10 * x2 + nI (c p)) - 48) (sI τ 2 (nI (p + 1))) none (LTM_c L rfl rfl) (by omega) (by omega) (by omega) cd' ⟨rfl, R2⟩
            refine ⟨y2, τ2, w1, ?_, ?_, (sM2 τ _).tr w4⟩
            · rw [show p + (r + 1) = p + 1 + r by omega]; exact w2
            · intro h y hy
              rw [numf]
              exact w3 h _ (by rw [hy]; exact d48 (by omega))
theorem FG {τ : ST} {n s k j p : Nat} {c : Nat → Nat} {o : Option Nat} (L : LTM τ n c) (hk : k ≤ 3) (hp : p + k ≤ 300) (cd : ∀ q, q < k → cdN s (j + q) = 48) (R : RS τ o p) : ∃ r τ', fX5_figures (nI k) τ = some (r, τ') ∧ RS τ' (oo o (fbI c n s k j p)) (p + k) ∧ (oo o (fbI c n s k j p) = none → r = nI (numf c p k 0)) ∧ sM τ τ' := by
  unfold fX5_figures
  rw [bnd_ap, bnd_ap]
  obtain ⟨r, τ', u1, u2, u3, u4⟩ := FGL (c := c) (n := n) (s := s) k hk (fun x2_17 σ_18 => some (x2_17, σ_18)) k 0 j p FU 0 τ o L (by omega) (by rw [FU_eq]; omega) hp cd R
  exact ⟨r, τ', u1, u2, fun h => u3 h 0 rfl, u4⟩
/-- one of the begins, one of the kinds -/
theorem O5 {τ : ST} {n p : Nat} {c : Nat → Nat} (L : LTM τ n c) (hb : gA τ 4 0 = 112 ∧ gA τ 4 1 = 119 ∧ gA τ 4 2 = 101 ∧ gA τ 4 3 = 102 ∧ gA τ 4 4 = 100) (hp : p ≤ n) (R : RS τ none p) : ∃ r τ', fX5_oneOf_5 τ = some (r, τ') ∧ sM τ τ' ∧ (((n ≤ p ∨ srt (c p) = 5) ∧ r = 0 ∧ RS τ' (some p) (p + 1)) ∨ (p < n ∧ srt (c p) < 5 ∧ r = nI (srt (c p)) ∧ RS τ' none (p + 1))) := by
  obtain ⟨L1, L2, L3⟩ := id L
  obtain ⟨R1, R2⟩ := R
  obtain ⟨b0, b1, b2, b3, b4⟩ := hb
  unfold fX5_oneOf_5
  rw [bnd_ap, FU_eq]
  have en : ∀ (ke : ST → Option (Int32 × ST)) (fu : Nat), fX5_oneOf_5_L2 ke (fu + 1) (nI 5) τ = ke τ := by
    intro ke fu
    rw [fX5_oneOf_5_L2, if_pos (by decide)]
  by_cases z : n ≤ p
  · have st : ∀ (ke : ST → Option (Int32 × ST)) (fu i : Nat), i < 5 → fX5_oneOf_5_L2 ke (fu + 1) (nI i) τ = fX5_oneOf_5_L2 ke fu (nI (i + 1)) τ := by
      intro ke fu i hi
      rw [fX5_oneOf_5_L2, if_neg (by rw [l5, nI_le_iff (by omega) (by omega)]; omega), R2, if_neg n10, L1, R1, if_pos (by rw [nI_le_iff (by omega) (by omega)]; exact z), bnd_ap, l1, na_add]
    refine ⟨0, sI τ 3 0, ?_, sM3 τ 0, Or.inl ⟨Or.inl z, rfl, R1, rfl⟩⟩
    rw [show (0 : Int32) = nI 0 from rfl, st _ 999 0 (by omega), st _ 998 1 (by omega), st _ 997 2 (by omega), st _ 996 3 (by omega), st _ 995 4 (by omega), en _ 994, bnd_ap]
  · obtain ⟨e1, e2⟩ := L3 p (by omega)
    have st : ∀ (ke : ST → Option (Int32 × ST)) (fu i v : Nat), i < 5 → v < 256 → gA τ 4 i = nI v → fX5_oneOf_5_L2 ke (fu + 1) (nI i) τ = (if c p = v then some (nI i, sI τ 2 (nI (p + 1))) else fX5_oneOf_5_L2 ke fu (nI (i + 1)) τ) := by
      intro ke fu i v hi hv ev
      rw [fX5_oneOf_5_L2, if_neg (by rw [l5, nI_le_iff (by omega) (by omega)]; omega), R2, if_neg n10, L1, R1, if_neg (by rw [nI_le_iff (by omega) (by omega)]; exact z), ald_n (by omega) (by omega), ald_n (by omega) (by omega), e1, ev, bnd_ap, bnd_ap, show nI i + 1 = nI (i + 1) from by rw [l1, na_add], show nI p + 1 = nI (p + 1) from by rw [l1, na_add]]
      have := nI_eq_iff (a := c p) (b := v) (by omega) (by omega)
      simp only [this]
    rw [show (0 : Int32) = nI 0 from rfl, st _ 999 0 112 (by omega) (by omega) b0, st _ 998 1 119 (by omega) (by omega) b1, st _ 997 2 101 (by omega) (by omega) b2, st _ 996 3 102 (by omega) (by omega) b3, st _ 995 4 100 (by omega) (by omega) b4, en _ 994, bnd_ap]
    unfold srt
    have ok : ∀ v : Nat, v < 5 → ∃ r τ', some (nI v, sI τ 2 (nI (p + 1))) = some (r, τ') ∧ sM τ τ' ∧ ((((n ≤ p) ∨ v = 5) ∧ r = nI 0 ∧ RS τ' (some p) (p + 1)) ∨ (p < n ∧ v < 5 ∧ r = nI v ∧ RS τ' none (p + 1))) := fun v hv => ⟨_, _, rfl, sM2 τ _, Or.inr ⟨by omega, hv, rfl, rfl, R2⟩⟩
    by_cases a0 : c p = 112
    · simp only [if_pos a0]; exact ok 0 (by omega)
    simp only [if_neg a0]
    by_cases a1 : c p = 119
    · simp only [if_pos a1]; exact ok 1 (by omega)
    simp only [if_neg a1]
    by_cases a2 : c p = 101
    · simp only [if_pos a2]; exact ok 2 (by omega)
    simp only [if_neg a2]
    by_cases a3 : c p = 102
    · simp only [if_pos a3]; exact ok 3 (by omega)
    simp only [if_neg a3]
    by_cases a4 : c p = 100
    · simp only [if_pos a4]; exact ok 4 (by omega)
    simp only [if_neg a4]
    exact ⟨_, _, rfl, sM3 τ _, Or.inl ⟨Or.inr trivial, rfl, R1, rfl⟩⟩
theorem O6 {τ : ST} {n p : Nat} {c : Nat → Nat} {o : Option Nat} (L : LTM τ n c) (hb : gA τ 5 0 = 112 ∧ gA τ 5 1 = 119 ∧ gA τ 5 2 = 98 ∧ gA τ 5 3 = 104 ∧ gA τ 5 4 = 107 ∧ gA τ 5 5 = 110) (hp : p ≤ 300) (R : RS τ o p) : ∃ r τ', fX5_oneOf_6 τ = some (r, τ') ∧ sM τ τ' ∧ RS τ' (oo o (fbI c n 0 1 0 p)) (p + 1) ∧ (oo o (fbI c n 0 1 0 p) = none → r = nI (kdx (c p)) ∧ kdx (c p) < 6) := by
  obtain ⟨L1, L2, L3⟩ := id L
  obtain ⟨b0, b1, b2, b3, b4, b5⟩ := hb
  unfold fX5_oneOf_6
  rw [bnd_ap, FU_eq]
  have en : ∀ (ke : ST → Option (Int32 × ST)) (fu : Nat), fX5_oneOf_6_L2 ke (fu + 1) (nI 6) τ = ke τ := by
    intro ke fu
    rw [fX5_oneOf_6_L2, if_pos (by decide)]
  have skip : (gI τ 3 = 0 ∨ nI n ≤ gI τ 2) → fX5_oneOf_6_L2 (fun σ_8 => bnd (sI σ_8 3 0) (fun σ_9 => some (0, σ_9))) 1000 0 τ = some (0, sI τ 3 0) := by
    intro h
    have st : ∀ (ke : ST → Option (Int32 × ST)) (fu i : Nat), i < 6 → fX5_oneOf_6_L2 ke (fu + 1) (nI i) τ = fX5_oneOf_6_L2 ke fu (nI (i + 1)) τ := by
      intro ke fu i hi
      rw [fX5_oneOf_6_L2, if_neg (by rw [l6, nI_le_iff (by omega) (by omega)]; omega), bnd_ap, bnd_ap, L1, show nI i + 1 = nI (i + 1) from by rw [l1, na_add]]
      by_cases w : gI τ 3 = 0
      · rw [if_pos w]
      · rw [if_neg w, if_pos (by rcases h with h | h; exact absurd h w; exact h)]
    rw [show (0 : Int32) = nI 0 from rfl, st _ 999 0 (by omega), st _ 998 1 (by omega), st _ 997 2 (by omega), st _ 996 3 (by omega), st _ 995 4 (by omega), st _ 994 5 (by omega), en _ 993, bnd_ap]
  cases o with
  | some b =>
    obtain ⟨R1, R2⟩ := R
    exact ⟨0, _, skip (Or.inl R2), sM3 τ 0, ⟨R1, rfl⟩, (fun h => by cases h)⟩
  | none =>
    obtain ⟨R1, R2⟩ := R
    show ∃ r τ', _ ∧ sM τ τ' ∧ RS τ' (fbI c n 0 1 0 p) (p + 1) ∧ (fbI c n 0 1 0 p = none → r = nI (kdx (c p)) ∧ kdx (c p) < 6)
    rw [fbI, fbI]
    by_cases z : n ≤ p
    · rw [if_pos z]
      exact ⟨0, _, skip (Or.inr (by rw [R1, nI_le_iff (by omega) (by omega)]; exact z)), sM3 τ 0, ⟨R1, rfl⟩, (fun h => by cases h)⟩
    · obtain ⟨e1, e2⟩ := L3 p (by omega)
      have st : ∀ (ke : ST → Option (Int32 × ST)) (fu i v : Nat), i < 6 → v < 256 → gA τ 5 i = nI v → fX5_oneOf_6_L2 ke (fu + 1) (nI i) τ = (if c p = v then some (nI i, sI τ 2 (nI (p + 1))) else fX5_oneOf_6_L2 ke fu (nI (i + 1)) τ) := by
        intro ke fu i v hi hv ev
        rw [fX5_oneOf_6_L2, if_neg (by rw [l6, nI_le_iff (by omega) (by omega)]; omega), R2, if_neg n10, L1, R1, if_neg (by rw [nI_le_iff (by omega) (by omega)]; exact z), ald_n (by omega) (by omega), ald_n (by omega) (by omega), e1, ev, bnd_ap, bnd_ap, show nI i + 1 = nI (i + 1) from by rw [l1, na_add], show nI p + 1 = nI (p + 1) from by rw [l1, na_add]]
        have := nI_eq_iff (a := c p) (b := v) (by omega) (by omega)
        simp only [this]
      rw [if_neg z, show cdN 0 0 = 107 from rfl]
      unfold fitB
      rw [if_pos (show (107 : Nat) = 107 from rfl), show (0 : Int32) = nI 0 from rfl, st _ 999 0 112 (by omega) (by omega) b0, st _ 998 1 119 (by omega) (by omega) b1, st _ 997 2 98 (by omega) (by omega) b2, st _ 996 3 104 (by omega) (by omega) b3, st _ 995 4 107 (by omega) (by omega) b4, st _ 994 5 110 (by omega) (by omega) b5, en _ 993, bnd_ap]
      have ok : ∀ v : Nat, v < 6 → ∃ r τ', some (nI v, sI τ 2 (nI (p + 1))) = some (r, τ') ∧ sM τ τ' ∧ RS τ' (if decide (v < 6) = true then none else some p) (p + 1) ∧ ((if decide (v < 6) = true then none else some p) = none → r = nI v ∧ v < 6) := fun v hv => ⟨_, _, rfl, sM2 τ _, by rw [if_pos (decide_eq_true hv)]; exact ⟨rfl, R2⟩, fun _ => ⟨rfl, hv⟩⟩
      unfold kdx
      by_cases a0 : c p = 112
      · simp only [if_pos a0]; exact ok 0 (by omega)
      simp only [if_neg a0]
      by_cases a1 : c p = 119
      · simp only [if_pos a1]; exact ok 1 (by omega)
      simp only [if_neg a1]
      by_cases a2 : c p = 98
      · simp only [if_pos a2]; exact ok 2 (by omega)
      simp only [if_neg a2]
      by_cases a3 : c p = 104
      · simp only [if_pos a3]; exact ok 3 (by omega)
      simp only [if_neg a3]
      by_cases a4 : c p = 107
      · simp only [if_pos a4]; exact ok 4 (by omega)
      simp only [if_neg a4]
      by_cases a5 : c p = 110
      · simp only [if_pos a5]; exact ok 5 (by omega)
      simp only [if_neg a5]
      exact ⟨_, _, rfl, sM3 τ _, ⟨R1, rfl⟩, (fun h => by cases h)⟩
/-- the end of a statement -/
theorem J217 {τ : ST} {n s j p : Nat} {c : Nat → Nat} {o : Option Nat} (L : LTM τ n c) (hp : p ≤ 300) (cd : cdN s j = 59) (R : RS τ o p) : ∃ τ', fX5_statement_J217 τ = some τ' ∧ sM τ τ' ∧ RS τ' (oo o (fbI c n s 1 j p)) (p + 1) := by
  obtain ⟨L1, L2, L3⟩ := id L
  unfold fX5_statement_J217
  cases o with
  | some b =>
    obtain ⟨R1, R2⟩ := R
    exact ⟨_, by rw [if_pos R2, bnd_ap], sM3 τ 0, R1, rfl⟩
  | none =>
    obtain ⟨R1, R2⟩ := R
    show ∃ τ', _ ∧ sM τ τ' ∧ RS τ' (fbI c n s 1 j p) (p + 1)
    rw [fbI, fbI, R2, if_neg n10, L1, R1]
    by_cases z : n ≤ p
    · rw [if_pos z, if_pos (by rw [nI_le_iff (by omega) (by omega)]; exact z), bnd_ap]
      exact ⟨_, rfl, sM3 τ 0, R1, rfl⟩
    · obtain ⟨e1, e2⟩ := L3 p (by omega)
      rw [if_neg z, if_neg (by rw [nI_le_iff (by omega) (by omega)]; exact z), cd, ald_n (by omega) (by omega), e1, bnd_ap, bnd_ap]
      unfold fitB
      rw [if_neg (show ¬ (59 : Nat) = 107 by omega), if_neg (show ¬ (59 : Nat) = 48 by omega)]
      by_cases a : c p = 59
      · rw [if_pos (by rw [a]; rfl), if_pos (decide_eq_true a)]
        exact ⟨_, rfl, sM2 τ _, by rw [l1, na_add]; rfl, R2⟩
      · rw [if_neg (show ¬ nI (c p) = 59 by rw [show (59 : Int32) = nI 59 from rfl, nI_eq_iff (by omega) (by omega)]; exact a), if_neg (by rw [decide_eq_true_iff]; exact a)]
        exact ⟨_, rfl, sM3 τ _, R1, rfl⟩
