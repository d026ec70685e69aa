theorem refx (k : Nat) (c : Int32) (e : -c = nI k) (h1 : 1 ≤ k) (h2 : k < 7) (σ : ST) : fX4_refuse c σ = some (c, sA σ 46 (upd (gA σ 46) k (gA σ 46 k + 1))) := by
  unfold fX4_refuse
  rw [bnd_ap, e, if_neg, if_neg, ald_n h2 (by omega), ast_n h2 (by omega)]
  · rw [l7, nI_le_iff (by omega) (by omega)]; omega
  · rw [l1, nI_lt_iff (by omega) (by omega)]; omega
theorem nom (k : Nat) (c : Int32) (e : -c = nI k) (h2 : k < 7) (τ : ST) : fX5_no c τ = some (c, sA τ 0 (upd (gA τ 0) k (gA τ 0 k + 1))) := by
  unfold fX5_no
  rw [e, ald_n h2 (by omega), ast_n h2 (by omega)]
theorem Rl_ref {σ τ : ST} (h : Rl σ τ) (k : Nat) : Rl (sA σ 46 (upd (gA σ 46) k (gA σ 46 k + 1))) (sA τ 0 (upd (gA τ 0) k (gA τ 0 k + 1))) := by
  refine ⟨?_, h.2⟩
  intro j hj
  show upd (gA σ 46) k (gA σ 46 k + 1) j = upd (gA τ 0) k (gA τ 0 k + 1) j
  rw [upd_ap, upd_ap]
  by_cases q : j = k
  · rw [if_pos q, if_pos q, ← q, h.1 j hj]
  · rw [if_neg q, if_neg q, h.1 j hj]
theorem ref_i {σ τ : ST} (h : Rl σ τ) (c : Int32) (k : Nat) (e : -c = nI k) (h1 : 1 ≤ k) (h2 : k < 7) : ∃ (r : Int32) (σ' τ' : ST), cali (fX4_refuse c σ) (fun r σ => some (r, σ)) = some (r, σ') ∧ cali (fX5_no c τ) (fun r σ => some (r, σ)) = some (r, τ') ∧ Rl σ' τ' := by
  rw [refx k c e h1 h2, nom k c e h2]
  exact ⟨c, _, _, rfl, rfl, Rl_ref h k⟩
theorem ref_l {σ τ : ST} (h : Rl σ τ) (c : Int32) (k : Nat) (e : -c = nI k) (h1 : 1 ≤ k) (h2 : k < 7) : ∃ (r : Int64) (σ' τ' : ST), fX4_refuseLong c σ = some (r, σ') ∧ fX5_noLong c τ = some (r, τ') ∧ Rl σ' τ' := by
  unfold fX4_refuseLong fX5_noLong
  rw [refx k c e h1 h2, nom k c e h2]
  exact ⟨_, _, _, rfl, rfl, Rl_ref h k⟩
theorem nge0 {a : Int32} (h : 0 ≤ a) : ∃ n : Nat, n < 2147483648 ∧ a = nI n := na_of (by rw [Int32.not_lt]; exact h)
theorem sim_letter (a : Int32) : SIMi Rl (fX4_letter a) (fX5_letter a) := by
  intro σ τ h
  unfold fX4_letter fX5_letter
  by_cases h0 : 0 ≤ a
  · simp only [if_pos h0]
    by_cases h1 : 255 < a
    · simp only [if_pos h1]
      exact ref_i h (-6) 6 rfl (by omega) (by omega)
    · simp only [if_neg h1]
      obtain ⟨g1, g2, ⟨n, hn, t1, t2, t3⟩, g4⟩ := id h
      obtain ⟨v, hv, rfl⟩ := nge0 h0
      have hv2 : v ≤ 255 := by rw [l255, nI_lt_iff (by omega) (by omega)] at h1; omega
      rw [t1, t2]
      by_cases h2 : n = 96
      · subst h2
        rw [if_neg (by decide), if_pos (by rfl)]
        exact ref_i h (-6) 6 rfl (by omega) (by omega)
      · rw [if_pos (by rw [l96, nI_lt_iff (by omega) (by omega)]; omega), if_neg (by rw [l96, nI_eq_iff (by omega) (by omega)]; exact h2)]
        unfold fX1_take
        rw [t1, if_neg (by rw [l96, nI_le_iff (by omega) (by omega)]; omega), ast_n (by omega) (by omega), ast_n (by omega) (by omega)]
        simp only [bnd_ap, cali_s, gI_sA, gI_sI, t1, t2, if_true, ← nI_succ]
        refine ⟨_, _, _, rfl, rfl, g1, g2, ⟨n + 1, by omega, rfl, rfl, ?_⟩, g4⟩
        intro k hk
        show ∃ w : Nat, w ≤ 255 ∧ upd (gA σ 5) n (nI v) k = nI w ∧ upd (gA τ 3) n (nI v) k = nI w
        rw [upd_ap, upd_ap]
        by_cases q : k = n
        · rw [if_pos q, if_pos q]; exact ⟨v, hv2, rfl, rfl⟩
        · rw [if_neg q, if_neg q]; exact t3 k (by omega)
  · simp only [if_neg h0]
    exact ref_i h (-4) 4 rfl (by omega) (by omega)
theorem sim_row (a : Int32) : SIMi Rl (fX4_row a) (fX5_row a) := by
  intro σ τ h
  unfold fX4_row fX5_row
  by_cases h0 : 0 ≤ a
  · simp only [if_pos h0]
    by_cases h1 : 9 < a
    · simp only [if_pos h1]
      exact ref_i h (-6) 6 rfl (by omega) (by omega)
    · simp only [if_neg h1]
      obtain ⟨g1, ⟨n, hn, t1, t2, t3⟩, g3⟩ := id h
      obtain ⟨v, hv, rfl⟩ := nge0 h0
      have hv2 : v ≤ 9 := by rw [l9, nI_lt_iff (by omega) (by omega)] at h1; omega
      rw [t1, t2]
      by_cases h2 : n = 10
      · subst h2
        rw [if_neg (by decide), if_pos (by rfl)]
        exact ref_i h (-6) 6 rfl (by omega) (by omega)
      · rw [if_pos (by rw [l10, nI_lt_iff (by omega) (by omega)]; omega), if_neg (by rw [l10, nI_eq_iff (by omega) (by omega)]; exact h2)]
        rw [ast_n (by omega) (by omega), ast_n (by omega) (by omega)]
        simp only [bnd_ap, cali_s, gI_sA, gI_sI, t1, t2, if_true, ← nI_succ]
        refine ⟨_, _, _, rfl, rfl, g1, ⟨n + 1, by omega, rfl, rfl, ?_⟩, g3⟩
        intro k hk
        show ∃ w : Nat, w ≤ 9 ∧ upd (gA σ 43) n (nI v) k = nI w ∧ upd (gA τ 13) n (nI v) k = nI w
        rw [upd_ap, upd_ap]
        by_cases q : k = n
        · rw [if_pos q, if_pos q]; exact ⟨v, hv2, rfl, rfl⟩
        · rw [if_neg q, if_neg q]; exact t3 k (by omega)
  · simp only [if_neg h0]
    exact ref_i h (-4) 4 rfl (by omega) (by omega)
theorem sim_clear : SIMi Rl fX4_clear fX5_clear := by
  intro σ τ h
  unfold fX4_clear fX5_clear
  obtain ⟨g1, ⟨n, hn, t1, t2, t3⟩, g3⟩ := id h
  simp only [bnd_ap, t1, t2]
  exact ⟨_, _, _, rfl, rfl, g1, ⟨0, by omega, rfl, rfl, fun k hk => absurd hk (by omega)⟩, g3⟩
/-- a number is a place's, on both sides alike -/
theorem isP {σ τ : ST} {A : TW} (wA : WFT A) (xA : XT σ 3 6 A) (mA : MT (gA τ 1) A) (a : Int32) : (∃ p : Nat, p < A.1 0 ∧ a = nI p ∧ fX4_isPlace a σ = some (1, σ) ∧ fX5_isNoPlace a τ = some (0, τ)) ∨ (fX4_isPlace a σ = some (0, σ) ∧ fX5_isNoPlace a τ = some (1, τ)) := by
  have hP := wA.1.1
  have e1 : gI σ 3 = nI (A.1 0) := xA.1.1
  have e2 : gA τ 1 0 = nI (A.1 0) := mA.1.1
  unfold fX4_isPlace fX5_isNoPlace
  by_cases h : a < 0
  · right; rw [if_pos h, if_pos h]; exact ⟨rfl, rfl⟩
  · obtain ⟨p, hp, rfl⟩ := na_of h
    rw [if_neg h, if_neg h, l0, ald_n (by omega) (by omega), e1, e2]
    by_cases q : p < A.1 0
    · left
      refine ⟨p, q, rfl, ?_, ?_⟩
      · rw [if_neg]; rw [nI_le_iff (by omega) (by omega)]; omega
      · rw [if_pos]; rw [nI_lt_iff (by omega) (by omega)]; exact q
    · right
      rw [if_pos (by rw [nI_le_iff (by omega) (by omega)]; omega), if_neg (by rw [nI_lt_iff (by omega) (by omega)]; exact q)]
      exact ⟨rfl, rfl⟩
theorem XT_s {σ σ' : ST} {A : TW} (h : XT σ 3 6 A) (hx : xS σ σ') : XT σ' 3 6 A := XT_c h (fun k hk => hx.1 _ (by omega)) (fun k hk => hx.2 _ (by omega))
/-- STARTS by kind, slope, pushers -/
def stI (v s u : Int32) : Int32 := if v = 1 then jmax 0 (jmin 10 (2 * s) - 2) else if v = 2 then jmin 10 (jmin 10 (2 * s) + 1) else if v = 3 then (if s ≤ 0 then jmin 10 (jmin 10 (2 * s) + 1) else 10) else if v = 4 then jmax 0 (jmin 10 (2 * s) - 2) / 2 else if v = 5 then jmax 0 (jmin 10 (jmin 10 (2 * s) + 1) - 3 * jmax 0 (2 - u)) else jmin 10 (2 * s)
def puI (v s u : Int32) : Int32 := jmin 10 (stI v s u + 2 * u)
theorem stI_le : ∀ v, v < 6 → ∀ s, s < 10 → ∀ u, u < 5 → ∃ n, n < 11 ∧ stI (nI v) (nI s) (nI u) = nI n := by decide +kernel
theorem puI_le : ∀ v, v < 6 → ∀ s, s < 10 → ∀ u, u < 5 → ∃ n, n < 11 ∧ puI (nI v) (nI s) (nI u) = nI n := by decide +kernel
theorem xstW {σ : ST} {A : TW} (wA : WFT A) (xA : XT σ 3 6 A) {p : Nat} (hp : p < A.1 0) (u : Int32) : fX2_startsWith_4 (nI p) u σ = some (stI (nI (A.2 0 p)) (nI (A.2 1 p)) u, σ) := by
  have hP := wA.1.1
  obtain ⟨e0, e1, e2⟩ := xA.2.1 p hp
  have e1 : gA σ 7 p = nI (A.2 1 p) := e1
  unfold fX2_startsWith_4
  rw [ald_n (by omega) (by omega)]
  simp only [bnd_ap]
  rw [ald_n (by omega) (by omega), ald_n (by omega) (by omega), e0, e1]
  unfold stI dvi
  by_cases q1 : nI (A.2 0 p) = 1
  · simp only [if_pos q1]
  simp only [if_neg q1]
  by_cases q2 : nI (A.2 0 p) = 2
  · simp only [if_pos q2]
  simp only [if_neg q2]
  by_cases q3 : nI (A.2 0 p) = 3
  · simp only [if_pos q3]
    split <;> rfl
  simp only [if_neg q3]
  by_cases q4 : nI (A.2 0 p) = 4
  · simp only [if_pos q4]
    rw [if_neg (by decide)]
  simp only [if_neg q4]
  by_cases q5 : nI (A.2 0 p) = 5
  · simp only [if_pos q5]
  simp only [if_neg q5]
