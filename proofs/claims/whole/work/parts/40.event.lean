/-! ===== one START or STALL on both sides ===== -/
theorem nI_64 {t : Nat} (h : t < 2147483648) : Int32.toInt64 (nI t) = lN t := by
  apply Int64.toInt_inj.mp
  rw [Int32.toInt_toInt64, nI_toInt h, pk_lT (by omega)]
theorem lN_10 : (10 : Int64) = lN 10 := rfl
/-- draws: one chance more, from (going, seed) -/
def drw1 (t : Int32) (st : Bool) (q : Int32 × Int32) : Int32 × Int32 :=
  if q.1 = 0 then q else if t = 10 then (if st then 1 else 0, q.2) else if t ≤ 0 then (if st then 0 else 1, q.2) else
    (if t ≤ ((q.2 * 1664525 + 1013904223) &&& 2147483647) / 256 - ((q.2 * 1664525 + 1013904223) &&& 2147483647) / 256 / 10 * 10 then (if st then 0 else 1) else (if st then 1 else 0), q.2 * 1664525 + 1013904223)
/-- draws: the first k chances of a log -/
def drw (t s : Nat → Int32) : Nat → Int32 × Int32 → Int32 × Int32
  | 0, q => q
  | n + 1, q => drw1 (t n) (decide (s n = 0)) (drw t s n q)
theorem vz0 : vp_nar .boolean 0 = 0 := by decide
theorem vz1 : vp_nar .boolean 1 = 1 := by decide
theorem noteX {σ : ST} {k : Nat} (hk : k < 12) (e : gI σ 21 = nI k) (t s : Int32) : fX3_noteChance t s σ = some (sI (sA (sA σ 41 (upd (gA σ 41) k t)) 42 (upd (gA σ 42) k (vp_nar .boolean s))) 21 (nI (k + 1))) := by
  unfold fX3_noteChance
  rw [e, if_neg (by rw [l12, nI_le_iff (by omega) (by omega)]; omega), ast_n (by omega) (by omega)]
  simp only [gI_sA]
  rw [e, ast_n (by omega) (by omega)]
  simp only [bnd_ap, gI_sA]
  rw [e, ← nI_succ]
  rfl
theorem J60M (σ : ST) (st : Bool) : fX5_happens_J60 (if st then 1 else 0) σ = some (sI σ 15 (if st then 1 else 0)) := by
  unfold fX5_happens_J60
  rw [bnd_ap]
  cases st <;> rfl
theorem J64M (σ : ST) (st : Bool) : fX5_happens_J64 (if st then 1 else 0) σ = some (sI σ 15 (if st then 0 else 1)) := by
  unfold fX5_happens_J64
  rw [bnd_ap]
  cases st <;> rfl
theorem drawM (σ : ST) : fX5_draw 10 σ = some (((gI σ 16 * 1664525 + 1013904223) &&& 2147483647) / 256 - ((gI σ 16 * 1664525 + 1013904223) &&& 2147483647) / 256 / 10 * 10, sI σ 16 (gI σ 16 * 1664525 + 1013904223)) := by
  unfold fX5_draw
  rw [bnd_ap]
  unfold dvi rmi
  rw [if_neg (show ¬ (256 : Int32) = 0 by decide)]
  dsimp only
  rw [if_neg (show ¬ (10 : Int32) = 0 by decide), gI_sI, if_pos rfl]
theorem dv10 {c u : Nat} (hc : c ≤ 1000000000000) (hu : u ≤ 10) (k : Int64 → Option ST) : dvl (lN c * lN u) 10 k = k (lN (c * u / 10)) := by
  have : c * u ≤ 1000000000000 * 10 := Nat.mul_le_mul hc hu
  unfold dvl
  rw [if_neg (show ¬ (10 : Int64) = 0 by decide), lN_10, lN_mul, pk_lDiv (by omega) (by omega) (by omega)]
theorem hapJ {τ : ST} {c t u : Nat} (hc : c ≤ 1000000000000) (ht : t ≤ 10) (hu : u ≤ 10) (st : Bool) : ∃ τ', fX5_happens_J17 (nI t) (if st then 1 else 0) (nI u) (lN c) τ = some τ' ∧ gL τ' 0 = lN (c * u / 10) ∧ (∀ k, k ≠ 0 → gL τ' k = gL τ k) ∧ (∀ k, k ≠ 15 → k ≠ 16 → gI τ' k = gI τ k) ∧ (∀ k, gA τ' k = gA τ k) ∧ (gI τ' 15, gI τ' 16) = (if gI τ 14 = 0 then (gI τ 15, gI τ 16) else drw1 (nI t) st (gI τ 15, gI τ 16)) := by
  unfold fX5_happens_J17
  rw [nI_64 (by omega), dv10 hc hu, bnd_ap]
  rw [gI_sL, gI_sL]
  by_cases d : gI τ 14 = 0
  · rw [if_pos d, if_pos d]
    exact ⟨_, rfl, rfl, fun k hk => by rw [gL_sL, if_neg hk], fun _ _ _ => rfl, fun _ => rfl, rfl⟩
  rw [if_neg d, if_neg d]
  unfold drw1
  dsimp only
  by_cases g : gI τ 15 = 0
  · rw [if_pos g, if_pos g]
    exact ⟨_, rfl, rfl, fun k hk => by rw [gL_sL, if_neg hk], fun _ _ _ => rfl, fun _ => rfl, rfl⟩
  rw [if_neg g, if_neg g]
  by_cases z : nI t = 10
  · rw [if_pos z, if_pos z, J60M]
    refine ⟨_, rfl, rfl, fun k hk => by rw [gL_sI, gL_sL, if_neg hk], fun k h1 h2 => by rw [gI_sI, if_neg h1, gI_sL], fun _ => rfl, rfl⟩
  rw [if_neg z, if_neg z]
  by_cases y : nI t ≤ 0
  · rw [if_pos y, if_pos y, J64M]
    refine ⟨_, rfl, rfl, fun k hk => by rw [gL_sI, gL_sL, if_neg hk], fun k h1 h2 => by rw [gI_sI, if_neg h1, gI_sL], fun _ => rfl, rfl⟩
  rw [if_neg y, if_neg y, drawM, cali_s, gI_sL]
  by_cases w : nI t ≤ ((gI τ 16 * 1664525 + 1013904223) &&& 2147483647) / 256 - ((gI τ 16 * 1664525 + 1013904223) &&& 2147483647) / 256 / 10 * 10
  · rw [if_pos w, if_pos w, J64M]
    refine ⟨_, rfl, rfl, fun k hk => by rw [gL_sI, gL_sI, gL_sL, if_neg hk], fun k h1 h2 => by rw [gI_sI, if_neg h1, gI_sI, if_neg h2, gI_sL], fun _ => rfl, rfl⟩
  · rw [if_neg w, if_neg w, J60M]
    refine ⟨_, rfl, rfl, fun k hk => by rw [gL_sI, gL_sI, gL_sL, if_neg hk], fun k h1 h2 => by rw [gI_sI, if_neg h1, gI_sI, if_neg h2, gI_sL], fun _ => rfl, rfl⟩
theorem hapM {τ : ST} {c t : Nat} (hc : c ≤ 1000000000000) (ht : t ≤ 10) (e : gL τ 0 = lN c) (st : Bool) : ∃ τ', fX5_happens (nI t) (if st then 1 else 0) τ = some τ' ∧ gL τ' 0 = lN (c * (if st then t else 10 - t) / 10) ∧ (∀ k, k ≠ 0 → gL τ' k = gL τ k) ∧ (∀ k, k ≠ 15 → k ≠ 16 → gI τ' k = gI τ k) ∧ (∀ k, gA τ' k = gA τ k) ∧ (gI τ' 15, gI τ' 16) = (if gI τ 14 = 0 then (gI τ 15, gI τ 16) else drw1 (nI t) st (gI τ 15, gI τ 16)) := by
  unfold fX5_happens
  rw [e]
  cases st with
  | false =>
    have := hapJ (τ := τ) hc ht (u := 10 - t) (by omega) false
    rw [if_pos (show (if false = true then (1 : Int32) else 0) = 0 from rfl), show (10 : Int32) - nI t = nI (10 - t) from by rw [l10]; exact pk_sub ht]
    exact this
  | true =>
    have := hapJ (τ := τ) hc ht (u := t) ht true
    rw [if_neg (show ¬ (if true = true then (1 : Int32) else 0) = 0 by decide)]
    exact this
/-- the class's side of it: the chance left, and the note -/
theorem evX {σ : ST} {k c t u : Nat} (hk : k < 12) (e : gI σ 21 = nI k) (hc : c ≤ 1000000000000) (h10 : 10 ∣ c) (hu : u ≤ 10) (ec : gL σ 0 = lN c) (K : Int64 → Option ST) : dvl (gL σ 0) 10 K = K (lN (c / 10)) := by
  unfold dvl
  rw [if_neg (show ¬ (10 : Int64) = 0 by decide), ec, lN_10, pk_lDiv (by omega) (by omega) (by omega)]
theorem c10 {c u : Nat} (h : 10 ∣ c) : c / 10 * u = c * u / 10 := by
  obtain ⟨d, rfl⟩ := h
  rw [Nat.mul_div_cancel_left d (by omega), Nat.mul_assoc, Nat.mul_div_cancel_left _ (by omega)]
