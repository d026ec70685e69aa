theorem n10 : ¬ (1 : Int32) = 0 := by decide
theorem n20 : ¬ (2 : Int32) = 0 := by decide
theorem ix3 (p j : Nat) : (10 + 3 * nI p) + nI j = nI (10 + 3 * p + j) := by rw [l10, l3, pk_mul, na_add, na_add]
theorem ix30 (p : Nat) : (10 : Int32) + 3 * nI p = nI (10 + 3 * p) := by rw [l10, l3, pk_mul, na_add]
theorem ix4 (p j : Nat) : (40 + 4 * nI p) + nI j = nI (40 + 4 * p + j) := by rw [l40, l4, pk_mul, na_add, na_add]
theorem ix40 (p : Nat) : (40 : Int32) + 4 * nI p = nI (40 + 4 * p) := by rw [l40, l4, pk_mul, na_add]
theorem ix31 (p : Nat) : (10 + 3 * nI p) + 1 = nI (10 + 3 * p + 1) := ix3 p 1
theorem ix32 (p : Nat) : (10 + 3 * nI p) + 2 = nI (10 + 3 * p + 2) := ix3 p 2
theorem ix33 (p : Nat) : (10 + 3 * nI p) + 0 = nI (10 + 3 * p) := ix3 p 0
theorem ix41 (p : Nat) : (40 + 4 * nI p) + 1 = nI (40 + 4 * p + 1) := ix4 p 1
theorem ix42 (p : Nat) : (40 + 4 * nI p) + 2 = nI (40 + 4 * p + 2) := ix4 p 2
theorem ix43 (p : Nat) : (40 + 4 * nI p) + 3 = nI (40 + 4 * p + 3) := ix4 p 3
theorem ix44 (p : Nat) : (40 + 4 * nI p) + 0 = nI (40 + 4 * p) := ix4 p 0
def puN (τ : ST) (A : TW) (p : Nat) : Int32 := if nI p = gI τ 7 then nI (A.2 2 p) + 1 else nI (A.2 2 p) + 0
def stN (τ : ST) (A : TW) (p : Nat) : Int32 := if gI τ 5 = 0 then (if gI τ 6 = 0 then stI (nI (A.2 0 p)) (nI (A.2 1 p)) (puN τ A p) else if nI p = 0 then 10 else stI (nI (A.2 0 p)) (nI (A.2 1 p)) (puN τ A p)) else 10
def pdN (τ : ST) (A : TW) (p : Nat) : Int32 := jmin 10 (stN τ A p + 2 * puN τ A p)
theorem mpu {τ : ST} {A : TW} (wA : WFT A) (mA : MT (gA τ 1) A) {p : Nat} (hp : p < A.1 0) : fX5_pushers (nI p) τ = some (puN τ A p, τ) := by
  have hP := wA.1.1
  obtain ⟨e0, e1, e2⟩ := mA.2.1 p hp
  unfold fX5_pushers puN
  rw [ix32, ald_n (by omega) (by omega), e2]
  split <;> rfl
theorem mstJ {τ : ST} {A : TW} (wA : WFT A) (mA : MT (gA τ 1) A) {p : Nat} (hp : p < A.1 0) : fX5_starts_J21 (nI p) τ = some (stI (nI (A.2 0 p)) (nI (A.2 1 p)) (puN τ A p), τ) := by
  have hP := wA.1.1
  obtain ⟨e0, e1, e2⟩ := mA.2.1 p hp
  have hk := (wA.2.1 p hp).1
  unfold fX5_starts_J21
  rw [ix31, ald_n (by omega) (by omega)]
  simp only [bnd_ap]
  rw [ix30, ald_n (by omega) (by omega), e0, e1, mpu wA mA hp]
  simp only [cali_s]
  unfold stI dvi
  generalize A.2 0 p = k at hk
  rcases (show k = 0 ∨ k = 1 ∨ k = 2 ∨ k = 3 ∨ k = 4 ∨ k = 5 by omega) with rfl | rfl | rfl | rfl | rfl | rfl
  · simp only [if_neg (show ¬ nI 0 = 1 by decide), if_neg (show ¬ nI 0 = 2 by decide), if_neg (show ¬ nI 0 = 3 by decide), if_neg (show ¬ nI 0 = 4 by decide), if_neg (show ¬ nI 0 = 5 by decide), if_pos (show nI 0 = 0 from rfl), if_neg n20]
  · simp only [if_neg (show ¬ nI 1 = 0 by decide), if_neg (show ¬ nI 1 = 2 by decide), if_neg (show ¬ nI 1 = 3 by decide), if_neg (show ¬ nI 1 = 4 by decide), if_neg (show ¬ nI 1 = 5 by decide), if_pos (show nI 1 = 1 from rfl), if_neg n20]
  · simp only [if_neg (show ¬ nI 2 = 0 by decide), if_neg (show ¬ nI 2 = 1 by decide), if_neg (show ¬ nI 2 = 3 by decide), if_neg (show ¬ nI 2 = 4 by decide), if_neg (show ¬ nI 2 = 5 by decide), if_pos (show nI 2 = 2 from rfl), if_neg n20]
  · simp only [if_neg (show ¬ nI 3 = 0 by decide), if_neg (show ¬ nI 3 = 1 by decide), if_neg (show ¬ nI 3 = 2 by decide), if_neg (show ¬ nI 3 = 4 by decide), if_neg (show ¬ nI 3 = 5 by decide), if_pos (show nI 3 = 3 from rfl), if_neg n20]
    split <;> rfl
  · simp only [if_neg (show ¬ nI 4 = 0 by decide), if_neg (show ¬ nI 4 = 1 by decide), if_neg (show ¬ nI 4 = 2 by decide), if_neg (show ¬ nI 4 = 3 by decide), if_neg (show ¬ nI 4 = 5 by decide), if_pos (show nI 4 = 4 from rfl), if_neg n20]
  · simp only [if_neg (show ¬ nI 5 = 0 by decide), if_neg (show ¬ nI 5 = 1 by decide), if_neg (show ¬ nI 5 = 2 by decide), if_neg (show ¬ nI 5 = 3 by decide), if_neg (show ¬ nI 5 = 4 by decide), if_pos (show nI 5 = 5 from rfl), if_neg n20]
theorem mst {τ : ST} {A : TW} (wA : WFT A) (mA : MT (gA τ 1) A) {p : Nat} (hp : p < A.1 0) : fX5_starts (nI p) τ = some (stN τ A p, τ) := by
  unfold fX5_starts stN
  rw [mstJ wA mA hp]
  split
  · split
    · rfl
    · split <;> rfl
  · rfl
theorem mpd {τ : ST} {A : TW} (wA : WFT A) (mA : MT (gA τ 1) A) {p : Nat} (hp : p < A.1 0) : fX5_pushed (nI p) τ = some (pdN τ A p, τ) := by
  unfold fX5_pushed pdN
  rw [mst wA mA hp]
  simp only [cali_s]
  rw [mpu wA mA hp]
  rfl
/-- without anything supposed -/
theorem puN_0 {τ : ST} {A : TW} (m7 : gI τ 7 = -9) {p : Nat} (hp : p < 8) : puN τ A p = nI (A.2 2 p) := by
  unfold puN
  rw [m7, if_neg]
  · exact Int32.add_zero _
  · rcases (show p = 0 ∨ p = 1 ∨ p = 2 ∨ p = 3 ∨ p = 4 ∨ p = 5 ∨ p = 6 ∨ p = 7 by omega) with rfl | rfl | rfl | rfl | rfl | rfl | rfl | rfl <;> decide
theorem stN_0 {τ : ST} {A : TW} (m5 : gI τ 5 = 0) (m6 : gI τ 6 = 0) (m7 : gI τ 7 = -9) {p : Nat} (hp : p < 8) : stN τ A p = stI (nI (A.2 0 p)) (nI (A.2 1 p)) (nI (A.2 2 p)) := by
  unfold stN
  rw [if_pos m5, if_pos m6, puN_0 m7 hp]
theorem pdN_0 {τ : ST} {A : TW} (m5 : gI τ 5 = 0) (m6 : gI τ 6 = 0) (m7 : gI τ 7 = -9) {p : Nat} (hp : p < 8) : pdN τ A p = puI (nI (A.2 0 p)) (nI (A.2 1 p)) (nI (A.2 2 p)) := by
  unfold pdN puI
  rw [stN_0 m5 m6 m7 hp, puN_0 m7 hp]
theorem xpdF (a b c : Int32) (σ : ST) : fX2_pushedFrom (stI a b c) c σ = some (puI a b c, σ) := rfl
theorem xstA {σ : ST} {A : TW} (wA : WFT A) (xA : XT σ 3 6 A) {p : Nat} (hp : p < A.1 0) : fX2_startsAt_4 (nI p) σ = some (stI (nI (A.2 0 p)) (nI (A.2 1 p)) (nI (A.2 2 p)), σ) := by
  have hP := wA.1.1
  have e2 : gA σ 8 p = nI (A.2 2 p) := (xA.2.1 p hp).2.2
  unfold fX2_startsAt_4
  rw [ald_n (by omega) (by omega), e2, xstW wA xA hp]
  rfl
theorem xpdA {σ : ST} {A : TW} (wA : WFT A) (xA : XT σ 3 6 A) {p : Nat} (hp : p < A.1 0) : fX2_pushedAt_4 (nI p) σ = some (puI (nI (A.2 0 p)) (nI (A.2 1 p)) (nI (A.2 2 p)), σ) := by
  have hP := wA.1.1
  have e2 : gA σ 8 p = nI (A.2 2 p) := (xA.2.1 p hp).2.2
  unfold fX2_pushedAt_4
  rw [xstA wA xA hp, cali_s, ald_n (by omega) (by omega), e2, xpdF]
  rfl
theorem sim_place (a w : Int32) : SIMi Rl (fX4_place a w) (fX5_place a w) := by
  intro σ τ h
  obtain ⟨g1, g2, g3, ⟨A, wA, xA, mA, lA⟩, g5, ⟨m5, m6, m7, m14⟩, gm⟩ := id h
  have hP := wA.1.1
  unfold fX4_place fX5_place
  rcases isP wA xA mA a with ⟨p, hp, rfl, i1, i2⟩ | ⟨i1, i2⟩
  · rw [i1, i2]
    simp only [cali_s, if_neg n10, if_true]
    obtain ⟨x0, x1, x2⟩ := xA.2.1 p hp
    obtain ⟨e0, e1, e2⟩ := mA.2.1 p hp
    have x1 : gA σ 7 p = nI (A.2 1 p) := x1
    have x2 : gA σ 8 p = nI (A.2 2 p) := x2
    by_cases q0 : w = 0
    · simp only [if_pos q0]; subst q0
      unfold fX5_place_J48
      rw [ix33, ald_n (by omega) (by omega), ald_n (by omega) (by omega), x0, e0]
      exact ⟨_, _, _, rfl, rfl, h⟩
    simp only [if_neg q0]
    by_cases q1 : w = 1
    · simp only [if_pos q1]; subst q1
      unfold fX5_place_J48
      rw [ix31, ald_n (by omega) (by omega), ald_n (by omega) (by omega), x1, e1]
      exact ⟨_, _, _, rfl, rfl, h⟩
    simp only [if_neg q1]
    by_cases q2 : w = 2
    · simp only [if_pos q2]; subst q2
      unfold fX5_place_J48
      rw [ix32, ald_n (by omega) (by omega), ald_n (by omega) (by omega), x2, e2]
      exact ⟨_, _, _, rfl, rfl, h⟩
    simp only [if_neg q2]
    by_cases q3 : w = 3
    · simp only [if_pos q3]
      rw [xstA wA xA hp, mst wA mA hp, stN_0 m5 m6 m7 (by omega)]
      exact ⟨_, _, _, rfl, rfl, h⟩
    simp only [if_neg q3]
    by_cases q4 : w = 4
    · simp only [if_pos q4]
      rw [xpdA wA xA hp, mpd wA mA hp, pdN_0 m5 m6 m7 (by omega)]
      exact ⟨_, _, _, rfl, rfl, h⟩
    simp only [if_neg q4]
    exact ref_i h (-2) 2 rfl (by omega) (by omega)
  · rw [i1, i2]
    simp only [cali_s, if_neg n10, if_true]
    exact ref_i h (-1) 1 rfl (by omega) (by omega)
/-- a number of a town's rows put anew -/
def tset (A : TW) (j p v : Nat) : TW := (A.1, fun j' i => if j' = j ∧ i = p then v else A.2 j' i)
theorem wfold_congr {A B : TW} {c a b : Nat} : ∀ n : Nat, (∀ i, i < n → A.2 3 i = B.2 3 i ∧ A.2 4 i = B.2 4 i ∧ A.2 c i = B.2 c i) → wfold A c a b n = wfold B c a b n := by
  intro n
  induction n with
  | zero => intro _; rfl
  | succ n ih =>
    intro h
    obtain ⟨h1, h2, h3⟩ := h n (by omega)
    unfold wfold
    rw [h1, h2, h3, ih (fun i hi => h i (by omega))]
