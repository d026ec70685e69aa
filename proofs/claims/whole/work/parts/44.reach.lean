/-! ===== who comes there comes back ===== -/
def mko (d : Nat → Nat) (k a b : Nat) : Nat := if d (8 * a + k) + d (8 * k + b) < d (8 * a + b) then d (8 * a + k) + d (8 * k + b) else d (8 * a + b)
theorem mko_r {d : Nat → Nat} {k b : Nat} (h : d (8 * k + k) = 0) : mko d k k b = d (8 * k + b) := by unfold mko; rw [h, if_neg (by omega)]
theorem mko_c {d : Nat → Nat} {k a : Nat} (h : d (8 * k + k) = 0) : mko d k a k = d (8 * a + k) := by unfold mko; rw [h, if_neg (by omega)]
theorem fwb_at {d : Nat → Nat} {k a : Nat} (hk : k < 8) (h : d (8 * k + k) = 0) : ∀ n, n ≤ 8 → ∀ x y, x < 8 → y < 8 → fwb k a n d (8 * x + y) = if x = a ∧ y < n then mko d k a y else d (8 * x + y) := by
  intro n
  induction n with
  | zero => intro _ x y hx hy; rw [if_neg (by omega)]; rfl
  | succ n ih =>
    intro hn x y hx hy
    have i := ih (by omega)
    unfold fwb fwc
    by_cases ha : a < 8
    · have e1 : fwb k a n d (8 * a + k) = d (8 * a + k) := by
        rw [i a k ha hk]
        split
        · exact mko_c h
        · rfl
      have e2 : fwb k a n d (8 * k + n) = d (8 * k + n) := by
        rw [i k n hk (by omega), if_neg (by omega)]
      have e3 : fwb k a n d (8 * a + n) = d (8 * a + n) := by
        rw [i a n ha (by omega), if_neg (by omega)]
      rw [e1, e2, e3]
      by_cases q : 8 * x + y = 8 * a + n
      · have q1 : x = a := by omega
        have q2 : y = n := by omega
        rw [if_pos q, if_pos (show x = a ∧ y < n + 1 from ⟨q1, by omega⟩), q2]; rfl
      · rw [if_neg q, i x y hx hy]
        by_cases z : x = a ∧ y < n
        · rw [if_pos z, if_pos ⟨z.1, by omega⟩]
        · rw [if_neg z, if_neg (by omega)]
    · rw [if_neg (by omega), i x y hx hy, if_neg (by omega), if_neg (by omega)]
theorem fwa_at {d : Nat → Nat} {k N : Nat} (hk : k < 8) (hN : N ≤ 8) (h : d (8 * k + k) = 0) : ∀ n, n ≤ N → ∀ x y, x < 8 → y < 8 → fwa k N n d (8 * x + y) = if x < n ∧ y < N then mko d k x y else d (8 * x + y) := by
  intro n
  induction n with
  | zero => intro _ x y hx hy; rw [if_neg (by omega)]; rfl
  | succ n ih =>
    intro hn x y hx hy
    have i := ih (by omega)
    unfold fwa
    have e0 : fwa k N n d (8 * k + k) = 0 := by
      rw [i k k hk hk]
      split
      · rw [mko_r h]; exact h
      · exact h
    rw [fwb_at hk e0 N hN x y hx hy]
    by_cases q : x = n ∧ y < N
    · rw [if_pos q, if_pos (by omega)]
      unfold mko
      have e1 : fwa k N n d (8 * n + k) = d (8 * n + k) := by rw [i n k (by omega) hk, if_neg (by omega)]
      have e2 : fwa k N n d (8 * k + y) = d (8 * k + y) := by
        rw [i k y hk hy]
        split
        · exact mko_r h
        · rfl
      have e3 : fwa k N n d (8 * n + y) = d (8 * n + y) := by rw [i n y (by omega) hy, if_neg (by omega)]
      rw [e1, e2, e3, q.1]
    · rw [if_neg q, i x y hx hy]
      by_cases z : x < n ∧ y < N
      · rw [if_pos z, if_pos (by omega)]
      · rw [if_neg z, if_neg (by omega)]
def FI (N n B : Nat) (d : Nat → Nat) : Prop := (∀ a b, a < N → b < N → d (8 * a + b) ≤ 1000000 ∧ (d (8 * a + b) < 1000000 → d (8 * a + b) ≤ B) ∧ d (8 * a + b) = d (8 * b + a)) ∧ (∀ a, a < N → d (8 * a + a) = 0) ∧ ∀ a j b, a < N → j < n → b < N → d (8 * a + j) < 1000000 → d (8 * j + b) < 1000000 → d (8 * a + b) < 1000000
theorem FI_s {N n B : Nat} {d : Nat → Nat} (hN : N ≤ 8) (hn : n < N) (hB : 2 * B < 1000000) (h : FI N n B d) : FI N (n + 1) (2 * B) (fwa n N N d) := by
  obtain ⟨h1, h2, h3⟩ := h
  have at' : ∀ x y, x < N → y < N → fwa n N N d (8 * x + y) = mko d n x y := by
    intro x y hx hy
    rw [fwa_at (by omega) hN (h2 n hn) N (Nat.le_refl _) x y (by omega) (by omega), if_pos ⟨hx, hy⟩]
  have fin : ∀ x y, x < N → y < N → (mko d n x y < 1000000 ↔ d (8 * x + y) < 1000000 ∨ (d (8 * x + n) < 1000000 ∧ d (8 * n + y) < 1000000)) := by
    intro x y hx hy
    have a1 := h1 x y hx hy
    have a2 := h1 x n hx hn
    have a3 := h1 n y hn hy
    unfold mko
    split <;> omega
  refine ⟨fun a b ha hb => ?_, fun a ha => ?_, fun a j b ha hj hb => ?_⟩
  · rw [at' a b ha hb, at' b a hb ha]
    have a1 := h1 a b ha hb
    have a2 := h1 a n ha hn
    have a3 := h1 n b hn hb
    have b1 := h1 b a hb ha
    have b2 := h1 b n hb hn
    have b3 := h1 n a hn ha
    unfold mko
    split <;> split <;> omega
  · rw [at' a a ha ha]
    have := h2 a ha
    unfold mko
    split <;> omega
  · rw [at' a j ha (by omega), at' j b (by omega) hb, at' a b ha hb, fin a j ha (by omega), fin j b (by omega) hb, fin a b ha hb]
    by_cases z : j = n
    · subst z
      have := h2 j hn
      intro p q
      right
      omega
    · intro p q
      have jn : j < n := by omega
      have k1 := h3 a j b ha jn hb
      have k2 := h3 a j n ha jn hn
      have k3 := h3 n j b hn jn hb
      omega
theorem FI_all {N : Nat} {d : Nat → Nat} (hN : N ≤ 8) (h : FI N 0 60 d) : ∀ n, n ≤ N → FI N n (60 * 2 ^ n) (fw N n d) := by
  intro n
  induction n with
  | zero => intro _; exact h
  | succ n ih =>
    intro hn
    have i := ih (by omega)
    have p : 2 ^ n ≤ 2 ^ 7 := Nat.pow_le_pow_right (by omega) (by omega)
    have := FI_s hN (by omega) (by omega) i
    have e : 60 * 2 ^ (n + 1) = 2 * (60 * 2 ^ n) := by rw [Nat.pow_succ]; omega
    rw [e]
    unfold fw
    exact this
theorem wfold_sym (A : TW) (c a b : Nat) : ∀ n, wfold A c a b n = wfold A c b a n := by
  intro n
  induction n with
  | zero => rfl
  | succ n ih =>
    unfold wfold
    rw [ih]
    by_cases z : (A.2 3 n = a ∧ A.2 4 n = b) ∨ (A.2 3 n = b ∧ A.2 4 n = a)
    · rw [if_pos z, if_pos z.symm]
    · rw [if_neg z, if_neg (fun q => z q.symm)]
theorem wmin_60 {A : TW} (wA : WFT A) (a b : Nat) : wmin A a b ≤ 60 := by
  unfold wmin
  have : ∀ n, n ≤ A.1 1 → wfold A 5 a b n ≤ 60 := by
    intro n
    induction n with
    | zero => intro _; exact Nat.zero_le _
    | succ n ih =>
      intro hn
      unfold wfold
      split
      · exact (wA.2.2.1 n (by omega)).2.2.2.2.1
      · exact ih (by omega)
  exact this _ (Nat.le_refl _)
theorem FI_0 {A : TW} (wA : WFT A) (t : Nat) : FI (A.1 0) 0 60 (fun i => dir0 A t (i / 8) (i % 8)) := by
  have hP := wA.1.1
  have e : ∀ a b, b < A.1 0 → (8 * a + b) / 8 = a ∧ (8 * a + b) % 8 = b := by intro a b hb; omega
  refine ⟨fun a b ha hb => ?_, fun a ha => ?_, fun a j b _ hj => absurd hj (by omega)⟩
  · dsimp only
    rw [(e a b hb).1, (e a b hb).2, (e b a ha).1, (e b a ha).2]
    have w := wmin_60 wA a b
    have s1 : wmin A b a = wmin A a b := wfold_sym A 5 b a _
    have s2 : wlit A b a = wlit A a b := wfold_sym A 6 b a _
    unfold dir0
    rw [s1, s2]
    by_cases z : a = b
    · rw [if_pos z, if_pos z.symm]; omega
    · rw [if_neg z, if_neg (show ¬ b = a from fun q => z q.symm)]
      split <;> omega
  · dsimp only
    rw [(e a a ha).1, (e a a ha).2]
    unfold dir0
    rw [if_pos rfl]
theorem reach {A : TW} (wA : WFT A) {w p : Nat} (hw : w < A.1 0) (hp : p < A.1 0) (h1 : dst A 9 (8 * w) < 1000000) (h2 : dst A 9 (8 * w + p) < 1000000) : dst A 9 (8 * p) < 1000000 := by
  have F := FI_all wA.1.1 (FI_0 wA 9) (A.1 0) (Nat.le_refl _)
  rw [← dst_def] at F
  have s := (F.1 w p hw hp).2.2
  have := F.2.2 p w 0 hp hw (by omega) (by rw [← s]; exact h2) h1
  exact this
theorem reach0 {A : TW} (wA : WFT A) (h : 0 < A.1 0) : dst A 9 0 = 0 := by
  have F := FI_all wA.1.1 (FI_0 wA 9) (A.1 0) (Nat.le_refl _)
  rw [← dst_def] at F
  exact F.2.1 0 h
theorem LegM_far {A : TW} (wA : WFT A) {τ : ST} (h : LegM τ A) {i : Nat} (hi : i < 64) : gA τ 8 i = 100000 ↔ ¬ dst A 9 i < 1000000 := by
  have r := (RR_end wA (Nat.le_refl 9) (Nat.le_refl 9) i hi).1
  rw [(h i hi).1]
  rcases same_L wA (Nat.le_refl 9) i hi with ⟨a, b⟩ | ⟨a, b⟩
  · rw [a]; exact ⟨fun _ => by omega, fun _ => rfl⟩
  · rw [l100000, nI_eq_iff (by omega) (by omega)]; omega
theorem LegM_H {A : TW} (wA : WFT A) {τ : ST} (h : LegM τ A) : ∀ w p, w < A.1 0 → p < A.1 0 → ¬ gA τ 8 (8 * w) = 100000 → ¬ gA τ 8 (8 * w + p) = 100000 → ¬ gA τ 8 (8 * p) = 100000 := by
  have hP := wA.1.1
  intro w p hw hp
  rw [LegM_far wA h (by omega), LegM_far wA h (by omega), LegM_far wA h (by omega), Decidable.not_not, Decidable.not_not, Decidable.not_not]
  exact reach wA hw hp
theorem LegM_0 {A : TW} (wA : WFT A) (h0 : 0 < A.1 0) {τ : ST} (h : LegM τ A) : ¬ gA τ 8 0 = 100000 := by
  rw [LegM_far wA h (by omega), Decidable.not_not, reach0 wA h0]; omega
theorem legs_go2 {σ τ : ST} {A : TW} (wA : WFT A) (h0 : 0 < A.1 0) (mA : MT (gA τ 1) A) (l : LegX σ A) : ∃ τ', fX5_legs τ = some τ' ∧ fM τ τ' ∧ LgR σ τ' ∧ ¬ gA τ' 8 0 = 100000 ∧ ∀ w p, w < A.1 0 → p < A.1 0 → ¬ gA τ' 8 (8 * w) = 100000 → ¬ gA τ' 8 (8 * w + p) = 100000 → ¬ gA τ' 8 (8 * p) = 100000 := by
  obtain ⟨τ', h1, h2, h3⟩ := legsM wA mA
  exact ⟨τ', h1, h2, LR_of wA l h3, LegM_0 wA h0 h3, LegM_H wA h3⟩
