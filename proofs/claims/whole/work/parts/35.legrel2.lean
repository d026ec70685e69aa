theorem RR_b {B k t L P a : Nat} (hP : P ≤ 8) (hk : k < 8) (ha : a < 8) (hB : 2 * B < 100000) {x : MS} {d : Nat → Nat} (h : RR B k t L P x d) : ∀ n, n ≤ 8 → RR B k t L P (gsb k a n x) (if k < P ∧ a < P then fwb k a (min n P) d else d) := by
  intro n
  induction n with
  | zero =>
    intro _
    rw [Nat.zero_min]
    split <;> exact h
  | succ n ih =>
    intro hn
    have ih := ih (by omega)
    unfold gsb
    by_cases q : k < P ∧ a < P
    · rw [if_pos q] at ih ⊢
      by_cases z : n < P
      · rw [show min (n + 1) P = n + 1 by omega]
        rw [show min n P = n by omega] at ih
        exact RR_s hP q.1 q.2 z hB ih
      · rw [show min (n + 1) P = P by omega]
        rw [show min n P = P by omega] at ih
        rw [RR_m hk ha (by omega) ih (by omega)]
        exact ih
    · rw [if_neg q] at ih ⊢
      rw [RR_m hk ha (by omega) ih (by omega)]
      exact ih
theorem RR_a {B k t L P : Nat} (hP : P ≤ 8) (hk : k < 8) (hB : 2 * B < 100000) {x : MS} {d : Nat → Nat} (h : RR B k t L P x d) : ∀ n, n ≤ 8 → RR B k t L P (gsa k n x) (if k < P then fwa k P (min n P) d else d) := by
  intro n
  induction n with
  | zero =>
    intro _
    rw [Nat.zero_min]
    split <;> exact h
  | succ n ih =>
    intro hn
    have ih := ih (by omega)
    have s := RR_b hP hk (a := n) (by omega) hB ih 8 (by omega)
    rw [show min 8 P = P by omega] at s
    unfold gsa
    by_cases q : k < P
    · rw [if_pos q] at s ⊢
      by_cases z : n < P
      · rw [show min (n + 1) P = n + 1 by omega]
        rw [if_pos ⟨q, z⟩, show min n P = n by omega] at s
        exact s
      · rw [show min (n + 1) P = P by omega]
        rw [if_neg (fun y => z y.2), show min n P = P by omega] at s
        exact s
    · rw [if_neg q] at s ⊢
      rw [if_neg (fun y => q y.1)] at s
      exact s
theorem RR_w {B C k l t L P : Nat} (hC : C = 2 * B) {x : MS} {d : Nat → Nat} (h : RR B k t L P x d) : RR C l t L P x d := by
  intro a b ha hb
  obtain ⟨r1, r2, r3, r4, r5, r6, r7⟩ := h a b ha hb
  exact ⟨r1, r2, fun z => by have := r3 z; omega, fun _ z => by have := r3 z; omega, r5, r6, r7⟩
theorem RR_all {t L P : Nat} (hP : P ≤ 8) {x : MS} {d : Nat → Nat} (h : RR 60 0 t L P x d) : ∀ n, n ≤ 8 → RR (60 * 2 ^ n) n t L P (gs n x) (fw P (min n P) d) := by
  intro n
  induction n with
  | zero => intro _; rw [Nat.zero_min]; exact h
  | succ n ih =>
    intro hn
    have ih := ih (by omega)
    have hb : 2 * (60 * 2 ^ n) < 100000 := by
      have : 2 ^ n ≤ 2 ^ 7 := Nat.pow_le_pow_right (by omega) (by omega)
      omega
    have s := RR_a hP (k := n) (by omega) hb ih 8 (by omega)
    rw [show min 8 P = P by omega] at s
    refine RR_w (B := 60 * 2 ^ n) (k := n) (by rw [Nat.pow_succ]; omega) ?_
    unfold gs
    by_cases q : n < P
    · rw [if_pos q, show min n P = n by omega] at s
      rw [show min (n + 1) P = n + 1 by omega]
      exact s
    · rw [if_neg q, show min n P = P by omega] at s
      rw [show min (n + 1) P = P by omega]
      exact s
theorem wmin_out {A : TW} (wA : WFT A) {a b : Nat} (h : A.1 0 ≤ a ∨ A.1 0 ≤ b) : wmin A a b = 0 := by
  unfold wmin
  apply wfold_none
  intro i hi q
  have := wA.2.2.1 i hi
  omega
theorem RR_0 {A : TW} (wA : WFT A) {t L : Nat} (ht : t ≤ L) (hL : L ≤ 9) : RR 60 0 t L (A.1 0) (dirM A L) (fun i => dir0 A t (i / 8) (i % 8)) := by
  intro a b ha hb
  have d1 : (8 * a + b) / 8 = a := by omega
  have d2 : (8 * a + b) % 8 = b := by omega
  have e1 : (dirM A L).1 (8 * a + b) = if a = b then 0 else if 0 < wmin A a b ∧ wlit A a b ≤ L then wmin A a b else 100000 := by unfold dirM; dsimp only; rw [d1, d2]
  have e2 : (dirM A L).2 (8 * a + b) = if a = b then 0 else if 0 < wmin A a b ∧ wlit A a b ≤ L then wlit A a b else 0 := by unfold dirM; dsimp only; rw [d1, d2]
  have hm := wmin_le wA a b
  have ho : A.1 0 ≤ a ∨ A.1 0 ≤ b → wmin A a b = 0 := wmin_out wA
  rw [e1, e2]
  dsimp only
  rw [d1, d2]
  unfold dir0 pr
  by_cases q : a = b
  · simp only [if_pos q]
    refine ⟨by omega, Or.inr ⟨by omega, by omega, fun _ => trivial, fun _ => by omega⟩, fun _ => by omega, fun _ _ => by omega, fun _ => ⟨trivial, trivial⟩, fun z => absurd q z, by omega⟩
  · simp only [if_neg q]
    by_cases z0 : 0 < wmin A a b
    · by_cases z1 : wlit A a b ≤ L
      · simp only [if_pos (And.intro z0 z1)]
        by_cases z2 : wlit A a b ≤ t
        · simp only [if_pos (And.intro z0 z2)]
          exact ⟨by omega, Or.inr ⟨by omega, by omega, fun _ => trivial, fun _ => z2⟩, fun _ => by omega, fun _ _ => by omega, fun z => absurd z q, fun _ z => by have := ho z; omega, z1⟩
        · simp only [if_neg (fun y : 0 < wmin A a b ∧ wlit A a b ≤ t => z2 y.2)]
          exact ⟨by omega, Or.inr ⟨by omega, by omega, fun z => absurd z z2, fun z => by omega⟩, fun _ => by omega, fun _ _ => by omega, fun z => absurd z q, fun _ z => by have := ho z; omega, z1⟩
      · have z2 : ¬ wlit A a b ≤ t := by omega
        simp only [if_neg (fun y : 0 < wmin A a b ∧ wlit A a b ≤ t => z2 y.2), if_neg (fun y : 0 < wmin A a b ∧ wlit A a b ≤ L => z1 y.2)]
        exact ⟨by omega, Or.inl ⟨trivial, by omega⟩, fun z => by omega, fun _ z => by omega, fun z => absurd z q, fun _ _ => trivial, by omega⟩
    · simp only [if_neg (fun y : 0 < wmin A a b ∧ wlit A a b ≤ t => z0 y.1), if_neg (fun y : 0 < wmin A a b ∧ wlit A a b ≤ L => z0 y.1)]
      exact ⟨by omega, Or.inl ⟨trivial, by omega⟩, fun z => by omega, fun _ z => by omega, fun z => absurd z q, fun _ _ => trivial, by omega⟩
theorem gsT_def (A : TW) (t : Nat) : gsT A t = gs 8 (dirM A t) := by unfold gsT; rfl
theorem RR_end {A : TW} (wA : WFT A) {t L : Nat} (ht : t ≤ L) (hL : L ≤ 9) (i : Nat) (hi : i < 64) : dst A t i ≤ 1000000 ∧ pr t ((gsT A L).1 i) ((gsT A L).2 i) (dst A t i) ∧ ((gsT A L).1 i < 100000 → (gsT A L).1 i ≤ 30720) ∧ (i / 8 = i % 8 → (gsT A L).1 i = 0 ∧ (gsT A L).2 i = 0) ∧ (gsT A L).2 i ≤ L := by
  have hP := wA.1.1
  have h := RR_all hP (RR_0 wA ht hL) 8 (by omega) (i / 8) (i % 8) (by omega) (by omega)
  rw [show min 8 (A.1 0) = A.1 0 by omega, show 8 * (i / 8) + i % 8 = i by omega, ← dst_def, ← gsT_def] at h
  obtain ⟨r1, r2, r3, r4, r5, r6, r7⟩ := h
  exact ⟨r1, r2, fun z => by have := r3 z; omega, r5, r7⟩
/-- lights L and L: the same minutes -/
theorem same_L {A : TW} (wA : WFT A) {L : Nat} (hL : L ≤ 9) (i : Nat) (hi : i < 64) : ((gsT A L).1 i = 100000 ∧ 1000000 ≤ dst A L i) ∨ ((gsT A L).1 i < 100000 ∧ dst A L i = (gsT A L).1 i) := by
  obtain ⟨r1, r2, r3, r5, r7⟩ := RR_end wA (Nat.le_refl L) hL i hi
  rcases r2 with r2 | ⟨q1, q2, q3, q4⟩
  · exact Or.inl r2
  · exact Or.inr ⟨q1, q3 r7⟩
theorem nI_m9 {n : Nat} (h : n < 2147483648) : ¬ nI n = -9 := by
  intro z
  have := nI_nneg h
  rw [z] at this
  exact this (by decide)
/-- safe: what the class keeps is what the reference keeps -/
theorem safe_rel {A : TW} (wA : WFT A) (i : Nat) (hi : i < 64) : ∀ n, n ≤ 10 → ((stab A i n) = (100000, 0) ∧ (ktab A i n).2 = (-9, -9)) ∨ (∃ d s : Nat, d ≤ 30720 ∧ s ≤ 9 ∧ stab A i n = (d, s) ∧ (ktab A i n).2 = (nI d, nI s)) := by
  intro n
  induction n with
  | zero => intro _; left; exact ⟨rfl, rfl⟩
  | succ n ih =>
    intro hn
    have ih := ih (by omega)
    have e := RR_end wA (Nat.le_refl n) (by omega) i hi
    rcases same_L wA (L := n) (by omega) i hi with ⟨q1, q2⟩ | ⟨q1, q2⟩
    · have k1 : ktab A i (n + 1) = ktab A i n := by rw [ktab, if_pos q2]
      have k2 : stab A i (n + 1) = stab A i n := by rw [stab, if_neg (by omega)]
      rw [k1, k2]; exact ih
    · have k1 : (ktab A i (n + 1)).2 = if (ktab A i n).2.1 < 0 then (nI (dst A n i), nI n) else (ktab A i n).2 := by rw [ktab, if_neg (by omega)]
      have b := e.2.2.1 q1
      rcases ih with ⟨i1, i2⟩ | ⟨d, s, hd, hs, i1, i2⟩
      · right
        have k2 : stab A i (n + 1) = ((gsT A n).1 i, if i % 9 = 0 then 0 else n) := by rw [stab, i1, if_pos ⟨rfl, q1⟩]
        rw [k1, k2, i2, if_pos (show ((-9, -9) : Int32 × Int32).1 < 0 by decide), q2]
        by_cases z : i % 9 = 0
        · -- a place and itself: at lights 0 already
          rw [if_pos z]
          have zz : i / 8 = i % 8 := by omega
          by_cases n0 : n = 0
          · subst n0; exact ⟨_, 0, b, by omega, rfl, rfl⟩
          · exfalso
            have e0 := (RR_end wA (Nat.le_refl 0) (by omega) i hi).2.2.2.1 zz
            have key : ∀ m, 1 ≤ m → (stab A i m).1 ≠ 100000 := by
              intro m
              induction m with
              | zero => intro h; omega
              | succ m ihm =>
                intro _
                by_cases m0 : m = 0
                · subst m0
                  rw [stab, if_pos ⟨rfl, by omega⟩]
                  dsimp only
                  omega
                · have := ihm (by omega)
                  rw [stab, if_neg (fun y => this y.1)]
                  exact this
            exact key n (by omega) (by rw [i1])
        · rw [if_neg z]; exact ⟨_, n, b, by omega, rfl, rfl⟩
      · right
        have k2 : stab A i (n + 1) = stab A i n := by rw [stab, i1, if_neg (by rintro ⟨y, _⟩; dsimp only at y; omega)]
        refine ⟨d, s, hd, hs, k2.trans i1, ?_⟩
        rw [k1, i2, if_neg (show ¬ (nI d, nI s).1 < 0 from nI_nneg (by omega))]
theorem leg_rel {A : TW} (wA : WFT A) (i : Nat) (hi : i < 64) : ((gsT A 9).1 i = 100000 ∧ ∀ n, n ≤ 10 → (ktab A i n).1 = (-9, -9)) ∨ ((gsT A 9).1 i ≤ 30720 ∧ (gsT A 9).2 i ≤ 9 ∧ (ktab A i 10).1 = (nI ((gsT A 9).1 i), nI ((gsT A 9).2 i))) := by
  have e9 := RR_end wA (Nat.le_refl 9) (by omega) i hi
  by_cases q : (gsT A 9).1 i < 100000
  · right
    have b := e9.2.2.1 q
    refine ⟨b, e9.2.2.2.2, ?_⟩
    generalize hM : (gsT A 9).1 i = M at *
    generalize hS : (gsT A 9).2 i = S at *
    have hpr : ∀ t, t ≤ 9 → dst A t i ≤ 1000000 ∧ M ≤ dst A t i ∧ (S ≤ t → dst A t i = M) ∧ (dst A t i = M → S ≤ t) := by
      intro t ht
      have e := RR_end wA ht (Nat.le_refl 9) i hi
      rw [hM, hS] at e
      rcases e.2.1 with ⟨p1, p2⟩ | ⟨p1, p2, p3, p4⟩
      · omega
      · exact ⟨e.1, p2, p3, p4⟩
    have key : ∀ n, n ≤ 10 → (n ≤ S → (ktab A i n).1.1 < 0 ∨ ∃ v : Nat, v ≤ 1000000 ∧ M < v ∧ (ktab A i n).1.1 = nI v) ∧ (S < n → (ktab A i n).1 = (nI M, nI S)) := by
      intro n
      induction n with
      | zero => intro _; exact ⟨fun _ => Or.inl (show (-9 : Int32) < 0 by decide), fun z => absurd z (by omega)⟩
      | succ n ih =>
        intro hn
        obtain ⟨i1, i2⟩ := ih (by omega)
        obtain ⟨p0, p1, p2, p3⟩ := hpr n (by omega)
        by_cases f : 1000000 ≤ dst A n i
        · have k1 : ktab A i (n + 1) = ktab A i n := by rw [ktab, if_pos f]
          rw [k1]
          refine ⟨fun z => i1 (by omega), fun z => ?_⟩
          by_cases y : S ≤ n
          · have := p2 y; omega
          · omega
        · have k1 : (ktab A i (n + 1)).1 = if (ktab A i n).1.1 < 0 ∨ nI (dst A n i) < (ktab A i n).1.1 then (nI (dst A n i), nI n) else (ktab A i n).1 := by rw [ktab, if_neg f]
          rw [k1]
          refine ⟨fun z => ?_, fun z => ?_⟩
          · -- not yet
            have nq : dst A n i ≠ M := fun y => by have := p3 y; omega
            right
            by_cases c : (ktab A i n).1.1 < 0 ∨ nI (dst A n i) < (ktab A i n).1.1
            · rw [if_pos c]; exact ⟨dst A n i, p0, by omega, rfl⟩
            · rw [if_neg c]
              rcases i1 (by omega) with c2 | c2
              · exact absurd (Or.inl c2) c
              · exact c2
          · by_cases y : S < n
            · have := i2 y
              have := p2 (by omega)
              rw [i2 y, if_neg]
              rintro (c | c)
              · exact nI_nneg (by omega) c
              · rw [nI_lt_iff (by omega) (by omega)] at c; omega
            · have sn : S = n := by omega
              have dm := p2 (by omega)
              rw [if_pos, dm, sn]
              rcases i1 (by omega) with c | ⟨v, v0, v1, v2⟩
              · exact Or.inl c
              · right; rw [v2, nI_lt_iff (by omega) (by omega)]; omega
    have hS9 := e9.2.2.2.2
    exact (key 10 (by omega)).2 (by omega)
  · left
    have hM : (gsT A 9).1 i = 100000 := by
      rcases same_L wA (L := 9) (by omega) i hi with ⟨y, _⟩ | ⟨y, _⟩
      · exact y
      · omega
    refine ⟨hM, ?_⟩
    intro n
    induction n with
    | zero => intro _; rfl
    | succ n ih =>
      intro hn
      have e := RR_end wA (t := n) (by omega) (Nat.le_refl 9) i hi
      rcases e.2.1 with ⟨p1, p2⟩ | ⟨p1, p2, p3, p4⟩
      · rw [ktab, if_pos p2]; exact ih (by omega)
      · omega
