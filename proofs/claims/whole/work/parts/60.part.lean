/-! ===== a part of a fraction of 10^12: twelve rounds, or Euclid ===== -/
theorem tdvN (z : Int) (y : Nat) : (∃ n : Nat, z = (n : Int) ∧ z.tdiv y = ((n / y : Nat) : Int)) ∨ (∃ n : Nat, z = -(n : Int) ∧ z.tdiv y = -((n / y : Nat) : Int)) := by
  rcases Int.le_total 0 z with h | h
  · left
    refine ⟨z.toNat, by omega, ?_⟩
    rw [show z = ((z.toNat : Nat) : Int) by omega]
    exact (Int.ofNat_tdiv _ _).symm
  · right
    refine ⟨(-z).toNat, by omega, ?_⟩
    rw [show z = -(((-z).toNat : Nat) : Int) by omega, Int.neg_tdiv, show -(-(((-z).toNat : Nat) : Int)) = (((-z).toNat : Nat) : Int) by omega, ← Int.ofNat_tdiv]
    congr 1
theorem DV (x : Int64) (y : Nat) (hy : y = 2 ∨ y = 5) : (x - x / lN y * lN y = 0 ∧ x.toInt = (x / lN y).toInt * y) ∨ (¬ x - x / lN y * lN y = 0 ∧ ¬ (y : Int) ∣ x.toInt) := by
  have h1 := Int64.toInt_lt x
  have h2 := Int64.le_toInt x
  have hq : (x / lN y).toInt = x.toInt.tdiv y := by
    rw [Int64.toInt_div_of_ne_right _ _ (by rcases hy with rfl | rfl <;> decide), pk_lT (by omega)]
  have hm : (x / lN y * lN y).toInt = (x / lN y).toInt * y := by
    rw [Int64.toInt_mul, pk_lT (by omega), hq]
    rcases tdvN x.toInt y with ⟨n, e1, e2⟩ | ⟨n, e1, e2⟩
    · rw [e2]
      apply Int.bmod_eq_of_le <;> rcases hy with rfl | rfl <;> omega
    · rw [e2]
      apply Int.bmod_eq_of_le <;> rcases hy with rfl | rfl <;> omega
  by_cases e : x = x / lN y * lN y
  · left
    refine ⟨?_, ?_⟩
    · rw [← e]; exact Int64.sub_self x
    · rw [← hm, ← e]
  · right
    refine ⟨fun h => e ?_, fun h => e ?_⟩
    · have := congrArg (· + x / lN y * lN y) h
      rw [Int64.sub_add_cancel, Int64.zero_add] at this
      exact this
    · apply Int64.toInt_inj.mp
      rw [hm, hq, Int.tdiv_mul_cancel h]
def PIV (z : Int) (k2 k5 : Nat) (x : Int64) (d : Nat) : Prop := ∃ a b : Nat, a ≤ k2 ∧ b ≤ k5 ∧ z = x.toInt * ((2 ^ a * 5 ^ b : Nat) : Int) ∧ d = 2 ^ (12 - a) * 5 ^ (12 - b) ∧ (a = k2 ∨ ¬ ((2 : Nat) : Int) ∣ x.toInt) ∧ (b = k5 ∨ ¬ ((5 : Nat) : Int) ∣ x.toInt)
theorem p2le (a b : Nat) : 2 ^ (12 - a) * 5 ^ (12 - b) ≤ 1000000000000 := by
  have h1 : 2 ^ (12 - a) ≤ 2 ^ 12 := Nat.pow_le_pow_right (by omega) (by omega)
  have h2 : 5 ^ (12 - b) ≤ 5 ^ 12 := Nat.pow_le_pow_right (by omega) (by omega)
  exact Nat.le_trans (Nat.mul_le_mul h1 h2) (by decide)
theorem rst {β : Type} (y : Nat) (hy : y = 2 ∨ y = 5) (x : Int64) (d : Nat) (hd : d ≤ 1000000000000) (K : Int64 → Int64 → Option β) : rml x (lN y) (fun v => if lg_cmp v 0 = 0 then rml (lN d) (lN y) (fun v' => if lg_cmp v' 0 = 0 then dvl x (lN y) (fun v => bnd v (fun x3 => dvl (lN d) (lN y) (fun v => bnd v (fun x5 => K x3 x5)))) else K x (lN d)) else K x (lN d)) = (if x - x / lN y * lN y = 0 then (if d % y = 0 then K (x / lN y) (lN (d / y)) else K x (lN d)) else K x (lN d)) := by
  have y0 : ¬ lN y = 0 := by rcases hy with rfl | rfl <;> decide
  have ly : y < 2 ^ 63 := by omega
  unfold rml dvl
  simp only [if_neg y0, lg_cmp_eq, bnd_ap]
  rw [pk_lRem (by omega) (by omega) ly, pk_lDiv (by omega) (by omega) ly, show (0 : Int64) = lN 0 from rfl]
  have := pk_lEQ (a := d % y) (b := 0) (Nat.lt_of_le_of_lt (Nat.mod_le d y) (by omega)) (by omega)
  simp only [this]
theorem step2 {z : Int} {k k5 : Nat} {x : Int64} {d : Nat} (hk : k < 12) (I : PIV z k k5 x d) : ∃ x' d', PIV z (k + 1) k5 x' d' ∧ ∀ {β : Type} (K : Int64 → Int64 → Option β), rml x 2 (fun v => if lg_cmp v 0 = 0 then rml (lN d) 2 (fun v' => if lg_cmp v' 0 = 0 then dvl x 2 (fun v => bnd v (fun x3 => dvl (lN d) 2 (fun v => bnd v (fun x5 => K x3 x5)))) else K x (lN d)) else K x (lN d)) = K x' (lN d') := by
  obtain ⟨a, b, ha, hb, hz, hd, h2, h5⟩ := I
  have R : ∀ {β : Type} (K : Int64 → Int64 → Option β), _ := fun {β} K => rst (β := β) 2 (Or.inl rfl) x d (by rw [hd]; exact p2le a b) K
  rcases DV x 2 (Or.inl rfl) with ⟨e1, e2⟩ | ⟨e1, e2⟩
  · have ak : a = k := by
      rcases h2 with h | h
      · exact h
      · exact absurd ⟨(x / lN 2).toInt, by rw [e2]; exact Int.mul_comm _ _⟩ h
    have dd : d = 2 * (2 ^ (12 - (a + 1)) * 5 ^ (12 - b)) := by
      rw [hd, show 12 - a = (12 - (a + 1)) + 1 by omega, Nat.pow_succ]
      rw [Nat.mul_comm (2 ^ (12 - (a + 1))) 2, Nat.mul_assoc]
    refine ⟨x / lN 2, d / 2, ⟨a + 1, b, by omega, hb, ?_, by rw [dd, Nat.mul_div_cancel_left _ (by omega)], Or.inl (by omega), ?_⟩, fun {β} K => ?_⟩
    · rw [hz, e2, Nat.pow_succ, Nat.mul_assoc (2 ^ a), Nat.mul_comm 2 (5 ^ b), ← Nat.mul_assoc, Int.natCast_mul (2 ^ a * 5 ^ b) 2, Int.mul_assoc, Int.mul_comm ((2 : Nat) : Int)]
    · rcases h5 with h | h
      · exact Or.inl h
      · right
        rintro ⟨t, ht⟩
        exact h ⟨t * 2, by rw [e2, ht, Int.mul_assoc]; rfl⟩
    · refine (R K).trans ?_
      rw [if_pos e1, if_pos (by rw [dd]; exact Nat.mul_mod_right _ _)]
  · refine ⟨x, d, ⟨a, b, by omega, hb, hz, hd, Or.inr e2, h5⟩, fun {β} K => ?_⟩
    refine (R K).trans ?_
    rw [if_neg e1]
theorem step5 {z : Int} {k k2 : Nat} {x : Int64} {d : Nat} (hk : k < 12) (I : PIV z k2 k x d) : ∃ x' d', PIV z k2 (k + 1) x' d' ∧ ∀ {β : Type} (K : Int64 → Int64 → Option β), rml x 5 (fun v => if lg_cmp v 0 = 0 then rml (lN d) 5 (fun v' => if lg_cmp v' 0 = 0 then dvl x 5 (fun v => bnd v (fun x3 => dvl (lN d) 5 (fun v => bnd v (fun x5 => K x3 x5)))) else K x (lN d)) else K x (lN d)) = K x' (lN d') := by
  obtain ⟨a, b, ha, hb, hz, hd, h2, h5⟩ := I
  have R : ∀ {β : Type} (K : Int64 → Int64 → Option β), _ := fun {β} K => rst (β := β) 5 (Or.inr rfl) x d (by rw [hd]; exact p2le a b) K
  rcases DV x 5 (Or.inr rfl) with ⟨e1, e2⟩ | ⟨e1, e2⟩
  · have bk : b = k := by
      rcases h5 with h | h
      · exact h
      · exact absurd ⟨(x / lN 5).toInt, by rw [e2]; exact Int.mul_comm _ _⟩ h
    have dd : d = 5 * (2 ^ (12 - a) * 5 ^ (12 - (b + 1))) := by
      rw [hd, show 12 - b = (12 - (b + 1)) + 1 by omega, Nat.pow_succ, ← Nat.mul_assoc, Nat.mul_comm]
    refine ⟨x / lN 5, d / 5, ⟨a, b + 1, ha, by omega, ?_, by rw [dd, Nat.mul_div_cancel_left _ (by omega)], ?_, Or.inl (by omega)⟩, fun {β} K => ?_⟩
    · rw [hz, e2, Nat.pow_succ, ← Nat.mul_assoc, Int.natCast_mul (2 ^ a * 5 ^ b) 5, Int.mul_assoc, Int.mul_comm ((5 : Nat) : Int)]
    · rcases h2 with h | h
      · exact Or.inl h
      · right
        rintro ⟨t, ht⟩
        exact h ⟨t * 5, by rw [e2, ht, Int.mul_assoc]; rfl⟩
    · refine (R K).trans ?_
      rw [if_pos e1, if_pos (by rw [dd]; exact Nat.mul_mod_right _ _)]
  · refine ⟨x, d, ⟨a, b, ha, by omega, hz, hd, h2, Or.inr e2⟩, fun {β} K => ?_⟩
    refine (R K).trans ?_
    rw [if_neg e1]
theorem partL {z : Int} (ke : Int32 → Int64 → Int64 → ST → Option (Int64 × ST)) (w : Int32) (σ : ST) : ∀ (j k fu : Nat) (x : Int64) (d : Nat), k + j = 12 → j < fu → PIV z k k x d → ∃ x' d', PIV z 12 12 x' d' ∧ fX4_partOf_L10 ke fu w x (lN d) (nI k) σ = ke w x' (lN d') σ := by
  intro j
  induction j with
  | zero =>
    intro k fu x d hk hf I
    obtain ⟨fu, rfl⟩ : ∃ f, fu = f + 1 := ⟨fu - 1, by omega⟩
    refine ⟨x, d, by rw [show k = 12 by omega] at I; exact I, ?_⟩
    rw [fX4_partOf_L10, if_pos (by rw [l12, nI_le_iff (by omega) (by omega)]; omega)]
  | succ j ih =>
    intro k fu x d hk hf I
    obtain ⟨fu, rfl⟩ : ∃ f, fu = f + 1 := ⟨fu - 1, by omega⟩
    obtain ⟨x1, d1, I1, e1⟩ := step2 (by omega) I
    obtain ⟨x2, d2, I2, e2⟩ := step5 (by omega) I1
    obtain ⟨x3, d3, I3, e3⟩ := ih (k + 1) fu x2 d2 (by omega) (by omega) I2
    refine ⟨x3, d3, I3, ?_⟩
    rw [fX4_partOf_L10, if_neg (by rw [l12, nI_le_iff (by omega) (by omega)]; omega)]
    refine (e1 (fun x3 x5 => fX4_partOf_J52 (fX4_partOf_L10 ke fu) w x3 x5 (nI k) σ)).trans ?_
    refine (e2 (fun x3 x5 => bnd (nI k + 1) (fun x7 => fX4_partOf_L10 ke fu w x3 x5 x7 σ))).trans ?_
    rw [bnd_ap, l1, na_add]
    exact e3
/-- Euclid -/
def gcl : Nat → Int64 → Int64 → Option Int64
  | 0, _, _ => none
  | n + 1, a, b => if b = 0 then some a else gcl n b (a - a / b * b)
theorem partE (ke : Int64 → Int32 → Int64 → ST → Option (Int64 × ST)) (x0 : Int64) (w : Int32) (τ : ST) (g : Int64) : ∀ (fu : Nat) (a b : Int64), gcl fu a b = some g → fX5_part_L19 ke fu x0 w a b τ = ke x0 w g τ := by
  intro fu
  induction fu with
  | zero => intro a b h; rw [gcl] at h; cases h
  | succ n ih =>
    intro a b h
    rw [gcl] at h
    rw [fX5_part_L19]
    simp only [lg_cmp_eq]
    by_cases e : b = 0
    · rw [if_pos e] at h ⊢
      rw [Option.some.inj h]
    · rw [if_neg e] at h ⊢
      unfold rml
      rw [if_neg e]
      exact ih _ _ h
theorem gclN : ∀ (j : Nat) (a b fu : Nat), a < 2 ^ 63 → b < 2 ^ 63 → b < 2 ^ j → 2 * j < fu → gcl fu (lN a) (lN b) = some (lN (Nat.gcd b a)) := by
  intro j
  induction j with
  | zero =>
    intro a b fu ha hb hj hf
    obtain ⟨fu, rfl⟩ : ∃ f, fu = f + 1 := ⟨fu - 1, by omega⟩
    obtain rfl : b = 0 := by omega
    rw [gcl, if_pos (show lN 0 = 0 from rfl), Nat.gcd_zero_left]
  | succ j ih =>
    intro a b fu ha hb hj hf
    obtain ⟨fu, rfl⟩ : ∃ f, fu = f + 1 + 1 := ⟨fu - 2, by omega⟩
    by_cases b0 : b = 0
    · subst b0
      rw [gcl, if_pos (show lN 0 = 0 from rfl), Nat.gcd_zero_left]
    · have r1 : a % b < b := Nat.mod_lt _ (by omega)
      rw [gcl, if_neg (by rw [show (0 : Int64) = lN 0 from rfl, pk_lEQ hb (by omega)]; exact b0), pk_lRem ha (by omega) hb, gcl, Nat.gcd_rec b a]
      by_cases c0 : a % b = 0
      · rw [c0, if_pos (show lN 0 = 0 from rfl), Nat.gcd_zero_left]
      · rw [if_neg (by rw [show (0 : Int64) = lN 0 from rfl, pk_lEQ (by omega) (by omega)]; exact c0), pk_lRem hb (by omega) (by omega), Nat.gcd_rec (a % b) b]
        have r2 : b % (a % b) < a % b := Nat.mod_lt _ (by omega)
        have r3 : b % (a % b) ≤ b - a % b := by
          rw [Nat.mod_eq_sub_mod (Nat.le_of_lt r1)]
          exact Nat.mod_le _ _
        have hp : 2 ^ (j + 1) = 2 ^ j * 2 := Nat.pow_succ _ _
        exact ih (a % b) (b % (a % b)) fu (by omega) (by omega) (by omega) (by omega)
theorem gcMin : gcl 1000 Int64.minValue 1000000000000 = some (lN (Nat.gcd 1000000000000 (2 ^ 63))) := by decide +kernel
theorem gcAll (x : Int64) : gcl FU (jabsl x) 1000000000000 = some (lN (Nat.gcd 1000000000000 x.toInt.natAbs)) := by
  have h1 := Int64.toInt_lt x
  have h2 := Int64.le_toInt x
  rw [FU_eq]
  by_cases mi : x = Int64.minValue
  · subst mi
    exact gcMin
  · have e : jabsl x = lN x.toInt.natAbs := by
      have hx : x.toInt ≠ -2 ^ 63 := fun e => mi (Int64.toInt_inj.mp e)
      apply Int64.toInt_inj.mp
      rw [pk_lT (by omega)]
      unfold jabsl
      have z0 : (0 : Int64).toInt = 0 := rfl
      by_cases p : 0 < x
      · rw [if_pos p]
        rw [Int64.lt_iff_toInt_lt, z0] at p
        omega
      · rw [if_neg p, Int64.toInt_neg, Int.bmod_eq_of_le (by omega) (by omega)]
        rw [Int64.lt_iff_toInt_lt, z0] at p
        omega
    rw [e]
    exact gclN 40 x.toInt.natAbs 1000000000000 1000 (by have hx : x.toInt ≠ -2 ^ 63 := fun e => mi (Int64.toInt_inj.mp e)
                                                        omega) (by omega) (by decide) (by omega)
theorem cop2 {n : Nat} (h : ¬ 2 ∣ n) (j : Nat) : Nat.Coprime n (2 ^ j) := by
  apply Nat.Coprime.pow_right
  show Nat.gcd n 2 = 1
  rw [Nat.gcd_comm, Nat.gcd_rec]
  rw [show n % 2 = 1 by omega]; rfl
theorem cop5 {n : Nat} (h : ¬ 5 ∣ n) (j : Nat) : Nat.Coprime n (5 ^ j) := by
  apply Nat.Coprime.pow_right
  show Nat.gcd n 5 = 1
  rw [Nat.gcd_comm, Nat.gcd_rec]
  rcases (show n % 5 = 1 ∨ n % 5 = 2 ∨ n % 5 = 3 ∨ n % 5 = 4 by omega) with h | h | h | h <;> rw [h] <;> rfl
theorem partG {z : Int} {x : Int64} {d : Nat} (I : PIV z 12 12 x d) : ∃ m : Nat, 0 < m ∧ m ≤ 1000000000000 ∧ z = x.toInt * m ∧ d * m = 1000000000000 ∧ Nat.gcd 1000000000000 z.natAbs = m ∧ (z = 0 → d = 1) := by
  obtain ⟨a, b, ha, hb, hz, hd, h2, h5⟩ := I
  have hm : d * (2 ^ a * 5 ^ b) = 1000000000000 := by
    rw [hd, show 2 ^ (12 - a) * 5 ^ (12 - b) * (2 ^ a * 5 ^ b) = (2 ^ (12 - a) * 2 ^ a) * (5 ^ (12 - b) * 5 ^ b) by ac_rfl, ← Nat.pow_add, ← Nat.pow_add, show 12 - a + a = 12 by omega, show 12 - b + b = 12 by omega]
  have m0 : 0 < 2 ^ a * 5 ^ b := Nat.mul_pos (Nat.pow_pos (by omega)) (Nat.pow_pos (by omega))
  have d0 : 0 < d := by
    rcases Nat.eq_zero_or_pos d with h | h
    · rw [h, Nat.zero_mul] at hm; omega
    · exact h
  refine ⟨2 ^ a * 5 ^ b, m0, ?_, hz, hm, ?_, ?_⟩
  · rw [← hm]; exact Nat.le_mul_of_pos_left _ d0
  · have : Nat.Coprime x.toInt.natAbs d := by
      rw [hd]
      apply Nat.Coprime.mul_right
      · rcases h2 with h | h
        · rw [h]; exact Nat.coprime_one_right _
        · exact cop2 (fun q => h (Int.ofNat_dvd_left.mpr q)) _
      · rcases h5 with h | h
        · rw [h]; exact Nat.coprime_one_right _
        · exact cop5 (fun q => h (Int.ofNat_dvd_left.mpr q)) _
    rw [← hm, hz, Int.natAbs_mul, Int.natAbs_natCast, Nat.gcd_mul_right, Nat.gcd_comm, this, Nat.one_mul]
  · intro e
    have x0 : x.toInt = 0 := by
      rw [e] at hz
      rcases Int.mul_eq_zero.mp hz.symm with h | h
      · exact h
      · omega
    have a12 : a = 12 := by rcases h2 with h | h; exact h; exact absurd (by rw [x0]; exact Int.dvd_zero _) h
    have b12 : b = 12 := by rcases h5 with h | h; exact h; exact absurd (by rw [x0]; exact Int.dvd_zero _) h
    rw [hd, a12, b12]
theorem PART (x0 : Int64) (w : Int32) (hw : w = 0 ∨ w = 1) (σ τ : ST) : ∃ r : Int64, fX4_partOf x0 w σ = some (r, σ) ∧ fX5_part x0 w τ = some (r, τ) := by
  obtain ⟨x', d', I, e⟩ := partL (z := x0.toInt) (fun x2_19 x3_20 x5_21 σ_22 => (if x2_19 = 0 then some (x3_20, σ_22) else some (x5_21, σ_22))) w σ 12 0 FU x0 1000000000000 (by omega) (by rw [FU_eq]; omega) ⟨0, 0, by omega, by omega, by omega, by decide, Or.inl rfl, Or.inl rfl⟩
  obtain ⟨m, m0, ml, hz, hd, hg, h1⟩ := partG I
  have X : fX4_partOf x0 w σ = some (if w = 0 then x' else lN d', σ) := by
    unfold fX4_partOf
    rw [bnd_ap, bnd_ap, bnd_ap]
    refine e.trans ?_
    split <;> rfl
  refine ⟨_, X, ?_⟩
  unfold fX5_part
  simp only [lg_cmp_eq]
  by_cases z0 : x0 = 0
  · subst z0
    have hz0 : (0 : Int64).toInt = 0 := rfl
    rw [if_pos rfl, h1 hz0]
    have xx : x' = 0 := by
      apply Int64.toInt_inj.mp
      rw [hz0] at hz ⊢
      rcases Int.mul_eq_zero.mp hz.symm with h | h
      · exact h
      · omega
    rw [xx]
    rcases hw with rfl | rfl <;> rfl
  · rw [if_neg z0, bnd_ap, bnd_ap, partE _ _ _ _ _ _ _ _ (gcAll x0), hg]
    have mn : ¬ lN m = 0 := by rw [show (0 : Int64) = lN 0 from rfl, pk_lEQ (by omega) (by omega)]; omega
    unfold dvl
    rw [if_neg mn, if_neg mn]
    have q1 : x0 / lN m = x' := by
      apply Int64.toInt_inj.mp
      rw [Int64.toInt_div_of_ne_right _ _ (by
        intro h
        have := congrArg Int64.toInt h
        rw [pk_lT (by omega), show Int64.toInt (-1) = -1 from rfl] at this
        omega), pk_lT (by omega), hz, Int.mul_tdiv_cancel _ (by omega)]
    have q2 : (1000000000000 : Int64) / lN m = lN d' := by
      rw [show (1000000000000 : Int64) = lN 1000000000000 from rfl, pk_lDiv (by omega) m0 (by omega), ← hd, Nat.mul_div_cancel _ m0]
    rw [q1, q2]
    rcases hw with rfl | rfl <;> rfl
