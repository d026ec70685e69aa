/-! ===== letters: what fits where ===== -/
def kdx (v : Nat) : Nat := if v = 112 then 0 else if v = 119 then 1 else if v = 98 then 2 else if v = 104 then 3 else if v = 107 then 4 else if v = 110 then 5 else 6
def srt (v : Nat) : Nat := if v = 112 then 0 else if v = 119 then 1 else if v = 101 then 2 else if v = 102 then 3 else if v = 100 then 4 else 5
def cdS : Nat → List Nat
  | 0 => [107, 48, 48, 59]
  | 1 => [48, 48, 48, 48, 48, 59]
  | 2 => [48, 48, 48, 48, 48, 48, 48, 48, 59]
  | 3 => [48, 48, 48, 59]
  | 4 => [48, 59]
  | _ => []
def cdN (s j : Nat) : Nat := (cdS s).getD j 0
def leN (s : Nat) : Nat := (cdS s).length
def fitB (q v : Nat) : Bool := if q = 107 then decide (kdx v < 6) else if q = 48 then decide (48 ≤ v ∧ v ≤ 57) else decide (v = q)
def fbI (c : Nat → Nat) (n s : Nat) : Nat → Nat → Nat → Option Nat
  | 0, _, _ => none
  | r + 1, j, p => if n ≤ p then some p else if fitB (cdN s j) (c p) = true then fbI c n s r (j + 1) (p + 1) else some p
def oo (o x : Option Nat) : Option Nat := match o with
  | some b => some b
  | none => x
theorem oo_none {o x : Option Nat} (h : oo o x = none) : o = none ∧ x = none := by
  cases o with
  | none => exact ⟨rfl, h⟩
  | some b => cases h
theorem oo_as (a b d : Option Nat) : oo (oo a b) d = oo a (oo b d) := by cases a <;> rfl
theorem fbI_app (c : Nat → Nat) (n s : Nat) (r2 : Nat) : ∀ r1 j p, fbI c n s (r1 + r2) j p = oo (fbI c n s r1 j p) (fbI c n s r2 (j + r1) (p + r1)) := by
  intro r1
  induction r1 with
  | zero => intro j p; rw [Nat.zero_add]; rfl
  | succ r1 ih =>
    intro j p
    rw [show r1 + 1 + r2 = (r1 + r2) + 1 by omega, fbI, fbI]
    by_cases h : n ≤ p
    · rw [if_pos h, if_pos h]; rfl
    · rw [if_neg h, if_neg h]
      by_cases g : fitB (cdN s j) (c p) = true
      · rw [if_pos g, if_pos g, ih, show j + 1 + r1 = j + (r1 + 1) by omega, show p + 1 + r1 = p + (r1 + 1) by omega]
      · rw [if_neg g, if_neg g]; rfl
theorem fbI_none (c : Nat → Nat) (n s : Nat) : ∀ r j p, fbI c n s r j p = none → ∀ i, i < r → p + i < n ∧ fitB (cdN s (j + i)) (c (p + i)) = true := by
  intro r
  induction r with
  | zero => intro j p _ i hi; omega
  | succ r ih =>
    intro j p h i hi
    rw [fbI] at h
    by_cases z : n ≤ p
    · rw [if_pos z] at h; cases h
    · rw [if_neg z] at h
      by_cases g : fitB (cdN s j) (c p) = true
      · rw [if_pos g] at h
        by_cases i0 : i = 0
        · subst i0
          exact ⟨by omega, g⟩
        · have := ih (j + 1) (p + 1) h (i - 1) (by omega)
          rw [show p + 1 + (i - 1) = p + i by omega, show j + 1 + (i - 1) = j + i by omega] at this
          exact this
      · rw [if_neg g] at h; cases h
theorem fbI_some (c : Nat → Nat) (n s : Nat) : ∀ r j p b, fbI c n s r j p = some b → p ≤ n → p ≤ b ∧ b ≤ n := by
  intro r
  induction r with
  | zero => intro j p b h; cases h
  | succ r ih =>
    intro j p b h hp
    rw [fbI] at h
    by_cases z : n ≤ p
    · rw [if_pos z] at h
      obtain rfl := Option.some.inj h
      omega
    · rw [if_neg z] at h
      by_cases g : fitB (cdN s j) (c p) = true
      · rw [if_pos g] at h
        have := ih (j + 1) (p + 1) b h (by omega)
        omega
      · rw [if_neg g] at h
        obtain rfl := Option.some.inj h
        omega
/-! the Strings -/
theorem sLen0 : ∀ s, s < 6 → strLen s >>> ((0 : Int32) &&& 31) = nI (leN s) := by decide +kernel
theorem sLen (s : Nat) (hs : s < 6) (σ : ST) : fJ0_length_8abf5 s σ = some (nI (leN s), σ) := by
  have h : s < nJS := by unfold nJS; omega
  unfold fJ0_length_8abf5 fJ0_coder_7d493 sg
  simp only [if_pos h, cali_s, sLen0 s hs]
theorem sEmp (s : Nat) (hs : s < 6) (σ : ST) : fJ0_isEmpty_aae02 s σ = some (if s = 5 then 1 else 0, σ) := by
  rcases (show s = 0 ∨ s = 1 ∨ s = 2 ∨ s = 3 ∨ s = 4 ∨ s = 5 by omega) with rfl | rfl | rfl | rfl | rfl | rfl <;> rfl
theorem sChr (s i : Nat) (hs : s < 5) (hi : i < leN s) (σ : ST) : fJ0_charAt_5068e s (nI i) σ = some (nI (cdN s i), σ) := by
  rcases (show s = 0 ∨ s = 1 ∨ s = 2 ∨ s = 3 ∨ s = 4 by omega) with rfl | rfl | rfl | rfl | rfl
  · have hi : i < 4 := hi
    rcases (show i = 0 ∨ i = 1 ∨ i = 2 ∨ i = 3 by omega) with rfl | rfl | rfl | rfl <;> rfl
  · have hi : i < 6 := hi
    rcases (show i = 0 ∨ i = 1 ∨ i = 2 ∨ i = 3 ∨ i = 4 ∨ i = 5 by omega) with rfl | rfl | rfl | rfl | rfl | rfl <;> rfl
  · have hi : i < 9 := hi
    rcases (show i = 0 ∨ i = 1 ∨ i = 2 ∨ i = 3 ∨ i = 4 ∨ i = 5 ∨ i = 6 ∨ i = 7 ∨ i = 8 by omega) with rfl | rfl | rfl | rfl | rfl | rfl | rfl | rfl | rfl <;> rfl
  · have hi : i < 4 := hi
    rcases (show i = 0 ∨ i = 1 ∨ i = 2 ∨ i = 3 by omega) with rfl | rfl | rfl | rfl <;> rfl
  · have hi : i < 2 := hi
    rcases (show i = 0 ∨ i = 1 by omega) with rfl | rfl <;> rfl
theorem cdN_l : ∀ s, s < 5 → ∀ i, i < leN s → cdN s i < 256 ∧ (cdN s i = 107 ∨ cdN s i = 48 ∨ cdN s i = 59) := by decide
/-- a letter as the Strings' bytes see it -/
def xby (v : Nat) : Int32 := ((Int32.toInt8 (((Int32.toUInt32 (nI v)) % 65536).toInt32)).toInt32)
theorem xby_eq : ∀ v, v < 256 → ((strB 6 0 = xby v ↔ v = 112) ∧ (strB 6 1 = xby v ↔ v = 119) ∧ (strB 6 2 = xby v ↔ v = 98)) ∧ ((strB 6 3 = xby v ↔ v = 104) ∧ (strB 6 4 = xby v ↔ v = 107) ∧ (strB 6 5 = xby v ↔ v = 110)) := by decide +kernel
theorem xby_ce : ∀ v, v < 256 → ¬ (((Int32.toUInt32 (nI v)) % 65536).toInt32) < 0 ∧ ¬ (255 : Int32) < (((Int32.toUInt32 (nI v)) % 65536).toInt32) := by decide +kernel
theorem sIdx (v : Nat) (hv : v < 256) (σ : ST) : fJ0_indexOf_0f7a4 6 (((Int32.toUInt32 (nI v)) % 65536).toInt32) σ = some (if kdx v < 6 then nI (kdx v) else -1, σ) := by
  obtain ⟨⟨q0, q1, q2⟩, q3, q4, q5⟩ := xby_eq v hv
  obtain ⟨c1, c2⟩ := xby_ce v hv
  have st : ∀ (ke : ST → Option (Int32 × ST)) (fu i : Nat), i < 6 → fJ1_indexOfChar_4cfef_L7 ke (fu + 1) 6 6 (xby v) (nI i) σ = (if strB 6 i = xby v then some (nI i, σ) else fJ1_indexOfChar_4cfef_L7 ke fu 6 6 (xby v) (nI (i + 1)) σ) := by
    intro ke fu i hi
    rw [fJ1_indexOfChar_4cfef_L7, if_neg (by rw [l6, nI_le_iff (by omega) (by omega)]; omega)]
    unfold sg
    rw [if_pos (by decide), show lenJS.getD 6 0 = 6 from rfl, ald_n (by omega) (by omega), bnd_ap, l1, na_add]
  have en : ∀ (ke : ST → Option (Int32 × ST)) (fu : Nat), fJ1_indexOfChar_4cfef_L7 ke (fu + 1) 6 6 (xby v) (nI 6) σ = ke σ := by
    intro ke fu
    rw [fJ1_indexOfChar_4cfef_L7, if_pos (by decide)]
  have R : fJ0_indexOf_0f7a4 6 (((Int32.toUInt32 (nI v)) % 65536).toInt32) σ = fJ1_indexOfChar_4cfef_L7 (fun σ_5 => some ((-1), σ_5)) 1000 6 6 (xby v) (nI 0) σ := by
    unfold fJ0_indexOf_0f7a4 fJ0_indexOf_7cf53 fJ0_isLatin1_aae02 fJ0_length_8abf5 fJ0_coder_7d493 fJ1_indexOf_4cfef fJ1_canEncode_9a6ad fJ1_indexOfChar_4cfef
    unfold sg
    simp only [show (6 < nJS) from by decide, if_true, cali_s, bnd_ap, if_neg n10, if_neg c1, if_neg c2, FU_eq]
    rw [show strLen 6 >>> ((0 : Int32) &&& 31) = 6 from by decide, show jmin 6 (strLen 6) = 6 from by decide, show jmax 0 0 = (0 : Int32) from by decide, if_pos (by decide), fold_i, fold_i, fold_i]
    rfl
  rw [R, st _ 999 0 (by omega), st _ 998 1 (by omega), st _ 997 2 (by omega), st _ 996 3 (by omega), st _ 995 4 (by omega), st _ 994 5 (by omega), en _ 993]
  simp only [q0, q1, q2, q3, q4, q5]
  unfold kdx
  by_cases e : v = 112
  · simp only [if_pos e]; rfl
  simp only [if_neg e]
  by_cases e : v = 119
  · simp only [if_pos e]; rfl
  simp only [if_neg e]
  by_cases e : v = 98
  · simp only [if_pos e]; rfl
  simp only [if_neg e]
  by_cases e : v = 104
  · simp only [if_pos e]; rfl
  simp only [if_neg e]
  by_cases e : v = 107
  · simp only [if_pos e]; rfl
  simp only [if_neg e]
  by_cases e : v = 110
  · simp only [if_pos e]; rfl
  simp only [if_neg e]
  rfl
theorem sFit (q v : Nat) (hq : q = 107 ∨ q = 48 ∨ q = 59) (hv : v < 256) (σ : ST) : fX1_fits (nI q) (nI v) σ = some (if fitB q v = true then 1 else 0, σ) := by
  unfold fX1_fits fitB
  rcases hq with rfl | rfl | rfl
  · rw [if_pos (show nI 107 = 107 from rfl), if_pos (show (107 : Nat) = 107 from rfl)]
    unfold sg
    rw [if_pos (by decide), sIdx v hv, cali_s]
    by_cases k : kdx v < 6
    · rw [if_pos k, if_neg (nI_nneg (by omega)), if_pos (decide_eq_true k)]
    · rw [if_neg k, if_pos (by decide), if_neg (by rw [decide_eq_true_iff]; exact k)]
  · rw [if_neg (show ¬ nI 48 = 107 from by decide), if_pos (show nI 48 = 48 from rfl), if_neg (show ¬ (48 : Nat) = 107 by omega), if_pos (show (48 : Nat) = 48 from rfl)]
    by_cases a : v < 48
    · rw [if_pos (by rw [show (48 : Int32) = nI 48 from rfl, nI_lt_iff (by omega) (by omega)]; exact a), if_neg (by rw [decide_eq_true_iff]; omega)]
    · rw [if_neg (by rw [show (48 : Int32) = nI 48 from rfl, nI_lt_iff (by omega) (by omega)]; exact a)]
      by_cases b : 57 < v
      · rw [if_pos (by rw [show (57 : Int32) = nI 57 from rfl, nI_lt_iff (by omega) (by omega)]; exact b), if_neg (by rw [decide_eq_true_iff]; omega)]
      · rw [if_neg (by rw [show (57 : Int32) = nI 57 from rfl, nI_lt_iff (by omega) (by omega)]; exact b), if_pos (by rw [decide_eq_true_iff]; omega)]
  · rw [if_neg (show ¬ nI 59 = 107 from by decide), if_neg (show ¬ nI 59 = 48 from by decide), if_neg (show ¬ (59 : Nat) = 107 by omega), if_neg (show ¬ (59 : Nat) = 48 by omega)]
    by_cases a : v = 59
    · rw [if_pos (by rw [nI_eq_iff (by omega) (by omega)]; exact a), if_pos (by rw [decide_eq_true_iff]; exact a)]
    · rw [if_neg (by rw [nI_eq_iff (by omega) (by omega)]; exact a), if_neg (by rw [decide_eq_true_iff]; exact a)]
theorem sBeh (v : Nat) (hv : v < 256) (σ : ST) : fX1_shapeBehind (nI v) σ = some (srt v, σ) := by
  unfold fX1_shapeBehind srt
  have e : ∀ k, k < 256 → (nI v = nI k ↔ v = k) := fun k hk => nI_eq_iff (by omega) (by omega)
  rw [show (100 : Int32) = nI 100 from rfl, show (101 : Int32) = nI 101 from rfl, show (102 : Int32) = nI 102 from rfl, show (112 : Int32) = nI 112 from rfl, show (119 : Int32) = nI 119 from rfl]
  simp only [e 100 (by omega), e 101 (by omega), e 102 (by omega), e 112 (by omega), e 119 (by omega)]
  by_cases a : v = 112
  · subst a; rfl
  by_cases a : v = 119
  · subst a; rfl
  by_cases a : v = 101
  · subst a; rfl
  by_cases a : v = 102
  · subst a; rfl
  by_cases a : v = 100
  · subst a; rfl
  rw [if_neg (by assumption), if_neg (by assumption), if_neg (by assumption), if_neg (by assumption), if_neg (by assumption), if_neg (by assumption), if_neg (by assumption), if_neg (by assumption), if_neg (by assumption), if_neg (by assumption)]
/-- the letters told so far -/
def LTX (σ : ST) (n : Nat) (c : Nat → Nat) : Prop := gI σ 2 = nI n ∧ n ≤ 96 ∧ ∀ k, k < n → gA σ 5 k = nI (c k) ∧ c k < 256
def LTM (τ : ST) (n : Nat) (c : Nat → Nat) : Prop := gI τ 1 = nI n ∧ n ≤ 96 ∧ ∀ k, k < n → gA τ 3 k = nI (c k) ∧ c k < 256
def keF : Nat → Int32 → ST → Option (Int32 × ST) := fun x1_19 x2_20 σ_21 => (if (gI σ_21 2) ≤ 0 then some ((gI σ_21 2), σ_21) else sg x1_19 (cali (fJ0_length_8abf5 x1_19 σ_21) (fun r_23 σ_22 => (if x2_20 < r_23 then some ((gI σ_22 2), σ_22) else some ((-1), σ_22)))))
theorem SCX {σ : ST} {n s : Nat} {c : Nat → Nat} (L : LTX σ n c) (hs : s < 5) : ∀ (r j p fu : Nat), j + r = leN s → r < fu → p ≤ n → (∀ b, fbI c n s r j p = some b → fX1_firstMisfit_L7 keF fu s (nI j) (nI p) σ = some (nI b, σ)) ∧ (fbI c n s r j p = none → p + r ≤ n ∧ fX1_firstMisfit_L7 keF fu s (nI j) (nI p) σ = fX1_firstMisfit_L7 keF (fu - r) s (nI (leN s)) (nI (p + r)) σ) := by
  obtain ⟨L1, L2, L3⟩ := L
  have sl : leN s < 100 := by
    rcases (show s = 0 ∨ s = 1 ∨ s = 2 ∨ s = 3 ∨ s = 4 by omega) with rfl | rfl | rfl | rfl | rfl <;> decide
  intro r
  induction r with
  | zero =>
    intro j p fu hj hf hp
    refine ⟨fun b h => (by cases h), fun _ => ⟨by omega, ?_⟩⟩
    rw [show j = leN s by omega]
    rfl
  | succ r ih =>
    intro j p fu hj hf hp
    obtain ⟨fu, rfl⟩ : ∃ f, fu = f + 1 := ⟨fu - 1, by omega⟩
    have g7 : s < nJS := by unfold nJS; omega
    rw [fbI, fX1_firstMisfit_L7, L1]
    by_cases z : n ≤ p
    · rw [if_pos z, if_pos (by rw [nI_le_iff (by omega) (by omega)]; exact z)]
      refine ⟨fun b h => ?_, fun h => by cases h⟩
      obtain rfl := Option.some.inj h
      obtain rfl : p = n := by omega
      unfold keF sg
      rw [if_pos g7, sLen s (by omega), cali_s, if_pos (show nI j < nI (leN s) by rw [nI_lt_iff (by omega) (by omega)]; omega), L1, ite_self]
    · obtain ⟨e1, e2⟩ := L3 p (by omega)
      obtain ⟨d1, d2⟩ := cdN_l s hs j (by omega)
      rw [if_neg z, if_neg (show ¬ nI n ≤ nI p by rw [nI_le_iff (by omega) (by omega)]; exact z)]
      unfold sg
      rw [if_pos g7, sLen s (by omega), cali_s, if_pos (show nI j < nI (leN s) by rw [nI_lt_iff (by omega) (by omega)]; omega), if_pos g7, sChr s j hs (by omega), cali_s, ald_n (by omega) (by omega), e1, sFit _ _ d2 e2, cali_s]
      by_cases g : fitB (cdN s j) (c p) = true
      · obtain ⟨i1, i2⟩ := ih (j + 1) (p + 1) fu (by omega) (by omega) (by omega)
        rw [if_pos g, if_pos g, if_neg n10, bnd_ap, bnd_ap, l1, na_add, na_add]
        refine ⟨i1, fun h => ?_⟩
        obtain ⟨j1, j2⟩ := i2 h
        refine ⟨by omega, ?_⟩
        rw [j2, show fu + 1 - (r + 1) = fu - r by omega, show p + 1 + r = p + (r + 1) by omega]
      · rw [if_neg g, if_neg g, if_pos rfl]
        refine ⟨fun b h => ?_, fun h => by cases h⟩
        obtain rfl := Option.some.inj h
        rfl
/-- at a statement's begin -/
theorem SCB {σ : ST} {n s p fu : Nat} {c : Nat → Nat} (L : LTX σ n c) (hs : s < 6) (hp : p ≤ n) (hf : 12 < fu) : (n ≤ p → fX1_firstMisfit_L7 keF fu s (nI (leN s)) (nI p) σ = some (if n = 0 then nI 0 else -1, σ)) ∧ (p < n → (srt (c p) = 5 → fX1_firstMisfit_L7 keF fu s (nI (leN s)) (nI p) σ = some (nI p, σ)) ∧ (srt (c p) < 5 → (∀ b, fbI c n (srt (c p)) (leN (srt (c p))) 0 (p + 1) = some b → fX1_firstMisfit_L7 keF fu s (nI (leN s)) (nI p) σ = some (nI b, σ)) ∧ (fbI c n (srt (c p)) (leN (srt (c p))) 0 (p + 1) = none → p + 1 + leN (srt (c p)) ≤ n ∧ fX1_firstMisfit_L7 keF fu s (nI (leN s)) (nI p) σ = fX1_firstMisfit_L7 keF (fu - 1 - leN (srt (c p))) (srt (c p)) (nI (leN (srt (c p)))) (nI (p + 1 + leN (srt (c p)))) σ))) := by
  obtain ⟨L1, L2, L3⟩ := id L
  obtain ⟨fu, rfl⟩ : ∃ f, fu = f + 1 := ⟨fu - 1, by omega⟩
  have lf : ∀ s, s < 6 → leN s ≤ 9 := by decide
  have sl := lf s hs
  have g7 : s < nJS := by unfold nJS; omega
  rw [fX1_firstMisfit_L7, L1]
  refine ⟨fun z => ?_, fun z => ?_⟩
  · rw [if_pos (by rw [nI_le_iff (by omega) (by omega)]; exact z)]
    unfold keF sg
    rw [if_pos g7, sLen s hs, cali_s, if_neg (show ¬ nI (leN s) < nI (leN s) from Int32.lt_irrefl), L1]
    by_cases n0 : n = 0
    · rw [if_pos n0, n0, if_pos (by decide)]
    · rw [if_neg n0, if_neg (by rw [l0, nI_le_iff (by omega) (by omega)]; omega)]
  · obtain ⟨e1, e2⟩ := L3 p z
    have X : (if nI n ≤ nI p then keF s (nI (leN s)) σ else sg s (cali (fJ0_length_8abf5 s σ) (fun r_4 σ_3 => (if nI (leN s) < r_4 then sg s (cali (fJ0_charAt_5068e s (nI (leN s)) σ_3) (fun r_6 σ_5 => ald (gA σ_5 5) 96 (nI p) (fun v_7 => cali (fX1_fits r_6 v_7 σ_5) (fun r_9 σ_8 => (if r_9 = 0 then some (nI p, σ_8) else bnd (nI (leN s) + 1) (fun x2_10 => bnd (nI p + 1) (fun x3_11 => fX1_firstMisfit_L7 keF fu s x2_10 x3_11 σ_8))))))) else ald (gA σ_3 5) 96 (nI p) (fun v_12 => cals (fX1_shapeBehind v_12 σ_3) (fun r_14 σ_13 => bnd (0 : Int32) (fun x2_15 => sg r_14 (cali (fJ0_isEmpty_aae02 r_14 σ_13) (fun r_17 σ_16 => (if r_17 = 0 then bnd (nI p + 1) (fun x3_18 => fX1_firstMisfit_L7 keF fu r_14 x2_15 x3_18 σ_16) else some (nI p, σ_16)))))))))) ) = (if srt (c p) = 5 then some (nI p, σ) else fX1_firstMisfit_L7 keF fu (srt (c p)) (nI 0) (nI (p + 1)) σ) := by
      have h5 : srt (c p) < 6 := by unfold srt; split <;> (try omega); split <;> (try omega); split <;> (try omega); split <;> (try omega); split <;> omega
      have g8 : srt (c p) < nJS := by unfold nJS; omega
      rw [if_neg (by rw [nI_le_iff (by omega) (by omega)]; omega)]
      unfold sg
      rw [if_pos g7, sLen s hs, cali_s, if_neg (show ¬ nI (leN s) < nI (leN s) from Int32.lt_irrefl), ald_n (by omega) (by omega), e1, sBeh _ e2, cals_s, bnd_ap, if_pos g8, sEmp _ h5, cali_s, bnd_ap, l1, na_add]
      by_cases q : srt (c p) = 5
      · rw [if_pos q, if_pos q, if_neg (show ¬ nI 1 = 0 by decide)]
      · rw [if_neg q, if_neg q, if_pos rfl]; rfl
    rw [X]
    refine ⟨fun q => by rw [if_pos q], fun q => ?_⟩
    rw [if_neg (by omega)]
    obtain ⟨i1, i2⟩ := SCX L q (leN (srt (c p))) 0 (p + 1) fu (by omega) (by have := lf (srt (c p)) (by omega); omega) (by omega)
    refine ⟨i1, fun h => ?_⟩
    obtain ⟨j1, j2⟩ := i2 h
    exact ⟨j1, by rw [j2, show fu + 1 - 1 - leN (srt (c p)) = fu - leN (srt (c p)) by omega]⟩
