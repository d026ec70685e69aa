/-! ===== the class's legs ===== -/
theorem loopK {κ β : Type} (L : κ → Nat → Nat → ST → Option β) (K : κ → ST → Option β) (N : Nat) (I : Nat → ST → Prop) (hs : ∀ i σ, i < N → I i σ → ∃ σ', I (i + 1) σ' ∧ ∀ c m, L c (m + 1) i σ = L c m (i + 1) σ') (he : ∀ c m σ, I N σ → L c (m + 1) N σ = K c σ) : ∀ (n i m : Nat) (σ : ST), i + n = N → n < m → I i σ → ∃ σ', I N σ' ∧ ∀ c, L c m i σ = K c σ' := by
  intro n
  induction n with
  | zero =>
    intro i m σ h1 h2 h3
    obtain ⟨m, rfl⟩ : ∃ k, m = k + 1 := ⟨m - 1, by omega⟩
    have : i = N := by omega
    subst this
    exact ⟨σ, h3, fun c => he c m σ h3⟩
  | succ n ih =>
    intro i m σ h1 h2 h3
    obtain ⟨m, rfl⟩ : ∃ k, m = k + 1 := ⟨m - 1, by omega⟩
    obtain ⟨σ', h4, h5⟩ := hs i σ (by omega) h3
    obtain ⟨σ'', h6, h7⟩ := ih (i + 1) m σ' (by omega) (by omega) h4
    exact ⟨σ'', h6, fun c => (h5 c m).trans (h7 c)⟩
/-- alike but for the tables of legs -/
def fL (σ σ' : ST) : Prop := (∀ k, gI σ' k = gI σ k) ∧ (∀ k, gL σ' k = gL σ k) ∧ (∀ k, 5 ≤ k → gA σ' k = gA σ k)
theorem fL.rf (σ : ST) : fL σ σ := ⟨fun _ => rfl, fun _ => rfl, fun _ _ => rfl⟩
theorem fL.tr {a b c : ST} (h : fL a b) (g : fL b c) : fL a c := ⟨fun k => (g.1 k).trans (h.1 k), fun k => (g.2.1 k).trans (h.2.1 k), fun k q => (g.2.2 k q).trans (h.2.2 k q)⟩
theorem fL.st {a b : ST} (h : fL a b) {q : Nat} (hq : q < 5) (f : Nat → Int32) : fL a (sA b q f) := ⟨h.1, h.2.1, fun k hk => by rw [gA_sA, if_neg (by omega)]; exact h.2.2 k hk⟩
theorem fL.xS {a b : ST} (h : fL a b) (h4 : ∀ k, k < 4 → gA b k = gA a k) : xS a b := ⟨fun k _ => h.1 k, fun k hk => by
  by_cases q : k < 4
  · exact h4 k q
  · exact h.2.2 k (by omega)⟩
theorem fL.XT {a b : ST} {A : TW} (h : fL a b) {ti ta : Nat} (hta : 5 ≤ ta) (x : XT a ti ta A) : XT b ti ta A := XT_c x (fun k _ => h.1 _) (fun k _ => h.2.2 _ (by omega))
theorem l64e (i : Nat) (h : i < 64) : ¬ (64 : Int32) ≤ nI i := by rw [l64, nI_le_iff (by omega) (by omega)]; omega
theorem l64p : (64 : Int32) ≤ nI 64 := by decide
/-- all to -9 -/
theorem measX0 (σ0 : ST) : ∃ σ', (fL σ0 σ' ∧ ∀ i, i < 64 → gA σ' 0 i = -9 ∧ gA σ' 1 i = -9 ∧ gA σ' 2 i = -9 ∧ gA σ' 3 i = -9) ∧ ∀ ke, fX0_measure_4_L2 ke FU 0 σ0 = ke σ' := by
  obtain ⟨σ', h1, h2⟩ := loopK (fun ke m i σ => fX0_measure_4_L2 ke m (nI i) σ) (fun ke σ => ke σ) 64 (fun n σ => fL σ0 σ ∧ ∀ i, i < n → gA σ 0 i = -9 ∧ gA σ 1 i = -9 ∧ gA σ 2 i = -9 ∧ gA σ 3 i = -9) (by
    intro i σ hi hI
    obtain ⟨hf, hv⟩ := hI
    refine ⟨sA (sA (sA (sA σ 0 (upd (gA σ 0) i (-9))) 1 (upd (gA σ 1) i (-9))) 2 (upd (gA σ 2) i (-9))) 3 (upd (gA σ 3) i (-9)), ⟨(((hf.st (by omega) _).st (by omega) _).st (by omega) _).st (by omega) _, ?_⟩, ?_⟩
    · intro j hj
      show upd (gA σ 0) i (-9) j = -9 ∧ upd (gA σ 1) i (-9) j = -9 ∧ upd (gA σ 2) i (-9) j = -9 ∧ upd (gA σ 3) i (-9) j = -9
      simp only [upd_ap]
      by_cases q : j = i
      · simp only [if_pos q]; exact ⟨trivial, trivial, trivial, trivial⟩
      · simp only [if_neg q]; exact hv j (by omega)
    · intro ke m
      show fX0_measure_4_L2 ke (m + 1) (nI i) σ = _
      rw [fX0_measure_4_L2, if_neg (l64e i hi), ast_n hi (by omega), ast_n hi (by omega), ast_n hi (by omega), ast_n hi (by omega)]
      simp only [bnd_ap, ← nI_succ]
      rfl) (by
    intro ke m σ hI
    show fX0_measure_4_L2 ke (m + 1) (nI 64) σ = _
    rw [fX0_measure_4_L2, if_pos l64p]) 64 0 FU σ0 rfl (by rw [FU_eq]; omega) ⟨fL.rf σ0, fun i hi => absurd hi (by omega)⟩
  exact ⟨σ', h1, h2⟩
theorem nI_dv {a d : Nat} (ha : a < 2147483648) (h0 : 0 < d) (hd : d < 2147483648) (k : Int32 → Option ST) : dvi (nI a) (nI d) k = k (nI (a / d)) := by
  unfold dvi
  rw [if_neg (by rw [l0, nI_eq_iff hd (by omega)]; omega), pk_div ha h0 hd]
theorem nI_rm {a d : Nat} (ha : a < 2147483648) (h0 : 0 < d) (hd : d < 2147483648) (k : Int32 → Option ST) : rmi (nI a) (nI d) k = k (nI (a % d)) := by
  unfold rmi
  rw [if_neg (by rw [l0, nI_eq_iff hd (by omega)]; omega), pk_rem ha h0 hd]
/-- what lies between, by the first n ways -/
def wlay (A : TW) (t a b : Nat) : Nat → Nat
  | 0 => if a = b then 0 else 1000000
  | n + 1 => if ((A.2 3 n = a ∧ A.2 4 n = b) ∨ (A.2 3 n = b ∧ A.2 4 n = a)) ∧ A.2 6 n ≤ t then A.2 5 n else wlay A t a b n
theorem layX1 (σ0 : ST) (x2 : Int32) : ∃ σ', (fL σ0 σ' ∧ (∀ k, k < 4 → gA σ' k = gA σ0 k) ∧ ∀ i, i < 64 → gA σ' 4 i = nI (if i / 8 = i % 8 then 0 else 1000000)) ∧ ∀ ke, fX0_layWays_4_L2 ke FU x2 0 σ0 = ke x2 σ' := by
  obtain ⟨σ', h1, h2⟩ := loopK (fun ke m i σ => fX0_layWays_4_L2 ke m x2 (nI i) σ) (fun ke σ => ke x2 σ) 64 (fun n σ => fL σ0 σ ∧ (∀ k, k < 4 → gA σ k = gA σ0 k) ∧ ∀ i, i < n → gA σ 4 i = nI (if i / 8 = i % 8 then 0 else 1000000)) (by
    intro i σ hi hI
    obtain ⟨hf, h4, hv⟩ := hI
    refine ⟨sA σ 4 (upd (gA σ 4) i (nI (if i / 8 = i % 8 then 0 else 1000000))), ⟨hf.st (by omega) _, fun k hk => by rw [gA_sA, if_neg (by omega)]; exact h4 k hk, ?_⟩, ?_⟩
    · intro j hj
      show upd (gA σ 4) i _ j = _
      rw [upd_ap]
      by_cases q : j = i
      · rw [if_pos q, q]
      · rw [if_neg q]; exact hv j (by omega)
    · intro ke m
      show fX0_layWays_4_L2 ke (m + 1) x2 (nI i) σ = _
      rw [fX0_layWays_4_L2, if_neg (l64e i hi), show (8 : Int32) = nI 8 from rfl, nI_dv (by omega) (by omega) (by omega), nI_rm (by omega) (by omega) (by omega)]
      by_cases q : i / 8 = i % 8
      · rw [if_pos (by rw [q]), ast_n hi (by omega), if_pos q]
        simp only [bnd_ap, ← nI_succ]
        rfl
      · rw [if_neg (by rw [nI_eq_iff (by omega) (by omega)]; exact q), ast_n hi (by omega), if_neg q]
        simp only [bnd_ap, ← nI_succ]
        rfl) (by
    intro ke m σ hI
    show fX0_layWays_4_L2 ke (m + 1) x2 (nI 64) σ = _
    rw [fX0_layWays_4_L2, if_pos l64p]) 64 0 FU σ0 rfl (by rw [FU_eq]; omega) ⟨fL.rf σ0, fun _ _ => rfl, fun i hi => absurd hi (by omega)⟩
  exact ⟨σ', h1, h2⟩
theorem ix8 (a b : Nat) : nI a * 8 + nI b = nI (8 * a + b) := by rw [l8, pk_mul, na_add, Nat.mul_comm]
theorem ix8' (a b : Nat) : 8 * nI a + nI b = nI (8 * a + b) := by rw [l8, pk_mul, na_add]
theorem layX2 {σ0 : ST} {A : TW} (wA : WFT A) (xA : XT σ0 3 6 A) (t : Nat) (ht : t ≤ 9) (h0 : ∀ i, i < 64 → gA σ0 4 i = nI (wlay A t (i / 8) (i % 8) 0)) : ∃ σ', (fL σ0 σ' ∧ (∀ k, k < 4 → gA σ' k = gA σ0 k) ∧ ∀ i, i < 64 → gA σ' 4 i = nI (wlay A t (i / 8) (i % 8) (A.1 1))) ∧ ∀ ke, fX0_layWays_4_L39 ke FU (nI t) 0 σ0 = ke σ' := by
  have hP := wA.1.1
  have hW := wA.1.2.1
  obtain ⟨σ', h1, h2⟩ := loopK (fun ke m i σ => fX0_layWays_4_L39 ke m (nI t) (nI i) σ) (fun ke σ => ke σ) (A.1 1) (fun n σ => fL σ0 σ ∧ (∀ k, k < 4 → gA σ k = gA σ0 k) ∧ ∀ i, i < 64 → gA σ 4 i = nI (wlay A t (i / 8) (i % 8) n)) (by
    intro i σ hi hI
    obtain ⟨hf, h4, hv⟩ := hI
    have xs := hf.XT (by omega) xA
    have e1 : gI σ 4 = nI (A.1 1) := xs.1.2.1
    obtain ⟨y3, y4, y5, y6⟩ := xs.2.2.1 i hi
    have y3 : gA σ 9 i = nI (A.2 3 i) := y3
    have y4 : gA σ 10 i = nI (A.2 4 i) := y4
    have y5 : gA σ 11 i = nI (A.2 5 i) := y5
    have y6 : gA σ 12 i = nI (A.2 6 i) := y6
    obtain ⟨b3, b4, b34, b5, b5', b6⟩ := wA.2.2.1 i hi
    by_cases q : A.2 6 i ≤ t
    · refine ⟨sA (sA σ 4 (upd (gA σ 4) (8 * A.2 3 i + A.2 4 i) (nI (A.2 5 i)))) 4 (upd (upd (gA σ 4) (8 * A.2 3 i + A.2 4 i) (nI (A.2 5 i))) (8 * A.2 4 i + A.2 3 i) (nI (A.2 5 i))), ⟨(hf.st (by omega) _).st (by omega) _, fun k hk => by rw [gA_sA, if_neg (by omega), gA_sA, if_neg (by omega)]; exact h4 k hk, ?_⟩, ?_⟩
      · intro j hj
        show upd (upd (gA σ 4) (8 * A.2 3 i + A.2 4 i) (nI (A.2 5 i))) (8 * A.2 4 i + A.2 3 i) (nI (A.2 5 i)) j = _
        rw [upd_ap, upd_ap]
        unfold wlay
        by_cases z1 : j = 8 * A.2 4 i + A.2 3 i
        · rw [if_pos z1, if_pos ⟨Or.inr ⟨by omega, by omega⟩, q⟩]
        · rw [if_neg z1]
          by_cases z2 : j = 8 * A.2 3 i + A.2 4 i
          · rw [if_pos z2, if_pos ⟨Or.inl ⟨by omega, by omega⟩, q⟩]
          · rw [if_neg z2, if_neg (by omega)]; exact hv j hj
      · intro ke m
        show fX0_layWays_4_L39 ke (m + 1) (nI t) (nI i) σ = _
        rw [fX0_layWays_4_L39, e1, if_neg (by rw [nI_le_iff (by omega) (by omega)]; omega), ald_n (by omega) (by omega), y6, if_neg (by rw [nI_lt_iff (by omega) (by omega)]; omega), ald_n (by omega) (by omega), ald_n (by omega) (by omega), ald_n (by omega) (by omega), y3, y4, y5, ix8, ast_n (by omega) (by omega), ald_n (by omega) (by omega), ald_n (by omega) (by omega), ald_n (by omega) (by omega)]
        simp only [gA_sA, if_neg (show ¬ 10 = 4 by omega), if_neg (show ¬ 9 = 4 by omega), if_neg (show ¬ 11 = 4 by omega)]
        rw [y3, y4, y5, ix8, ast_n (by omega) (by omega)]
        simp only [bnd_ap, ← nI_succ]
        rfl
    · refine ⟨σ, ⟨hf, h4, ?_⟩, ?_⟩
      · intro j hj
        unfold wlay
        rw [if_neg (fun z => q z.2)]; exact hv j hj
      · intro ke m
        show fX0_layWays_4_L39 ke (m + 1) (nI t) (nI i) σ = _
        rw [fX0_layWays_4_L39, e1, if_neg (by rw [nI_le_iff (by omega) (by omega)]; omega), ald_n (by omega) (by omega), y6, if_pos (by rw [nI_lt_iff (by omega) (by omega)]; omega)]
        simp only [bnd_ap, ← nI_succ]) (by
    intro ke m σ hI
    obtain ⟨hf, h4, hv⟩ := hI
    have e1 : gI σ 4 = nI (A.1 1) := (hf.XT (by omega) xA).1.2.1
    show fX0_layWays_4_L39 ke (m + 1) (nI t) (nI (A.1 1)) σ = _
    rw [fX0_layWays_4_L39, e1, if_pos (Int32.le_refl _)]) (A.1 1) 0 FU σ0 (by omega) (by rw [FU_eq]; omega) ⟨fL.rf σ0, fun _ _ => rfl, h0⟩
  exact ⟨σ', h1, h2⟩
