theorem wfold_none {A : TW} {c a b : Nat} : ∀ n : Nat, (∀ i, i < n → ¬ ((A.2 3 i = a ∧ A.2 4 i = b) ∨ (A.2 3 i = b ∧ A.2 4 i = a))) → wfold A c a b n = 0 := by
  intro n
  induction n with
  | zero => intro _; rfl
  | succ n ih =>
    intro h
    unfold wfold
    rw [if_neg (h n (by omega))]
    exact ih (fun i hi => h i (by omega))
theorem wlay_dir {A : TW} (wA : WFT A) (t a b : Nat) : ∀ n : Nat, n ≤ A.1 1 → wlay A t a b n = if a = b then 0 else if 0 < wfold A 5 a b n ∧ wfold A 6 a b n ≤ t then wfold A 5 a b n else 1000000 := by
  intro n
  induction n with
  | zero =>
    intro _
    unfold wlay wfold
    split
    · rfl
    · rw [if_neg (by omega)]
  | succ n ih =>
    intro hn
    have ih := ih (by omega)
    obtain ⟨b3, b4, b34, b5, b5', b6⟩ := wA.2.2.1 n (by omega)
    unfold wlay
    by_cases q : (A.2 3 n = a ∧ A.2 4 n = b) ∨ (A.2 3 n = b ∧ A.2 4 n = a)
    · have hab : ¬ a = b := by rcases q with q | q <;> omega
      have e5 : wfold A 5 a b (n + 1) = A.2 5 n := by rw [wfold, if_pos q]
      have e6 : wfold A 6 a b (n + 1) = A.2 6 n := by rw [wfold, if_pos q]
      rw [e5, e6, if_neg hab]
      by_cases z : A.2 6 n ≤ t
      · rw [if_pos ⟨q, z⟩, if_pos ⟨by omega, z⟩]
      · rw [if_neg (fun y => z y.2), if_neg (fun y => z y.2), ih, if_neg hab, wfold_none n (fun i hi y => ?_), if_neg (by omega)]
        have : i = n := wA.2.2.2.1 i n (by omega) (by omega) (by rcases q with q | q <;> rcases y with y | y <;> omega)
        omega
    · have e5 : wfold A 5 a b (n + 1) = wfold A 5 a b n := by rw [wfold, if_neg q]
      have e6 : wfold A 6 a b (n + 1) = wfold A 6 a b n := by rw [wfold, if_neg q]
      rw [e5, e6, if_neg (fun y => q y.1), ih]
theorem wmin_le {A : TW} (wA : WFT A) (a b : Nat) : wmin A a b ≤ 60 := by
  unfold wmin
  have : ∀ n, n ≤ A.1 1 → wfold A 5 a b n ≤ 60 := by
    intro n
    induction n with
    | zero => intro _; unfold wfold; omega
    | succ n ih =>
      intro hn
      unfold wfold
      split
      · exact (wA.2.2.1 n (by omega)).2.2.2.2.1
      · exact ih (by omega)
  exact this _ (Nat.le_refl _)
theorem wlit_le {A : TW} (wA : WFT A) (a b : Nat) : wlit A a b ≤ 9 := by
  unfold wlit
  have : ∀ n, n ≤ A.1 1 → wfold A 6 a b n ≤ 9 := by
    intro n
    induction n with
    | zero => intro _; unfold wfold; omega
    | succ n ih =>
      intro hn
      unfold wfold
      split
      · exact (wA.2.2.1 n (by omega)).2.2.2.2.2
      · exact ih (by omega)
  exact this _ (Nat.le_refl _)
theorem dir0_le {A : TW} (wA : WFT A) (t a b : Nat) : dir0 A t a b ≤ 1000000 := by
  have := wmin_le wA a b
  unfold dir0
  split
  · omega
  · split <;> omega
theorem layX {σ0 : ST} {A : TW} (wA : WFT A) (xA : XT σ0 3 6 A) (t : Nat) (ht : t ≤ 9) : ∃ σ', fX0_layWays_4 (nI t) σ0 = some σ' ∧ fL σ0 σ' ∧ (∀ k, k < 4 → gA σ' k = gA σ0 k) ∧ ∀ i, i < 64 → gA σ' 4 i = nI (dir0 A t (i / 8) (i % 8)) := by
  unfold fX0_layWays_4
  rw [bnd_ap]
  obtain ⟨σ1, ⟨f1, k1, v1⟩, e1⟩ := layX1 σ0 (nI t)
  obtain ⟨σ2, ⟨f2, k2, v2⟩, e2⟩ := layX2 wA (f1.XT (by omega) xA) t ht (fun i hi => by rw [v1 i hi]; rfl)
  refine ⟨σ2, ?_, f1.tr f2, fun k hk => (k2 k hk).trans (k1 k hk), ?_⟩
  · rw [e1, bnd_ap, e2]
  · intro i hi
    rw [v2 i hi, wlay_dir wA t _ _ _ (Nat.le_refl _)]
    rfl
/-- every step keeps what is known of the size -/
theorem fwc_le {k a b : Nat} {d : Nat → Nat} (h : ∀ i, i < 64 → d i ≤ 1000000) : ∀ i, i < 64 → fwc k a b d i ≤ 1000000 := by
  intro i hi
  unfold fwc
  have := h i hi
  split
  · rename_i q
    rw [← q]
    split <;> omega
  · exact this
theorem fwb_le {k a : Nat} {d : Nat → Nat} (h : ∀ i, i < 64 → d i ≤ 1000000) : ∀ n, ∀ i, i < 64 → fwb k a n d i ≤ 1000000 := by
  intro n
  induction n with
  | zero => exact h
  | succ n ih => exact fwc_le ih
theorem fwa_le {k N : Nat} {d : Nat → Nat} (h : ∀ i, i < 64 → d i ≤ 1000000) : ∀ n, ∀ i, i < 64 → fwa k N n d i ≤ 1000000 := by
  intro n
  induction n with
  | zero => exact h
  | succ n ih => exact fwb_le ih N
theorem fw_le {N : Nat} {d : Nat → Nat} (h : ∀ i, i < 64 → d i ≤ 1000000) : ∀ n, ∀ i, i < 64 → fw N n d i ≤ 1000000 := by
  intro n
  induction n with
  | zero => exact h
  | succ n ih => exact fwa_le ih N
def ap (σ0 : ST) (d : Nat → Nat) (σ : ST) : Prop := fL σ0 σ ∧ (∀ k, k < 4 → gA σ k = gA σ0 k) ∧ ∀ i, i < 64 → gA σ 4 i = nI (d i)
theorem shoX1 {P k a : Nat} (hP : P ≤ 8) (hk : k < P) (ha : a < P) (σ0 σ : ST) (d : Nat → Nat) (hd : ∀ i, i < 64 → d i ≤ 1000000) (h : ap σ0 d σ) : ∃ σ', ap σ0 (fwb k a P d) σ' ∧ ∀ ke, fX0_shorten_L17 ke FU (nI P) (nI k) (nI a) 0 σ = ke (nI P) (nI k) (nI a) σ' := by
  obtain ⟨σ', h1, h2⟩ := loopK (fun ke m i σ => fX0_shorten_L17 ke m (nI P) (nI k) (nI a) (nI i) σ) (fun ke σ => ke (nI P) (nI k) (nI a) σ) P (fun n σ => ap σ0 (fwb k a n d) σ) (by
    intro i σ hi hI
    obtain ⟨hf, h4, hv⟩ := hI
    have hb := fwb_le (k := k) (a := a) hd i
    generalize hD : fwb k a i d = D at hv hb
    have b1 := hb (8 * a + k) (by omega)
    have b2 := hb (8 * k + i) (by omega)
    have b3 := hb (8 * a + i) (by omega)
    have hD' : fwb k a (i + 1) d = fwc k a i D := by rw [fwb, hD]
    show ∃ σ', ap σ0 (fwb k a (i + 1) d) σ' ∧ _
    rw [hD']
    by_cases q : D (8 * a + k) + D (8 * k + i) < D (8 * a + i)
    · refine ⟨sA σ 4 (upd (gA σ 4) (8 * a + i) (nI (D (8 * a + k) + D (8 * k + i)))), ⟨hf.st (by omega) _, fun k hk => by rw [gA_sA, if_neg (by omega)]; exact h4 k hk, ?_⟩, ?_⟩
      · intro j hj
        show upd (gA σ 4) (8 * a + i) _ j = nI (fwc k a i D j)
        rw [upd_ap]
        unfold fwc
        by_cases z : j = 8 * a + i
        · rw [if_pos z, if_pos z, if_pos q]
        · rw [if_neg z, if_neg z]; exact hv j hj
      · intro ke m
        show fX0_shorten_L17 ke (m + 1) (nI P) (nI k) (nI a) (nI i) σ = _
        rw [fX0_shorten_L17, if_neg (by rw [nI_le_iff (by omega) (by omega)]; omega), ix8, ix8, ix8, ald_n (by omega) (by omega), ald_n (by omega) (by omega), hv _ (by omega), hv _ (by omega)]
        simp only [bnd_ap]
        rw [na_add, ald_n (by omega) (by omega), hv _ (by omega), if_neg (by rw [nI_le_iff (by omega) (by omega)]; omega), ast_n (by omega) (by omega)]
        simp only [bnd_ap, ← nI_succ]
    · refine ⟨σ, ⟨hf, h4, ?_⟩, ?_⟩
      · intro j hj
        unfold fwc
        by_cases z : j = 8 * a + i
        · rw [if_pos z, if_neg q, ← z]; exact hv j hj
        · rw [if_neg z]; exact hv j hj
      · intro ke m
        show fX0_shorten_L17 ke (m + 1) (nI P) (nI k) (nI a) (nI i) σ = _
        rw [fX0_shorten_L17, if_neg (by rw [nI_le_iff (by omega) (by omega)]; omega), ix8, ix8, ix8, ald_n (by omega) (by omega), ald_n (by omega) (by omega), hv _ (by omega), hv _ (by omega)]
        simp only [bnd_ap]
        rw [na_add, ald_n (by omega) (by omega), hv _ (by omega), if_pos (by rw [nI_le_iff (by omega) (by omega)]; omega)]
        simp only [← nI_succ]) (by
    intro ke m σ hI
    show fX0_shorten_L17 ke (m + 1) (nI P) (nI k) (nI a) (nI P) σ = _
    rw [fX0_shorten_L17, if_pos (Int32.le_refl _)]) P 0 FU σ (by omega) (by rw [FU_eq]; omega) h
  exact ⟨σ', h1, h2⟩
theorem shoX2 {P k : Nat} (hP : P ≤ 8) (hk : k < P) (σ0 σ : ST) (d : Nat → Nat) (hd : ∀ i, i < 64 → d i ≤ 1000000) (h : ap σ0 d σ) : ∃ σ', ap σ0 (fwa k P P d) σ' ∧ ∀ ke, fX0_shorten_L9 ke FU (nI P) (nI k) 0 σ = ke (nI P) (nI k) σ' := by
  obtain ⟨σ', h1, h2⟩ := loopK (fun ke m i σ => fX0_shorten_L9 ke m (nI P) (nI k) (nI i) σ) (fun ke σ => ke (nI P) (nI k) σ) P (fun n σ => ap σ0 (fwa k P n d) σ) (by
    intro i σ hi hI
    obtain ⟨σ1, h1, h2⟩ := shoX1 hP hk hi σ0 σ (fwa k P i d) (fwa_le hd i) hI
    refine ⟨σ1, h1, ?_⟩
    intro ke m
    show fX0_shorten_L9 ke (m + 1) (nI P) (nI k) (nI i) σ = _
    rw [fX0_shorten_L9, if_neg (by rw [nI_le_iff (by omega) (by omega)]; omega), bnd_ap, h2]
    simp only [bnd_ap, ← nI_succ]) (by
    intro ke m σ hI
    show fX0_shorten_L9 ke (m + 1) (nI P) (nI k) (nI P) σ = _
    rw [fX0_shorten_L9, if_pos (Int32.le_refl _)]) P 0 FU σ (by omega) (by rw [FU_eq]; omega) h
  exact ⟨σ', h1, h2⟩
theorem shoX {P : Nat} (hP : P ≤ 8) (σ : ST) (d : Nat → Nat) (hd : ∀ i, i < 64 → d i ≤ 1000000) (h : ap σ d σ) : ∃ σ', ap σ (fw P P d) σ' ∧ fX0_shorten (nI P) σ = some σ' := by
  obtain ⟨σ', h1, h2⟩ := loopK (fun ke m i σ => fX0_shorten_L2 ke m (nI P) (nI i) σ) (fun ke σ => ke σ) P (fun n τ => ap σ (fw P n d) τ) (by
    intro i τ hi hI
    obtain ⟨σ1, h1, h2⟩ := shoX2 hP hi σ τ (fw P i d) (fw_le hd i) hI
    refine ⟨σ1, h1, ?_⟩
    intro ke m
    show fX0_shorten_L2 ke (m + 1) (nI P) (nI i) τ = _
    rw [fX0_shorten_L2, if_neg (by rw [nI_le_iff (by omega) (by omega)]; omega), bnd_ap, h2]
    simp only [bnd_ap, ← nI_succ]) (by
    intro ke m τ hI
    show fX0_shorten_L2 ke (m + 1) (nI P) (nI P) τ = _
    rw [fX0_shorten_L2, if_pos (Int32.le_refl _)]) P 0 FU σ (by omega) (by rw [FU_eq]; omega) h
  exact ⟨σ', h1, by unfold fX0_shorten; rw [bnd_ap]; exact h2 _⟩
/-- the tables once lights 0 .. n - 1 are through -/
def tb (A : TW) (n : Nat) (σ : ST) (i : Nat) : Prop := gA σ 0 i = (ktab A i n).1.1 ∧ gA σ 1 i = (ktab A i n).1.2 ∧ gA σ 2 i = (ktab A i n).2.1 ∧ gA σ 3 i = (ktab A i n).2.2
theorem keepX {A : TW} {t : Nat} (σ : ST) (i : Nat) (hi : i < 64) (hd : dst A t i ≤ 1000000) (ha : gA σ 4 i = nI (dst A t i)) (hb : tb A t σ i) : ∃ σ', fX0_keepIfNearer (nI i) (nI t) σ = some σ' ∧ fL σ σ' ∧ gA σ' 4 = gA σ 4 ∧ tb A (t + 1) σ' i ∧ ∀ k j, j ≠ i → gA σ' k j = gA σ k j := by
  obtain ⟨b0, b1, b2, b3⟩ := hb
  unfold fX0_keepIfNearer
  rw [ald_n hi (by omega), ha]
  by_cases q : 1000000 ≤ dst A t i
  · rw [if_neg (by rw [l1000000, nI_lt_iff (by omega) (by omega)]; omega)]
    refine ⟨σ, rfl, fL.rf σ, rfl, ?_, fun _ _ _ => rfl⟩
    unfold tb ktab
    rw [if_pos q]
    exact ⟨b0, b1, b2, b3⟩
  · rw [if_pos (by rw [l1000000, nI_lt_iff (by omega) (by omega)]; omega)]
    have J : ∀ σ1 : ST, gA σ1 4 = gA σ 4 → gA σ1 0 = gA σ 0 → gA σ1 1 = gA σ 1 → ∃ σ', fX0_keepIfNearer_J40 (nI i) (nI t) σ1 = some σ' ∧ fL σ1 σ' ∧ gA σ' 4 = gA σ 4 ∧ gA σ' 2 = gA σ1 2 ∧ gA σ' 3 = gA σ1 3 ∧ (gA σ' 0 i, gA σ' 1 i) = (if (ktab A i t).1.1 < 0 ∨ nI (dst A t i) < (ktab A i t).1.1 then (nI (dst A t i), nI t) else (ktab A i t).1) ∧ ∀ k j, j ≠ i → gA σ' k j = gA σ1 k j := by
      intro σ1 s4 s0 s1
      have K : ∃ σ', fX0_keepIfNearer_J64 (nI i) (nI t) σ1 = some σ' ∧ fL σ1 σ' ∧ gA σ' 4 = gA σ 4 ∧ gA σ' 2 = gA σ1 2 ∧ gA σ' 3 = gA σ1 3 ∧ (gA σ' 0 i, gA σ' 1 i) = (nI (dst A t i), nI t) ∧ ∀ k j, j ≠ i → gA σ' k j = gA σ1 k j := by
        unfold fX0_keepIfNearer_J64
        rw [ald_n hi (by omega), s4, ha, ast_n hi (by omega), ast_n hi (by omega)]
        refine ⟨_, rfl, ((fL.rf σ1).st (by omega) _).st (by omega) _, s4, rfl, rfl, ?_, ?_⟩
        · show (upd (gA σ1 0) i _ i, upd (gA σ1 1) i _ i) = _
          rw [upd_ap, upd_ap, if_pos rfl, if_pos rfl]
        · intro k j hj
          rw [gA_sA]
          split
          · rename_i z; rw [upd_ap, if_neg hj, z]; rfl
          · rw [gA_sA]
            split
            · rename_i z; rw [upd_ap, if_neg hj, z]
            · rfl
      unfold fX0_keepIfNearer_J40
      rw [ald_n hi (by omega), s0, b0]
      by_cases z1 : (ktab A i t).1.1 < 0
      · rw [if_pos z1, if_pos (Or.inl z1)]; exact K
      · rw [if_neg z1, ald_n hi (by omega), ald_n hi (by omega), s4, ha, b0]
        by_cases z2 : nI (dst A t i) < (ktab A i t).1.1
        · rw [if_neg (by rw [Int32.not_le]; exact z2), if_pos (Or.inr z2)]; exact K
        · rw [if_pos (by rw [← Int32.not_lt]; exact z2), if_neg (by rintro (z | z); exact z1 z; exact z2 z)]
          refine ⟨σ1, rfl, fL.rf _, s4, rfl, rfl, ?_, fun _ _ _ => rfl⟩
          rw [s0, s1, b0, b1]
    rw [ald_n hi (by omega), b2]
    by_cases z : 0 ≤ (ktab A i t).2.1
    · rw [if_pos z]
      obtain ⟨σ', e, f, k4, k2, k3, kp, ko⟩ := J σ rfl rfl rfl
      refine ⟨σ', e, f, k4, ?_, ko⟩
      unfold tb ktab
      rw [if_neg q]
      have z' : ¬ (ktab A i t).2.1 < 0 := by rw [Int32.not_lt]; exact z
      dsimp only
      rw [if_neg z', k2, k3, ← kp]
      exact ⟨rfl, rfl, b2, b3⟩
    · rw [if_neg z, ald_n hi (by omega), ha, ast_n hi (by omega), ast_n hi (by omega)]
      obtain ⟨σ', e, f, k4, k2, k3, kp, ko⟩ := J (sA (sA σ 2 (upd (gA σ 2) i (nI (dst A t i)))) 3 (upd (gA (sA σ 2 (upd (gA σ 2) i (nI (dst A t i)))) 3) i (nI t))) rfl rfl rfl
      refine ⟨σ', e, (((fL.rf σ).st (by omega) _).st (by omega) _).tr f, k4, ?_, ?_⟩
      · unfold tb ktab
        rw [if_neg q]
        have z' : (ktab A i t).2.1 < 0 := by rw [← Int32.not_le]; exact z
        dsimp only
        rw [if_pos z', k2, k3, ← kp]
        refine ⟨rfl, rfl, ?_, ?_⟩
        · show upd (gA σ 2) i _ i = _
          rw [upd_ap, if_pos rfl]
        · show upd (gA σ 3) i _ i = _
          rw [upd_ap, if_pos rfl]
      · intro k j hj
        rw [ko k j hj, gA_sA]
        split
        · rename_i y; rw [upd_ap, if_neg hj, y]; rfl
        · rw [gA_sA]
          split
          · rename_i y; rw [upd_ap, if_neg hj, y]
          · rfl
theorem keepL {A : TW} {t : Nat} (σ3 : ST) (hdl : ∀ i, i < 64 → dst A t i ≤ 1000000) (s4 : ∀ i, i < 64 → gA σ3 4 i = nI (dst A t i)) (hv : ∀ i, i < 64 → tb A t σ3 i) : ∃ σ4, (fL σ3 σ4 ∧ gA σ4 4 = gA σ3 4 ∧ ∀ i, i < 64 → (i < 64 → tb A (t + 1) σ4 i) ∧ (64 ≤ i → tb A t σ4 i)) ∧ ∀ ke : Int32 → ST → Option ST, fX0_measure_4_L70 ke FU (nI t) (nI 0) σ3 = ke (nI t) σ4 := by
  exact loopK (fun (ke : Int32 → ST → Option ST) m i σ => fX0_measure_4_L70 ke m (nI t) (nI i) σ) (fun ke σ => ke (nI t) σ) 64 (fun n σ => fL σ3 σ ∧ gA σ 4 = gA σ3 4 ∧ ∀ i, i < 64 → (i < n → tb A (t + 1) σ i) ∧ (n ≤ i → tb A t σ i)) (by
      intro i σ hi hI
      obtain ⟨c1, c2, c3⟩ := hI
      obtain ⟨σ5, k1, k2, k3, k4, k5⟩ := keepX σ i hi (hdl i hi) (by rw [c2]; exact s4 i hi) ((c3 i hi).2 (Nat.le_refl _))
      refine ⟨σ5, ⟨c1.tr k2, k3.trans c2, ?_⟩, ?_⟩
      · intro j hj
        refine ⟨fun q => ?_, fun q => ?_⟩
        · by_cases z : j = i
          · rw [z]; exact k4
          · have := (c3 j hj).1 (by omega)
            unfold tb at this ⊢
            rw [k5 0 j z, k5 1 j z, k5 2 j z, k5 3 j z]; exact this
        · have := (c3 j hj).2 (by omega)
          have z : j ≠ i := by omega
          unfold tb at this ⊢
          rw [k5 0 j z, k5 1 j z, k5 2 j z, k5 3 j z]; exact this
      · intro ke m
        show fX0_measure_4_L70 ke (m + 1) (nI t) (nI i) σ = _
        rw [fX0_measure_4_L70, if_neg (l64e i hi), k1]
        simp only [calv_s, bnd_ap, ← nI_succ]) (by
      intro ke m σ hI
      show fX0_measure_4_L70 ke (m + 1) (nI t) (nI 64) σ = _
      rw [fX0_measure_4_L70, if_pos l64p]) 64 0 FU σ3 rfl (by rw [FU_eq]; omega) ⟨fL.rf _, rfl, fun i hi => ⟨fun q => absurd q (by omega), fun _ => hv i hi⟩⟩
theorem dst_def (A : TW) (t : Nat) : dst A t = fw (A.1 0) (A.1 0) (fun i => dir0 A t (i / 8) (i % 8)) := by unfold dst; rfl
theorem dst_le {A : TW} (wA : WFT A) (t : Nat) : ∀ i, i < 64 → dst A t i ≤ 1000000 := by
  rw [dst_def]
  exact fw_le (fun i _ => dir0_le wA _ _ _) _
theorem ap_dst {A : TW} (wA : WFT A) (t : Nat) (σ2 : ST) (l4 : ∀ i, i < 64 → gA σ2 4 i = nI (dir0 A t (i / 8) (i % 8))) : ∃ σ', ap σ2 (dst A t) σ' ∧ fX0_shorten (nI (A.1 0)) σ2 = some σ' := by
  rw [dst_def]
  exact shoX wA.1.1 σ2 (fun i => dir0 A t (i / 8) (i % 8)) (fun i _ => dir0_le wA _ _ _) ⟨fL.rf _, fun _ _ => rfl, l4⟩
theorem stepX (ke : ST → Option ST) (m t P : Nat) (ht : t < 10) (σ σ2 σ3 σ4 : ST) (l1 : fX0_layWays_4 (nI t) σ = some σ2) (e3 : gI σ2 3 = nI P) (s1 : fX0_shorten (nI P) σ2 = some σ3) (g4 : ∀ ke : Int32 → ST → Option ST, fX0_measure_4_L70 ke FU (nI t) (nI 0) σ3 = ke (nI t) σ4) : fX0_measure_4_L48 ke (m + 1) (nI t) σ = fX0_measure_4_L48 ke m (nI (t + 1)) σ4 := by
  rw [fX0_measure_4_L48, if_neg (by rw [l9, nI_lt_iff (by omega) (by omega)]; omega), l1]
  simp only [calv_s]
  rw [e3, s1]
  simp only [calv_s, bnd_ap]
  rw [nI_succ]
  exact g4 _
theorem measS {σ0 : ST} {A : TW} (wA : WFT A) (xA : XT σ0 3 6 A) (t : Nat) (ht : t < 10) (σ : ST) (hf : fL σ0 σ) (hv : ∀ i, i < 64 → tb A t σ i) : ∃ σ', (fL σ0 σ' ∧ ∀ i, i < 64 → tb A (t + 1) σ' i) ∧ ∀ (ke : ST → Option ST) (m : Nat), fX0_measure_4_L48 ke (m + 1) (nI t) σ = fX0_measure_4_L48 ke m (nI (t + 1)) σ' := by
  have hP := wA.1.1
  have xs := hf.XT (by omega) xA
  obtain ⟨σ2, l1, l2, l3, l4⟩ := layX wA xs t (by omega)
  have e3 : gI σ2 3 = nI (A.1 0) := (l2.XT (by omega) xs).1.1
  obtain ⟨σ3, ⟨s2, s3, s4⟩, s1⟩ := ap_dst wA t σ2 l4
  obtain ⟨σ4, ⟨g1, g2, g3⟩, g4⟩ := keepL σ3 (dst_le wA t) s4 (fun i hi => by
        have := hv i hi
        unfold tb at this ⊢
        rw [s3 0 (by omega), s3 1 (by omega), s3 2 (by omega), s3 3 (by omega), l3 0 (by omega), l3 1 (by omega), l3 2 (by omega), l3 3 (by omega)]
        exact this)
  refine ⟨σ4, ⟨((hf.tr l2).tr s2).tr g1, fun i hi => (g3 i hi).1 hi⟩, ?_⟩
  exact fun ke m => stepX ke m t (A.1 0) ht σ σ2 σ3 σ4 l1 e3 s1 g4
theorem measX {σ0 : ST} {A : TW} (wA : WFT A) (xA : XT σ0 3 6 A) : ∃ σ', fX0_measure_4 σ0 = some σ' ∧ fL σ0 σ' ∧ LegX σ' A := by
  unfold fX0_measure_4
  rw [bnd_ap]
  obtain ⟨σ1, ⟨f1, v1⟩, e1⟩ := measX0 σ0
  rw [e1, bnd_ap]
  have v0 : ∀ i, i < 64 → tb A 0 σ1 i := fun i hi => v1 i hi
  obtain ⟨σ', ⟨f2, v2⟩, e2⟩ := loopK (fun ke m i σ => fX0_measure_4_L48 ke m (nI i) σ) (fun ke σ => ke σ) 10 (fun n σ => fL σ0 σ ∧ ∀ i, i < 64 → tb A n σ i) (fun t σ ht hI => measS wA xA t ht σ hI.1 hI.2) (by
    intro ke m σ hI
    show fX0_measure_4_L48 ke (m + 1) (nI 10) σ = _
    rw [fX0_measure_4_L48, if_pos (by decide)]) 10 0 FU σ1 rfl (by rw [FU_eq]; omega) ⟨f1, v0⟩
  exact ⟨σ', e2 _, f2, v2⟩
