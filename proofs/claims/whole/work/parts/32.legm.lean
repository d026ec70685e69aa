/-! ===== the reference's legs ===== -/
abbrev MS : Type := (Nat → Nat) × (Nat → Nat)
def dirM (A : TW) (t : Nat) : MS := (fun i => if i / 8 = i % 8 then 0 else if 0 < wmin A (i / 8) (i % 8) ∧ wlit A (i / 8) (i % 8) ≤ t then wmin A (i / 8) (i % 8) else 100000, fun i => if i / 8 = i % 8 then 0 else if 0 < wmin A (i / 8) (i % 8) ∧ wlit A (i / 8) (i % 8) ≤ t then wlit A (i / 8) (i % 8) else 0)
def gmx (x y : Nat) : Nat := if x < y then y else x
def gsc (k a b : Nat) (x : MS) : MS := if x.1 (8 * a + k) + x.1 (8 * k + b) < 100000 ∧ (x.1 (8 * a + k) + x.1 (8 * k + b) < x.1 (8 * a + b) ∨ (x.1 (8 * a + k) + x.1 (8 * k + b) = x.1 (8 * a + b) ∧ gmx (x.2 (8 * a + k)) (x.2 (8 * k + b)) < x.2 (8 * a + b))) then (fun i => if i = 8 * a + b then x.1 (8 * a + k) + x.1 (8 * k + b) else x.1 i, fun i => if i = 8 * a + b then gmx (x.2 (8 * a + k)) (x.2 (8 * k + b)) else x.2 i) else x
def gsb (k a : Nat) : Nat → MS → MS
  | 0, x => x
  | n + 1, x => gsc k a n (gsb k a n x)
def gsa (k : Nat) : Nat → MS → MS
  | 0, x => x
  | n + 1, x => gsb k n 8 (gsa k n x)
def gs : Nat → MS → MS
  | 0, x => x
  | n + 1, x => gsa n 8 (gs n x)
def gsT (A : TW) (t : Nat) : MS := gs 8 (dirM A t)
def stab (A : TW) (i : Nat) : Nat → Nat × Nat
  | 0 => (100000, 0)
  | n + 1 => if (stab A i n).1 = 100000 ∧ (gsT A n).1 i < 100000 then ((gsT A n).1 i, if i % 9 = 0 then 0 else n) else stab A i n
def fM (σ σ' : ST) : Prop := (∀ k, gI σ' k = gI σ k) ∧ (∀ k, gL σ' k = gL σ k) ∧ (∀ k, k < 8 ∨ 12 ≤ k → gA σ' k = gA σ k)
theorem fM.rf (σ : ST) : fM σ σ := ⟨fun _ => rfl, fun _ => rfl, fun _ _ => rfl⟩
theorem fM.tr {a b c : ST} (h : fM a b) (g : fM b c) : fM a c := ⟨fun k => (g.1 k).trans (h.1 k), fun k => (g.2.1 k).trans (h.2.1 k), fun k q => (g.2.2 k q).trans (h.2.2 k q)⟩
theorem fM.st {a b : ST} (h : fM a b) {q : Nat} (hq : 8 ≤ q ∧ q < 12) (f : Nat → Int32) : fM a (sA b q f) := ⟨h.1, h.2.1, fun k hk => by rw [gA_sA, if_neg (by omega)]; exact h.2.2 k hk⟩
theorem fM.mS {a b : ST} (h : fM a b) : mS a b := ⟨fun k _ => h.1 k, fun k hk => h.2.2 k (by omega)⟩
/-- the two tables of legs hold x, all else but them is as in τ0 -/
def ms (τ0 : ST) (x : MS) (τ : ST) : Prop := fM τ0 τ ∧ gA τ 10 = gA τ0 10 ∧ gA τ 11 = gA τ0 11 ∧ ∀ i, i < 64 → gA τ 8 i = nI (x.1 i) ∧ gA τ 9 i = nI (x.2 i)
def msb (x : MS) : Prop := ∀ i, i < 64 → x.1 i ≤ 100000 ∧ x.2 i ≤ 9
theorem gsc_le {k a b : Nat} (hk : k < 8) (ha : a < 8) (hb : b < 8) {x : MS} (h : msb x) : msb (gsc k a b x) := by
  intro i hi
  have h0 := h i hi
  have h1 := h (8 * a + k) (by omega)
  have h2 := h (8 * k + b) (by omega)
  unfold gsc
  split
  · rename_i q
    dsimp only
    unfold gmx
    refine ⟨?_, ?_⟩
    · split <;> omega
    · split
      · split <;> omega
      · omega
  · exact h0
theorem gsb_le {k a : Nat} (hk : k < 8) (ha : a < 8) {x : MS} (h : msb x) : ∀ n, n ≤ 8 → msb (gsb k a n x) := by
  intro n
  induction n with
  | zero => intro _; exact h
  | succ n ih => intro hn; exact gsc_le hk ha (by omega) (ih (by omega))
theorem gsa_le {k : Nat} (hk : k < 8) {x : MS} (h : msb x) : ∀ n, n ≤ 8 → msb (gsa k n x) := by
  intro n
  induction n with
  | zero => intro _; exact h
  | succ n ih => intro hn; exact gsb_le hk (by omega) (ih (by omega)) 8 (by omega)
theorem gs_le {x : MS} (h : msb x) : ∀ n, n ≤ 8 → msb (gs n x) := by
  intro n
  induction n with
  | zero => intro _; exact h
  | succ n ih => intro hn; exact gsa_le (by omega) (ih (by omega)) 8 (by omega)
theorem dirM_le {A : TW} (wA : WFT A) (t : Nat) : msb (dirM A t) := by
  intro i hi
  have h1 := wmin_le wA (i / 8) (i % 8)
  have h2 := wlit_le wA (i / 8) (i % 8)
  unfold dirM
  dsimp only
  refine ⟨?_, ?_⟩
  · split
    · omega
    · split <;> omega
  · split
    · omega
    · split <;> omega
theorem l8e {i : Nat} (h : i < 8) : ¬ (8 : Int32) ≤ nI i := by rw [l8, nI_le_iff (by omega) (by omega)]; omega
theorem l8p : (8 : Int32) ≤ nI 8 := by decide
theorem ix60 (i : Nat) : (60 : Int32) + nI i = nI (60 + i) := by rw [l60, na_add]
theorem ix130 (i : Nat) : (130 : Int32) + nI i = nI (130 + i) := by rw [l130, na_add]
theorem jmax_n {a b : Nat} (ha : a < 2147483648) (hb : b < 2147483648) : jmax (nI a) (nI b) = nI (gmx a b) := by
  unfold jmax gmx
  by_cases q : a < b
  · rw [if_pos q, if_pos (by rw [nI_lt_iff ha hb]; exact q)]
  · rw [if_neg q, if_neg (by rw [nI_lt_iff ha hb]; exact q)]
theorem ovM1 {k a : Nat} (hk : k < 8) (ha : a < 8) (τ0 τ : ST) (x : MS) (hx : msb x) (h : ms τ0 x τ) : ∃ τ', ms τ0 (gsb k a 8 x) τ' ∧ ∀ ke : Int32 → Int32 → ST → Option ST, fX5_over_L158 ke FU (nI k) (nI a) (nI 0) τ = ke (nI k) (nI a) τ' := by
  exact loopK (fun (ke : Int32 → Int32 → ST → Option ST) m i τ => fX5_over_L158 ke m (nI k) (nI a) (nI i) τ) (fun ke τ => ke (nI k) (nI a) τ) 8 (fun n τ => ms τ0 (gsb k a n x) τ) (by
    intro i τ hi hI
    obtain ⟨hf, h10, h11, hv⟩ := hI
    have hb := gsb_le hk ha hx i (by omega)
    generalize hD : gsb k a i x = D at hv hb
    have b1 := hb (8 * a + k) (by omega)
    have b2 := hb (8 * k + i) (by omega)
    have b3 := hb (8 * a + i) (by omega)
    have v1 := hv (8 * a + k) (by omega)
    have v2 := hv (8 * k + i) (by omega)
    have v3 := hv (8 * a + i) (by omega)
    show ∃ τ', ms τ0 (gsc k a i (gsb k a i x)) τ' ∧ _
    rw [hD]
    have bg : gmx (D.2 (8 * a + k)) (D.2 (8 * k + i)) ≤ 9 := by unfold gmx; split <;> omega
    have J : ∀ (kb : Int32 → Int32 → Int32 → ST → Option ST), fX5_over_J271 kb (nI k) (nI a) (nI i) (nI (D.1 (8 * a + k) + D.1 (8 * k + i))) (nI (gmx (D.2 (8 * a + k)) (D.2 (8 * k + i)))) (nI (8 * a + i)) τ = kb (nI k) (nI a) (nI (i + 1)) (sA (sA τ 8 (upd (gA τ 8) (8 * a + i) (nI (D.1 (8 * a + k) + D.1 (8 * k + i))))) 9 (upd (gA τ 9) (8 * a + i) (nI (gmx (D.2 (8 * a + k)) (D.2 (8 * k + i)))))) := by
      intro kb
      unfold fX5_over_J271
      rw [ast_n (by omega) (by omega), ast_n (by omega) (by omega)]
      simp only [bnd_ap, ← nI_succ]
      rfl
    have hst : (D.1 (8 * a + k) + D.1 (8 * k + i) < 100000 ∧ (D.1 (8 * a + k) + D.1 (8 * k + i) < D.1 (8 * a + i) ∨ (D.1 (8 * a + k) + D.1 (8 * k + i) = D.1 (8 * a + i) ∧ gmx (D.2 (8 * a + k)) (D.2 (8 * k + i)) < D.2 (8 * a + i)))) → ms τ0 (gsc k a i D) (sA (sA τ 8 (upd (gA τ 8) (8 * a + i) (nI (D.1 (8 * a + k) + D.1 (8 * k + i))))) 9 (upd (gA τ 9) (8 * a + i) (nI (gmx (D.2 (8 * a + k)) (D.2 (8 * k + i)))))) := by
      intro q
      refine ⟨(hf.st (by omega) _).st (by omega) _, h10, h11, ?_⟩
      intro j hj
      unfold gsc
      rw [if_pos q]
      show upd (gA τ 8) (8 * a + i) _ j = nI (if j = 8 * a + i then _ else _) ∧ upd (gA τ 9) (8 * a + i) _ j = nI (if j = 8 * a + i then _ else _)
      rw [upd_ap, upd_ap]
      by_cases z : j = 8 * a + i
      · simp only [if_pos z]; exact ⟨trivial, trivial⟩
      · simp only [if_neg z]; exact hv j hj
    have hno : ¬ (D.1 (8 * a + k) + D.1 (8 * k + i) < 100000 ∧ (D.1 (8 * a + k) + D.1 (8 * k + i) < D.1 (8 * a + i) ∨ (D.1 (8 * a + k) + D.1 (8 * k + i) = D.1 (8 * a + i) ∧ gmx (D.2 (8 * a + k)) (D.2 (8 * k + i)) < D.2 (8 * a + i)))) → ms τ0 (gsc k a i D) τ := by
      intro q
      unfold gsc
      rw [if_neg q]
      exact ⟨hf, h10, h11, hv⟩
    have H : ∀ (ke : Int32 → Int32 → ST → Option ST) (m : Nat), fX5_over_L158 ke (m + 1) (nI k) (nI a) (nI i) τ = if 100000 ≤ nI (D.1 (8 * a + k) + D.1 (8 * k + i)) then fX5_over_L158 ke m (nI k) (nI a) (nI (i + 1)) τ else if nI (D.1 (8 * a + k) + D.1 (8 * k + i)) < nI (D.1 (8 * a + i)) then fX5_over_J271 (fX5_over_L158 ke m) (nI k) (nI a) (nI i) (nI (D.1 (8 * a + k) + D.1 (8 * k + i))) (nI (gmx (D.2 (8 * a + k)) (D.2 (8 * k + i)))) (nI (8 * a + i)) τ else if nI (D.1 (8 * a + k) + D.1 (8 * k + i)) = nI (D.1 (8 * a + i)) then (if nI (D.2 (8 * a + i)) ≤ nI (gmx (D.2 (8 * a + k)) (D.2 (8 * k + i))) then fX5_over_L158 ke m (nI k) (nI a) (nI (i + 1)) τ else fX5_over_J271 (fX5_over_L158 ke m) (nI k) (nI a) (nI i) (nI (D.1 (8 * a + k) + D.1 (8 * k + i))) (nI (gmx (D.2 (8 * a + k)) (D.2 (8 * k + i)))) (nI (8 * a + i)) τ) else fX5_over_L158 ke m (nI k) (nI a) (nI (i + 1)) τ := by
      intro ke m
      rw [fX5_over_L158, if_neg (l8e hi), ix8', ix8', ald_n (by omega) (by omega), ald_n (by omega) (by omega), v1.1, v2.1]
      simp only [bnd_ap]
      rw [ald_n (by omega) (by omega), ald_n (by omega) (by omega), v1.2, v2.2, na_add, jmax_n (by omega) (by omega), ix8', ald_n (by omega) (by omega), v3.1, ald_n (by omega) (by omega), v3.1, ald_n (by omega) (by omega), v3.2]
      simp only [← nI_succ]
    by_cases z0 : D.1 (8 * a + k) + D.1 (8 * k + i) < 100000
    · have z0' : ¬ 100000 ≤ nI (D.1 (8 * a + k) + D.1 (8 * k + i)) := by rw [l100000, nI_le_iff (by omega) (by omega)]; omega
      by_cases z1 : D.1 (8 * a + k) + D.1 (8 * k + i) < D.1 (8 * a + i)
      · refine ⟨_, hst ⟨z0, Or.inl z1⟩, ?_⟩
        intro ke m
        show fX5_over_L158 ke (m + 1) (nI k) (nI a) (nI i) τ = _
        rw [H, if_neg z0', if_pos (by rw [nI_lt_iff (by omega) (by omega)]; exact z1), J]
      · have z1' : ¬ nI (D.1 (8 * a + k) + D.1 (8 * k + i)) < nI (D.1 (8 * a + i)) := by rw [nI_lt_iff (by omega) (by omega)]; exact z1
        by_cases z2 : D.1 (8 * a + k) + D.1 (8 * k + i) = D.1 (8 * a + i)
        · have z2' : nI (D.1 (8 * a + k) + D.1 (8 * k + i)) = nI (D.1 (8 * a + i)) := by rw [z2]
          by_cases z3 : gmx (D.2 (8 * a + k)) (D.2 (8 * k + i)) < D.2 (8 * a + i)
          · refine ⟨_, hst ⟨z0, Or.inr ⟨z2, z3⟩⟩, ?_⟩
            intro ke m
            show fX5_over_L158 ke (m + 1) (nI k) (nI a) (nI i) τ = _
            rw [H, if_neg z0', if_neg z1', if_pos z2', if_neg (by rw [nI_le_iff (by omega) (by omega)]; omega), J]
          · refine ⟨_, hno (by omega), ?_⟩
            intro ke m
            show fX5_over_L158 ke (m + 1) (nI k) (nI a) (nI i) τ = _
            rw [H, if_neg z0', if_neg z1', if_pos z2', if_pos (by rw [nI_le_iff (by omega) (by omega)]; omega)]
        · refine ⟨_, hno (by omega), ?_⟩
          intro ke m
          show fX5_over_L158 ke (m + 1) (nI k) (nI a) (nI i) τ = _
          rw [H, if_neg z0', if_neg z1', if_neg (by rw [nI_eq_iff (by omega) (by omega)]; exact z2)]
    · refine ⟨_, hno (by omega), ?_⟩
      intro ke m
      show fX5_over_L158 ke (m + 1) (nI k) (nI a) (nI i) τ = _
      rw [H, if_pos (by rw [l100000, nI_le_iff (by omega) (by omega)]; omega)]) (by
    intro ke m τ hI
    show fX5_over_L158 ke (m + 1) (nI k) (nI a) (nI 8) τ = _
    rw [fX5_over_L158, if_pos l8p]) 8 0 FU τ rfl (by rw [FU_eq]; omega) h
theorem ovM2 {k : Nat} (hk : k < 8) (τ0 τ : ST) (x : MS) (hx : msb x) (h : ms τ0 x τ) : ∃ τ', ms τ0 (gsa k 8 x) τ' ∧ ∀ ke : Int32 → ST → Option ST, fX5_over_L149 ke FU (nI k) (nI 0) τ = ke (nI k) τ' := by
  exact loopK (fun (ke : Int32 → ST → Option ST) m i τ => fX5_over_L149 ke m (nI k) (nI i) τ) (fun ke τ => ke (nI k) τ) 8 (fun n τ => ms τ0 (gsa k n x) τ) (by
    intro i τ hi hI
    obtain ⟨τ1, h1, h2⟩ := ovM1 hk hi τ0 τ (gsa k i x) (gsa_le hk hx i (by omega)) hI
    refine ⟨τ1, h1, ?_⟩
    intro ke m
    show fX5_over_L149 ke (m + 1) (nI k) (nI i) τ = _
    rw [fX5_over_L149, if_neg (l8e hi), bnd_ap, show (0 : Int32) = nI 0 from rfl, h2]
    simp only [bnd_ap, ← nI_succ]) (by
    intro ke m τ hI
    show fX5_over_L149 ke (m + 1) (nI k) (nI 8) τ = _
    rw [fX5_over_L149, if_pos l8p]) 8 0 FU τ rfl (by rw [FU_eq]; omega) h
theorem ovM3 (τ0 τ : ST) (x : MS) (hx : msb x) (h : ms τ0 x τ) : ∃ τ', ms τ0 (gs 8 x) τ' ∧ ∀ ke : ST → Option ST, fX5_over_L141 ke FU (nI 0) τ = ke τ' := by
  exact loopK (fun (ke : ST → Option ST) m i τ => fX5_over_L141 ke m (nI i) τ) (fun ke τ => ke τ) 8 (fun n τ => ms τ0 (gs n x) τ) (by
    intro i τ hi hI
    obtain ⟨τ1, h1, h2⟩ := ovM2 hi τ0 τ (gs i x) (gs_le hx i (by omega)) hI
    refine ⟨τ1, h1, ?_⟩
    intro ke m
    show fX5_over_L141 ke (m + 1) (nI i) τ = _
    rw [fX5_over_L141, if_neg (l8e hi), bnd_ap, show (0 : Int32) = nI 0 from rfl, h2]
    simp only [bnd_ap, ← nI_succ]) (by
    intro ke m τ hI
    show fX5_over_L141 ke (m + 1) (nI 8) τ = _
    rw [fX5_over_L141, if_pos l8p]) 8 0 FU τ rfl (by rw [FU_eq]; omega) h
