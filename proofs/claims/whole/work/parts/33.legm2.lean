theorem MT_f {τ τ' : ST} {A : TW} (h : fM τ τ') (m : MT (gA τ 1) A) : MT (gA τ' 1) A := by rw [h.2.2 1 (by omega)]; exact m
/-- one pair laid -/
theorem ovJ {A : TW} (wA : WFT A) {t a b : Nat} (ht : t ≤ 9) (ha : a < 8) (hb : b < 8) (τ : ST) (mA : MT (gA τ 1) A) (ke : Int32 → Int32 → ST → Option ST) (m : Nat) : fX5_over_L10 ke (m + 1) (nI t) (nI a) (nI b) τ = fX5_over_L10 ke m (nI t) (nI a) (nI (b + 1)) (sA (sA τ 8 (upd (gA τ 8) (8 * a + b) (nI ((dirM A t).1 (8 * a + b))))) 9 (upd (gA τ 9) (8 * a + b) (nI ((dirM A t).2 (8 * a + b))))) := by
  obtain ⟨w1, w2⟩ := mA.2.2.2 a b ha hb
  have b1 := wmin_le wA a b
  have b2 := wlit_le wA a b
  have d1 : (8 * a + b) / 8 = a := by omega
  have d2 : (8 * a + b) % 8 = b := by omega
  have e1 : (dirM A t).1 (8 * a + b) = if a = b then 0 else if 0 < wmin A a b ∧ wlit A a b ≤ t then wmin A a b else 100000 := by unfold dirM; dsimp only; rw [d1, d2]
  have e2 : (dirM A t).2 (8 * a + b) = if a = b then 0 else if 0 < wmin A a b ∧ wlit A a b ≤ t then wlit A a b else 0 := by unfold dirM; dsimp only; rw [d1, d2]
  have w1' : ∀ f, gA (sA τ 8 f) 1 (60 + (8 * a + b)) = nI (wmin A a b) := fun f => w1
  have w2' : ∀ f, gA (sA τ 8 f) 1 (130 + (8 * a + b)) = nI (wlit A a b) := fun f => w2
  have J57 : ∀ (kb : Int32 → Int32 → Int32 → ST → Option ST), (0 < wmin A a b ∧ wlit A a b ≤ t) → fX5_over_J57 kb (nI t) (nI a) (nI b) (nI (8 * a + b)) 1 τ = kb (nI t) (nI a) (nI (b + 1)) (sA (sA τ 8 (upd (gA τ 8) (8 * a + b) (nI ((dirM A t).1 (8 * a + b))))) 9 (upd (gA τ 9) (8 * a + b) (nI ((dirM A t).2 (8 * a + b))))) := by
    intro kb q
    rw [e1, e2]
    unfold fX5_over_J57 fX5_over_J94
    rw [bnd_ap]
    by_cases z : a = b
    · simp only [if_pos z, if_pos (show nI a = nI b by rw [z])]
      rw [ast_n (by omega) (by omega), ast_n (by omega) (by omega)]
      simp only [bnd_ap, ← nI_succ]
      rfl
    · have z' : ¬ nI a = nI b := by rw [nI_eq_iff (by omega) (by omega)]; exact z
      simp only [if_neg z, if_neg z', if_neg n10, if_pos q]
      rw [ix60, ald_n (by omega) (by omega), w1, ast_n (by omega) (by omega), ix130, ald_n (by omega) (by omega), w2', ast_n (by omega) (by omega)]
      simp only [bnd_ap, ← nI_succ]
      rfl
  have J56 : ∀ (kb : Int32 → Int32 → Int32 → ST → Option ST), ¬ (0 < wmin A a b ∧ wlit A a b ≤ t) → fX5_over_J56 kb (nI t) (nI a) (nI b) (nI (8 * a + b)) τ = kb (nI t) (nI a) (nI (b + 1)) (sA (sA τ 8 (upd (gA τ 8) (8 * a + b) (nI ((dirM A t).1 (8 * a + b))))) 9 (upd (gA τ 9) (8 * a + b) (nI ((dirM A t).2 (8 * a + b))))) := by
    intro kb q
    rw [e1, e2]
    unfold fX5_over_J56 fX5_over_J57 fX5_over_J94
    rw [bnd_ap]
    by_cases z : a = b
    · simp only [if_pos z, if_pos (show nI a = nI b by rw [z])]
      rw [ast_n (by omega) (by omega), ast_n (by omega) (by omega)]
      simp only [bnd_ap, ← nI_succ]
      rfl
    · have z' : ¬ nI a = nI b := by rw [nI_eq_iff (by omega) (by omega)]; exact z
      simp only [if_neg z, if_neg z', if_true, if_neg q]
      rw [ast_n (by omega) (by omega), ast_n (by omega) (by omega)]
      simp only [bnd_ap, ← nI_succ]
      rfl
  rw [fX5_over_L10, if_neg (l8e hb), bnd_ap, ix8', ix60, ald_n (by omega) (by omega), w1]
  by_cases q0 : 0 < wmin A a b
  · rw [if_neg (by rw [l0, nI_le_iff (by omega) (by omega)]; omega), ix130, ald_n (by omega) (by omega), w2]
    by_cases q1 : wlit A a b ≤ t
    · rw [if_neg (by rw [nI_lt_iff (by omega) (by omega)]; omega), J57 _ ⟨q0, q1⟩]
    · rw [if_pos (by rw [nI_lt_iff (by omega) (by omega)]; omega), J56 _ (fun z => q1 z.2)]
  · rw [if_pos (by rw [l0, nI_le_iff (by omega) (by omega)]; omega), J56 _ (fun z => q0 z.1)]
theorem ovM4 {A : TW} (wA : WFT A) {t a : Nat} (ht : t ≤ 9) (ha : a < 8) (τ0 τ : ST) (mA : MT (gA τ0 1) A) (hf : fM τ0 τ) (h10 : gA τ 10 = gA τ0 10) (h11 : gA τ 11 = gA τ0 11) (hv : ∀ i, i < 8 * a → gA τ 8 i = nI ((dirM A t).1 i) ∧ gA τ 9 i = nI ((dirM A t).2 i)) : ∃ τ', (fM τ0 τ' ∧ gA τ' 10 = gA τ0 10 ∧ gA τ' 11 = gA τ0 11 ∧ ∀ i, i < 8 * a + 8 → gA τ' 8 i = nI ((dirM A t).1 i) ∧ gA τ' 9 i = nI ((dirM A t).2 i)) ∧ ∀ ke : Int32 → Int32 → ST → Option ST, fX5_over_L10 ke FU (nI t) (nI a) (nI 0) τ = ke (nI t) (nI a) τ' := by
  exact loopK (fun (ke : Int32 → Int32 → ST → Option ST) m i τ => fX5_over_L10 ke m (nI t) (nI a) (nI i) τ) (fun ke τ => ke (nI t) (nI a) τ) 8 (fun n τ => fM τ0 τ ∧ gA τ 10 = gA τ0 10 ∧ gA τ 11 = gA τ0 11 ∧ ∀ i, i < 8 * a + n → gA τ 8 i = nI ((dirM A t).1 i) ∧ gA τ 9 i = nI ((dirM A t).2 i)) (by
    intro i τ hi hI
    obtain ⟨c1, c2, c3, c4⟩ := hI
    refine ⟨sA (sA τ 8 (upd (gA τ 8) (8 * a + i) (nI ((dirM A t).1 (8 * a + i))))) 9 (upd (gA τ 9) (8 * a + i) (nI ((dirM A t).2 (8 * a + i)))), ⟨(c1.st (by omega) _).st (by omega) _, c2, c3, ?_⟩, fun ke m => ovJ wA ht ha hi τ (MT_f c1 mA) ke m⟩
    intro j hj
    show upd (gA τ 8) (8 * a + i) _ j = _ ∧ upd (gA τ 9) (8 * a + i) _ j = _
    rw [upd_ap, upd_ap]
    by_cases z : j = 8 * a + i
    · rw [if_pos z, if_pos z, z]; exact ⟨rfl, rfl⟩
    · rw [if_neg z, if_neg z]; exact c4 j (by omega)) (by
    intro ke m τ hI
    show fX5_over_L10 ke (m + 1) (nI t) (nI a) (nI 8) τ = _
    rw [fX5_over_L10, if_pos l8p]) 8 0 FU τ rfl (by rw [FU_eq]; omega) ⟨hf, h10, h11, hv⟩
theorem ovM5 {A : TW} (wA : WFT A) {t : Nat} (ht : t ≤ 9) (τ0 : ST) (mA : MT (gA τ0 1) A) : ∃ τ', ms τ0 (dirM A t) τ' ∧ ∀ ke : ST → Option ST, fX5_over_L2 ke FU (nI t) (nI 0) τ0 = ke τ' := by
  obtain ⟨τ', ⟨c1, c2, c3, c4⟩, h2⟩ := loopK (fun (ke : ST → Option ST) m i τ => fX5_over_L2 ke m (nI t) (nI i) τ) (fun ke τ => ke τ) 8 (fun n τ => fM τ0 τ ∧ gA τ 10 = gA τ0 10 ∧ gA τ 11 = gA τ0 11 ∧ ∀ i, i < 8 * n → gA τ 8 i = nI ((dirM A t).1 i) ∧ gA τ 9 i = nI ((dirM A t).2 i)) (by
    intro i τ hi hI
    obtain ⟨c1, c2, c3, c4⟩ := hI
    obtain ⟨τ1, ⟨g1, g2, g3, g4⟩, g5⟩ := ovM4 wA ht hi τ0 τ mA c1 c2 c3 c4
    refine ⟨τ1, ⟨g1, g2, g3, fun j hj => g4 j (by omega)⟩, ?_⟩
    intro ke m
    show fX5_over_L2 ke (m + 1) (nI t) (nI i) τ = _
    rw [fX5_over_L2, if_neg (l8e hi), bnd_ap, show (0 : Int32) = nI 0 from rfl, g5]
    simp only [bnd_ap, ← nI_succ]) (by
    intro ke m τ hI
    show fX5_over_L2 ke (m + 1) (nI t) (nI 8) τ = _
    rw [fX5_over_L2, if_pos l8p]) 8 0 FU τ0 rfl (by rw [FU_eq]; omega) ⟨fM.rf τ0, rfl, rfl, fun i hi => absurd hi (by omega)⟩
  exact ⟨τ', ⟨c1, c2, c3, fun i hi => c4 i (by omega)⟩, h2⟩
theorem ms_tr {τ0 τ1 τ2 : ST} {x y : MS} (h : ms τ0 x τ1) (g : ms τ1 y τ2) : ms τ0 y τ2 := ⟨h.1.tr g.1, g.2.1.trans h.2.1, g.2.2.1.trans h.2.2.1, g.2.2.2⟩
theorem ms_self {τ0 τ1 : ST} {x : MS} (h : ms τ0 x τ1) : ms τ1 x τ1 := ⟨fM.rf _, rfl, rfl, h.2.2.2⟩
theorem overM {A : TW} (wA : WFT A) {t : Nat} (ht : t ≤ 9) (τ0 : ST) (mA : MT (gA τ0 1) A) : ∃ τ', ms τ0 (gsT A t) τ' ∧ fX5_over (nI t) τ0 = some τ' := by
  obtain ⟨τ1, h1, h2⟩ := ovM5 wA ht τ0 mA
  obtain ⟨τ2, h3, h4⟩ := ovM3 τ1 τ1 (dirM A t) (dirM_le wA t) (ms_self h1)
  refine ⟨τ2, ms_tr h1 h3, ?_⟩
  unfold fX5_over
  rw [bnd_ap, show (0 : Int32) = nI 0 from rfl, h2, bnd_ap, h4]
/-- safe tables once lights 0 .. n - 1 are through -/
def sb (A : TW) (n : Nat) (τ : ST) (i : Nat) : Prop := gA τ 10 i = nI (stab A i n).1 ∧ gA τ 11 i = nI (stab A i n).2
theorem stab_le {A : TW} (hx : ∀ t, msb (gsT A t)) (i : Nat) (hi : i < 64) : ∀ n, n ≤ 10 → (stab A i n).1 ≤ 100000 ∧ (stab A i n).2 ≤ 9 := by
  intro n
  induction n with
  | zero => intro _; unfold stab; exact ⟨by omega, by omega⟩
  | succ n ih =>
    intro hn
    have := ih (by omega)
    have := hx n i hi
    unfold stab
    split
    · dsimp only
      refine ⟨by omega, ?_⟩
      split <;> omega
    · exact ih (by omega)
theorem gsT_le {A : TW} (wA : WFT A) (t : Nat) : msb (gsT A t) := gs_le (dirM_le wA t) 8 (by omega)
theorem legM1 (τ0 : ST) : ∃ τ', (fM τ0 τ' ∧ ∀ i, i < 64 → gA τ' 10 i = nI 100000 ∧ gA τ' 11 i = nI 0) ∧ ∀ ke : ST → Option ST, fX5_legs_L2 ke FU (nI 0) τ0 = ke τ' := by
  exact loopK (fun (ke : ST → Option ST) m i τ => fX5_legs_L2 ke m (nI i) τ) (fun ke τ => ke τ) 64 (fun n τ => fM τ0 τ ∧ ∀ i, i < n → gA τ 10 i = nI 100000 ∧ gA τ 11 i = nI 0) (by
    intro i τ hi hI
    obtain ⟨c1, c2⟩ := hI
    refine ⟨sA (sA τ 10 (upd (gA τ 10) i (nI 100000))) 11 (upd (gA τ 11) i (nI 0)), ⟨(c1.st (by omega) _).st (by omega) _, ?_⟩, ?_⟩
    · intro j hj
      show upd (gA τ 10) i _ j = _ ∧ upd (gA τ 11) i _ j = _
      rw [upd_ap, upd_ap]
      by_cases z : j = i
      · rw [if_pos z, if_pos z]; exact ⟨rfl, rfl⟩
      · rw [if_neg z, if_neg z]; exact c2 j (by omega)
    · intro ke m
      show fX5_legs_L2 ke (m + 1) (nI i) τ = _
      rw [fX5_legs_L2, if_neg (l64e i hi), ast_n hi (by omega), ast_n hi (by omega)]
      simp only [bnd_ap, ← nI_succ]
      rfl) (by
    intro ke m τ hI
    show fX5_legs_L2 ke (m + 1) (nI 64) τ = _
    rw [fX5_legs_L2, if_pos l64p]) 64 0 FU τ0 rfl (by rw [FU_eq]; omega) ⟨fM.rf τ0, fun i hi => absurd hi (by omega)⟩
theorem legM2 {A : TW} (wA : WFT A) {t : Nat} (ht : t ≤ 9) (τ : ST) (hm : ∀ i, i < 64 → gA τ 8 i = nI ((gsT A t).1 i)) (i : Nat) (hi : i < 64) (hs : sb A t τ i) : ∃ τ', (fM τ τ' ∧ gA τ' 8 = gA τ 8 ∧ gA τ' 9 = gA τ 9 ∧ sb A (t + 1) τ' i ∧ ∀ k j, j ≠ i → gA τ' k j = gA τ k j) ∧ ∀ (ke : Int32 → ST → Option ST) (m : Nat), fX5_legs_L44 ke (m + 1) (nI t) (nI i) τ = fX5_legs_L44 ke m (nI t) (nI (i + 1)) τ' := by
  obtain ⟨s1, s2⟩ := hs
  have bx := stab_le (gsT_le wA) i hi t (by omega)
  have bm := gsT_le wA t i hi
  by_cases q0 : (stab A i t).1 = 100000
  · have q0' : nI (stab A i t).1 = 100000 := by rw [q0]; rfl
    by_cases q1 : (gsT A t).1 i < 100000
    · have q1' : ¬ 100000 ≤ nI ((gsT A t).1 i) := by rw [l100000, nI_le_iff (by omega) (by omega)]; omega
      have e : stab A i (t + 1) = ((gsT A t).1 i, if i % 9 = 0 then 0 else t) := by rw [stab, if_pos ⟨q0, q1⟩]
      refine ⟨sA (sA τ 10 (upd (gA τ 10) i (nI ((gsT A t).1 i)))) 11 (upd (gA τ 11) i (nI (if i % 9 = 0 then 0 else t))), ⟨((fM.rf τ).st (by omega) _).st (by omega) _, rfl, rfl, ?_, ?_⟩, ?_⟩
      · unfold sb
        rw [e]
        refine ⟨?_, ?_⟩
        · rw [gA_sA, if_neg (by omega), gA_sA, if_pos rfl, upd_ap, if_pos rfl]
        · rw [gA_sA, if_pos rfl, upd_ap, if_pos rfl]
      · intro k j hj
        rw [gA_sA]
        split
        · rename_i z; rw [upd_ap, if_neg hj, z]
        · rw [gA_sA]
          split
          · rename_i z; rw [upd_ap, if_neg hj, z]
          · rfl
      · intro ke m
        rw [fX5_legs_L44, if_neg (l64e i hi), ald_n hi (by omega), s1, if_pos q0', ald_n hi (by omega), hm i hi, if_neg q1', ald_n hi (by omega), hm i hi, ast_n hi (by omega), show (9 : Int32) = nI 9 from rfl, nI_rm (by omega) (by omega) (by omega)]
        by_cases z : i % 9 = 0
        · rw [if_pos (by rw [z]; rfl), ast_n hi (by omega), if_pos z]
          simp only [bnd_ap, ← nI_succ]
          rfl
        · rw [if_neg (by rw [l0, nI_eq_iff (by omega) (by omega)]; exact z), ast_n hi (by omega), if_neg z]
          simp only [bnd_ap, ← nI_succ]
          rfl
    · have e : stab A i (t + 1) = stab A i t := by rw [stab, if_neg (fun z => q1 z.2)]
      refine ⟨τ, ⟨fM.rf τ, rfl, rfl, ?_, fun _ _ _ => rfl⟩, ?_⟩
      · unfold sb; rw [e]; exact ⟨s1, s2⟩
      · intro ke m
        rw [fX5_legs_L44, if_neg (l64e i hi), ald_n hi (by omega), s1, if_pos q0', ald_n hi (by omega), hm i hi, if_pos (by rw [l100000, nI_le_iff (by omega) (by omega)]; omega)]
        simp only [bnd_ap, ← nI_succ]
  · have e : stab A i (t + 1) = stab A i t := by rw [stab, if_neg (fun z => q0 z.1)]
    refine ⟨τ, ⟨fM.rf τ, rfl, rfl, ?_, fun _ _ _ => rfl⟩, ?_⟩
    · unfold sb; rw [e]; exact ⟨s1, s2⟩
    · intro ke m
      rw [fX5_legs_L44, if_neg (l64e i hi), ald_n hi (by omega), s1, if_neg (by rw [l100000, nI_eq_iff (by omega) (by omega)]; exact q0)]
      simp only [bnd_ap, ← nI_succ]
theorem legM3 {A : TW} (wA : WFT A) {t : Nat} (ht : t ≤ 9) (τ : ST) (hm : ∀ i, i < 64 → gA τ 8 i = nI ((gsT A t).1 i)) (hv : ∀ i, i < 64 → sb A t τ i) : ∃ τ', (fM τ τ' ∧ gA τ' 8 = gA τ 8 ∧ gA τ' 9 = gA τ 9 ∧ ∀ i, i < 64 → (i < 64 → sb A (t + 1) τ' i) ∧ (64 ≤ i → sb A t τ' i)) ∧ ∀ ke : Int32 → ST → Option ST, fX5_legs_L44 ke FU (nI t) (nI 0) τ = ke (nI t) τ' := by
  exact loopK (fun (ke : Int32 → ST → Option ST) m i σ => fX5_legs_L44 ke m (nI t) (nI i) σ) (fun ke σ => ke (nI t) σ) 64 (fun n σ => fM τ σ ∧ gA σ 8 = gA τ 8 ∧ gA σ 9 = gA τ 9 ∧ ∀ i, i < 64 → (i < n → sb A (t + 1) σ i) ∧ (n ≤ i → sb A t σ i)) (by
      intro i σ hi hI
      obtain ⟨c1, c2, c3, c4⟩ := hI
      obtain ⟨σ5, ⟨k2, k3, k3', k4, k5⟩, k1⟩ := legM2 wA ht σ (by rw [c2]; exact hm) i hi ((c4 i hi).2 (Nat.le_refl _))
      refine ⟨σ5, ⟨c1.tr k2, k3.trans c2, k3'.trans c3, ?_⟩, k1⟩
      intro j hj
      refine ⟨fun q => ?_, fun q => ?_⟩
      · by_cases z : j = i
        · rw [z]; exact k4
        · have := (c4 j hj).1 (by omega)
          unfold sb at this ⊢
          rw [k5 10 j z, k5 11 j z]; exact this
      · have := (c4 j hj).2 (by omega)
        have z : j ≠ i := by omega
        unfold sb at this ⊢
        rw [k5 10 j z, k5 11 j z]; exact this) (by
      intro ke m σ hI
      show fX5_legs_L44 ke (m + 1) (nI t) (nI 64) σ = _
      rw [fX5_legs_L44, if_pos l64p]) 64 0 FU τ rfl (by rw [FU_eq]; omega) ⟨fM.rf _, rfl, rfl, fun i hi => ⟨fun q => absurd q (by omega), fun _ => hv i hi⟩⟩
/-- the reference's tables -/
def LegM (τ : ST) (A : TW) : Prop := ∀ i, i < 64 → gA τ 8 i = nI ((gsT A 9).1 i) ∧ gA τ 9 i = nI ((gsT A 9).2 i) ∧ gA τ 10 i = nI (stab A i 10).1 ∧ gA τ 11 i = nI (stab A i 10).2
theorem legM4 {A : TW} (wA : WFT A) {τ0 : ST} (mA : MT (gA τ0 1) A) (t : Nat) (ht : t < 10) (τ : ST) (hf : fM τ0 τ) (hv : ∀ i, i < 64 → sb A t τ i) : ∃ τ', (fM τ0 τ' ∧ (∀ i, i < 64 → gA τ' 8 i = nI ((gsT A t).1 i) ∧ gA τ' 9 i = nI ((gsT A t).2 i)) ∧ ∀ i, i < 64 → sb A (t + 1) τ' i) ∧ ∀ (ke : ST → Option ST) (m : Nat), fX5_legs_L31 ke (m + 1) (nI t) τ = fX5_legs_L31 ke m (nI (t + 1)) τ' := by
  obtain ⟨τ1, ⟨a1, a2, a3, a4⟩, a5⟩ := overM wA (t := t) (by omega) τ (MT_f hf mA)
  obtain ⟨τ2, ⟨b1, b2, b3, b4⟩, b5⟩ := legM3 wA (t := t) (by omega) τ1 (fun i hi => (a4 i hi).1) (fun i hi => by unfold sb; rw [a2, a3]; exact hv i hi)
  refine ⟨τ2, ⟨(hf.tr a1).tr b1, by rw [b2, b3]; exact a4, fun i hi => (b4 i hi).1 hi⟩, ?_⟩
  intro ke m
  rw [fX5_legs_L31, if_neg (by rw [l10, nI_le_iff (by omega) (by omega)]; omega), a5, calv_s, bnd_ap, show (0 : Int32) = nI 0 from rfl, b5, bnd_ap, nI_succ]
theorem legsM {A : TW} (wA : WFT A) {τ0 : ST} (mA : MT (gA τ0 1) A) : ∃ τ', fX5_legs τ0 = some τ' ∧ fM τ0 τ' ∧ LegM τ' A := by
  obtain ⟨τ1, ⟨f1, v1⟩, e1⟩ := legM1 τ0
  have v0 : ∀ i, i < 64 → sb A 0 τ1 i := fun i hi => v1 i hi
  obtain ⟨τ', ⟨f2, m2, v2⟩, e2⟩ := loopK (fun (ke : ST → Option ST) m i σ => fX5_legs_L31 ke m (nI i) σ) (fun ke σ => ke σ) 10 (fun n σ => fM τ0 σ ∧ (n = 0 ∨ ∀ i, i < 64 → gA σ 8 i = nI ((gsT A (n - 1)).1 i) ∧ gA σ 9 i = nI ((gsT A (n - 1)).2 i)) ∧ ∀ i, i < 64 → sb A n σ i) (by
    intro t σ ht hI
    obtain ⟨τ2, ⟨g1, g2, g3⟩, g4⟩ := legM4 wA mA t ht σ hI.1 hI.2.2
    refine ⟨τ2, ⟨g1, Or.inr ?_, g3⟩, g4⟩
    rw [show t + 1 - 1 = t by omega]; exact g2) (by
    intro ke m σ hI
    show fX5_legs_L31 ke (m + 1) (nI 10) σ = _
    rw [fX5_legs_L31, if_pos (by decide)]) 10 0 FU τ1 rfl (by rw [FU_eq]; omega) ⟨f1, Or.inl rfl, v0⟩
  refine ⟨τ', ?_, f2, ?_⟩
  · unfold fX5_legs
    rw [bnd_ap, show (0 : Int32) = nI 0 from rfl, e1, bnd_ap]
    exact e2 _
  · rcases m2 with m2 | m2
    · omega
    · rw [show 10 - 1 = 9 from rfl] at m2
      intro i hi
      exact ⟨(m2 i hi).1, (m2 i hi).2, (v2 i hi).1, (v2 i hi).2⟩
