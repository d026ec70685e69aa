/-! ===== what is supposed, as it is ===== -/
def sF (σ σ' : ST) : Prop := (∀ k, k ≠ 23 → k ≠ 24 → gI σ' k = gI σ k) ∧ (∀ k, k ≠ 39 → k ≠ 40 → gA σ' k = gA σ k)
theorem sF.rf (σ : ST) : sF σ σ := ⟨fun _ _ _ => rfl, fun _ _ _ => rfl⟩
theorem sF.tr {a b c : ST} (h : sF a b) (g : sF b c) : sF a c := ⟨fun k q r => (g.1 k q r).trans (h.1 k q r), fun k q r => (g.2 k q r).trans (h.2 k q r)⟩
theorem sF.xS {a b : ST} (h : sF a b) : xS a b := ⟨fun k hk => h.1 k (by omega) (by omega), fun k hk => h.2 k (by omega) (by omega)⟩
theorem XT_sF {σ σ' : ST} {A : TW} (h : sF σ σ') (x : XT σ 3 6 A) : XT σ' 3 6 A := XT_c x (fun k hk => h.1 _ (by omega) (by omega)) (fun k hk => h.2 _ (by omega) (by omega))
/-- one place, with u pushers -/
theorem SUPp {σ : ST} {A : TW} (wA : WFT A) (xA : XT σ 3 6 A) {p : Nat} (hp : p < A.1 0) (u : Int32) : fX3_supposePushers (nI p) u σ = some (sA (sA σ 39 (upd (gA σ 39) p (stI (nI (A.2 0 p)) (nI (A.2 1 p)) u))) 40 (upd (gA σ 40) p (puI (nI (A.2 0 p)) (nI (A.2 1 p)) u))) := by
  have hP := wA.1.1
  unfold fX3_supposePushers
  rw [xstW wA xA hp, cali_s, ast_n (by omega) (by omega), ald_n (by omega) (by omega), gA_sA, if_pos rfl, upd_ap, if_pos rfl, xpdF, cali_s, ast_n (by omega) (by omega)]
  rfl
theorem SUPl {σ0 : ST} {A : TW} (wA : WFT A) (xA : XT σ0 3 6 A) : ∃ σ', (sF σ0 σ' ∧ gI σ' 23 = gI σ0 23 ∧ gI σ' 24 = gI σ0 24 ∧ ∀ i, i < A.1 0 → gA σ' 39 i = stI (nI (A.2 0 i)) (nI (A.2 1 i)) (nI (A.2 2 i)) ∧ gA σ' 40 i = puI (nI (A.2 0 i)) (nI (A.2 1 i)) (nI (A.2 2 i))) ∧ ∀ ke : ST → Option ST, fX3_supposeAsItIs_L24 ke FU (nI 0) σ0 = ke σ' := by
  have hP := wA.1.1
  exact loopK (fun (ke : ST → Option ST) m i τ => fX3_supposeAsItIs_L24 ke m (nI i) τ) (fun ke τ => ke τ) (A.1 0) (fun n τ => sF σ0 τ ∧ gI τ 23 = gI σ0 23 ∧ gI τ 24 = gI σ0 24 ∧ ∀ i, i < n → gA τ 39 i = stI (nI (A.2 0 i)) (nI (A.2 1 i)) (nI (A.2 2 i)) ∧ gA τ 40 i = puI (nI (A.2 0 i)) (nI (A.2 1 i)) (nI (A.2 2 i))) (by
    intro i τ hi hI
    obtain ⟨c1, c2, c3, c4⟩ := hI
    have xT := XT_sF c1 xA
    refine ⟨sA (sA τ 39 (upd (gA τ 39) i (stI (nI (A.2 0 i)) (nI (A.2 1 i)) (nI (A.2 2 i))))) 40 (upd (gA τ 40) i (puI (nI (A.2 0 i)) (nI (A.2 1 i)) (nI (A.2 2 i)))), ⟨c1.tr ⟨fun _ _ _ => rfl, fun k h1 h2 => by rw [gA_sA, if_neg h2, gA_sA, if_neg h1]⟩, c2, c3, ?_⟩, ?_⟩
    · intro j hj
      show upd (gA τ 39) i _ j = _ ∧ upd (gA τ 40) i _ j = _
      rw [upd_ap, upd_ap]
      by_cases z : j = i
      · rw [if_pos z, if_pos z, z]; exact ⟨rfl, rfl⟩
      · rw [if_neg z, if_neg z]; exact c4 j (by omega)
    · intro ke m
      show fX3_supposeAsItIs_L24 ke (m + 1) (nI i) τ = _
      rw [fX3_supposeAsItIs_L24, if_neg (by rw [xT.1.1, nI_le_iff (by omega) (by omega)]; omega), ald_n (by omega) (by omega), (xT.2.1 i hi).2.2, SUPp wA xT hi, calv_s, bnd_ap, show nI i + 1 = nI (i + 1) from by rw [l1, na_add]]) (by
    intro ke m τ hI
    have xT := XT_sF hI.1 xA
    show fX3_supposeAsItIs_L24 ke (m + 1) (nI (A.1 0)) τ = _
    rw [fX3_supposeAsItIs_L24, if_pos (by rw [xT.1.1, nI_le_iff (by omega) (by omega)]; omega)]) (A.1 0) 0 FU σ0 (by omega) (by rw [FU_eq]; omega) ⟨sF.rf σ0, rfl, rfl, fun i hi => absurd hi (by omega)⟩
theorem SUP {σ : ST} {A : TW} (wA : WFT A) (xA : XT σ 3 6 A) : ∃ σ', fX3_supposeAsItIs σ = some σ' ∧ sF σ σ' ∧ gI σ' 23 = nI (A.1 5) ∧ gI σ' 24 = nI (A.1 4) ∧ ∀ i, i < A.1 0 → gA σ' 39 i = stI (nI (A.2 0 i)) (nI (A.2 1 i)) (nI (A.2 2 i)) ∧ gA σ' 40 i = puI (nI (A.2 0 i)) (nI (A.2 1 i)) (nI (A.2 2 i)) := by
  obtain ⟨σ1, s1⟩ : ∃ z, z = sI (sI σ 23 (gI σ 8)) 24 (gI σ 7) := ⟨_, rfl⟩
  have c1 : sF σ σ1 := by
    rw [s1]
    exact ⟨fun k h1 h2 => by rw [gI_sI, if_neg h2, gI_sI, if_neg h1], fun _ _ _ => rfl⟩
  obtain ⟨σ', ⟨h1, h2, h3, h4⟩, h5⟩ := SUPl wA (XT_sF c1 xA)
  refine ⟨σ', ?_, c1.tr h1, h2.trans (by rw [s1]; exact xA.1.2.2.2.2.2), h3.trans (by rw [s1]; exact xA.1.2.2.2.2.1), h4⟩
  unfold fX3_supposeAsItIs
  rw [bnd_ap, bnd_ap, show gI (sI σ 23 (gI σ 8)) 7 = gI σ 7 from rfl, ← s1, bnd_ap]
  exact h5 _
/-- the surroundings of a day as it is -/
theorem ENV_0 {σ τ σ' : ST} {A : TW} {D : Nat} (wA : WFT A) (h0 : 0 < A.1 0) (xA : XT σ 3 6 A) (mA : MT (gA τ 1) A) (l : LgR σ' τ) (c : sF σ σ') (s : ∀ i, i < A.1 0 → gA σ' 39 i = stI (nI (A.2 0 i)) (nI (A.2 1 i)) (nI (A.2 2 i)) ∧ gA σ' 40 i = puI (nI (A.2 0 i)) (nI (A.2 1 i)) (nI (A.2 2 i))) (hD : D ≤ 5) (e1 : gI σ' 23 = nI D) (e2 : gI σ' 24 = nI (A.1 4)) (m5 : gI τ 5 = 0) (m6 : gI τ 6 = 0) (m7 : gI τ 7 = -9) : ENV σ' (sI (sI τ 9 (nI D)) 10 (nI (A.1 4))) A A D (A.1 4) := by
  have hP := wA.1.1
  refine ⟨⟨wA, wA, rfl, rfl, rfl, rfl⟩, h0, XT_sF c xA, mA, ?_, ?_, ⟨hD, e1, rfl⟩, wA.1.2.2.2.2.1, e2, rfl⟩
  · intro i hi
    exact l i hi
  · intro p hp
    obtain ⟨w1, w2, w3⟩ := wA.2.1 p hp
    obtain ⟨a, ha, ea⟩ := stI_le (A.2 0 p) (by omega) (A.2 1 p) (by omega) (A.2 2 p) (by omega)
    obtain ⟨b, hb, eb⟩ := puI_le (A.2 0 p) (by omega) (A.2 1 p) (by omega) (A.2 2 p) (by omega)
    refine ⟨a, b, by omega, by omega, by rw [(s p hp).1, ea], ?_, by rw [(s p hp).2, eb], ?_⟩
    · rw [stN_0 (by rw [gI_sI, if_neg (by omega), gI_sI, if_neg (by omega)]; exact m5) (by rw [gI_sI, if_neg (by omega), gI_sI, if_neg (by omega)]; exact m6) (by rw [gI_sI, if_neg (by omega), gI_sI, if_neg (by omega)]; exact m7) (by omega), ea]
    · rw [pdN_0 (by rw [gI_sI, if_neg (by omega), gI_sI, if_neg (by omega)]; exact m5) (by rw [gI_sI, if_neg (by omega), gI_sI, if_neg (by omega)]; exact m6) (by rw [gI_sI, if_neg (by omega), gI_sI, if_neg (by omega)]; exact m7) (by omega), eb]
