/-! ===== runOn ===== -/
def rset (A : TW) (r : Nat) : TW := (fun k => if k = 4 then r else A.1 k, A.2)
theorem WFT_r {A : TW} (wA : WFT A) {r : Nat} (hr : r ≤ 60) : WFT (rset A r) := by
  obtain ⟨⟨a0, a1, a2, a3, a4, a5⟩, h⟩ := wA
  exact ⟨⟨a0, a1, a2, a3, hr, a5⟩, h⟩
theorem wfold_r (A : TW) (r c a b : Nat) : ∀ n, wfold (rset A r) c a b n = wfold A c a b n := by
  intro n
  induction n with
  | zero => rfl
  | succ n ih =>
    unfold wfold
    rw [ih]; rfl
theorem wmin_r (A : TW) (r a b : Nat) : wmin (rset A r) a b = wmin A a b := wfold_r A r 5 a b _
theorem wlit_r (A : TW) (r a b : Nat) : wlit (rset A r) a b = wlit A a b := wfold_r A r 6 a b _
theorem LegX_r {σ : ST} {A : TW} (h : LegX σ A) (r : Nat) : LegX σ (rset A r) := by
  have e : ∀ i, ktab (rset A r) i 10 = ktab A i 10 := fun i => ktab_congr (A := rset A r) (B := A) rfl (fun t a b => by unfold dir0; rw [wmin_r, wlit_r]) i 10
  intro i hi
  rw [e]
  exact h i hi
theorem MT_r {w w' : Nat → Int32} {A : TW} (m : MT w A) (r : Nat) (h4 : w' 4 = nI r) (h : ∀ j, j ≠ 4 → w' j = w j) : MT w' (rset A r) := by
  obtain ⟨⟨a0, a1, a2, a3, a4, a5⟩, h2, h3, h5⟩ := m
  refine ⟨⟨?_, ?_, ?_, ?_, ?_, ?_⟩, ?_, ?_, ?_⟩
  · rw [h 0 (by omega)]; exact a0
  · rw [h 1 (by omega)]; exact a1
  · rw [h 2 (by omega)]; exact a2
  · rw [h 3 (by omega)]; exact a3
  · exact h4
  · rw [h 5 (by omega)]; exact a5
  · intro i hi
    rw [h _ (by omega), h _ (by omega), h _ (by omega)]; exact h2 i hi
  · intro i hi
    rw [h _ (by omega), h _ (by omega), h _ (by omega), h _ (by omega)]; exact h3 i hi
  · intro a b ha hb
    rw [h _ (by omega), h _ (by omega), wmin_r, wlit_r]; exact h5 a b ha hb
def kX (σ σ' : ST) : Prop := (∀ k, k < 21 ∨ k = 23 → gI σ' k = gI σ k) ∧ (∀ k, k ≠ 41 → k ≠ 42 → gA σ' k = gA σ k)
theorem kX.rf (σ : ST) : kX σ σ := ⟨fun _ _ => rfl, fun _ _ _ => rfl⟩
theorem kX.tr {a b c : ST} (h : kX a b) (g : kX b c) : kX a c := ⟨fun k q => (g.1 k q).trans (h.1 k q), fun k q r => (g.2 k q r).trans (h.2 k q r)⟩
theorem kX.s24 {a b : ST} (h : kX a b) (v : Int32) : kX a (sI b 24 v) := ⟨fun k hk => by rw [gI_sI, if_neg (by omega)]; exact h.1 k hk, fun k q r => h.2 k q r⟩
theorem kX.xS {a b : ST} (h : kX a b) : xS a b := ⟨fun k hk => h.1 k (by omega), fun k hk => h.2 k (by omega) (by omega)⟩
theorem cF.kX {a b : ST} (h : cF a b) : kX a b := ⟨fun k hk => h.1 k (by omega), h.2⟩
/-- the reference's state: all but its run -/
def vM (τ τ' : ST) : Prop := (∀ k, k < 8 ∨ k = 14 ∨ 17 ≤ k → gI τ' k = gI τ k) ∧ (∀ k, k ≠ 1 → k < 8 ∨ 13 ≤ k → gA τ' k = gA τ k) ∧ ∀ j, j ≠ 4 → gA τ' 1 j = gA τ 1 j
theorem vM.rf (σ : ST) : vM σ σ := ⟨fun _ _ => rfl, fun _ _ _ => rfl, fun _ _ => rfl⟩
theorem RU1 {σ0 σ1 σ2 σ τ0 τ : ST} {A : TW} {n : Int32} {r : Nat} (wA : WFT A) (hP : 0 < A.1 0) (x0 : XT σ0 3 6 A) (m0 : MT (gA τ0 1) A) (r0 : RowR σ0 τ0) (m5 : gI τ0 5 = 0) (m6 : gI τ0 6 = 0) (m7 : gI τ0 7 = -9) (ho : fX4_orderOfRow (-9) σ0 = some (n, σ1)) (x2 : XT σ2 3 6 A) (l2 : LegX σ2 A) (s2 : ASIS σ2 A) (e23 : gI σ2 23 = nI 1) (h44 : gA σ2 44 = gA σ1 44) (hr : r ≤ 60) (f : kX σ2 σ) (g : vM τ0 τ) : ∃ (σ' τ' : ST), fX3_goBy_51 n (sI σ 24 (nI r)) = some σ' ∧ fX5_worthOfRow (nI 1) (sA τ 1 (upd (gA τ 1) 4 (nI r))) = some (gL σ' 1, τ') ∧ kX σ2 σ' ∧ vM τ0 τ' := by
  have f' := f.s24 (nI r)
  have g1' : ∀ j, j ≠ 4 → upd (gA τ 1) 4 (nI r) j = gA τ0 1 j := fun j hj => by rw [upd_ap, if_neg hj]; exact g.2.2 j hj
  have xA : XT (sI σ 24 (nI r)) 3 6 A := XT_c x2 (fun k hk => f'.1 _ (by omega)) (fun k hk => f'.2 _ (by omega) (by omega))
  have mB : MT (gA (sA τ 1 (upd (gA τ 1) 4 (nI r))) 1) (rset A r) := MT_r m0 r (by rw [gA_sA, if_pos rfl, upd_ap, if_pos rfl]) (fun j hj => by rw [gA_sA, if_pos rfl]; exact g1' j hj)
  have hP8 := wA.1.1
  have P : PRE (sI σ 24 (nI r)) (sA τ 1 (upd (gA τ 1) 4 (nI r))) A (rset A r) 1 := by
    refine ⟨⟨wA, WFT_r wA hr, rfl, rfl, rfl, rfl⟩, hP, xA, mB, LegX_r (LegX_c l2 (fun k hk => f'.2 k (by omega) (by omega))) r, ?_, ⟨by omega, (f'.1 23 (by omega)).trans e23⟩, rfl⟩
    intro p hp
    obtain ⟨w1, w2, w3⟩ := wA.2.1 p hp
    obtain ⟨a, ha, ea⟩ := stI_le (A.2 0 p) (by omega) (A.2 1 p) (by omega) (A.2 2 p) (by omega)
    obtain ⟨b, hb, eb⟩ := puI_le (A.2 0 p) (by omega) (A.2 1 p) (by omega) (A.2 2 p) (by omega)
    have q5 : gI (sA τ 1 (upd (gA τ 1) 4 (nI r))) 5 = 0 := (g.1 5 (by omega)).trans m5
    have q6 : gI (sA τ 1 (upd (gA τ 1) 4 (nI r))) 6 = 0 := (g.1 6 (by omega)).trans m6
    have q7 : gI (sA τ 1 (upd (gA τ 1) 4 (nI r))) 7 = -9 := (g.1 7 (by omega)).trans m7
    refine ⟨a, b, by omega, by omega, ?_, ?_, ?_, ?_⟩
    · rw [f'.2 39 (by omega) (by omega), (s2 p hp).1, ea]
    · rw [stN_0 q5 q6 q7 (by omega)]; exact ea
    · rw [f'.2 40 (by omega) (by omega), (s2 p hp).2, eb]
    · rw [pdN_0 q5 q6 q7 (by omega)]; exact eb
  obtain ⟨σ', τ', u1, u2, u3, u4⟩ := WROW P (RowR_c r0 rfl rfl (g.1 17 (by omega)) (g.2.1 13 (by omega) (by omega))) x0 ho (by rw [f'.2 44 (by omega) (by omega)]; exact h44)
  refine ⟨σ', τ', u1, u2, f'.tr u3.kX, fun k hk => (u4.1 k hk).trans (g.1 k hk), fun k h1 hk => ?_, fun j hj => ?_⟩
  · rw [u4.2 k hk, gA_sA, if_neg h1]; exact g.2.1 k h1 hk
  · rw [u4.2 1 (by omega), gA_sA, if_pos rfl]; exact g1' j hj
theorem sim_runOn : SIMi Rl fX4_runOn fX5_runOn := by
  intro σ τ h
  obtain ⟨g1, g2, g3, ⟨A, wA, xA, mA, lA⟩, g5, ⟨⟨m5, m6, m7, m14⟩, g7⟩⟩ := id h
  have hP := wA.1.1
  unfold fX4_runOn fX5_runOn
  rw [noT mA wA, cali_s]
  by_cases z : A.1 0 = 0
  · rw [if_pos z, if_neg n10, if_pos (by rw [xA.1.1, z]; rfl)]
    exact ref_i h (-3) 3 (by decide) (by omega) (by omega)
  · have l : LegX σ A := by rcases lA with l | l; omega; exact l
    obtain ⟨σ1, τ1, n, hn, o1, _, o3, _, _⟩ := ORD wA xA mA g2 (-9)
    have xA1 : XT σ1 3 6 A := XT_c xA (fun k hk => o3.1 _) (fun k hk => o3.2 _ (by omega))
    obtain ⟨σ1', s1, s2, s3, s4, s5⟩ := SUP wA xA1
    obtain ⟨σ2, hσ2⟩ : ∃ z, z = sI σ1' 23 1 := ⟨_, rfl⟩
    have s2' : sF σ1 σ2 := s2.tr (by rw [hσ2]; exact ⟨fun k h1 h2 => by rw [gI_sI, if_neg h1], fun _ _ _ => rfl⟩)
    have s5' : ASIS σ2 A := by rw [hσ2]; exact s5
    have e23 : gI σ2 23 = nI 1 := by rw [hσ2]; rfl
    have xA2 : XT σ2 3 6 A := XT_sF s2' xA1
    have l2 : LegX σ2 A := LegX_c l (fun k hk => (s2'.2 k (by omega) (by omega)).trans (o3.2 k (by omega)))
    have xS2 : xS σ σ2 := xS.tr (b := σ1) ⟨fun k hk => o3.1 k, fun k hk => o3.2 k (by omega)⟩ s2'.xS
    have step := fun (d : Nat) (σc τc : ST) (hd : d ≤ 60) (f : kX σ2 σc) (g : vM τ τc) => RU1 (r := d) wA (by omega) xA mA g2 m5 m6 m7 o1 xA2 l2 s5' e23 (s2'.2 44 (by omega) (by omega)) hd f g
    have loop : ∀ (j x fu fu' : Nat) (x1 b : Int32) (v : Int64) (σc τc : ST), x + j = 61 → j < fu → j < fu' → kX σ2 σc → vM τ τc → ∃ r σ' τ', fX4_runOn_L46 (fun x2_18 σ_19 => some (x2_18, σ_19)) fu (nI n) b v (nI x) σc = some (r, σ') ∧ (∀ ke, fX5_runOn_L28 ke fu' x1 b v (nI x) τc = ke x1 r τ') ∧ kX σ2 σ' ∧ vM τ τ' := by
      intro j
      induction j with
      | zero =>
        intro x fu fu' x1 b v σc τc hx h1 h2 f g
        obtain ⟨fu, rfl⟩ : ∃ f, fu = f + 1 := ⟨fu - 1, by omega⟩
        obtain ⟨fu', rfl⟩ : ∃ f, fu' = f + 1 := ⟨fu' - 1, by omega⟩
        refine ⟨b, σc, τc, ?_, fun ke => ?_, f, g⟩
        · rw [fX4_runOn_L46, if_pos (by rw [l60, nI_lt_iff (by omega) (by omega)]; omega)]
        · rw [fX5_runOn_L28, if_pos (by rw [l60, nI_lt_iff (by omega) (by omega)]; omega)]
      | succ j ih =>
        intro x fu fu' x1 b v σc τc hx h1 h2 f g
        obtain ⟨fu, rfl⟩ : ∃ f, fu = f + 1 := ⟨fu - 1, by omega⟩
        obtain ⟨fu', rfl⟩ : ∃ f, fu' = f + 1 := ⟨fu' - 1, by omega⟩
        obtain ⟨σ3, τ3, u1, u2, u3, u4⟩ := step x σc τc (by omega) f g
        have nx : nI x + 1 = nI (x + 1) := by rw [l1, na_add]
        have q60 : ¬ 60 < nI x := by rw [l60, nI_lt_iff (by omega) (by omega)]; omega
        have cx : fX4_runOn_L46 (fun x2_18 σ_19 => some (x2_18, σ_19)) (fu + 1) (nI n) b v (nI x) σc = (if nI x = 0 then fX4_runOn_L46 (fun x2_18 σ_19 => some (x2_18, σ_19)) fu (nI n) (nI x) (gL σ3 1) (nI (x + 1)) σ3 else if lg_cmp (gL σ3 1) v ≤ 0 then fX4_runOn_L46 (fun x2_18 σ_19 => some (x2_18, σ_19)) fu (nI n) b v (nI (x + 1)) σ3 else fX4_runOn_L46 (fun x2_18 σ_19 => some (x2_18, σ_19)) fu (nI n) (nI x) (gL σ3 1) (nI (x + 1)) σ3) := by
          rw [fX4_runOn_L46, if_neg q60, bnd_ap, u1, calv_s, nx]
          rfl
        have cm : ∀ ke, fX5_runOn_L28 ke (fu' + 1) x1 b v (nI x) τc = (if nI x = 0 then fX5_runOn_L28 ke fu' x1 (nI x) (gL σ3 1) (nI (x + 1)) τ3 else if lg_cmp (gL σ3 1) v ≤ 0 then fX5_runOn_L28 ke fu' x1 b v (nI (x + 1)) τ3 else fX5_runOn_L28 ke fu' x1 (nI x) (gL σ3 1) (nI (x + 1)) τ3) := by
          intro ke
          rw [fX5_runOn_L28, if_neg q60, show (4 : Int32) = nI 4 from rfl, ast_n (by omega) (by omega), show fX5_worthOfRow 1 (sA τc 1 (upd (gA τc 1) 4 (nI x))) = some (gL σ3 1, τ3) from u2, call_s, bnd_ap, nx]
          rfl
        by_cases c0 : nI x = 0
        · obtain ⟨r, σ', τ', v1, v2, v3⟩ := ih (x + 1) fu fu' x1 (nI x) (gL σ3 1) σ3 τ3 (by omega) (by omega) (by omega) u3 u4
          exact ⟨r, σ', τ', by rw [cx, if_pos c0]; exact v1, fun ke => by rw [cm, if_pos c0]; exact v2 ke, v3⟩
        · by_cases c : lg_cmp (gL σ3 1) v ≤ 0
          · obtain ⟨r, σ', τ', v1, v2, v3⟩ := ih (x + 1) fu fu' x1 b v σ3 τ3 (by omega) (by omega) (by omega) u3 u4
            exact ⟨r, σ', τ', by rw [cx, if_neg c0, if_pos c]; exact v1, fun ke => by rw [cm, if_neg c0, if_pos c]; exact v2 ke, v3⟩
          · obtain ⟨r, σ', τ', v1, v2, v3⟩ := ih (x + 1) fu fu' x1 (nI x) (gL σ3 1) σ3 τ3 (by omega) (by omega) (by omega) u3 u4
            exact ⟨r, σ', τ', by rw [cx, if_neg c0, if_neg c]; exact v1, fun ke => by rw [cm, if_neg c0, if_neg c]; exact v2 ke, v3⟩
    obtain ⟨r, σ', τ', v1, v2, v3, v4, v5, v6⟩ := loop 61 0 FU FU (gA τ 1 4) 0 0 σ2 τ (by omega) (by rw [FU_eq]; omega) (by rw [FU_eq]; omega) (kX.rf _) (vM.rf _)
    rw [if_neg z, if_pos rfl, if_neg (by rw [xA.1.1, show (0 : Int32) = nI 0 from rfl, nI_eq_iff (by omega) (by omega)]; exact z), o1, cali_s, bnd_ap, bnd_ap, bnd_ap, s1, calv_s, bnd_ap, ← hσ2, bnd_ap]
    rw [show (4 : Int32) = nI 4 from rfl, ald_n (by omega) (by omega), bnd_ap, bnd_ap, bnd_ap, bnd_ap]
    refine ⟨r, σ', sA τ' 1 (upd (gA τ' 1) 4 (gA τ 1 4)), v1, ?_, Rl_s h (xS2.tr v3.xS) ⟨fun k hk => v4 k (by omega), fun k hk => ?_⟩⟩
    · refine (v2 _).trans ?_
      rw [ast_n (by omega) (by omega)]
    · rw [gA_sA]
      by_cases k1 : k = 1
      · rw [if_pos k1, k1]
        funext j
        rw [upd_ap]
        by_cases j4 : j = 4
        · rw [if_pos j4, j4]
        · rw [if_neg j4]; exact v6 j j4
      · rw [if_neg k1]; exact v5 k k1 (by omega)
