/-! ===== bestDriver ===== -/
/-- the class's state in such a loop, from the one with all supposed as it is -/
def lX (σ σ' : ST) : Prop := (∀ k, k < 21 ∨ k = 24 → gI σ' k = gI σ k) ∧ (∀ k, k ≠ 41 → k ≠ 42 → gA σ' k = gA σ k)
theorem lX.rf (σ : ST) : lX σ σ := ⟨fun _ _ => rfl, fun _ _ _ => rfl⟩
theorem lX.tr {a b c : ST} (h : lX a b) (g : lX b c) : lX a c := ⟨fun k q => (g.1 k q).trans (h.1 k q), fun k q r => (g.2 k q r).trans (h.2 k q r)⟩
theorem lX.s23 {a b : ST} (h : lX a b) (v : Int32) : lX a (sI b 23 v) := ⟨fun k hk => by rw [gI_sI, if_neg (by omega)]; exact h.1 k hk, fun k q r => h.2 k q r⟩
theorem lX.xS {a b : ST} (h : lX a b) : xS a b := ⟨fun k hk => h.1 k (by omega), fun k hk => h.2 k (by omega) (by omega)⟩
theorem cF.lX {a b : ST} (h : cF a b) : lX a b := ⟨fun k hk => h.1 k (by omega), h.2⟩
theorem BD1 {σ0 σ1 σ2 σ τ0 τ : ST} {A : TW} {n : Int32} {d : Nat} (wA : WFT A) (hP : 0 < A.1 0) (x0 : XT σ0 3 6 A) (m0 : MT (gA τ0 1) A) (r0 : RowR σ0 τ0) (m5 : gI τ0 5 = 0) (m6 : gI τ0 6 = 0) (m7 : gI τ0 7 = -9) (ho : fX4_orderOfRow (-9) σ0 = some (n, σ1)) (x2 : XT σ2 3 6 A) (l2 : LegX σ2 A) (s2 : ASIS σ2 A) (e24 : gI σ2 24 = nI (A.1 4)) (h44 : gA σ2 44 = gA σ1 44) (hd : d ≤ 5) (f : lX σ2 σ) (g : wM τ0 τ) : ∃ (σ' τ' : ST), fX3_goBy_51 n (sI σ 23 (nI d)) = some σ' ∧ fX5_worthOfRow (nI d) τ = some (gL σ' 1, τ') ∧ lX σ2 σ' ∧ wM τ0 τ' := by
  have f' := f.s23 (nI d)
  have xA : XT (sI σ 23 (nI d)) 3 6 A := XT_c x2 (fun k hk => f'.1 _ (by omega)) (fun k hk => f'.2 _ (by omega) (by omega))
  have P : PRE (sI σ 23 (nI d)) τ A A d := PRE_0 wA hP xA (by rw [g.2 1 (by omega)]; exact m0) (LegX_c l2 (fun k hk => f'.2 k (by omega) (by omega))) (by
    intro i hi
    rw [f'.2 39 (by omega) (by omega), f'.2 40 (by omega) (by omega)]; exact s2 i hi) hd rfl ((f'.1 24 (by omega)).trans e24) ((g.1 5 (by omega)).trans m5) ((g.1 6 (by omega)).trans m6) ((g.1 7 (by omega)).trans m7)
  obtain ⟨σ', τ', u1, u2, u3, u4⟩ := WROW P (RowR_c r0 rfl rfl (g.1 17 (by omega)) (g.2 13 (by omega))) x0 ho (by rw [f'.2 44 (by omega) (by omega)]; exact h44)
  exact ⟨σ', τ', u1, u2, f'.tr u3.lX, g.tr u4⟩
theorem sim_bestDriver : SIMi Rl fX4_bestDriver fX5_bestDriver := by
  intro σ τ h
  obtain ⟨g1, g2, g3, ⟨A, wA, xA, mA, lA⟩, g5, ⟨⟨m5, m6, m7, m14⟩, g7⟩⟩ := id h
  have hP := wA.1.1
  unfold fX4_bestDriver fX5_bestDriver
  rw [noT mA wA, cali_s]
  by_cases z : A.1 0 = 0
  · rw [if_pos z, if_neg n10, if_pos (by rw [xA.1.1, z]; rfl)]
    exact ref_i h (-3) 3 (by decide) (by omega) (by omega)
  · have l : LegX σ A := by rcases lA with l | l; omega; exact l
    obtain ⟨σ1, τ1, n, hn, o1, _, o3, _, _⟩ := ORD wA xA mA g2 (-9)
    have xA1 : XT σ1 3 6 A := XT_c xA (fun k hk => o3.1 _) (fun k hk => o3.2 _ (by omega))
    obtain ⟨σ2, s1, s2, s3, s4, s5⟩ := SUP wA xA1
    have xA2 : XT σ2 3 6 A := XT_sF s2 xA1
    have l2 : LegX σ2 A := LegX_c l (fun k hk => (s2.2 k (by omega) (by omega)).trans (o3.2 k (by omega)))
    have xS2 : xS σ σ2 := xS.tr (b := σ1) ⟨fun k hk => o3.1 k, fun k hk => o3.2 k (by omega)⟩ s2.xS
    have step := fun (d : Nat) (σc τc : ST) (hd : d ≤ 5) (f : lX σ2 σc) (g : wM τ τc) => BD1 (d := d) wA (by omega) xA mA g2 m5 m6 m7 o1 xA2 l2 s5 s4 (s2.2 44 (by omega) (by omega)) hd f g
    have loop : ∀ (j x fu fu' : Nat) (b : Int32) (v : Int64) (σc τc : ST), x + j = 6 → 1 ≤ x → j < fu → j < fu' → lX σ2 σc → wM τ τc → ∃ r σ' τ', fX4_bestDriver_L38 (fun x2_17 σ_18 => some (x2_17, σ_18)) fu (nI n) b v (nI x) σc = some (r, σ') ∧ fX5_bestDriver_L25 (fun x1_17 σ_18 => some (x1_17, σ_18)) fu' b v (nI x) τc = some (r, τ') ∧ lX σ2 σ' ∧ wM τ τ' := by
      intro j
      induction j with
      | zero =>
        intro x fu fu' b v σc τc hx h0 h1 h2 f g
        obtain ⟨fu, rfl⟩ : ∃ f, fu = f + 1 := ⟨fu - 1, by omega⟩
        obtain ⟨fu', rfl⟩ : ∃ f, fu' = f + 1 := ⟨fu' - 1, by omega⟩
        refine ⟨b, σc, τc, ?_, ?_, f, g⟩
        · rw [fX4_bestDriver_L38, if_pos (by rw [l5, nI_lt_iff (by omega) (by omega)]; omega)]
        · rw [fX5_bestDriver_L25, if_pos (by rw [l6, nI_le_iff (by omega) (by omega)]; omega)]
      | succ j ih =>
        intro x fu fu' b v σc τc hx h0 h1 h2 f g
        obtain ⟨fu, rfl⟩ : ∃ f, fu = f + 1 := ⟨fu - 1, by omega⟩
        obtain ⟨fu', rfl⟩ : ∃ f, fu' = f + 1 := ⟨fu' - 1, by omega⟩
        obtain ⟨σ3, τ3, u1, u2, u3, u4⟩ := step x σc τc (by omega) f g
        rw [fX4_bestDriver_L38, if_neg (by rw [l5, nI_lt_iff (by omega) (by omega)]; omega), bnd_ap, u1, calv_s, if_neg (by rw [l0, nI_eq_iff (by omega) (by omega)]; omega)]
        rw [fX5_bestDriver_L25, if_neg (show ¬ 6 ≤ nI x from by rw [l6, nI_le_iff (by omega) (by omega)]; omega), u2, call_s, bnd_ap, bnd_ap, bnd_ap, bnd_ap, bnd_ap, bnd_ap, bnd_ap, bnd_ap, bnd_ap, bnd_ap, show nI x + 1 = nI (x + 1) from by rw [l1, na_add]]
        by_cases c : gL σ3 1 ≤ v
        · rw [if_pos ((lg_cmp_le _ _).mpr c), if_pos ((lg_cmp_le _ _).mpr c), jml c]
          exact ih (x + 1) fu fu' b v σ3 τ3 (by omega) (by omega) (by omega) (by omega) u3 u4
        · rw [if_neg (fun q => c ((lg_cmp_le _ _).mp q)), if_neg (fun q => c ((lg_cmp_le _ _).mp q)), jmg c]
          exact ih (x + 1) fu fu' (nI x) _ σ3 τ3 (by omega) (by omega) (by omega) (by omega) u3 u4
    rw [if_neg z, if_pos rfl, if_neg (by rw [xA.1.1, show (0 : Int32) = nI 0 from rfl, nI_eq_iff (by omega) (by omega)]; exact z), o1, cali_s, bnd_ap, bnd_ap, bnd_ap, s1, calv_s, bnd_ap, bnd_ap]
    obtain ⟨σ3, τ3, u1, u2, u3, u4⟩ := step 0 σ2 τ (by omega) (lX.rf _) (wM.rf _)
    obtain ⟨r, σ', τ', v1, v2, v3, v4⟩ := loop 5 1 999 FU 0 (gL σ3 1) σ3 τ3 (by omega) (by omega) (by omega) (by rw [FU_eq]; omega) u3 u4
    refine ⟨r, σ', τ', ?_, ?_, Rl_s h (xS2.tr v3.xS) v4.mS⟩
    · rw [show FU = 999 + 1 from rfl, fX4_bestDriver_L38, if_neg (by decide), bnd_ap, show (0 : Int32) = nI 0 from rfl, u1, calv_s, if_pos rfl, bnd_ap, bnd_ap, bnd_ap, show nI 0 + 1 = nI 1 from rfl]
      exact v1
    · rw [show (0 : Int32) = nI 0 from rfl, u2, call_s, bnd_ap, bnd_ap]
      exact v2
