/-! ===== sure ===== -/
theorem sim_sure : SIMi Rl fX4_sure fX5_sure := by
  intro σ τ h
  obtain ⟨g1, g2, g3, ⟨A, wA, xA, mA, lA⟩, g5, ⟨⟨m5, m6, m7, m14⟩, g7⟩⟩ := id h
  have hP := wA.1.1
  have hE := wA.1.2.2.1
  unfold fX4_sure fX5_sure
  rw [noT mA wA, cali_s]
  by_cases z : A.1 0 = 0
  · rw [if_pos z, if_neg n10, if_pos (by rw [xA.1.1, z]; rfl)]
    exact ref_i h (-3) 3 (by decide) (by omega) (by omega)
  · have l : LegX σ A := by rcases lA with l | l; omega; exact l
    obtain ⟨σ2, s1, s2, s3, s4, s5⟩ := SUP wA xA
    obtain ⟨τ1, t1, t2, t3, t4, t5⟩ := legs_go2 (σ := σ2) wA (by omega) mA (LegX_c l (fun k hk => s2.2 k (by omega) (by omega)))
    have E := ENV_0 (τ := τ1) wA (by omega) xA (MT_f t2 mA) t3 s2 s5 wA.1.2.2.2.2.2 s3 s4 ((t2.1 5).trans m5) ((t2.1 6).trans m6) ((t2.1 7).trans m7)
    have mA1 := MT_f t2 mA
    have xA2 : XT σ2 3 6 A := XT_sF s2 xA
    have step : ∀ (σc τc : ST) (e : Nat), e < A.1 2 → rX σ2 σc → rM τ1 τc → ∃ (σ' τ' : ST), fX3_goBy_51 1 (sA σc 44 (upd (gA σc 44) 0 (nI e))) = some σ' ∧ fX5_go (nI (A.1 5)) (sI (sA τc 12 (upd (gA τc 12) 0 (nI e))) 8 1) = some τ' ∧ rX σ2 σ' ∧ rM τ1 τ' ∧ gL σ' 0 = gL τ' 0 ∧ gI σ' 26 = gI τ' 12 := by
      intro σc τc e he f g
      obtain ⟨σa, sa⟩ : ∃ z, z = sA σc 44 (upd (gA σc 44) 0 (nI e)) := ⟨_, rfl⟩
      obtain ⟨τa, ta⟩ : ∃ z, z = sI (sA τc 12 (upd (gA τc 12) 0 (nI e))) 8 1 := ⟨_, rfl⟩
      rw [← sa, ← ta]
      have fa : rX σ2 σa := by
        rw [sa]
        exact ⟨fun k hk => f.1 k hk, fun k a1 a2 a3 => by rw [gA_sA, if_neg a3]; exact f.2 k a1 a2 a3⟩
      have ga : (∀ k, k < 8 ∨ k = 14 ∨ 17 ≤ k → gI τa k = gI τ1 k) ∧ (∀ k, k ≠ 12 → gA τa k = gA τ1 k) := by
        rw [ta]
        exact ⟨fun k hk => by rw [gI_sI, if_neg (by omega)]; exact g.1 k hk, fun k hk => by rw [gA_sI, gA_sA, if_neg hk]; exact g.2 k hk⟩
      have Ec : ENV σa (sI (sI τa 9 (nI (A.1 5))) 10 (nI (A.1 4))) A A (A.1 5) (A.1 4) := ENV_g E (fun k hk => fa.1 k (by omega)) (fun k hk => fa.2 k (by omega) (by omega) (by omega)) (fun k hk => by
        rw [gI_sI, gI_sI, gI_sI, gI_sI]
        by_cases z : k = 10
        · rw [if_pos z, if_pos z]
        · rw [if_neg z, if_neg z]
          by_cases z : k = 9
          · rw [if_pos z, if_pos z]
          · rw [if_neg z, if_neg z]; exact ga.1 k (by omega)) (fun k hk => ga.2 k (by omega))
      obtain ⟨σ', τ', k, q, c, u1, u2, u3, ⟨u4, u5⟩, u6, u7, u8, u9, u10⟩ := GO_51 (n := 1) Ec (by omega) (by rw [ta]; rfl) (fun x hx => ⟨e, he, by rw [sa, gA_sA, if_pos rfl, upd_ap, if_pos (by omega)], by rw [ta, gA_sI, gA_sA, if_pos rfl, upd_ap, if_pos (by omega)]⟩) (by rw [ga.2 8 (by omega)]; exact t4) (by rw [ga.2 8 (by omega)]; exact t5)
      exact ⟨σ', τ', u1, u2, ⟨fun k hk => (u3.1 k hk).trans (fa.1 k hk), fun k a1 a2 a3 => (u3.2 k a1 a2).trans (fa.2 k a1 a2 a3)⟩, ⟨fun k hk => (u4 k (by omega)).trans (ga.1 k hk), fun k hk => (u5 k).trans (ga.2 k hk)⟩, u10.2.2.1.1.trans u10.2.2.1.2.1.symm, u10.1⟩
    have loop : ∀ (j x fu fu' : Nat) (b : Int32) (σc τc : ST), x + j = A.1 2 → j < fu → j < fu' → rX σ2 σc → rM τ1 τc → ∃ r σ' τ', fX4_sure_L28 (fun x1_9 σ_10 => some (x1_9, σ_10)) fu b (nI x) σc = some (r, σ') ∧ fX5_sure_L22 (fun x1_17 σ_18 => some (x1_17, σ_18)) fu' b (nI x) τc = some (r, τ') ∧ rX σ2 σ' ∧ rM τ1 τ' := by
      intro j
      induction j with
      | zero =>
        intro x fu fu' b σc τc hx h1 h2 f g
        obtain ⟨fu, rfl⟩ : ∃ f, fu = f + 1 := ⟨fu - 1, by omega⟩
        obtain ⟨fu', rfl⟩ : ∃ f, fu' = f + 1 := ⟨fu' - 1, by omega⟩
        refine ⟨b, σc, τc, ?_, ?_, f, g⟩
        · rw [fX4_sure_L28, if_pos (by rw [f.1 5 (by omega), xA2.1.2.2.1, nI_le_iff (by omega) (by omega)]; omega)]
        · rw [fX5_sure_L22, show ald (gA τc 1) 200 2 = ald (gA τc 1) 200 (nI 2) from rfl, ald_n (by omega) (by omega), g.2 1 (by omega), mA1.1.2.2.1, if_pos (by rw [nI_le_iff (by omega) (by omega)]; omega)]
      | succ j ih =>
        intro x fu fu' b σc τc hx h1 h2 f g
        obtain ⟨fu, rfl⟩ : ∃ f, fu = f + 1 := ⟨fu - 1, by omega⟩
        obtain ⟨fu', rfl⟩ : ∃ f, fu' = f + 1 := ⟨fu' - 1, by omega⟩
        have nx : nI x + 1 = nI (x + 1) := by rw [l1, na_add]
        obtain ⟨σ', τ', y1, y2, y3, y4, y5, y6⟩ := step σc τc x (by omega) f g
        have a5 : gA (sI (sA τc 12 (upd (gA τc 12) 0 (nI x))) 8 1) 1 5 = nI (A.1 5) := by
          rw [gA_sI, gA_sA, if_neg (by omega), g.2 1 (by omega)]; exact mA1.1.2.2.2.2.2
        have cx : fX4_sure_L28 (fun x1_9 σ_10 => some (x1_9, σ_10)) (fu + 1) b (nI x) σc = (if lg_cmp (gL τ' 0) 1000000000000 = 0 then fX4_sure_L28 (fun x1_9 σ_10 => some (x1_9, σ_10)) fu (b ||| gI τ' 12) (nI (x + 1)) σ' else fX4_sure_L28 (fun x1_9 σ_10 => some (x1_9, σ_10)) fu b (nI (x + 1)) σ') := by
          rw [fX4_sure_L28, if_neg (by rw [f.1 5 (by omega), xA2.1.2.2.1, nI_le_iff (by omega) (by omega)]; omega), show ast σc 44 5 0 = ast σc 44 5 (nI 0) from rfl, ast_n (by omega) (by omega), y1, calv_s, nx, y5, y6]
          simp only [bnd_ap]
        have cm : fX5_sure_L22 (fun x1_17 σ_18 => some (x1_17, σ_18)) (fu' + 1) b (nI x) τc = (if gI τ' 12 = 0 then fX5_sure_L22 (fun x1_17 σ_18 => some (x1_17, σ_18)) fu' (b ||| 0) (nI (x + 1)) τ' else if lg_cmp (gL τ' 0) 1000000000000 = 0 then fX5_sure_L22 (fun x1_17 σ_18 => some (x1_17, σ_18)) fu' (b ||| gI τ' 12) (nI (x + 1)) τ' else fX5_sure_L22 (fun x1_17 σ_18 => some (x1_17, σ_18)) fu' (b ||| 0) (nI (x + 1)) τ') := by
          rw [fX5_sure_L22, show ald (gA τc 1) 200 2 = ald (gA τc 1) 200 (nI 2) from rfl, ald_n (by omega) (by omega), g.2 1 (by omega), mA1.1.2.2.1, if_neg (by rw [nI_le_iff (by omega) (by omega)]; omega), show ast τc 12 10 0 = ast τc 12 10 (nI 0) from rfl, ast_n (by omega) (by omega), bnd_ap, show ald (gA (sI (sA τc 12 (upd (gA τc 12) 0 (nI x))) 8 1) 1) 200 5 = ald (gA (sI (sA τc 12 (upd (gA τc 12) 0 (nI x))) 8 1) 1) 200 (nI 5) from rfl, ald_n (by omega) (by omega), a5, y2, calv_s, nx]
          simp only [bnd_ap]
        rw [cx, cm, Int32.or_zero]
        by_cases c : lg_cmp (gL τ' 0) 1000000000000 = 0
        · rw [if_pos c, if_pos c]
          by_cases d : gI τ' 12 = 0
          · rw [if_pos d, d, Int32.or_zero]
            exact ih (x + 1) fu fu' b σ' τ' (by omega) (by omega) (by omega) y3 y4
          · rw [if_neg d]
            exact ih (x + 1) fu fu' _ σ' τ' (by omega) (by omega) (by omega) y3 y4
        · rw [if_neg c, if_neg c]
          have : (if gI τ' 12 = 0 then fX5_sure_L22 (fun x1_17 σ_18 => some (x1_17, σ_18)) fu' b (nI (x + 1)) τ' else fX5_sure_L22 (fun x1_17 σ_18 => some (x1_17, σ_18)) fu' b (nI (x + 1)) τ') = fX5_sure_L22 (fun x1_17 σ_18 => some (x1_17, σ_18)) fu' b (nI (x + 1)) τ' := ite_self _
          rw [this]
          exact ih (x + 1) fu fu' b σ' τ' (by omega) (by omega) (by omega) y3 y4
    obtain ⟨r, σ', τ', y1, y2, y3, y4⟩ := loop (A.1 2) 0 FU FU 0 σ2 τ1 (by omega) (by rw [FU_eq]; omega) (by rw [FU_eq]; omega) ⟨fun _ _ => rfl, fun _ _ _ _ => rfl⟩ ⟨fun _ _ => rfl, fun _ _ => rfl⟩
    rw [if_neg z, if_pos rfl, if_neg (by rw [xA.1.1, show (0 : Int32) = nI 0 from rfl, nI_eq_iff (by omega) (by omega)]; exact z), s1, calv_s, bnd_ap, bnd_ap, t1, calv_s, bnd_ap, bnd_ap]
    exact ⟨r, σ', τ', y1, y2, Rl_s h (s2.xS.tr y3.xS) (t2.mS.tr y4.mS)⟩
