/-! ===== leftOut ===== -/
theorem ORL2 {E L : Nat} (hE : E ≤ 5) (hL : L ≤ 10) (but but2 : Int32) (hbb : ∀ v, v < E → (nI v = but ↔ nI v = but2)) : ∀ (j x fu fu' c s : Nat) (σ τ : ST), x + j = L → j < fu → j < fu' → c < 1024 → s < 1024 → (∀ v, v < E → ¬ nI v = but → c.testBit v = s.testBit v) → gI σ 0 = nI L → gI τ 17 = nI L → gI σ 5 = nI E → gA τ 1 2 = nI E → (∀ k, k < L → ∃ v : Nat, v ≤ 9 ∧ gA σ 43 k = nI v ∧ gA τ 13 k = nI v) → OT σ τ E (cnt c) → ∃ (σ' τ' : ST) (n : Nat), n ≤ 5 ∧ (∀ ke, fX4_orderOfRow_L7 ke fu but (nI (cnt c)) (nI c) (nI x) σ = ke (nI n) σ') ∧ (∀ ke, fX5_byRow_L9 ke fu' but2 (nI s) (nI x) τ = ke τ') ∧ oX σ σ' ∧ oM τ τ' ∧ OT σ' τ' E n := by
  intro j
  induction j with
  | zero =>
    intro x fu fu' c s σ τ hx h1 h2 hc hs hb r1 r2 r3 r4 rv O
    obtain ⟨fu, rfl⟩ : ∃ f, fu = f + 1 := ⟨fu - 1, by omega⟩
    obtain ⟨fu', rfl⟩ : ∃ f, fu' = f + 1 := ⟨fu' - 1, by omega⟩
    refine ⟨σ, τ, cnt c, cnt_le c, fun ke => ?_, fun ke => ?_, oX.rf _, oM.rf _, O⟩
    · unfold fX4_orderOfRow_L7
      rw [if_pos (by rw [r1, nI_le_iff (by omega) (by omega)]; omega)]
    · unfold fX5_byRow_L9
      rw [if_pos (by rw [r2, nI_le_iff (by omega) (by omega)]; omega)]
  | succ j ih =>
    intro x fu fu' c s σ τ hx h1 h2 hc hs hb r1 r2 r3 r4 rv O
    obtain ⟨fu, rfl⟩ : ∃ f, fu = f + 1 := ⟨fu - 1, by omega⟩
    obtain ⟨fu', rfl⟩ : ∃ f, fu' = f + 1 := ⟨fu' - 1, by omega⟩
    obtain ⟨v, hv, v1, v2⟩ := rv x (by omega)
    have nx : nI x + 1 = nI (x + 1) := by rw [l1, na_add]
    have eor : nI s ||| (1 <<< (nI v &&& 31)) = nI (s ||| 2 ^ v) := by rw [sh1 v (by omega), nI_or hs (p10 v (by omega))]
    have hs' := or_1024 hs (show v < 10 by omega)
    have Lx : ∀ ke, fX4_orderOfRow_L7 ke (fu + 1) but (nI (cnt c)) (nI c) (nI x) σ = (if nI E ≤ nI v then fX4_orderOfRow_L7 ke fu but (nI (cnt c)) (nI c) (nI (x + 1)) σ else (if nI v = but then fX4_orderOfRow_L7 ke fu but (nI (cnt c)) (nI c) (nI (x + 1)) σ else (if (nI c &&& nI (2 ^ v)) = 0 then (if 5 ≤ nI (cnt c) then fX4_orderOfRow_L7 ke fu but (nI (cnt c)) (nI c) (nI (x + 1)) σ else ast σ 44 5 (nI (cnt c)) (nI v) (fun σ_12 => fX4_orderOfRow_L7 ke fu but (nI (cnt c) + 1) (nI c ||| nI (2 ^ v)) (nI (x + 1)) σ_12)) else fX4_orderOfRow_L7 ke fu but (nI (cnt c)) (nI c) (nI (x + 1)) σ))) := by
      intro ke
      rw [fX4_orderOfRow_L7, if_neg (by rw [r1, nI_le_iff (by omega) (by omega)]; omega), ald_n (by omega) (by omega), v1, bnd_ap, bnd_ap, sh1 v (by omega), r3, nx]
      rfl
    have Lm : ∀ ke, fX5_byRow_L9 ke (fu' + 1) but2 (nI s) (nI x) τ = (if nI E ≤ nI v then fX5_byRow_L9 ke fu' but2 (nI (s ||| 2 ^ v)) (nI (x + 1)) τ else (if ((nI s >>> (nI v &&& 31)) &&& 1) = 0 then (if nI v = but2 then fX5_byRow_L9 ke fu' but2 (nI (s ||| 2 ^ v)) (nI (x + 1)) τ else ast τ 12 10 (gI τ 8) (nI v) (fun σ_13 => fX5_byRow_L9 ke fu' but2 (nI (s ||| 2 ^ v)) (nI (x + 1)) (sI σ_13 8 ((gI σ_13 8) + 1)))) else fX5_byRow_L9 ke fu' but2 (nI (s ||| 2 ^ v)) (nI (x + 1)) τ)) := by
      intro ke
      rw [fX5_byRow_L9, if_neg (by rw [r2, nI_le_iff (by omega) (by omega)]; omega), ald_n (by omega) (by omega), v2, bnd_ap, show (2 : Int32) = nI 2 from rfl, ald_n (by omega) (by omega), r4, eor, nx]
      rfl
    have skip : (∀ u, u < E → ¬ nI u = but → c.testBit u = (s ||| 2 ^ v).testBit u) → ∃ (σ' τ' : ST) (n : Nat), n ≤ 5 ∧ (∀ ke, fX4_orderOfRow_L7 ke fu but (nI (cnt c)) (nI c) (nI (x + 1)) σ = ke (nI n) σ') ∧ (∀ ke, fX5_byRow_L9 ke fu' but2 (nI (s ||| 2 ^ v)) (nI (x + 1)) τ = ke τ') ∧ oX σ σ' ∧ oM τ τ' ∧ OT σ' τ' E n := fun hb' => ih (x + 1) fu fu' c (s ||| 2 ^ v) σ τ (by omega) (by omega) (by omega) hc hs' hb' r1 r2 r3 r4 rv O
    by_cases z : E ≤ v
    · have z' : nI E ≤ nI v := by rw [nI_le_iff (by omega) (by omega)]; exact z
      obtain ⟨σ', τ', n, g1, g2, g3, g4⟩ := skip (fun u hu nb => by rw [tb_or, decide_eq_false (show ¬ v = u by omega), Bool.or_false]; exact hb u hu nb)
      exact ⟨σ', τ', n, g1, fun ke => by rw [Lx, if_pos z']; exact g2 ke, fun ke => by rw [Lm, if_pos z']; exact g3 ke, g4⟩
    · have z' : ¬ nI E ≤ nI v := by rw [nI_le_iff (by omega) (by omega)]; exact z
      by_cases zb : nI v = but
      · obtain ⟨σ', τ', n, g1, g2, g3, g4⟩ := skip (fun u hu nb => by
          have : ¬ v = u := fun q => nb (by rw [← q]; exact zb)
          rw [tb_or, decide_eq_false this, Bool.or_false]; exact hb u hu nb)
        refine ⟨σ', τ', n, g1, fun ke => by rw [Lx, if_neg z', if_pos zb]; exact g2 ke, fun ke => ?_, g4⟩
        rw [Lm, if_neg z', if_pos ((hbb v (by omega)).mp zb)]
        split <;> exact g3 ke
      · have bb := hb v (by omega) zb
        by_cases sn : c.testBit v = false
        · have hcc : cnt (c ||| 2 ^ v) = cnt c + 1 := cnt_or (by omega) sn
          have hc5 := cnt_le (c ||| 2 ^ v)
          have hc' := or_1024 hc (show v < 10 by omega)
          have q5 : ¬ (5 : Int32) ≤ nI (cnt c) := by rw [l5, nI_le_iff (by omega) (by omega)]; omega
          have O' : OT (sA σ 44 (upd (gA σ 44) (cnt c) (nI v))) (sI (sA τ 12 (upd (gA τ 12) (cnt c) (nI v))) 8 (nI (cnt c + 1))) E (cnt (c ||| 2 ^ v)) := by
            refine ⟨by rw [hcc]; rfl, fun y hy => ?_⟩
            show ∃ e, e < E ∧ upd (gA σ 44) (cnt c) (nI v) y = nI e ∧ upd (gA τ 12) (cnt c) (nI v) y = nI e
            rw [upd_ap, upd_ap]
            by_cases w : y = cnt c
            · rw [if_pos w, if_pos w]; exact ⟨v, by omega, rfl, rfl⟩
            · rw [if_neg w, if_neg w]; exact O.2 y (by omega)
          obtain ⟨σ', τ', n, g1, g2, g3, g4, g5, g6⟩ := ih (x + 1) fu fu' (c ||| 2 ^ v) (s ||| 2 ^ v) (sA σ 44 (upd (gA σ 44) (cnt c) (nI v))) (sI (sA τ 12 (upd (gA τ 12) (cnt c) (nI v))) 8 (nI (cnt c + 1))) (by omega) (by omega) (by omega) hc' hs' (fun u hu nb => by rw [tb_or, tb_or, hb u hu nb]) r1 r2 r3 r4 rv O'
          refine ⟨σ', τ', n, g1, fun ke => ?_, fun ke => ?_, oX.tr (b := sA σ 44 (upd (gA σ 44) (cnt c) (nI v))) ⟨fun _ => rfl, fun k hk => by rw [gA_sA, if_neg hk]⟩ g4, oM.tr (b := sI (sA τ 12 (upd (gA τ 12) (cnt c) (nI v))) 8 (nI (cnt c + 1))) ⟨fun k hk => by rw [gI_sI, if_neg hk]; rfl, fun k hk => by rw [gA_sI, gA_sA, if_neg hk]⟩ g5, g6⟩
          · rw [Lx, if_neg z', if_neg zb, if_pos ((seenC hc (by omega)).mpr sn), if_neg q5, ast_n (by omega) (by omega), show nI (cnt c) + 1 = nI (cnt (c ||| 2 ^ v)) from by rw [hcc, l1, na_add], nI_or hc (p10 v (by omega))]
            exact g2 ke
          · rw [Lm, if_neg z', if_pos ((seenM hs (by omega)).mpr (by rw [← bb]; exact sn)), if_neg (fun q => zb ((hbb v (by omega)).mpr q)), O.1, ast_n (by omega) (by omega), gI_sA, O.1, show nI (cnt c) + 1 = nI (cnt c + 1) from by rw [l1, na_add]]
            exact g3 ke
        · have sn' : c.testBit v = true := by cases h : c.testBit v <;> simp_all
          have smn : ¬ ((nI s >>> (nI v &&& 31)) &&& 1) = 0 := by
            rw [seenM hs (by omega), ← bb]; exact sn
          have scn : ¬ (nI c &&& nI (2 ^ v)) = 0 := by
            rw [seenC hc (by omega)]; exact sn
          obtain ⟨σ', τ', n, g1, g2, g3, g4⟩ := skip (fun u hu nb => by
            rw [tb_or]
            by_cases q : v = u
            · subst q
              rw [sn', decide_eq_true rfl, Bool.or_true]
            · rw [decide_eq_false q, Bool.or_false]; exact hb u hu nb)
          exact ⟨σ', τ', n, g1, fun ke => by rw [Lx, if_neg z', if_neg zb, if_neg scn]; exact g2 ke, fun ke => by rw [Lm, if_neg z', if_neg smn]; exact g3 ke, g4⟩
theorem ROWGO2 {σ τ : ST} {A B : TW} {D : Nat} (E : ENV σ (sI (sI τ 9 (nI D)) 10 (nI (B.1 4))) A B D (B.1 4)) (hr : RowR σ τ) (h0 : ¬ gA τ 8 0 = 100000) (H : ∀ w p, w < A.1 0 → p < A.1 0 → ¬ gA τ 8 (8 * w) = 100000 → ¬ gA τ 8 (8 * w + p) = 100000 → ¬ gA τ 8 (8 * p) = 100000) (but but2 : Int32) (hbb : ∀ v, v < A.1 2 → (nI v = but ↔ nI v = but2)) : ∃ (σ1 τ1 σ' τ' : ST) (n k m c : Nat), fX4_orderOfRow but σ = some (nI n, σ1) ∧ fX3_goBy_51 (nI n) σ1 = some σ' ∧ fX5_byRow but2 τ = some τ1 ∧ fX5_go (nI D) τ1 = some τ' ∧ rX σ σ' ∧ rM τ τ' ∧ k ≤ 12 ∧ m ≤ 372000 ∧ gI σ' 25 = nI m ∧ gI τ' 11 = nI m ∧ DC σ' τ' (gI τ 15, gI τ 16) k c ∧ oM τ τ1 := by
  obtain ⟨⟨wA, wB, e2, e0, eE, eF⟩, hp0, xA, mB, _⟩ := id E
  have mB' : MT (gA τ 1) B := mB
  obtain ⟨L, hL, r1, r2, r3⟩ := hr
  obtain ⟨σ1, τ1, n, g1, g2, g3, g4, g5, g6⟩ : ∃ (σ' τ' : ST) (n : Nat), n ≤ 5 ∧ fX4_orderOfRow but σ = some (nI n, σ') ∧ fX5_byRow but2 τ = some τ' ∧ oX σ σ' ∧ oM τ τ' ∧ OT σ' τ' (A.1 2) n := by
    obtain ⟨σ', τ', n, g1, g2, g3, g4, g5, g6⟩ := ORL2 wA.1.2.2.1 hL but but2 hbb L 0 FU FU 0 0 σ (sI τ 8 0) (by omega) (by rw [FU_eq]; omega) (by rw [FU_eq]; omega) (by omega) (by omega) (fun _ _ _ => rfl) r1 r2 xA.1.2.2.1 (by rw [← eE]; exact mB'.1.2.2.1) r3 ⟨rfl, fun y hy => absurd hy (by have : cnt 0 = 0 := rfl; omega)⟩
    refine ⟨σ', τ', n, g1, ?_, ?_, g4, oM.tr (b := sI τ 8 0) ⟨fun k hk => by rw [gI_sI, if_neg hk], fun _ _ => rfl⟩ g5, g6⟩
    · unfold fX4_orderOfRow
      rw [bnd_ap, bnd_ap, bnd_ap]
      exact g2 _
    · unfold fX5_byRow
      rw [bnd_ap, bnd_ap, bnd_ap]
      exact g3 _
  have E1 : ENV σ1 (sI (sI τ1 9 (nI D)) 10 (nI (B.1 4))) A B D (B.1 4) := ENV_g E (fun k hk => g4.1 k) (fun k hk => g4.2 k (by omega)) (fun k hk => by
    rw [gI_sI, gI_sI, gI_sI, gI_sI]
    by_cases z : k = 10
    · rw [if_pos z, if_pos z]
    · rw [if_neg z, if_neg z]
      by_cases z : k = 9
      · rw [if_pos z, if_pos z]
      · rw [if_neg z, if_neg z]; exact g5.1 k (by omega)) (fun k hk => g5.2 k (by omega))
  obtain ⟨σ', τ', k, m, c, u1, u2, u3, ⟨u4, u5⟩, u6, u7, u8, u9, u10⟩ := GO_51 E1 g1 g6.1 g6.2 (by rw [g5.2 8 (by omega)]; exact h0) (by rw [g5.2 8 (by omega)]; exact H)
  refine ⟨σ1, τ1, σ', τ', n, k, m, c, g2, u1, g3, u2, ⟨fun j hj => (u3.1 j hj).trans (g4.1 j), fun j a1 a2 a3 => (u3.2 j a1 a2).trans (g4.2 j a3)⟩, ⟨fun j hj => (u4 j (by omega)).trans (g5.1 j (by omega)), fun j hj => (u5 j).trans (g5.2 j hj)⟩, u6, u7, u8, u9, ?_, g5⟩
  rw [← g5.1 15 (by omega), ← g5.1 16 (by omega)]
  exact u10
theorem sim_leftOut : SIMi Rl fX4_leftOut fX5_leftOut := by
  intro σ τ h
  obtain ⟨g1, g2, g3, ⟨A, wA, xA, mA, lA⟩, g5, ⟨⟨m5, m6, m7, m14⟩, g7⟩⟩ := id h
  have hP := wA.1.1
  have hE := wA.1.2.2.1
  unfold fX4_leftOut fX5_leftOut
  rw [noT mA wA, cali_s]
  by_cases z : A.1 0 = 0
  · rw [if_pos z, if_neg n10, if_pos (by rw [xA.1.1, z]; rfl)]
    exact ref_i h (-3) 3 (by decide) (by omega) (by omega)
  · have l : LegX σ A := by rcases lA with l | l; omega; exact l
    obtain ⟨σ2, s1, s2, s3, s4, s5⟩ := SUP wA xA
    obtain ⟨τ1, t1, t2, t3, t4, t5⟩ := legs_go2 (σ := σ2) wA (by omega) mA (LegX_c l (fun k hk => s2.2 k (by omega) (by omega)))
    have E := ENV_0 (τ := τ1) wA (by omega) xA (MT_f t2 mA) t3 s2 s5 wA.1.2.2.2.2.2 s3 s4 ((t2.1 5).trans m5) ((t2.1 6).trans m6) ((t2.1 7).trans m7)
    have mA1 := MT_f t2 mA
    have hr1 : RowR σ2 τ1 := RowR_c g2 (s2.1 0 (by omega) (by omega)) (s2.2 43 (by omega) (by omega)) (t2.1 17) (t2.2.2 13 (by omega))
    have xA2 : XT σ2 3 6 A := XT_sF s2 xA
    have step : ∀ (σc τc : ST) (but but2 : Int32), rX σ2 σc → rM τ1 τc → (∀ v, v < A.1 2 → (nI v = but ↔ nI v = but2)) → ∃ (σ1 τ2 σ' τ' : ST) (n : Nat), fX4_orderOfRow but σc = some (nI n, σ1) ∧ fX3_goBy_51 (nI n) σ1 = some σ' ∧ fX5_byRow but2 τc = some τ2 ∧ gA τ2 1 5 = nI (A.1 5) ∧ fX5_go (nI (A.1 5)) τ2 = some τ' ∧ rX σ2 σ' ∧ rM τ1 τ' ∧ gL σ' 1 = gL τ' 1 := by
      intro σc τc but but2 f g hbb
      have Ec : ENV σc (sI (sI τc 9 (nI (A.1 5))) 10 (nI (A.1 4))) A A (A.1 5) (A.1 4) := ENV_g E (fun k hk => f.1 k (by omega)) (fun k hk => f.2 k (by omega) (by omega) (by omega)) (fun k hk => by
        rw [gI_sI, gI_sI, gI_sI, gI_sI]
        by_cases z : k = 10
        · rw [if_pos z, if_pos z]
        · rw [if_neg z, if_neg z]
          by_cases z : k = 9
          · rw [if_pos z, if_pos z]
          · rw [if_neg z, if_neg z]; exact g.1 k (by omega)) (fun k hk => g.2 k (by omega))
      obtain ⟨σ1, τ2, σ', τ', n, k, m, c, u1, u2, u3, u4, u5, u6, u7, u8, u9, u10, u11, u12⟩ := ROWGO2 Ec (RowR_c hr1 (f.1 0 (by omega)) (f.2 43 (by omega) (by omega) (by omega)) (g.1 17 (by omega)) (g.2 13 (by omega))) (by rw [g.2 8 (by omega)]; exact t4) (by rw [g.2 8 (by omega)]; exact t5) but but2 hbb
      refine ⟨σ1, τ2, σ', τ', n, u1, u2, u3, ?_, u4, ⟨fun k hk => (u5.1 k hk).trans (f.1 k hk), fun k a1 a2 a3 => (u5.2 k a1 a2 a3).trans (f.2 k a1 a2 a3)⟩, ⟨fun k hk => (u6.1 k hk).trans (g.1 k hk), fun k hk => (u6.2 k hk).trans (g.2 k hk)⟩, u11.2.2.2.1⟩
      rw [u12.2 1 (by omega), g.2 1 (by omega)]; exact mA1.1.2.2.2.2.2
    have f0 : rX σ2 σ2 := ⟨fun _ _ => rfl, fun _ _ _ _ => rfl⟩
    have k0 : rM τ1 τ1 := ⟨fun _ _ => rfl, fun _ _ => rfl⟩
    obtain ⟨σ2', τ2, σ3, τ3, n, u1, u2, u3, u4, u5, u6, u7, u8⟩ := step σ2 τ1 (-9) (-9) f0 k0 (fun _ _ => Iff.rfl)
    obtain ⟨L, hL, r1, r2, r3⟩ := id hr1
    have loop : ∀ (j x fu fu' : Nat) (b : Int32) (v : Int64) (σc τc : ST), x + j = L → j < fu → j < fu' → gL τ3 1 ≤ v → rX σ2 σc → rM τ1 τc → ∃ r σ' τ', fX4_leftOut_L35 (fun x1_14 σ_15 => some (x1_14, σ_15)) fu b v (nI x) σc = some (r, σ') ∧ fX5_leftOut_L31 (fun x1_23 σ_24 => some (x1_23, σ_24)) fu' b v (nI x) τc = some (r, τ') ∧ rX σ2 σ' ∧ rM τ1 τ' := by
      intro j
      induction j with
      | zero =>
        intro x fu fu' b v σc τc hx h1 h2 hv f g
        obtain ⟨fu, rfl⟩ : ∃ f, fu = f + 1 := ⟨fu - 1, by omega⟩
        obtain ⟨fu', rfl⟩ : ∃ f, fu' = f + 1 := ⟨fu' - 1, by omega⟩
        refine ⟨b, σc, τc, ?_, ?_, f, g⟩
        · rw [fX4_leftOut_L35, if_pos (by rw [f.1 0 (by omega), r1, nI_le_iff (by omega) (by omega)]; omega)]
        · rw [fX5_leftOut_L31, if_pos (by rw [g.1 17 (by omega), r2, nI_le_iff (by omega) (by omega)]; omega)]
      | succ j ih =>
        intro x fu fu' b v σc τc hx h1 h2 hv f g
        obtain ⟨fu, rfl⟩ : ∃ f, fu = f + 1 := ⟨fu - 1, by omega⟩
        obtain ⟨fu', rfl⟩ : ∃ f, fu' = f + 1 := ⟨fu' - 1, by omega⟩
        obtain ⟨w, hw, w1, w2⟩ := r3 x (by omega)
        have nx : nI x + 1 = nI (x + 1) := by rw [l1, na_add]
        have cx : ∀ (m : Int32) (σa σ' : ST), fX4_orderOfRow (nI w) σc = some (m, σa) → fX3_goBy_51 m σa = some σ' → rX σ2 σ' → fX4_leftOut_L35 (fun x1_14 σ_15 => some (x1_14, σ_15)) (fu + 1) b v (nI x) σc = (if lg_cmp (gL σ' 1) v ≤ 0 then fX4_leftOut_L35 (fun x1_14 σ_15 => some (x1_14, σ_15)) fu b v (nI (x + 1)) σ' else fX4_leftOut_L35 (fun x1_14 σ_15 => some (x1_14, σ_15)) fu (nI w) (gL σ' 1) (nI (x + 1)) σ') := by
          intro m σa σ' q1 q2 q3
          rw [fX4_leftOut_L35, if_neg (by rw [f.1 0 (by omega), r1, nI_le_iff (by omega) (by omega)]; omega), ald_n (by omega) (by omega), f.2 43 (by omega) (by omega) (by omega), w1, q1, cali_s, q2, calv_s, ald_n (by omega) (by omega), q3.2 43 (by omega) (by omega) (by omega), w1, nx]
          simp only [bnd_ap]
        have cm0 : nI (A.1 2) ≤ nI w → fX5_leftOut_L31 (fun x1_23 σ_24 => some (x1_23, σ_24)) (fu' + 1) b v (nI x) τc = fX5_leftOut_L31 (fun x1_23 σ_24 => some (x1_23, σ_24)) fu' b v (nI (x + 1)) τc := by
          intro q
          rw [fX5_leftOut_L31, if_neg (by rw [g.1 17 (by omega), r2, nI_le_iff (by omega) (by omega)]; omega), ald_n (by omega) (by omega), g.2 13 (by omega), w2, show ald (gA τc 1) 200 2 = ald (gA τc 1) 200 (nI 2) from rfl, ald_n (by omega) (by omega), g.2 1 (by omega), mA1.1.2.2.1, if_pos q, bnd_ap, nx]
        have cm1 : ∀ (τa τ' : ST), ¬ nI (A.1 2) ≤ nI w → fX5_byRow (nI w) τc = some τa → gA τa 1 5 = nI (A.1 5) → fX5_go (nI (A.1 5)) τa = some τ' → rM τ1 τ' → fX5_leftOut_L31 (fun x1_23 σ_24 => some (x1_23, σ_24)) (fu' + 1) b v (nI x) τc = (if lg_cmp (gL τ' 1) v ≤ 0 then fX5_leftOut_L31 (fun x1_23 σ_24 => some (x1_23, σ_24)) fu' b (jmaxl v (gL τ' 1)) (nI (x + 1)) τ' else fX5_leftOut_L31 (fun x1_23 σ_24 => some (x1_23, σ_24)) fu' (nI w) (jmaxl v (gL τ' 1)) (nI (x + 1)) τ') := by
          intro τa τ' q q1 q2 q3 q4
          rw [fX5_leftOut_L31, if_neg (by rw [g.1 17 (by omega), r2, nI_le_iff (by omega) (by omega)]; omega), ald_n (by omega) (by omega), ald_n (by omega) (by omega), g.2 13 (by omega), w2, show ald (gA τc 1) 200 2 = ald (gA τc 1) 200 (nI 2) from rfl, ald_n (by omega) (by omega), g.2 1 (by omega), mA1.1.2.2.1, if_neg q, q1, calv_s, show ald (gA τa 1) 200 5 = ald (gA τa 1) 200 (nI 5) from rfl, ald_n (by omega) (by omega), q2, q3, calv_s, ald_n (by omega) (by omega), q4.2 13 (by omega), w2, nx]
          simp only [bnd_ap]
        by_cases e : A.1 2 ≤ w
        · obtain ⟨σa, τa, σ', τ', m, y1, y2, y3, y4, y5, y6, y7, y8⟩ := step σc τ1 (nI w) (-9) f k0 (fun q hq => by
            constructor
            · intro y; rw [nI_eq_iff (by omega) (by omega)] at y; omega
            · intro y; exact absurd y (nI_m9 (by omega)))
          have ea : τa = τ2 := Option.some.inj (y3.symm.trans u3)
          rw [ea] at y5
          have eb : τ' = τ3 := Option.some.inj (y5.symm.trans u5)
          rw [eb] at y8
          rw [cx _ σa σ' y1 y2 y6, cm0 (by rw [nI_le_iff (by omega) (by omega)]; exact e), if_pos ((lg_cmp_le _ _).mpr (by rw [y8]; exact hv))]
          exact ih (x + 1) fu fu' b v σ' τc (by omega) (by omega) (by omega) hv y6 g
        · obtain ⟨σa, τa, σ', τ', m, y1, y2, y3, y4, y5, y6, y7, y8⟩ := step σc τc (nI w) (nI w) f g (fun _ _ => Iff.rfl)
          rw [cx _ σa σ' y1 y2 y6, cm1 τa τ' (by rw [nI_le_iff (by omega) (by omega)]; exact e) y3 y4 y5 y7, y8]
          by_cases c : gL τ' 1 ≤ v
          · rw [if_pos ((lg_cmp_le _ _).mpr c), if_pos ((lg_cmp_le _ _).mpr c), jml c]
            exact ih (x + 1) fu fu' b v σ' τ' (by omega) (by omega) (by omega) hv y6 y7
          · rw [if_neg (fun q => c ((lg_cmp_le _ _).mp q)), if_neg (fun q => c ((lg_cmp_le _ _).mp q)), jmg c]
            exact ih (x + 1) fu fu' (nI w) _ σ' τ' (by omega) (by omega) (by omega) (Int64.le_trans hv (Int64.le_of_lt (Int64.not_le.mp c))) y6 y7
    obtain ⟨r, σ', τ', y1, y2, y3, y4⟩ := loop L 0 FU FU (-9) (gL τ3 1) σ3 τ3 (by omega) (by rw [FU_eq]; omega) (by rw [FU_eq]; omega) (Int64.le_refl _) u6 u7
    rw [if_neg z, if_pos rfl, if_neg (by rw [xA.1.1, show (0 : Int32) = nI 0 from rfl, nI_eq_iff (by omega) (by omega)]; exact z)]
    refine ⟨r, σ', τ', ?_, ?_, Rl_s h (s2.xS.tr y3.xS) (t2.mS.tr y4.mS)⟩
    · unfold fX4_goByRow
      rw [s1, calv_s, u1, cali_s, u2, calv_s, calv_s, bnd_ap, bnd_ap, bnd_ap, u8]
      exact y1
    · unfold fX5_worthOfRow fX5_dayOfRow
      rw [bnd_ap, show ald (gA τ 1) 200 5 = ald (gA τ 1) 200 (nI 5) from rfl, ald_n (by omega) (by omega), mA.1.2.2.2.2.2, t1, calv_s, u3, calv_s, u5, calv_s, calv_s, call_s, bnd_ap, bnd_ap]
      exact y2
