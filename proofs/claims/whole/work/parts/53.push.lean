/-! ===== push ===== -/
theorem PRE_p {σ τ : ST} {A : TW} {D : Nat} (wA : WFT A) (h0 : 0 < A.1 0) (xA : XT σ 3 6 A) (mA : MT (gA τ 1) A) (l : LegX σ A) (hD : D ≤ 5) (e1 : gI σ 23 = nI D) (e2 : gI σ 24 = nI (A.1 4)) (m5 : gI τ 5 = 0) (m6 : gI τ 6 = 0) (u : Nat → Nat) (hu : ∀ q, q < A.1 0 → u q ≤ 4 ∧ puN τ A q = nI (u q) ∧ gA σ 39 q = stI (nI (A.2 0 q)) (nI (A.2 1 q)) (nI (u q)) ∧ gA σ 40 q = puI (nI (A.2 0 q)) (nI (A.2 1 q)) (nI (u q))) : PRE σ τ A A D := by
  have hP := wA.1.1
  refine ⟨⟨wA, wA, rfl, rfl, rfl, rfl⟩, h0, xA, mA, l, ?_, ⟨hD, e1⟩, e2⟩
  intro p hp
  obtain ⟨w1, w2, w3⟩ := wA.2.1 p hp
  obtain ⟨u1, u2, u3, u4⟩ := hu p hp
  obtain ⟨a, ha, ea⟩ := stI_le (A.2 0 p) (by omega) (A.2 1 p) (by omega) (u p) (by omega)
  obtain ⟨b, hb, eb⟩ := puI_le (A.2 0 p) (by omega) (A.2 1 p) (by omega) (u p) (by omega)
  have s1 : stN τ A p = stI (nI (A.2 0 p)) (nI (A.2 1 p)) (nI (u p)) := by unfold stN; rw [if_pos m5, if_pos m6, u2]
  have s2 : pdN τ A p = puI (nI (A.2 0 p)) (nI (A.2 1 p)) (nI (u p)) := by unfold pdN puI; rw [s1, u2]
  exact ⟨a, b, by omega, by omega, by rw [u3, ea], by rw [s1, ea], by rw [u4, eb], by rw [s2, eb]⟩
def qX (σ σ' : ST) : Prop := (∀ k, k < 21 ∨ k = 23 ∨ k = 24 → gI σ' k = gI σ k) ∧ (∀ k, k ≠ 39 → k ≠ 40 → k ≠ 41 → k ≠ 42 → gA σ' k = gA σ k)
theorem qX.rf (σ : ST) : qX σ σ := ⟨fun _ _ => rfl, fun _ _ _ _ _ => rfl⟩
theorem qX.tr {a b c : ST} (h : qX a b) (g : qX b c) : qX a c := ⟨fun k q => (g.1 k q).trans (h.1 k q), fun k q r s t => (g.2 k q r s t).trans (h.2 k q r s t)⟩
theorem qX.xS {a b : ST} (h : qX a b) : xS a b := ⟨fun k hk => h.1 k (by omega), fun k hk => h.2 k (by omega) (by omega) (by omega) (by omega)⟩
theorem cF.qX {a b : ST} (h : cF a b) : qX a b := ⟨h.1, fun k _ _ q r => h.2 k q r⟩
theorem qX.up {a : ST} (f g : Nat → Int32) : qX a (sA (sA a 39 f) 40 g) := ⟨fun _ _ => rfl, fun k h1 h2 _ _ => by rw [gA_sA, if_neg h2, gA_sA, if_neg h1]⟩
theorem XT_q {σ σ' : ST} {A : TW} (h : qX σ σ') (x : XT σ 3 6 A) : XT σ' 3 6 A := XT_c x (fun k hk => h.1 _ (by omega)) (fun k hk => h.2 _ (by omega) (by omega) (by omega) (by omega))
/-- the reference's state but for one place's further pushers -/
def pM (τ τ' : ST) : Prop := (∀ k, k < 7 ∨ k = 14 ∨ 17 ≤ k → gI τ' k = gI τ k) ∧ (∀ k, k < 8 ∨ 13 ≤ k → gA τ' k = gA τ k)
theorem pM.rf (σ : ST) : pM σ σ := ⟨fun _ _ => rfl, fun _ _ => rfl⟩
theorem pM.tr {a b c : ST} (h : pM a b) (g : pM b c) : pM a c := ⟨fun k q => (g.1 k q).trans (h.1 k q), fun k q => (g.2 k q).trans (h.2 k q)⟩
theorem wM.pM {a b : ST} (h : wM a b) : pM a b := ⟨fun k hk => h.1 k (by omega), h.2⟩
theorem jm3 {u : Nat} (h : u ≤ 2) : jmin 3 (nI u + 1) = nI (u + 1) := by
  have : u = 0 ∨ u = 1 ∨ u = 2 := by omega
  rcases this with rfl | rfl | rfl <;> decide
theorem jm33 : jmin 3 (nI 3 + 1) = nI 3 := by decide
/-- one place with u pushers supposed: the others as they are -/
theorem PU1 {σ0 σ1 σ2 σ τ0 τ : ST} {A : TW} {n : Int32} {p u : Nat} (wA : WFT A) (hP : 0 < A.1 0) (x0 : XT σ0 3 6 A) (m0 : MT (gA τ0 1) A) (r0 : RowR σ0 τ0) (m5 : gI τ0 5 = 0) (m6 : gI τ0 6 = 0) (ho : fX4_orderOfRow (-9) σ0 = some (n, σ1)) (x2 : XT σ2 3 6 A) (l2 : LegX σ2 A) (e23 : gI σ2 23 = nI 3) (e24 : gI σ2 24 = nI (A.1 4)) (h44 : gA σ2 44 = gA σ1 44) (hp : p < A.1 0) (hu : u ≤ 4) (f : qX σ2 σ) (s : ASIS σ A) (g : pM τ0 τ) (hpu : ∀ q, q < A.1 0 → puN τ A q = nI (if q = p then u else A.2 2 q)) : ∃ (σa σ' σd τ' : ST), fX3_supposePushers (nI p) (nI u) σ = some σa ∧ fX3_goBy_51 n σa = some σ' ∧ fX3_supposePushers (nI p) (nI (A.2 2 p)) σ' = some σd ∧ gL σd 1 = gL σ' 1 ∧ gA σ' 8 p = nI (A.2 2 p) ∧ fX5_worthOfRow (nI 3) τ = some (gL σ' 1, τ') ∧ qX σ2 σd ∧ ASIS σd A ∧ wM τ τ' := by
  have hP8 := wA.1.1
  have xs := XT_q f x2
  obtain ⟨σa, sa⟩ : ∃ z, z = sA (sA σ 39 (upd (gA σ 39) p (stI (nI (A.2 0 p)) (nI (A.2 1 p)) (nI u)))) 40 (upd (gA σ 40) p (puI (nI (A.2 0 p)) (nI (A.2 1 p)) (nI u))) := ⟨_, rfl⟩
  have fa : qX σ2 σa := f.tr (by rw [sa]; exact qX.up _ _)
  have a39 : gA σa 39 = upd (gA σ 39) p (stI (nI (A.2 0 p)) (nI (A.2 1 p)) (nI u)) := by rw [sa]; rfl
  have a40 : gA σa 40 = upd (gA σ 40) p (puI (nI (A.2 0 p)) (nI (A.2 1 p)) (nI u)) := by rw [sa]; rfl
  have P : PRE σa τ A A 3 := PRE_p wA hP (XT_q fa x2) (by rw [g.2 1 (by omega)]; exact m0) (LegX_c l2 (fun k hk => fa.2 k (by omega) (by omega) (by omega) (by omega))) (by omega) ((fa.1 23 (by omega)).trans e23) ((fa.1 24 (by omega)).trans e24) ((g.1 5 (by omega)).trans m5) ((g.1 6 (by omega)).trans m6) (fun q => if q = p then u else A.2 2 q) (fun q hq => by
    obtain ⟨w1, w2, w3⟩ := wA.2.1 q hq
    refine ⟨by split <;> omega, hpu q hq, ?_, ?_⟩
    · rw [a39, upd_ap]
      by_cases z : q = p
      · rw [if_pos z, if_pos z, z]
      · rw [if_neg z, if_neg z]; exact (s q hq).1
    · rw [a40, upd_ap]
      by_cases z : q = p
      · rw [if_pos z, if_pos z, z]
      · rw [if_neg z, if_neg z]; exact (s q hq).2)
  obtain ⟨σ', τ', u1, u2, u3, u4⟩ := WROW P (RowR_c r0 rfl rfl (g.1 17 (by omega)) (g.2 13 (by omega))) x0 ho (by rw [fa.2 44 (by omega) (by omega) (by omega) (by omega)]; exact h44)
  have f' := fa.tr u3.qX
  have xs' := XT_q f' x2
  refine ⟨σa, σ', _, τ', by rw [SUPp wA xs hp, sa], u1, SUPp wA xs' hp _, rfl, (xs'.2.1 p hp).2.2, u2, f'.tr (qX.up _ _), ?_, u4⟩
  intro q hq
  show upd (gA σ' 39) p _ q = _ ∧ upd (gA σ' 40) p _ q = _
  rw [upd_ap, upd_ap, u3.2 39 (by omega) (by omega), u3.2 40 (by omega) (by omega), a39, a40, upd_ap, upd_ap]
  by_cases z : q = p
  · rw [if_pos z, if_pos z, z]; exact ⟨rfl, rfl⟩
  · rw [if_neg z, if_neg z, if_neg z, if_neg z]; exact s q hq
theorem sim_push : SIMi Rl fX4_push fX5_push := by
  intro σ τ h
  obtain ⟨g1, g2, g3, ⟨A, wA, xA, mA, lA⟩, g5, ⟨⟨m5, m6, m7, m14⟩, g7⟩⟩ := id h
  have hP := wA.1.1
  unfold fX4_push fX5_push
  rw [noT mA wA, cali_s]
  by_cases z : A.1 0 = 0
  · rw [if_pos z, if_neg n10, if_pos (by rw [xA.1.1, z]; rfl)]
    exact ref_i h (-3) 3 (by decide) (by omega) (by omega)
  · have l : LegX σ A := by rcases lA with l | l; omega; exact l
    obtain ⟨σ1, τ1, n, hn, o1, _, o3, _, _⟩ := ORD wA xA mA g2 (-9)
    have xA1 : XT σ1 3 6 A := XT_c xA (fun k hk => o3.1 _) (fun k hk => o3.2 _ (by omega))
    obtain ⟨σ1', s1, s2, s3, s4, s5⟩ := SUP wA xA1
    obtain ⟨σ2, hσ2⟩ : ∃ z, z = sI σ1' 23 3 := ⟨_, rfl⟩
    have s2' : sF σ1 σ2 := s2.tr (by rw [hσ2]; exact ⟨fun k h1 h2 => by rw [gI_sI, if_neg h1], fun _ _ _ => rfl⟩)
    have s5' : ASIS σ2 A := by rw [hσ2]; exact s5
    have e23 : gI σ2 23 = nI 3 := by rw [hσ2]; rfl
    have e24 : gI σ2 24 = nI (A.1 4) := by rw [hσ2]; exact s4
    have xA2 : XT σ2 3 6 A := XT_sF s2' xA1
    have l2 : LegX σ2 A := LegX_c l (fun k hk => (s2'.2 k (by omega) (by omega)).trans (o3.2 k (by omega)))
    have xS2 : xS σ σ2 := xS.tr (b := σ1) ⟨fun k hk => o3.1 k, fun k hk => o3.2 k (by omega)⟩ s2'.xS
    have h44 : gA σ2 44 = gA σ1 44 := s2'.2 44 (by omega) (by omega)
    obtain ⟨σ3, τ3, v1, v2, v3, v4⟩ := WROW (PRE_0 wA (by omega) xA2 mA l2 s5' (by omega) e23 e24 m5 m6 m7) g2 xA o1 h44
    obtain ⟨g0, hg0⟩ : ∃ z, z = gL σ3 1 := ⟨_, rfl⟩
    rw [← hg0] at v2
    have step := fun (p u : Nat) (σc τc : ST) (hp : p < A.1 0) (hu : u ≤ 4) (f : qX σ2 σc) (s : ASIS σc A) (g : pM τ τc) (hpu : ∀ q, q < A.1 0 → puN τc A q = nI (if q = p then u else A.2 2 q)) => PU1 (n := nI n) wA (by omega) xA mA g2 m5 m6 o1 xA2 l2 e23 e24 h44 hp hu f s g hpu
    have loop : ∀ (j x fu fu' : Nat) (b : Int32) (v : Int64) (σc τc : ST), x + j = A.1 0 → j < fu → j < fu' → g0 ≤ v → qX σ2 σc → ASIS σc A → pM τ τc → ∃ r σ' τ', fX4_push_L65 (fun x2_19 σ_20 => some (x2_19, σ_20)) fu (nI n) b v (nI x) σc = some (r, σ') ∧ (∀ ke, fX5_push_L26 ke fu' b v (nI x) τc = ke r τ') ∧ qX σ2 σ' ∧ pM τ τ' := by
      intro j
      induction j with
      | zero =>
        intro x fu fu' b v σc τc hx h1 h2 hv f s g
        obtain ⟨fu, rfl⟩ : ∃ f, fu = f + 1 := ⟨fu - 1, by omega⟩
        obtain ⟨fu', rfl⟩ : ∃ f, fu' = f + 1 := ⟨fu' - 1, by omega⟩
        refine ⟨b, σc, τc, ?_, fun ke => ?_, f, g⟩
        · rw [fX4_push_L65, if_pos (by rw [(XT_q f xA2).1.1, nI_le_iff (by omega) (by omega)]; omega)]
        · rw [fX5_push_L26, show (0 : Int32) = nI 0 from rfl, ald_n (by omega) (by omega), g.2 1 (by omega), mA.1.1, if_pos (by rw [nI_le_iff (by omega) (by omega)]; omega)]
      | succ j ih =>
        intro x fu fu' b v σc τc hx h1 h2 hv f s g
        obtain ⟨fu, rfl⟩ : ∃ f, fu = f + 1 := ⟨fu - 1, by omega⟩
        obtain ⟨fu', rfl⟩ : ∃ f, fu' = f + 1 := ⟨fu' - 1, by omega⟩
        have hxP : x < A.1 0 := by omega
        have nx : nI x + 1 = nI (x + 1) := by rw [l1, na_add]
        have xc := XT_q f xA2
        obtain ⟨w1, w2, w3⟩ := wA.2.1 x hxP
        have cx : ∀ (u : Nat) (σa σ' σd : ST), jmin 3 (nI (A.2 2 x) + 1) = nI u → fX3_supposePushers (nI x) (nI u) σc = some σa → fX3_goBy_51 (nI n) σa = some σ' → fX3_supposePushers (nI x) (nI (A.2 2 x)) σ' = some σd → gL σd 1 = gL σ' 1 → gA σ' 8 x = nI (A.2 2 x) → fX4_push_L65 (fun x2_19 σ_20 => some (x2_19, σ_20)) (fu + 1) (nI n) b v (nI x) σc = (if lg_cmp (gL σ' 1) v ≤ 0 then fX4_push_L65 (fun x2_19 σ_20 => some (x2_19, σ_20)) fu (nI n) b v (nI (x + 1)) σd else fX4_push_L65 (fun x2_19 σ_20 => some (x2_19, σ_20)) fu (nI n) (nI x) (gL σ' 1) (nI (x + 1)) σd) := by
          intro u σa σ' σd q1 q2 q3 q4 q5 q6
          rw [fX4_push_L65, if_neg (by rw [xc.1.1, nI_le_iff (by omega) (by omega)]; omega), ald_n (by omega) (by omega), (xc.2.1 x hxP).2.2, q1, q2, calv_s, q3, calv_s, ald_n (by omega) (by omega), q6, q4, calv_s, q5, nx]
          rfl
        have cm : ∀ ke, fX5_push_L26 ke (fu' + 1) b v (nI x) τc = (if 3 ≤ nI (A.2 2 x) then fX5_push_L26 ke fu' b v (nI (x + 1)) τc else call (fX5_worthOfRow 3 (sI τc 7 (nI x))) (fun r_13 σ_12 => (if (lg_cmp r_13 v) ≤ 0 then fX5_push_L26 ke fu' b (jmaxl v r_13) (nI (x + 1)) σ_12 else fX5_push_L26 ke fu' (nI x) (jmaxl v r_13) (nI (x + 1)) σ_12))) := by
          intro ke
          rw [fX5_push_L26, show ald (gA τc 1) 200 0 = ald (gA τc 1) 200 (nI 0) from rfl, ald_n (by omega) (by omega), g.2 1 (by omega), mA.1.1, if_neg (by rw [nI_le_iff (by omega) (by omega)]; omega), ix32, ald_n (by omega) (by omega), (mA.2.1 x hxP).2.2, nx]
          simp only [bnd_ap]
        by_cases u3 : A.2 2 x ≤ 2
        · obtain ⟨σa, σ', σd, τ', q1, q2, q3, q4, q5, q6, q7, q8, q9⟩ := step x (A.2 2 x + 1) σc (sI τc 7 (nI x)) hxP (by omega) f s ⟨fun k hk => by rw [gI_sI, if_neg (by omega)]; exact g.1 k hk, g.2⟩ (fun q hq => by
            unfold puN
            rw [gI_sI, if_pos rfl]
            by_cases y : q = x
            · rw [if_pos (by rw [y]), if_pos y, y, l1, na_add]
            · rw [if_neg (by rw [nI_eq_iff (by omega) (by omega)]; exact y), if_neg y, Int32.add_zero])
          have g' : pM τ τ' := (show pM τ (sI τc 7 (nI x)) from ⟨fun k hk => by rw [gI_sI, if_neg (by omega)]; exact g.1 k hk, g.2⟩).tr q9.pM
          have c1 := cx _ σa σ' σd (jm3 u3) q1 q2 q3 q4 q5
          have n3 : ¬ 3 ≤ nI (A.2 2 x) := by rw [l3, nI_le_iff (by omega) (by omega)]; omega
          by_cases c : gL σ' 1 ≤ v
          · obtain ⟨r, σe, τe, y1, y2, y3⟩ := ih (x + 1) fu fu' b v σd τ' (by omega) (by omega) (by omega) hv q7 q8 g'
            refine ⟨r, σe, τe, by rw [c1, if_pos ((lg_cmp_le _ _).mpr c)]; exact y1, fun ke => ?_, y3⟩
            rw [cm, if_neg n3, show fX5_worthOfRow 3 (sI τc 7 (nI x)) = some (gL σ' 1, τ') from q6, call_s, if_pos ((lg_cmp_le _ _).mpr c), jml c]; exact y2 ke
          · obtain ⟨r, σe, τe, y1, y2, y3⟩ := ih (x + 1) fu fu' (nI x) (gL σ' 1) σd τ' (by omega) (by omega) (by omega) (Int64.le_trans hv (Int64.le_of_lt (Int64.not_le.mp c))) q7 q8 g'
            refine ⟨r, σe, τe, by rw [c1, if_neg (fun q => c ((lg_cmp_le _ _).mp q))]; exact y1, fun ke => ?_, y3⟩
            rw [cm, if_neg n3, show fX5_worthOfRow 3 (sI τc 7 (nI x)) = some (gL σ' 1, τ') from q6, call_s, if_neg (fun q => c ((lg_cmp_le _ _).mp q)), jmg c]; exact y2 ke
        · have u33 : A.2 2 x = 3 := by omega
          obtain ⟨σa, σ', σd, τ', q1, q2, q3, q4, q5, q6, q7, q8, q9⟩ := step x 3 σc τ hxP (by omega) f s (pM.rf τ) (fun q hq => by
            rw [puN_0 m7 (by omega)]
            by_cases y : q = x
            · rw [if_pos y, y, u33]
            · rw [if_neg y])
          have eg : gL σ' 1 = g0 := congrArg Prod.fst (Option.some.inj (q6.symm.trans v2))
          have c1 := cx 3 σa σ' σd (by rw [u33]; exact jm33) q1 q2 q3 q4 q5
          have n3 : 3 ≤ nI (A.2 2 x) := by rw [l3, nI_le_iff (by omega) (by omega)]; omega
          obtain ⟨r, σe, τe, y1, y2, y3⟩ := ih (x + 1) fu fu' b v σd τc (by omega) (by omega) (by omega) hv q7 q8 g
          exact ⟨r, σe, τe, by rw [c1, if_pos ((lg_cmp_le _ _).mpr (by rw [eg]; exact hv))]; exact y1, fun ke => by rw [cm, if_pos n3]; exact y2 ke, y3⟩
    have s5'' : ASIS σ3 A := by
      intro i hi
      rw [v3.2 39 (by omega) (by omega), v3.2 40 (by omega) (by omega)]; exact s5' i hi
    obtain ⟨r, σ', τ', y1, y2, y3, y4⟩ := loop (A.1 0) 0 FU FU (-9) g0 σ3 τ3 (by omega) (by rw [FU_eq]; omega) (by rw [FU_eq]; omega) (Int64.le_refl _) v3.qX s5'' v4.pM
    rw [if_neg z, if_pos rfl, if_neg (by rw [xA.1.1, show (0 : Int32) = nI 0 from rfl, nI_eq_iff (by omega) (by omega)]; exact z), o1, cali_s, bnd_ap, s1, calv_s, bnd_ap, ← hσ2, v1, calv_s, bnd_ap, bnd_ap, bnd_ap, ← hg0]
    rw [bnd_ap, show fX5_worthOfRow 3 τ = some (g0, τ3) from v2, call_s, bnd_ap, bnd_ap]
    refine ⟨r, σ', sI τ' 7 (-9), y1, ?_, Rl_s h (xS2.tr y3.xS) ⟨fun k hk => ?_, fun k hk => y4.2 k (by omega)⟩⟩
    · refine (y2 _).trans ?_
      rw [bnd_ap]
    · rw [gI_sI]
      by_cases k7 : k = 7
      · rw [if_pos k7, k7, m7]
      · rw [if_neg k7]; exact y4.1 k (by omega)
