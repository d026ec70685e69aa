/-! ===== onFoot ===== -/
def FTI (a b c d : Int32) : Prop := (a = -9 ∧ b = -9 ∧ c = -9 ∧ d = nI 100000) ∨ ∃ p s : Nat, p < 8 ∧ s ≤ 61440 ∧ a = nI p ∧ c = nI p ∧ b = nI (10 * s) ∧ d = nI s
theorem nI_nm9 {a : Nat} (h : a < 1000) : ¬ nI a = -9 := by
  intro e
  have := congrArg Int32.toInt e
  rw [nI_toInt (by omega), show Int32.toInt (-9) = -9 from rfl] at this
  omega
theorem walked {σ : ST} {x p q : Nat} (hx : x < 8) (hp : p < 8) (hq : q < 8) : fX4_walkedFrom (nI x) (nI p) (nI q) σ = (if gA σ 0 (8 * x + p) < 0 then some (-9, σ) else if 0 ≤ gA σ 0 (8 * x + q) then some (5 * (2 * gA σ 0 (8 * x + p) + 2 * gA σ 0 (8 * x + q)), σ) else some (-9, σ)) := by
  unfold fX4_walkedFrom
  rw [minOf hx hp, cali_s, bnd_ap, minOf hx hq, cali_s, bnd_ap, if_pos rfl, if_pos rfl]
theorem w10 (a b : Nat) : 5 * (2 * nI a + 2 * nI b) = nI (10 * (a + b)) := by
  rw [l2, l5, pk_mul, pk_mul, na_add, pk_mul, show 5 * (2 * a + 2 * b) = 10 * (a + b) by omega]
theorem sim_onFoot (a b c : Int32) : SIMi Rl (fX4_onFoot a b c) (fX5_onFoot a b c) := by
  intro σ τ h
  obtain ⟨g1, g2, g3, ⟨A, wA, xA, mA, lA⟩, g5, ⟨⟨m5, m6, m7, m14⟩, g7⟩⟩ := id h
  have hP := wA.1.1
  unfold fX4_onFoot fX5_onFoot
  rcases isP wA xA mA a with ⟨p, hp, rfl, i1, i2⟩ | ⟨i1, i2⟩
  · rw [i1, i2, cali_s, cali_s, if_neg n10, if_pos rfl]
    rcases isP wA xA mA b with ⟨q, hq, rfl, j1, j2⟩ | ⟨j1, j2⟩
    · rw [j1, j2, cali_s, cali_s, if_neg n10, if_pos rfl]
      have l : LegX σ A := by rcases lA with l | l; omega; exact l
      obtain ⟨τ', e1, e2, e3⟩ := legs_go wA mA l
      have hR := Rl_s h (xS.rf σ) e2.mS
      have mA' := MT_f e2 mA
      have loop : ∀ (ke ke' : Int32 → Int32 → Int32 → ST → Option (Int32 × ST)) (j x fu fu' : Nat) (x4 x5 y4 y5 : Int32), x + j = A.1 0 → j < fu → j < fu' → FTI x4 x5 y4 y5 → ∃ u v w z : Int32, FTI u v w z ∧ fX4_onFoot_L49 ke fu (nI p) (nI q) c x4 x5 (nI x) σ = ke c u v σ ∧ fX5_onFoot_L53 ke' fu' (nI p) (nI q) c y4 y5 (nI x) τ' = ke' c w z τ' := by
        intro ke ke' j
        induction j with
        | zero =>
          intro x fu fu' x4 x5 y4 y5 hx h1 h2 I
          obtain ⟨fu, rfl⟩ : ∃ f, fu = f + 1 := ⟨fu - 1, by omega⟩
          obtain ⟨fu', rfl⟩ : ∃ f, fu' = f + 1 := ⟨fu' - 1, by omega⟩
          refine ⟨x4, x5, y4, y5, I, ?_, ?_⟩
          · rw [fX4_onFoot_L49, if_pos (by rw [xA.1.1, nI_le_iff (by omega) (by omega)]; omega)]
          · rw [fX5_onFoot_L53, show ald (gA τ' 1) 200 0 = ald (gA τ' 1) 200 (nI 0) from rfl, ald_n (by omega) (by omega), mA'.1.1, if_pos (by rw [nI_le_iff (by omega) (by omega)]; omega)]
        | succ j ih =>
          intro x fu fu' x4 x5 y4 y5 hx h1 h2 I
          obtain ⟨fu, rfl⟩ : ∃ f, fu = f + 1 := ⟨fu - 1, by omega⟩
          obtain ⟨fu', rfl⟩ : ∃ f, fu' = f + 1 := ⟨fu' - 1, by omega⟩
          have nx : nI x + 1 = nI (x + 1) := by rw [l1, na_add]
          have st : fX5_starts (nI x) τ' = some (stI (nI (A.2 0 x)) (nI (A.2 1 x)) (nI (A.2 2 x)), τ') := by
            rw [mst wA mA' (by omega), stN_0 ((e2.1 5).trans m5) ((e2.1 6).trans m6) ((e2.1 7).trans m7) (by omega)]
          have cx : fX4_onFoot_L49 ke (fu + 1) (nI p) (nI q) c x4 x5 (nI x) σ = cali (fX4_walkedFrom (nI x) (nI p) (nI q) σ) (fun r_13 σ_12 => (if r_13 < 0 then fX4_onFoot_L49 ke fu (nI p) (nI q) c x4 x5 (nI (x + 1)) σ_12 else cali (fX2_startsAt_4 (nI x) σ_12) (fun r_17 σ_16 => (if r_17 = 10 then (if x4 = (-9) then fX4_onFoot_L49 ke fu (nI p) (nI q) c (nI x) r_13 (nI (x + 1)) σ_16 else (if x5 ≤ r_13 then fX4_onFoot_L49 ke fu (nI p) (nI q) c x4 x5 (nI (x + 1)) σ_16 else fX4_onFoot_L49 ke fu (nI p) (nI q) c (nI x) r_13 (nI (x + 1)) σ_16)) else fX4_onFoot_L49 ke fu (nI p) (nI q) c x4 x5 (nI (x + 1)) σ_16)))) := by
            rw [fX4_onFoot_L49, if_neg (by rw [xA.1.1, nI_le_iff (by omega) (by omega)]; omega), nx]
            simp only [bnd_ap]
          have cm : fX5_onFoot_L53 ke' (fu' + 1) (nI p) (nI q) c y4 y5 (nI x) τ' = (if stI (nI (A.2 0 x)) (nI (A.2 1 x)) (nI (A.2 2 x)) = 10 then (if y5 ≤ gA τ' 8 (8 * x + p) + gA τ' 8 (8 * x + q) then fX5_onFoot_L53 ke' fu' (nI p) (nI q) c y4 y5 (nI (x + 1)) τ' else fX5_onFoot_L53 ke' fu' (nI p) (nI q) c (nI x) (gA τ' 8 (8 * x + p) + gA τ' 8 (8 * x + q)) (nI (x + 1)) τ') else fX5_onFoot_L53 ke' fu' (nI p) (nI q) c y4 y5 (nI (x + 1)) τ') := by
            rw [fX5_onFoot_L53, show ald (gA τ' 1) 200 0 = ald (gA τ' 1) 200 (nI 0) from rfl, ald_n (by omega) (by omega), mA'.1.1, if_neg (by rw [nI_le_iff (by omega) (by omega)]; omega), nx, ix8', ix8', ald_n (by omega) (by omega), ald_n (by omega) (by omega), bnd_ap, st, cali_s]
            simp only [bnd_ap]
          rw [cx, cm, walked (by omega) (by omega) (by omega)]
          have skip : ∀ (s : Int32), (∃ d : Nat, 100000 ≤ d ∧ d ≤ 200000 ∧ s = nI d) → y5 ≤ s := by
            rintro s ⟨d, h1, h2, rfl⟩
            rcases I with ⟨_, _, _, rfl⟩ | ⟨pp, ss, _, hs, _, _, _, rfl⟩
            · rw [nI_le_iff (by omega) (by omega)]; omega
            · rw [nI_le_iff (by omega) (by omega)]; omega
          have FX := xstA wA xA (p := x) (by omega)
          obtain ⟨S, sS⟩ : ∃ z, z = stI (nI (A.2 0 x)) (nI (A.2 1 x)) (nI (A.2 2 x)) := ⟨_, rfl⟩
          rw [← sS] at FX ⊢
          have same := ih (x + 1) fu fu' x4 x5 y4 y5 (by omega) (by omega) (by omega) I
          have far : (gA σ 0 (8 * x + p) < 0 ∨ gA σ 0 (8 * x + q) < 0) → y5 ≤ gA τ' 8 (8 * x + p) + gA τ' 8 (8 * x + q) := by
            intro hd
            apply skip
            rcases e3 (8 * x + p) (by omega) with ⟨y0, _, _, _, z0⟩ | ⟨d, s1, d2, s2, hd1, hs1, hd2, hs2, ⟨y0, z0⟩, _⟩ <;> rcases e3 (8 * x + q) (by omega) with ⟨y0', _, _, _, z0'⟩ | ⟨d', s1', d2', s2', hd1', hs1', hd2', hs2', ⟨y0', z0'⟩, _⟩
            · exact ⟨200000, by omega, by omega, by rw [z0, z0', na_add]⟩
            · exact ⟨100000 + d', by omega, by omega, by rw [z0, z0', na_add]⟩
            · exact ⟨d + 100000, by omega, by omega, by rw [z0, z0', na_add]⟩
            · exfalso
              rw [y0, y0'] at hd
              rcases hd with hd | hd
              · exact nI_nneg (by omega) hd
              · exact nI_nneg (by omega) hd
          by_cases n1 : gA σ 0 (8 * x + p) < 0
          · rw [if_pos n1, cali_s, if_pos (by decide), if_pos (far (Or.inl n1)), ite_self]
            exact same
          by_cases n2 : gA σ 0 (8 * x + q) < 0
          · rw [if_neg n1, if_neg (by rw [Int32.not_le]; exact n2), cali_s, if_pos (by decide), if_pos (far (Or.inr n2)), ite_self]
            exact same
          rw [if_neg n1, if_pos (by rw [← Int32.not_lt]; exact n2), cali_s]
          rcases e3 (8 * x + p) (by omega) with ⟨y0, _⟩ | ⟨d, s1, d2, s2, hd1, hs1, hd2, hs2, ⟨y0, z0⟩, _⟩
          · exact absurd (show gA σ 0 (8 * x + p) < 0 by rw [y0]; decide) n1
          rcases e3 (8 * x + q) (by omega) with ⟨y0', _⟩ | ⟨d', s1', d2', s2', hd1', hs1', hd2', hs2', ⟨y0', z0'⟩, _⟩
          · exact absurd (show gA σ 0 (8 * x + q) < 0 by rw [y0']; decide) n2
          rw [y0, y0', z0, z0', w10, na_add, if_neg (nI_nneg (by omega)), FX, cali_s]
          by_cases ten : S = 10
          · rw [if_pos ten, if_pos ten]
            have new := ih (x + 1) fu fu' (nI x) (nI (10 * (d + d'))) (nI x) (nI (d + d')) (by omega) (by omega) (by omega) (Or.inr ⟨x, d + d', by omega, by omega, rfl, rfl, rfl, rfl⟩)
            rcases I with ⟨rfl, rfl, rfl, rfl⟩ | ⟨pp, ss, hpp, hs, rfl, rfl, rfl, rfl⟩
            · rw [if_pos rfl, if_neg (by rw [nI_le_iff (by omega) (by omega)]; omega)]
              exact new
            · rw [if_neg (nI_nm9 (by omega))]
              by_cases le : ss ≤ d + d'
              · rw [if_pos (by rw [nI_le_iff (by omega) (by omega)]; omega), if_pos (by rw [nI_le_iff (by omega) (by omega)]; omega)]
                exact same
              · rw [if_neg (by rw [nI_le_iff (by omega) (by omega)]; omega), if_neg (by rw [nI_le_iff (by omega) (by omega)]; omega)]
                exact new
          · rw [if_neg ten, if_neg ten]
            exact same
      have J : (fX5_onFoot_J38 (nI p) (nI q) c τ) = fX5_onFoot_L53 (fun x3_22 x4_23 x5_24 σ_25 => (if x4_23 = (-9) then some ((-9), σ_25) else (if x3_22 = 0 then some (x4_23, σ_25) else some ((10 * x5_24), σ_25)))) FU (nI p) (nI q) c (-9) 100000 (nI 0) τ' := by
        unfold fX5_onFoot_J38
        rw [e1, calv_s]
        simp only [bnd_ap]
        rfl
      have body : ∃ (r : Int32) (σ' τ'' : ST), (bnd ((-9) : Int32) (fun x4_9 => bnd ((-9) : Int32) (fun x5_10 => bnd (0 : Int32) (fun x6_11 => fX4_onFoot_L49 (fun x3_26 x4_27 x5_28 σ_29 => (if x3_26 = 0 then some (x4_27, σ_29) else some (x5_28, σ_29))) FU (nI p) (nI q) c x4_9 x5_10 x6_11 σ)))) = some (r, σ') ∧ fX5_onFoot_J38 (nI p) (nI q) c τ = some (r, τ'') ∧ Rl σ' τ'' := by
        rw [J]
        simp only [bnd_ap]
        obtain ⟨u, v, w, z, I, y1, y2⟩ := loop (fun x3_26 x4_27 x5_28 σ_29 => (if x3_26 = 0 then some (x4_27, σ_29) else some (x5_28, σ_29))) (fun x3_22 x4_23 x5_24 σ_25 => (if x4_23 = (-9) then some ((-9), σ_25) else (if x3_22 = 0 then some (x4_23, σ_25) else some ((10 * x5_24), σ_25)))) (A.1 0) 0 FU FU (-9) (-9) (-9) 100000 (by omega) (by rw [FU_eq]; omega) (by rw [FU_eq]; omega) (Or.inl ⟨rfl, rfl, rfl, rfl⟩)
        rw [show (0 : Int32) = nI 0 from rfl] at y1 ⊢
        rw [y1]
        rw [show (0 : Int32) = nI 0 from rfl] at y2
        rw [y2]
        rcases I with ⟨rfl, rfl, rfl, rfl⟩ | ⟨pp, ss, hpp, hs, rfl, rfl, rfl, rfl⟩
        · rw [if_pos rfl, ite_self]
          exact ⟨_, _, _, rfl, rfl, hR⟩
        · rw [if_neg (nI_nm9 (by omega)), l10, pk_mul]
          by_cases c0 : c = nI 0
          · rw [if_pos c0, if_pos c0]
            exact ⟨_, _, _, rfl, rfl, hR⟩
          · rw [if_neg c0, if_neg c0]
            exact ⟨_, _, _, rfl, rfl, hR⟩
      by_cases w0 : c = 0
      · subst w0
        rw [if_neg (by decide), if_pos (by decide), if_pos rfl]
        exact body
      · by_cases w1 : c = 1
        · subst w1
          rw [if_neg (by decide), if_pos (by decide), if_neg n10, if_pos rfl]
          exact body
        · rw [if_neg w0, if_neg w1]
          by_cases wn : c < 0
          · rw [if_pos wn]; exact ref_i h (-2) 2 rfl (by omega) (by omega)
          · rw [if_neg wn]
            obtain ⟨k, hk, rfl⟩ := na_of wn
            have k0 : k ≠ 0 := fun z => w0 (by rw [z]; rfl)
            have k1 : k ≠ 1 := fun z => w1 (by rw [z]; rfl)
            rw [if_neg (by rw [l1, nI_le_iff (by omega) (by omega)]; omega)]
            exact ref_i h (-2) 2 rfl (by omega) (by omega)
    · rw [j1, j2, cali_s, cali_s, if_pos rfl, if_neg n10]
      exact ref_i h (-1) 1 rfl (by omega) (by omega)
  · rw [i1, i2, cali_s, cali_s, if_pos rfl, if_neg n10]
    exact ref_i h (-1) 1 rfl (by omega) (by omega)
