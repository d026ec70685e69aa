theorem wmin_tset (A : TW) (p v a b : Nat) : wmin (tset A 1 p v) a b = wmin A a b := wfold_congr _ (fun i hi => ⟨rfl, rfl, rfl⟩)
theorem wlit_tset (A : TW) (p v a b : Nat) : wlit (tset A 1 p v) a b = wlit A a b := wfold_congr _ (fun i hi => ⟨rfl, rfl, rfl⟩)
theorem XT_tset {σ : ST} {A : TW} (xA : XT σ 3 6 A) {p v : Nat} (hp : p < A.1 0) : XT (sA σ 7 (upd (gA σ 7) p (nI v))) 3 6 (tset A 1 p v) := by
  obtain ⟨h1, h2, h3, h4⟩ := xA
  refine ⟨h1, ?_, h3, h4⟩
  intro i hi
  obtain ⟨e0, e1, e2⟩ := h2 i hi
  refine ⟨e0, ?_, e2⟩
  show upd (gA σ 7) p (nI v) i = nI (if 1 = 1 ∧ i = p then v else A.2 1 i)
  rw [upd_ap]
  by_cases q : i = p
  · rw [if_pos q, if_pos ⟨rfl, q⟩]
  · rw [if_neg q, if_neg (fun z => q z.2)]; exact e1
theorem MT_tset {w : Nat → Int32} {A : TW} (wA : WFT A) (mA : MT w A) {p v : Nat} (hp : p < A.1 0) : MT (upd w (10 + 3 * p + 1) (nI v)) (tset A 1 p v) := by
  have hP := wA.1.1
  obtain ⟨⟨a0, a1, a2, a3, a4, a5⟩, h2, h3, h4⟩ := mA
  have k : ∀ j, j ≠ 10 + 3 * p + 1 → upd w (10 + 3 * p + 1) (nI v) j = w j := fun j hj => by rw [upd_ap, if_neg hj]
  refine ⟨⟨(k 0 (by omega)).trans a0, (k 1 (by omega)).trans a1, (k 2 (by omega)).trans a2, (k 3 (by omega)).trans a3, (k 4 (by omega)).trans a4, (k 5 (by omega)).trans a5⟩, ?_, ?_, ?_⟩
  · intro i hi
    have hi : i < A.1 0 := hi
    obtain ⟨e0, e1, e2⟩ := h2 i hi
    refine ⟨(k _ (by omega)).trans e0, ?_, (k _ (by omega)).trans e2⟩
    show upd w (10 + 3 * p + 1) (nI v) (10 + 3 * i + 1) = nI (if 1 = 1 ∧ i = p then v else A.2 1 i)
    by_cases q : i = p
    · rw [if_pos ⟨rfl, q⟩, q, upd_ap, if_pos rfl]
    · rw [if_neg (fun z => q z.2), k _ (by omega)]; exact e1
  · intro i hi
    have hE := wA.1.2.2.1
    have hi : i < A.1 2 := hi
    obtain ⟨e0, e1, e2, e3⟩ := h3 i hi
    exact ⟨(k _ (by omega)).trans e0, (k _ (by omega)).trans e1, (k _ (by omega)).trans e2, (k _ (by omega)).trans e3⟩
  · intro a b ha hb
    obtain ⟨e0, e1⟩ := h4 a b ha hb
    rw [wmin_tset, wlit_tset]
    exact ⟨(k _ (by omega)).trans e0, (k _ (by omega)).trans e1⟩
theorem WFT_tset {A : TW} (wA : WFT A) {p v : Nat} (hv : v ≤ 9) : WFT (tset A 1 p v) := by
  obtain ⟨h1, h2, h3, h4, h5⟩ := wA
  refine ⟨h1, ?_, h3, h4, h5⟩
  intro i hi
  obtain ⟨e0, e1, e2⟩ := h2 i hi
  refine ⟨e0, ?_, e2⟩
  show (if 1 = 1 ∧ i = p then v else A.2 1 i) ≤ 9
  split
  · exact hv
  · exact e1
/-- the ways alone decide the tables -/
theorem ktab_congr {A B : TW} (h0 : A.1 0 = B.1 0) (hd : ∀ t a b, dir0 A t a b = dir0 B t a b) (i : Nat) : ∀ n, ktab A i n = ktab B i n := by
  have hds : ∀ t, dst A t = dst B t := by
    intro t
    unfold dst
    rw [h0]
    congr 1
    funext j
    exact hd t _ _
  intro n
  induction n with
  | zero => rfl
  | succ n ih => unfold ktab; rw [ih, hds]
theorem sim_slope (a v : Int32) : SIMi Rl (fX4_slope a v) (fX5_slope a v) := by
  intro σ τ h
  obtain ⟨g1, g2, g3, ⟨A, wA, xA, mA, lA⟩, g5, ⟨m5, m6, m7, m14⟩, gm⟩ := id h
  have hP := wA.1.1
  unfold fX4_slope fX5_slope
  rcases isP wA xA mA a with ⟨p, hp, rfl, i1, i2⟩ | ⟨i1, i2⟩
  · rw [i1, i2]
    simp only [cali_s, if_neg n10, if_true]
    unfold fX5_change
    by_cases q0 : 0 ≤ v
    · simp only [if_pos q0]
      by_cases q1 : v ≤ 9
      · simp only [if_pos q1]
        obtain ⟨k, hk, rfl⟩ := nge0 q0
        have hk2 : k ≤ 9 := by rw [l9, nI_le_iff (by omega) (by omega)] at q1; exact q1
        have x1 : gA σ 7 p = nI (A.2 1 p) := (xA.2.1 p hp).2.1
        have e1 := (mA.2.1 p hp).2.1
        rw [ix31, ald_n (by omega) (by omega), ald_n (by omega) (by omega), x1, e1]
        simp only [bnd_ap]
        rw [ast_n (by omega) (by omega), ast_n (by omega) (by omega)]
        simp only [cali_s]
        refine ⟨_, _, _, rfl, rfl, g1, g2, g3, ⟨tset A 1 p k, WFT_tset wA hk2, XT_tset xA hp, MT_tset wA mA hp, ?_⟩, g5, ⟨m5, m6, m7, m14⟩, gm⟩
        rcases lA with l | l
        · exact Or.inl l
        · right
          intro i hi
          rw [← ktab_congr (A := A) (B := tset A 1 p k) rfl (fun t a b => by unfold dir0; rw [wmin_tset, wlit_tset]) i 10]
          exact l i hi
      · simp only [if_neg q1]
        rw [show cali (cali (fX5_no (-6) τ) fun r_5 σ_4 => some (r_5, σ_4)) (fun r_4 σ_3 => some (r_4, σ_3)) = cali (fX5_no (-6) τ) fun r_5 σ_4 => some (r_5, σ_4) from by rw [nom 6 (-6) rfl (by omega)]; rfl]
        exact ref_i h (-6) 6 rfl (by omega) (by omega)
    · simp only [if_neg q0]
      rw [show cali (cali (fX5_no (-4) τ) fun r_5 σ_4 => some (r_5, σ_4)) (fun r_4 σ_3 => some (r_4, σ_3)) = cali (fX5_no (-4) τ) fun r_5 σ_4 => some (r_5, σ_4) from by rw [nom 4 (-4) rfl (by omega)]; rfl]
      exact ref_i h (-4) 4 rfl (by omega) (by omega)
  · rw [i1, i2]
    simp only [cali_s, if_neg n10, if_true]
    exact ref_i h (-1) 1 rfl (by omega) (by omega)
theorem ix4w (p : Nat) (w : Nat) : ((40 + 4 * nI p) + nI w) = nI (40 + 4 * p + w) := ix4 p w
theorem sim_errand (a w : Int32) : SIMi Rl (fX4_errand a w) (fX5_errand a w) := by
  intro σ τ h
  obtain ⟨g1, g2, g3, ⟨A, wA, xA, mA, lA⟩, g5, g6⟩ := id h
  have hE := wA.1.2.2.1
  have x2 : gI σ 5 = nI (A.1 2) := xA.1.2.2.1
  have e2 : gA τ 1 2 = nI (A.1 2) := mA.1.2.2.1
  unfold fX4_errand fX5_errand
  by_cases q : a < 0
  · simp only [if_pos q]
    exact ref_i h (-1) 1 rfl (by omega) (by omega)
  · simp only [if_neg q]
    obtain ⟨p, hp, rfl⟩ := na_of q
    rw [ald_e (j := 2) (show (2 : Int32) = nI 2 from rfl) (by omega) (by omega), x2, e2]
    by_cases q1 : p < A.1 2
    · have q2 : nI p < nI (A.1 2) := by rw [nI_lt_iff (by omega) (by omega)]; exact q1
      simp only [if_pos q2]
      obtain ⟨y0, y1, y2, y3⟩ := xA.2.2.2 p q1
      obtain ⟨z0, z1, z2, z3⟩ := mA.2.2.1 p q1
      have y0 : gA σ 13 p = nI (A.2 7 p) := y0
      have y1 : gA σ 14 p = nI (A.2 8 p) := y1
      have y2 : gA σ 15 p = nI (A.2 9 p) := y2
      have y3 : gA σ 16 p = nI (A.2 10 p) := y3
      by_cases w0 : w < 0
      · have k0 : ¬ w = 0 := fun z => by rw [z] at w0; exact absurd w0 (by decide)
        have k1 : ¬ w = 1 := fun z => by rw [z] at w0; exact absurd w0 (by decide)
        have k2 : ¬ w = 2 := fun z => by rw [z] at w0; exact absurd w0 (by decide)
        have k3 : ¬ w = 3 := fun z => by rw [z] at w0; exact absurd w0 (by decide)
        simp only [if_pos w0, if_neg k0, if_neg k1, if_neg k2, if_neg k3]
        exact ref_i h (-2) 2 rfl (by omega) (by omega)
      · simp only [if_neg w0]
        obtain ⟨k, hk, rfl⟩ := na_of w0
        by_cases w1 : k ≤ 3
        · have w2 : nI k ≤ 3 := by rw [l3, nI_le_iff (by omega) (by omega)]; exact w1
          simp only [if_pos w2]
          rw [ix4]
          rcases (show k = 0 ∨ k = 1 ∨ k = 2 ∨ k = 3 by omega) with rfl | rfl | rfl | rfl
          · rw [if_pos (show nI 0 = 0 from rfl), ald_n (by omega) (by omega), ald_n (by omega) (by omega), y0, Nat.add_zero, z0]
            exact ⟨_, _, _, rfl, rfl, h⟩
          · rw [if_neg (show ¬ nI 1 = 0 by decide), if_pos (show nI 1 = 1 from rfl), ald_n (by omega) (by omega), ald_n (by omega) (by omega), y1, z1]
            exact ⟨_, _, _, rfl, rfl, h⟩
          · rw [if_neg (show ¬ nI 2 = 0 by decide), if_neg (show ¬ nI 2 = 1 by decide), if_pos (show nI 2 = 2 from rfl), ald_n (by omega) (by omega), ald_n (by omega) (by omega), y2, z2]
            exact ⟨_, _, _, rfl, rfl, h⟩
          · rw [if_neg (show ¬ nI 3 = 0 by decide), if_neg (show ¬ nI 3 = 1 by decide), if_neg (show ¬ nI 3 = 2 by decide), if_pos (show nI 3 = 3 from rfl), ald_n (by omega) (by omega), ald_n (by omega) (by omega), y3, z3]
            exact ⟨_, _, _, rfl, rfl, h⟩
        · have w2 : ¬ nI k ≤ 3 := by rw [l3, nI_le_iff (by omega) (by omega)]; exact w1
          have k0 : ¬ nI k = 0 := by rw [l0, nI_eq_iff (by omega) (by omega)]; omega
          have k1 : ¬ nI k = 1 := by rw [l1, nI_eq_iff (by omega) (by omega)]; omega
          have k2 : ¬ nI k = 2 := by rw [l2, nI_eq_iff (by omega) (by omega)]; omega
          have k3 : ¬ nI k = 3 := by rw [l3, nI_eq_iff (by omega) (by omega)]; omega
          simp only [if_neg w2, if_neg k0, if_neg k1, if_neg k2, if_neg k3]
          exact ref_i h (-2) 2 rfl (by omega) (by omega)
    · have q2 : ¬ nI p < nI (A.1 2) := by rw [nI_lt_iff (by omega) (by omega)]; exact q1
      simp only [if_neg q2]
      exact ref_i h (-1) 1 rfl (by omega) (by omega)
theorem wmin_set {A : TW} {j u a b : Nat} (hj : 1 ≠ 3 + j) : wmin ((fun i => if i = 3 + j then u else A.1 i), A.2) a b = wmin A a b := by
  unfold wmin
  show wfold _ 5 a b (if 1 = 3 + j then u else A.1 1) = _
  rw [if_neg hj]
  exact wfold_congr _ (fun i hi => ⟨rfl, rfl, rfl⟩)
theorem wlit_set {A : TW} {j u a b : Nat} (hj : 1 ≠ 3 + j) : wlit ((fun i => if i = 3 + j then u else A.1 i), A.2) a b = wlit A a b := by
  unfold wlit
  show wfold _ 6 a b (if 1 = 3 + j then u else A.1 1) = _
  rw [if_neg hj]
  exact wfold_congr _ (fun i hi => ⟨rfl, rfl, rfl⟩)
theorem WFT_set {A : TW} (wA : WFT A) {j u : Nat} (hj : j < 3) (h0 : j = 0 → u ≤ 9) (h1 : j = 1 → u ≤ 60) (h2 : j = 2 → u ≤ 5) : WFT ((fun i => if i = 3 + j then u else A.1 i), A.2) := by
  obtain ⟨⟨b0, b1, b2, b3, b4, b5⟩, w2, w3, w4, w5⟩ := wA
  have f0 : (if 0 = 3 + j then u else A.1 0) = A.1 0 := if_neg (by omega)
  have f1 : (if 1 = 3 + j then u else A.1 1) = A.1 1 := if_neg (by omega)
  have f2 : (if 2 = 3 + j then u else A.1 2) = A.1 2 := if_neg (by omega)
  unfold WFT
  dsimp only
  rw [f0, f1, f2]
  refine ⟨⟨b0, b1, b2, ?_, ?_, ?_⟩, w2, w3, w4, w5⟩
  · split
    · exact h0 (by omega)
    · exact b3
  · split
    · exact h1 (by omega)
    · exact b4
  · split
    · exact h2 (by omega)
    · exact b5
theorem sim_set (w v : Int32) : SIMi Rl (fX4_set w v) (fX5_set w v) := by
  intro σ τ h
  obtain ⟨g1, g2, g3, ⟨A, wA, xA, mA, lA⟩, g5, g6⟩ := id h
  unfold fX4_set fX5_set
  by_cases q : w < 0
  · simp only [if_pos q]
    exact ref_i h (-2) 2 rfl (by omega) (by omega)
  simp only [if_neg q]
  obtain ⟨k, hk, rfl⟩ := na_of q
  by_cases q2 : k ≤ 2
  · have q3 : nI k ≤ 2 := by rw [l2, nI_le_iff (by omega) (by omega)]; exact q2
    simp only [if_pos q3]
    obtain ⟨⟨x0, x1, x2, x3, x4, x5⟩, xr⟩ := id xA
    obtain ⟨⟨m0, m1, m2, m3, m4, m5⟩, mr⟩ := id mA
    have nn : ∀ c : Int32, ∀ j : Nat, -c = nI j → j < 7 → cali (cali (fX5_no c τ) fun r_5 σ_4 => some (r_5, σ_4)) (fun r_4 σ_3 => some (r_4, σ_3)) = cali (fX5_no c τ) fun r_5 σ_4 => some (r_5, σ_4) := fun c j e hj => by rw [nom j c e hj]; rfl
    have key : ∀ (j M : Nat), j < 3 → nI k = nI j → (∀ u, u ≤ M → WFT ((fun i => if i = 3 + j then u else A.1 i), A.2)) → M < 100 → ∃ (r : Int32) (σ' τ' : ST), (if 0 ≤ v then if v ≤ nI M then some (gI σ (6 + j), sI σ (6 + j) v) else cali (fX4_refuse (-6) σ) fun r_12 σ_11 => some (r_12, σ_11) else cali (fX4_refuse (-4) σ) fun r_14 σ_13 => some (r_14, σ_13)) = some (r, σ') ∧ cali (fX5_change (3 + nI k) v (nI M) τ) (fun r_8 σ_7 => some (r_8, σ_7)) = some (r, τ') ∧ Rl σ' τ' := by
      intro j M hj hkj hW hM
      rw [hkj]
      unfold fX5_change
      by_cases p0 : 0 ≤ v
      · simp only [if_pos p0]
        by_cases p1 : v ≤ nI M
        · simp only [if_pos p1]
          obtain ⟨u, hu, rfl⟩ := nge0 p0
          have hu2 : u ≤ M := by rw [nI_le_iff (by omega) (by omega)] at p1; exact p1
          rw [show (3 : Int32) + nI j = nI (3 + j) from by rw [l3, na_add], ald_n (by omega) (by omega)]
          simp only [bnd_ap]
          rw [ast_n (by omega) (by omega)]
          simp only [cali_s]
          have e : gI σ (6 + j) = gA τ 1 (3 + j) := by
            rcases (show j = 0 ∨ j = 1 ∨ j = 2 by omega) with rfl | rfl | rfl
            · exact x3.trans m3.symm
            · exact x4.trans m4.symm
            · exact x5.trans m5.symm
          rw [e]
          refine ⟨_, _, _, rfl, rfl, ?_⟩
          have hx : ∀ i, i ≠ 6 + j → gI (sI σ (6 + j) (nI u)) i = gI σ i := fun i hi => by rw [gI_sI, if_neg hi]
          have hm : ∀ i, i ≠ 3 + j → upd (gA τ 1) (3 + j) (nI u) i = gA τ 1 i := fun i hi => by rw [upd_ap, if_neg hi]
          have hP := wA.1.1
          have hE := wA.1.2.2.1
          obtain ⟨L, hL, r1, r2, r3⟩ := g2
          obtain ⟨n, hn, t1, t2, t3⟩ := g3
          obtain ⟨i1, i2⟩ := g5
          refine ⟨g1, ⟨L, hL, (hx 0 (by omega)).trans r1, r2, r3⟩, ⟨n, hn, (hx 2 (by omega)).trans t1, t2, t3⟩, ⟨((fun i => if i = 3 + j then u else A.1 i), A.2), hW u hu2, ?_, ?_, ?_⟩, ⟨(hx 1 (by omega)).trans i1, ?_⟩, g6⟩
          · refine ⟨⟨?_, ?_, ?_, ?_, ?_, ?_⟩, ?_, ?_, ?_⟩
            · show _ = nI (if 0 = 3 + j then u else A.1 0)
              rw [if_neg (by omega), hx 3 (by omega)]; exact x0
            · show _ = nI (if 1 = 3 + j then u else A.1 1)
              rw [if_neg (by omega), hx (3 + 1) (by omega)]; exact x1
            · show _ = nI (if 2 = 3 + j then u else A.1 2)
              rw [if_neg (by omega), hx (3 + 2) (by omega)]; exact x2
            · show _ = nI (if 3 = 3 + j then u else A.1 3)
              by_cases z : j = 0
              · subst z; rfl
              · rw [if_neg (by omega), hx (3 + 3) (by omega)]; exact x3
            · show _ = nI (if 4 = 3 + j then u else A.1 4)
              by_cases z : j = 1
              · subst z; rfl
              · rw [if_neg (by omega), hx (3 + 4) (by omega)]; exact x4
            · show _ = nI (if 5 = 3 + j then u else A.1 5)
              by_cases z : j = 2
              · subst z; rfl
              · rw [if_neg (by omega), hx (3 + 5) (by omega)]; exact x5
            · intro i hi
              have hi : i < (if 0 = 3 + j then u else A.1 0) := hi
              rw [if_neg (by omega)] at hi
              exact xr.1 i hi
            · intro i hi
              have hi : i < (if 1 = 3 + j then u else A.1 1) := hi
              rw [if_neg (by omega)] at hi
              exact xr.2.1 i hi
            · intro i hi
              have hi : i < (if 2 = 3 + j then u else A.1 2) := hi
              rw [if_neg (by omega)] at hi
              exact xr.2.2 i hi
          · show MT (upd (gA τ 1) (3 + j) (nI u)) _
            refine ⟨⟨?_, ?_, ?_, ?_, ?_, ?_⟩, ?_, ?_, ?_⟩
            · show _ = nI (if 0 = 3 + j then u else A.1 0)
              rw [if_neg (by omega), hm 0 (by omega)]; exact m0
            · show _ = nI (if 1 = 3 + j then u else A.1 1)
              rw [if_neg (by omega), hm 1 (by omega)]; exact m1
            · show _ = nI (if 2 = 3 + j then u else A.1 2)
              rw [if_neg (by omega), hm 2 (by omega)]; exact m2
            · show _ = nI (if 3 = 3 + j then u else A.1 3)
              by_cases z : j = 0
              · subst z; rfl
              · rw [if_neg (by omega), hm 3 (by omega)]; exact m3
            · show _ = nI (if 4 = 3 + j then u else A.1 4)
              by_cases z : j = 1
              · subst z; rfl
              · rw [if_neg (by omega), hm 4 (by omega)]; exact m4
            · show _ = nI (if 5 = 3 + j then u else A.1 5)
              by_cases z : j = 2
              · subst z; rfl
              · rw [if_neg (by omega), hm 5 (by omega)]; exact m5
            · intro i hi
              have hi : i < (if 0 = 3 + j then u else A.1 0) := hi
              rw [if_neg (by omega)] at hi
              obtain ⟨y0, y1, y2⟩ := mr.1 i hi
              exact ⟨(hm _ (by omega)).trans y0, (hm _ (by omega)).trans y1, (hm _ (by omega)).trans y2⟩
            · intro i hi
              have hi : i < (if 2 = 3 + j then u else A.1 2) := hi
              rw [if_neg (by omega)] at hi
              obtain ⟨y0, y1, y2, y3⟩ := mr.2.1 i hi
              exact ⟨(hm _ (by omega)).trans y0, (hm _ (by omega)).trans y1, (hm _ (by omega)).trans y2, (hm _ (by omega)).trans y3⟩
            · intro a b ha hb
              obtain ⟨y0, y1⟩ := mr.2.2 a b ha hb
              rw [wmin_set (by omega), wlit_set (by omega)]
              exact ⟨(hm _ (by omega)).trans y0, (hm _ (by omega)).trans y1⟩
          · rcases lA with l | l
            · left
              show (if 0 = 3 + j then u else A.1 0) = 0
              rw [if_neg (by omega)]; exact l
            · right
              intro i hi
              rw [← ktab_congr (A := A) (B := ((fun i => if i = 3 + j then u else A.1 i), A.2)) (by show _ = (if 0 = 3 + j then u else A.1 0); rw [if_neg (by omega)]) (fun t a b => by unfold dir0; rw [wmin_set (by omega), wlit_set (by omega)]) i 10]
              exact l i hi
          · rw [hx 1 (by omega)]
            rcases i2 with i2 | ⟨i2, B, wB, xB, mB⟩
            · exact Or.inl i2
            · exact Or.inr ⟨i2, B, wB, XT_c xB (fun k hk => hx _ (by omega)) (fun k hk => rfl), mB⟩
        · simp only [if_neg p1]
          rw [nn (-6) 6 rfl (by omega)]
          exact ref_i h (-6) 6 rfl (by omega) (by omega)
      · simp only [if_neg p0]
        rw [nn (-4) 4 rfl (by omega)]
        exact ref_i h (-4) 4 rfl (by omega) (by omega)
    unfold fX4_mostOfSetting fX4_settingOf
    rcases (show k = 0 ∨ k = 1 ∨ k = 2 by omega) with rfl | rfl | rfl
    · simp only [if_pos (show nI 0 = 0 from rfl), cali_s, bnd_ap]
      exact key 0 9 (by omega) rfl (fun u hu => WFT_set wA (by omega) (fun _ => hu) (fun z => absurd z (by omega)) (fun z => absurd z (by omega))) (by omega)
    · simp only [if_neg (show ¬ nI 1 = 0 by decide), if_pos (show nI 1 = 1 from rfl), cali_s, bnd_ap]
      exact key 1 60 (by omega) rfl (fun u hu => WFT_set wA (by omega) (fun z => absurd z (by omega)) (fun _ => hu) (fun z => absurd z (by omega))) (by omega)
    · simp only [if_neg (show ¬ nI 2 = 0 by decide), if_neg (show ¬ nI 2 = 1 by decide), cali_s, bnd_ap]
      exact key 2 5 (by omega) rfl (fun u hu => WFT_set wA (by omega) (fun z => absurd z (by omega)) (fun z => absurd z (by omega)) (fun _ => hu)) (by omega)
  · have q3 : ¬ nI k ≤ 2 := by rw [l2, nI_le_iff (by omega) (by omega)]; exact q2
    simp only [if_neg q3]
    exact ref_i h (-2) 2 rfl (by omega) (by omega)
