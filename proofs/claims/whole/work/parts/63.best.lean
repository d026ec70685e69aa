/-! ===== the best order on both sides ===== -/
def bX (σ σ' : ST) : Prop := (∀ k, k < 21 ∨ k = 23 ∨ k = 24 → gI σ' k = gI σ k) ∧ (∀ k, k ≠ 41 → k ≠ 42 → k ≠ 44 → k ≠ 45 → gA σ' k = gA σ k)
def bM (τ τ' : ST) : Prop := (∀ k, k < 8 ∨ k = 14 ∨ k = 17 → gI τ' k = gI τ k) ∧ (∀ k, k ≠ 12 → k ≠ 14 → gA τ' k = gA τ k)
theorem bX.tr {a b c : ST} (h : bX a b) (g : bX b c) : bX a c := ⟨fun k q => (g.1 k q).trans (h.1 k q), fun k q1 q2 q3 q4 => (g.2 k q1 q2 q3 q4).trans (h.2 k q1 q2 q3 q4)⟩
theorem bM.tr {a b c : ST} (h : bM a b) (g : bM b c) : bM a c := ⟨fun k q => (g.1 k q).trans (h.1 k q), fun k q1 q2 => (g.2 k q1 q2).trans (h.2 k q1 q2)⟩
theorem tX.bX {a b : ST} (h : tX a b) : bX a b := ⟨fun k _ => h.1 k, fun k _ _ q _ => h.2.2 k q⟩
theorem tM.bM {a b : ST} (h : tM a b) : bM a b := ⟨fun k _ => h.1 k, fun k q _ => h.2.2 k q⟩
theorem bX.xS {a b : ST} (h : bX a b) : xS a b := ⟨fun k hk => h.1 k (by omega), fun k hk => h.2 k (by omega) (by omega) (by omega) (by omega)⟩
theorem bM.mS {a b : ST} (h : bM a b) : mS a b := ⟨fun k hk => h.1 k (by omega), fun k hk => h.2 k (by omega) (by omega)⟩
theorem cF.bX {a b : ST} (h : cF a b) : bX a b := ⟨fun k q => h.1 k q, fun k q1 q2 _ _ => h.2 k q1 q2⟩
/-- the identity as an order -/
theorem fillX {n : Nat} (hn : n ≤ 5) (ke : Int32 → Int32 → ST → Option ST) (x1 : Int32) : ∀ (j i fu : Nat) (σ : ST), i + j = n → j < fu → (∀ q, q < i → gA σ 44 q = nI q) → ∃ σ', fX4_goByBest_L10 ke fu x1 (nI n) (nI i) σ = ke x1 (nI n) σ' ∧ (∀ q, q < n → gA σ' 44 q = nI q) ∧ tX σ σ' := by
  intro j
  induction j with
  | zero =>
    intro i fu σ h1 h2 h3
    obtain ⟨fu, rfl⟩ : ∃ f, fu = f + 1 := ⟨fu - 1, by omega⟩
    refine ⟨σ, ?_, fun q hq => h3 q (by omega), fun _ => rfl, fun _ => rfl, fun _ _ => rfl⟩
    rw [fX4_goByBest_L10, if_pos (by rw [nI_le_iff (by omega) (by omega)]; omega)]
  | succ j ih =>
    intro i fu σ h1 h2 h3
    obtain ⟨fu, rfl⟩ : ∃ f, fu = f + 1 := ⟨fu - 1, by omega⟩
    obtain ⟨σ', u1, u2, u3⟩ := ih (i + 1) fu (sA σ 44 (upd (gA σ 44) i (nI i))) (by omega) (by omega) (by
      intro q hq
      rw [gA_sA, if_pos rfl, upd_ap]
      by_cases e : q = i
      · rw [if_pos e, e]
      · rw [if_neg e]; exact h3 q (by omega))
    refine ⟨σ', ?_, u2, fun k => u3.1 k, fun k => u3.2.1 k, fun k hk => by rw [u3.2.2 k hk, gA_sA, if_neg hk]⟩
    rw [fX4_goByBest_L10, if_neg (by rw [nI_le_iff (by omega) (by omega)]; omega), ast_n (by omega) (by omega), bnd_ap, show nI i + 1 = nI (i + 1) from by rw [l1, na_add]]
    exact u1
theorem fillM {n : Nat} (hn : n ≤ 5) (ke : Int32 → ST → Option ST) (x1 : Int32) : ∀ (j i fu : Nat) (σ : ST), gI σ 8 = nI n → i + j = n → j < fu → (∀ q, q < i → gA σ 12 q = nI q) → ∃ σ', fX5_seekBest_L16 ke fu x1 (nI i) σ = ke x1 σ' ∧ (∀ q, q < n → gA σ' 12 q = nI q) ∧ tM σ σ' := by
  intro j
  induction j with
  | zero =>
    intro i fu σ e8 h1 h2 h3
    obtain ⟨fu, rfl⟩ : ∃ f, fu = f + 1 := ⟨fu - 1, by omega⟩
    refine ⟨σ, ?_, fun q hq => h3 q (by omega), fun _ => rfl, fun _ => rfl, fun _ _ => rfl⟩
    rw [fX5_seekBest_L16, if_pos (by rw [e8, nI_le_iff (by omega) (by omega)]; omega)]
  | succ j ih =>
    intro i fu σ e8 h1 h2 h3
    obtain ⟨fu, rfl⟩ : ∃ f, fu = f + 1 := ⟨fu - 1, by omega⟩
    obtain ⟨σ', u1, u2, u3⟩ := ih (i + 1) fu (sA σ 12 (upd (gA σ 12) i (nI i))) e8 (by omega) (by omega) (by
      intro q hq
      rw [gA_sA, if_pos rfl, upd_ap]
      by_cases e : q = i
      · rw [if_pos e, e]
      · rw [if_neg e]; exact h3 q (by omega))
    refine ⟨σ', ?_, u2, fun k => u3.1 k, fun k => u3.2.1 k, fun k hk => by rw [u3.2.2 k hk, gA_sA, if_neg hk]⟩
    rw [fX5_seekBest_L16, if_neg (by rw [e8, nI_le_iff (by omega) (by omega)]; omega), ast_n (by omega) (by omega), bnd_ap, show nI i + 1 = nI (i + 1) from by rw [l1, na_add]]
    exact u1
/-- the reference keeps the order as its best -/
theorem keepM {n : Nat} (hn : n ≤ 5) (ke : Int32 → Int32 → ST → Option ST) (x1 x2 : Int32) : ∀ (j i fu : Nat) (σ : ST), gI σ 8 = nI n → i + j = n → j < fu → (∀ q, q < i → gA σ 14 q = gA σ 12 q) → ∃ σ', fX5_seekBest_L150 ke fu x1 x2 (nI i) σ = ke x1 x2 σ' ∧ (∀ q, q < n → gA σ' 14 q = gA σ 12 q) ∧ (∀ k, gI σ' k = gI σ k) ∧ (∀ k, gL σ' k = gL σ k) ∧ (∀ k, k ≠ 14 → gA σ' k = gA σ k) := by
  intro j
  induction j with
  | zero =>
    intro i fu σ e8 h1 h2 h3
    obtain ⟨fu, rfl⟩ : ∃ f, fu = f + 1 := ⟨fu - 1, by omega⟩
    refine ⟨σ, ?_, fun q hq => h3 q (by omega), fun _ => rfl, fun _ => rfl, fun _ _ => rfl⟩
    rw [fX5_seekBest_L150, if_pos (by rw [e8, nI_le_iff (by omega) (by omega)]; omega)]
  | succ j ih =>
    intro i fu σ e8 h1 h2 h3
    obtain ⟨fu, rfl⟩ : ∃ f, fu = f + 1 := ⟨fu - 1, by omega⟩
    obtain ⟨σ', u1, u2, u3, u4, u5⟩ := ih (i + 1) fu (sA σ 14 (upd (gA σ 14) i (gA σ 12 i))) e8 (by omega) (by omega) (by
      intro q hq
      show upd (gA σ 14) i (gA σ 12 i) q = gA σ 12 q
      rw [upd_ap]
      by_cases e : q = i
      · rw [if_pos e, e]
      · rw [if_neg e]; exact h3 q (by omega))
    refine ⟨σ', ?_, fun q hq => (u2 q hq).trans (by rw [gA_sA, if_neg (by omega)]), fun k => u3 k, fun k => u4 k, fun k hk => by rw [u5 k hk, gA_sA, if_neg hk]⟩
    rw [fX5_seekBest_L150, if_neg (by rw [e8, nI_le_iff (by omega) (by omega)]; omega), ald_n (by omega) (by omega), ast_n (by omega) (by omega), bnd_ap, show nI i + 1 = nI (i + 1) from by rw [l1, na_add]]
    exact u1
/-- the class keeps it: a copy -/
theorem keepC (σ : ST) {n : Nat} (hn : n ≤ 5) : ∃ σ' : ST, (∀ k : ST → Option ST, cpy σ 44 5 0 45 5 0 (nI n) k = k σ') ∧ (∀ j, gI σ' j = gI σ j) ∧ (∀ j, gL σ' j = gL σ j) ∧ (∀ j, j ≠ 45 → gA σ' j = gA σ j) ∧ ∀ i, i < n → gA σ' 45 i = gA σ 44 i := by
  refine ⟨sA σ 45 (va_cpy (gA σ 44) (gA σ 45) 0 0 n), ?_, fun _ => rfl, fun _ => rfl, fun j hj => by rw [gA_sA, if_neg hj], fun i hi => by rw [gA_sA, if_pos rfl]; exact sb_cpy0 hi⟩
  intro k
  unfold cpy
  rw [show (0 : Int32) = nI 0 from rfl, nI_cl (by omega), nI_cl (by omega), if_neg]
  rintro (h | h | h | h | h)
  · exact nI_nneg (by omega) h
  · exact nI_nneg (by omega) h
  · exact nI_nneg (by omega) h
  · omega
  · omega
def rateB (w : Int32) (i : Int32) (a b : Int64) : Int64 := if w = 0 then Int32.toInt64 (-i) else if w = 1 then a else b
theorem ratX (w : Int32) (σ : ST) : fX4_ratingBy w σ = some (rateB w (gI σ 25) (gL σ 0) (gL σ 1), σ) := by
  unfold fX4_ratingBy rateB
  by_cases h : w = 0
  · rw [if_pos h, if_pos h]
  · rw [if_neg h, if_neg h]
    by_cases h : w = 1
    · rw [if_pos h, if_pos h]
    · rw [if_neg h, if_neg h]
theorem rat0 {m b : Nat} (hm : m ≤ 372000) (hb : b ≤ 372000) : lg_cmp (Int32.toInt64 (-(nI m))) (Int32.toInt64 (-(nI b))) ≤ 0 ↔ nI b ≤ nI m := by
  rw [lg_cmp_le, Int64.le_iff_toInt_le, Int32.toInt_toInt64, Int32.toInt_toInt64, Int32.toInt_neg, Int32.toInt_neg, nI_toInt (by omega), nI_toInt (by omega), nI_le_iff (by omega) (by omega), Int.bmod_eq_of_le (by omega) (by omega), Int.bmod_eq_of_le (by omega) (by omega)]
  omega
/-- what is kept as best: a run of the reference -/
def BRR (τ1 : ST) (D n : Nat) (w : Int32) (x3 : Int64) (σ τ : ST) : Prop := ∃ τb τb' : ST, bM τ1 τb ∧ gI τb 8 = nI n ∧ (∀ j, j < n → ∃ e, e < n ∧ gA σ 45 j = nI e ∧ gA τb 12 j = nI e) ∧ fX5_go (nI D) τb = some τb' ∧ (∃ m, m ≤ 372000 ∧ gI τb' 11 = nI m ∧ gI τ 18 = nI m) ∧ gL τ 2 = gL τb' 0 ∧ gL τ 3 = gL τb' 1 ∧ x3 = rateB w (gI τ 18) (gL τ 2) (gL τ 3) ∧ ∀ j, j < n → gA σ 45 j = gA τ 14 j
theorem BRR_c {τ1 : ST} {D n : Nat} {w : Int32} {x3 : Int64} {σ τ σ' τ' : ST} (h : BRR τ1 D n w x3 σ τ) (e1 : gA σ' 45 = gA σ 45) (e2 : gI τ' 18 = gI τ 18) (e3 : gL τ' 2 = gL τ 2) (e4 : gL τ' 3 = gL τ 3) (e5 : gA τ' 14 = gA τ 14) : BRR τ1 D n w x3 σ' τ' := by
  unfold BRR at h ⊢
  rw [e1, e2, e3, e4, e5]
  exact h
theorem BST {σ τ : ST} {A : TW} (wA : WFT A) (hP : 0 < A.1 0) (xA : XT σ 3 6 A) (mA : MT (gA τ 1) A) (l : LegX σ A) (m5 : gI τ 5 = 0) (m6 : gI τ 6 = 0) (m7 : gI τ 7 = -9) (w : Int32) : ∃ σ' τ' : ST, fX4_goByBest w σ = some σ' ∧ fX5_seekBest w τ = some τ' ∧ xS σ σ' ∧ mS τ τ' ∧ gI σ' 25 = gI τ' 18 ∧ gL σ' 0 = gL τ' 2 ∧ gL σ' 1 = gL τ' 3 ∧ ∀ j, j < A.1 2 → gA σ' 45 j = gA τ' 14 j := by
  have hE := wA.1.2.2.1
  have hD := wA.1.2.2.2.2.2
  obtain ⟨n, hn⟩ : ∃ z, z = A.1 2 := ⟨_, rfl⟩
  obtain ⟨D, dD⟩ : ∃ z, z = A.1 5 := ⟨_, rfl⟩
  obtain ⟨fa1, fa2⟩ := factN_le n
  obtain ⟨σa, a1, a2, a3⟩ := fillX (n := n) (by omega) (fun x1_5 x2_6 σ_7 => calv (fX3_supposeAsItIs σ_7) (fun σ_8 => bnd (0 : Int64) (fun x3_9 => bnd (1 : Int32) (fun x5_10 => bnd (0 : Int32) (fun x6_11 => fX4_goByBest_L43 (fun x2_26 σ_27 => calv (fX3_goBy_52 x2_26 σ_27) (fun σ_28 => some σ_28)) FU x1_5 x2_6 x3_9 x5_10 x6_11 σ_8))))) w n 0 FU σ (by omega) (by rw [FU_eq]; omega) (fun q hq => absurd hq (by omega))
  have xAa : XT σa 3 6 A := XT_c xA (fun k hk => a3.1 _) (fun k hk => a3.2.2 _ (by omega))
  obtain ⟨σ2, s1, s2, s3, s4, s5⟩ := SUP wA xAa
  obtain ⟨τ1, t1, t2, t3, t4, t5⟩ := legs_go2 (σ := σ2) wA hP mA (LegX_c l (fun k hk => (s2.2 k (by omega) (by omega)).trans (a3.2.2 k (by omega))))
  have mA1 := MT_f t2 mA
  have E := ENV_0 (τ := τ1) wA hP xAa mA1 t3 s2 s5 hD s3 s4 ((t2.1 5).trans m5) ((t2.1 6).trans m6) ((t2.1 7).trans m7)
  rw [← dD] at E
  obtain ⟨τ2, b1, b2, b3⟩ := fillM (n := n) (by omega) (fun x1_7 σ_8 => bnd (0 : Int32) (fun x2_9 => bnd (1 : Int32) (fun x3_10 => fX5_seekBest_L41 (fun σ_31 => some σ_31) FU x1_7 x2_9 x3_10 σ_8))) w n 0 FU (sI τ1 8 (nI n)) (by rw [gI_sI, if_pos rfl]) (by omega) (by rw [FU_eq]; omega) (fun q hq => absurd hq (by omega))
  have b4 : bM τ1 τ2 := ⟨fun k hk => by rw [b3.1 k, gI_sI, if_neg (by omega)], fun k q1 q2 => b3.2.2 k q1⟩
  have e82 : gI τ2 8 = nI n := by rw [b3.1 8, gI_sI, if_pos rfl]
  -- surroundings for any two states of the loop
  have EC : ∀ σc τc : ST, bX σ2 σc → bM τ1 τc → ENV σc (sI (sI τc 9 (nI D)) 10 (nI (A.1 4))) A A D (A.1 4) := by
    intro σc τc f g
    exact ENV_g E (fun k hk => f.1 k (by omega)) (fun k hk => f.2 k (by omega) (by omega) (by omega) (by omega)) (fun k hk => by
        rw [gI_sI, gI_sI, gI_sI, gI_sI]
        by_cases z : k = 10
        · rw [if_pos z, if_pos z]
        · rw [if_neg z, if_neg z]
          by_cases z : k = 9
          · rw [if_pos z, if_pos z]
          · rw [if_neg z, if_neg z]; exact g.1 k (by omega)) (fun k hk => g.2 k (by omega) (by omega))
  have loop : ∀ (ke : Int32 → ST → Option ST) (ke' : ST → Option ST) (j k fu fu' : Nat) (x3 : Int64) (σc τc : ST), k + j = factN n → j < fu → j < fu' → bX σ2 σc → bM τ1 τc → gI τc 8 = nI n → (0 < j → ARn σc 44 n (ordP n k) ∧ ARn τc 12 n (ordP n k)) → (k = 0 ∨ BRR τ1 D n w x3 σc τc) → ∃ σ' τ' : ST, fX4_goByBest_L43 ke fu w (nI n) x3 (if j = 0 then 0 else 1) (nI k) σc = ke (nI n) σ' ∧ fX5_seekBest_L41 ke' fu' w (if k = 0 then 0 else 1) (if j = 0 then 0 else 1) τc = ke' τ' ∧ bX σ2 σ' ∧ bM τ1 τ' ∧ ∃ x3', BRR τ1 D n w x3' σ' τ' := by
    intro ke ke' j
    induction j with
    | zero =>
      intro k fu fu' x3 σc τc hk h1 h2 f g e8 O B
      obtain ⟨fu, rfl⟩ : ∃ f, fu = f + 1 := ⟨fu - 1, by omega⟩
      obtain ⟨fu', rfl⟩ : ∃ f, fu' = f + 1 := ⟨fu' - 1, by omega⟩
      have B' : BRR τ1 D n w x3 σc τc := by rcases B with B | B; omega; exact B
      refine ⟨σc, τc, ?_, ?_, f, g, x3, B'⟩
      · rw [fX4_goByBest_L43, if_pos rfl, if_pos rfl, ite_self]
      · rw [fX5_seekBest_L41, if_pos rfl, if_pos rfl]
    | succ j ih =>
      intro k fu fu' x3 σc τc hk h1 h2 f g e8 O B
      obtain ⟨fu, rfl⟩ : ∃ f, fu = f + 1 := ⟨fu - 1, by omega⟩
      obtain ⟨fu', rfl⟩ : ∃ f, fu' = f + 1 := ⟨fu' - 1, by omega⟩
      obtain ⟨O1, O2⟩ := O (by omega)
      have pl := (ordC_all n (by omega) k (by omega)).2
      -- on to the next order, whatever is kept
      have NX : ∀ (σk τk : ST) (y3 : Int64), bX σ2 σk → bM τ1 τk → gI τk 8 = nI n → ARn σk 44 n (ordP n k) → ARn τk 12 n (ordP n k) → BRR τ1 D n w y3 σk τk → ∃ σ' τ' : ST, cali (fX4_turnToNextOrder (nI n) σk) (fun r s => bnd r (fun x5 => bnd (nI k + 1) (fun x6 => fX4_goByBest_L43 ke fu w (nI n) y3 x5 x6 s))) = ke (nI n) σ' ∧ cali (fX5_next τk) (fun r s => bnd r (fun x3 => fX5_seekBest_L41 ke' fu' w 1 x3 s)) = ke' τ' ∧ bX σ2 σ' ∧ bM τ1 τ' ∧ ∃ x3', BRR τ1 D n w x3' σ' τ' := by
        intro σk τk y3 fk gk ek P1 P2 BK
        have nx : nI k + 1 = nI (k + 1) := by rw [l1, na_add]
        rcases TNB (by omega) (by omega) P1 P2 ek with ⟨c0, c1, c2⟩ | ⟨c0, σn, τn, c1, c2, c3, c4, c5, c6⟩
        · obtain ⟨σ', τ', u1, u2, u3⟩ := ih (k + 1) fu fu' y3 σk τk (by omega) (by omega) (by omega) fk gk ek (fun z => absurd z (by omega)) (Or.inr BK)
          refine ⟨σ', τ', ?_, ?_, u3⟩
          · rw [c1, cali_s, bnd_ap, bnd_ap, nx]
            rw [if_pos (show j = 0 by omega)] at u1
            exact u1
          · rw [c2, cali_s, bnd_ap]
            rw [if_pos (show j = 0 by omega), if_neg (by omega)] at u2
            exact u2
        · obtain ⟨σ', τ', u1, u2, u3⟩ := ih (k + 1) fu fu' y3 σn τn (by omega) (by omega) (by omega) (fk.tr c5.bX) (gk.tr c6.bM) ((c6.1 8).trans ek) (fun _ => ⟨c3, c4⟩) (Or.inr (BRR_c BK (c5.2.2 45 (by omega)) (c6.1 18) (c6.2.1 2) (c6.2.1 3) (c6.2.2 14 (by omega))))
          refine ⟨σ', τ', ?_, ?_, u3⟩
          · rw [c1, cali_s, bnd_ap, bnd_ap, nx]
            rw [if_neg (show ¬ j = 0 by omega)] at u1
            exact u1
          · rw [c2, cali_s, bnd_ap]
            rw [if_neg (show ¬ j = 0 by omega), if_neg (by omega)] at u2
            exact u2
      obtain ⟨σ1, τ1', kk, m, c, u1, u2, u3, ⟨u4, u5⟩, u6, u7, u8, u9, u10, u11⟩ := GO_51L (n := n) (EC σc τc f g) (by omega) e8 (fun x hx => ⟨ordP n k x, by rw [← hn]; exact pl x hx, (O1 x hx).1, (O2 x hx).1⟩) (by rw [g.2 8 (by omega) (by omega)]; exact t4) (by rw [g.2 8 (by omega) (by omega)]; exact t5)
      have d5 : gA τc 1 5 = nI D := by rw [g.2 1 (by omega) (by omega), dD]; exact mA1.1.2.2.2.2.2
      have f1 : bX σ2 σ1 := f.tr u3.bX
      have g1 : bM τ1 τ1' := g.tr ⟨fun q hq => u4 q (by omega), fun q _ _ => u5 q⟩
      have e81 : gI τ1' 8 = nI n := (u4 8 (by omega)).trans e8
      have P1 : ARn σ1 44 n (ordP n k) := fun j hj => by rw [u3.2 44 (by omega) (by omega)]; exact O1 j hj
      have P2 : ARn τ1' 12 n (ordP n k) := fun j hj => by rw [u5 12]; exact O2 j hj
      have l0 : gL σ1 0 = gL τ1' 0 := u10.2.2.1.1.trans u10.2.2.1.2.1.symm
      have l1' : gL σ1 1 = gL τ1' 1 := u10.2.2.2.1
      -- the order is kept
      have KP : ∃ σ' τ' : ST, fX4_goByBest_J86 (fX4_goByBest_L43 ke fu) w (nI n) (nI k) (rateB w (gI σ1 25) (gL σ1 0) (gL σ1 1)) σ1 = ke (nI n) σ' ∧ (∀ x2 : Int32, fX5_seekBest_J114 (fX5_seekBest_L41 ke' fu') w x2 1 τ1' = ke' τ') ∧ bX σ2 σ' ∧ bM τ1 τ' ∧ ∃ x3', BRR τ1 D n w x3' σ' τ' := by
        obtain ⟨σk, k1, k2, k3, k4, k5⟩ := keepC σ1 (n := n) (by omega)
        obtain ⟨τd, td⟩ : ∃ z, z = sL (sL (sI τ1' 18 (gI τ1' 11)) 2 (gL τ1' 0)) 3 (gL τ1' 1) := ⟨_, rfl⟩
        obtain ⟨τk, q1, q2, q3, q4, q5⟩ := keepM (n := n) (by omega) (fun x1_25 x2_26 σ_27 => cali (fX5_next σ_27) (fun r_29 σ_28 => bnd (r_29 : Int32) (fun x3_30 => fX5_seekBest_L41 ke' fu' x1_25 x2_26 x3_30 σ_28))) w 1 n 0 FU τd (by rw [td]; exact e81) (by omega) (by rw [FU_eq]; omega) (fun q hq => absurd hq (by omega))
        have i18 : gI τk 18 = nI m := by
          rw [q3, td]
          show gI τ1' 11 = nI m
          exact u9
        have L2 : gL τk 2 = gL τ1' 0 := by rw [q4, td]; rfl
        have L3 : gL τk 3 = gL τ1' 1 := by rw [q4, td]; rfl
        obtain ⟨σ', τ', v1, v2, v3⟩ := NX σk τk (rateB w (gI σ1 25) (gL σ1 0) (gL σ1 1)) ⟨fun q hq => (k2 q).trans (f1.1 q hq), fun q a b c d => (k4 q d).trans (f1.2 q a b c d)⟩ ⟨fun q hq => by rw [q3, td, gI_sL, gI_sL, gI_sI, if_neg (by omega)]; exact g1.1 q hq, fun q a b => by rw [q5 q b, td]; exact g1.2 q a b⟩ (by rw [q3, td]; exact e81) (fun j hj => by rw [k4 44 (by omega)]; exact P1 j hj) (fun j hj => by rw [q5 12 (by omega), td]; exact P2 j hj) ⟨τc, τ1', g, e8, fun j hj => ⟨ordP n k j, pl j hj, by rw [k5 j hj]; exact (P1 j hj).1, (O2 j hj).1⟩, u2, ⟨m, u7, u9, i18⟩, L2, L3, by rw [i18, L2, L3, u8, l0, l1'], fun j hj => by
          rw [k5 j hj, q2 j hj, (P1 j hj).1, td]
          exact (P2 j hj).1.symm⟩
        refine ⟨σ', τ', ?_, ?_, v3⟩
        · unfold fX4_goByBest_J86
          rw [bnd_ap, k1]
          exact v1
        · intro x2
          unfold fX5_seekBest_J114
          rw [bnd_ap, if_neg n10, bnd_ap, bnd_ap, bnd_ap, bnd_ap, bnd_ap]
          rw [td] at q1
          exact q1.trans v2
      -- it is not kept
      have NK : ¬ k = 0 → ∃ σ' τ' : ST, cali (fX4_turnToNextOrder (nI n) σ1) (fun r s => bnd r (fun x5 => bnd (nI k + 1) (fun x6 => fX4_goByBest_L43 ke fu w (nI n) x3 x5 x6 s))) = ke (nI n) σ' ∧ fX5_seekBest_J114 (fX5_seekBest_L41 ke' fu') w 1 0 τ1' = ke' τ' ∧ bX σ2 σ' ∧ bM τ1 τ' ∧ ∃ x3', BRR τ1 D n w x3' σ' τ' := by
        intro k0
        have B' : BRR τ1 D n w x3 σc τc := by rcases B with B | B; exact absurd B k0; exact B
        obtain ⟨σ', τ', v1, v2, v3⟩ := NX σ1 τ1' x3 f1 g1 e81 P1 P2 (BRR_c B' (u3.2 45 (by omega) (by omega)) (u4 18 (by omega)) (u11 2 (by omega)) (u11 3 (by omega)) (u5 14))
        refine ⟨σ', τ', v1, ?_, v3⟩
        unfold fX5_seekBest_J114
        rw [bnd_ap, if_pos rfl]
        exact v2
      rw [if_neg (show ¬ j + 1 = 0 by omega)]
      rw [fX4_goByBest_L43, if_neg (by rw [show (120 : Int32) = nI 120 from rfl, nI_le_iff (by omega) (by omega)]; omega), if_neg n10, u1, calv_s, ratX, call_s, bnd_ap, fX5_seekBest_L41, if_neg n10, show ald (gA τc 1) 200 5 = ald (gA τc 1) 200 (nI 5) from rfl, ald_n (by omega) (by omega), d5, u2, calv_s]
      unfold fX5_seekBest_J109 fX5_seekBest_J113
      by_cases k0 : k = 0
      · rw [if_pos k0, if_pos rfl, if_pos (by rw [k0]; rfl)]
        obtain ⟨σ', τ', v1, v2, v3⟩ := KP
        exact ⟨σ', τ', v1, v2 0, v3⟩
      · have B' : BRR τ1 D n w x3 σc τc := by rcases B with B | B; exact absurd B k0; exact B
        obtain ⟨τb, τb', y1, y2, y3, y4, ⟨mb, hmb, y5, y6⟩, y7, y8, y9, y10⟩ := B'
        rw [if_neg k0, if_neg n10, if_neg (show ¬ nI k = 0 by rw [show (0 : Int32) = nI 0 from rfl, nI_eq_iff (by omega) (by omega)]; exact k0)]
        have T : (lg_cmp (rateB w (gI σ1 25) (gL σ1 0) (gL σ1 1)) x3 ≤ 0 ∧ ∀ X Y : Option ST, (if w = 0 then (if gI τ1' 18 ≤ gI τ1' 11 then X else Y) else if w = 1 then (if lg_cmp (gL τ1' 0) (gL τ1' 2) ≤ 0 then X else Y) else if lg_cmp (gL τ1' 1) (gL τ1' 3) ≤ 0 then X else Y) = X) ∨ (¬ lg_cmp (rateB w (gI σ1 25) (gL σ1 0) (gL σ1 1)) x3 ≤ 0 ∧ ∀ X Y : Option ST, (if w = 0 then (if gI τ1' 18 ≤ gI τ1' 11 then X else Y) else if w = 1 then (if lg_cmp (gL τ1' 0) (gL τ1' 2) ≤ 0 then X else Y) else if lg_cmp (gL τ1' 1) (gL τ1' 3) ≤ 0 then X else Y) = Y) := by
          rw [u4 18 (by omega), u11 2 (by omega), u11 3 (by omega), y9, y6, u8, u9, l0, l1']
          unfold rateB
          by_cases w0 : w = 0
          · rw [if_pos w0, if_pos w0]
            have := rat0 u7 hmb
            by_cases z : nI mb ≤ nI m
            · left
              exact ⟨this.mpr z, fun X Y => by rw [if_pos w0, if_pos z]⟩
            · right
              exact ⟨fun q => z (this.mp q), fun X Y => by rw [if_pos w0, if_neg z]⟩
          · rw [if_neg w0, if_neg w0]
            by_cases w1 : w = 1
            · rw [if_pos w1, if_pos w1]
              by_cases z : lg_cmp (gL τ1' 0) (gL τc 2) ≤ 0
              · left
                exact ⟨z, fun X Y => by rw [if_neg w0, if_pos w1, if_pos z]⟩
              · right
                exact ⟨z, fun X Y => by rw [if_neg w0, if_pos w1, if_neg z]⟩
            · rw [if_neg w1, if_neg w1]
              by_cases z : lg_cmp (gL τ1' 1) (gL τc 3) ≤ 0
              · left
                exact ⟨z, fun X Y => by rw [if_neg w0, if_neg w1, if_pos z]⟩
              · right
                exact ⟨z, fun X Y => by rw [if_neg w0, if_neg w1, if_neg z]⟩
        rcases T with ⟨T1, T2⟩ | ⟨T1, T2⟩
        · rw [if_pos T1, T2]
          exact NK k0
        · rw [if_neg T1, T2]
          obtain ⟨σ', τ', v1, v2, v3⟩ := KP
          exact ⟨σ', τ', v1, v2 1, v3⟩
  obtain ⟨σ3, τ3, v1, v2, v3, v4, x3, v5⟩ := loop (fun x2_26 σ_27 => calv (fX3_goBy_52 x2_26 σ_27) (fun σ_28 => some σ_28)) (fun σ_31 => some σ_31) (factN n) 0 FU FU 0 σ2 τ2 (by omega) (by rw [FU_eq]; omega) (by rw [FU_eq]; omega) ⟨fun _ _ => rfl, fun _ _ _ _ _ => rfl⟩ b4 e82 (fun _ => ⟨fun j hj => ⟨by rw [s2.2 44 (by omega) (by omega), a2 j hj, ordP_0 n (by omega) j hj], by rw [ordP_0 n (by omega) j hj]; omega⟩, fun j hj => ⟨by rw [b2 j hj, ordP_0 n (by omega) j hj], by rw [ordP_0 n (by omega) j hj]; omega⟩⟩) (Or.inl rfl)
  obtain ⟨τb, τb', y1, y2, y3, y4, ⟨mb, hmb, y5, y6⟩, y7, y8, y9, y10⟩ := v5
  obtain ⟨σ4, τ4, kk, m, c, u1, u2, u3, _, u6, u7, u8, u9, u10, u11⟩ := GO_52 (n := n) (EC σ3 τb v3 y1) (by omega) y2 (fun x hx => by
    obtain ⟨e, he, o1, o2⟩ := y3 x hx
    exact ⟨e, by omega, o1, o2⟩) (by rw [y1.2 8 (by omega) (by omega)]; exact t4) (by rw [y1.2 8 (by omega) (by omega)]; exact t5)
  obtain rfl := Option.some.inj (y4.symm.trans u2)
  refine ⟨σ4, τ3, ?_, ?_, ?_, ?_, ?_, ?_, ?_, ?_⟩
  · unfold fX4_goByBest
    rw [bnd_ap, xA.1.2.2.1, ← hn, bnd_ap]
    refine a1.trans ?_
    rw [s1, calv_s, bnd_ap, bnd_ap, bnd_ap]
    rw [if_neg (show ¬ factN n = 0 by omega)] at v1
    refine Eq.trans v1 ?_
    rw [u1, calv_s]
  · unfold fX5_seekBest
    rw [t1, calv_s, show ald (gA τ1 1) 200 2 = ald (gA τ1 1) 200 (nI 2) from rfl, ald_n (by omega) (by omega), mA1.1.2.2.1, ← hn, bnd_ap, bnd_ap]
    refine b1.trans ?_
    rw [bnd_ap, bnd_ap]
    rw [if_neg (show ¬ factN n = 0 by omega), if_pos rfl] at v2
    exact v2
  · exact (show xS σ σa from ⟨fun k _ => a3.1 k, fun k hk => a3.2.2 k (by omega)⟩).tr (s2.xS.tr (v3.xS.tr u3.bX.xS))
  · exact t2.mS.tr v4.mS
  · rw [u8, ← u9, y5, y6]
  · rw [y7]; exact u10.2.2.1.1.trans u10.2.2.1.2.1.symm
  · rw [y8]; exact u10.2.2.2.1
  · intro j hj
    rw [u3.2 45 (by omega) (by omega)]
    exact y10 j (by omega)
