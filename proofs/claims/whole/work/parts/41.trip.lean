/-! ===== a day's surroundings and what changes in it ===== -/
def cF (σ σ' : ST) : Prop := (∀ k, k < 21 ∨ k = 23 ∨ k = 24 → gI σ' k = gI σ k) ∧ (∀ k, k ≠ 41 → k ≠ 42 → gA σ' k = gA σ k)
def mF (τ τ' : ST) : Prop := (∀ k, k < 11 ∨ k = 14 ∨ 17 ≤ k → gI τ' k = gI τ k) ∧ (∀ k, gA τ' k = gA τ k)
theorem cF.rf (σ : ST) : cF σ σ := ⟨fun _ _ => rfl, fun _ _ _ => rfl⟩
theorem mF.rf (σ : ST) : mF σ σ := ⟨fun _ _ => rfl, fun _ => rfl⟩
theorem cF.tr {a b c : ST} (h : cF a b) (g : cF b c) : cF a c := ⟨fun k q => (g.1 k q).trans (h.1 k q), fun k q r => (g.2 k q r).trans (h.2 k q r)⟩
theorem mF.tr {a b c : ST} (h : mF a b) (g : mF b c) : mF a c := ⟨fun k q => (g.1 k q).trans (h.1 k q), fun k => (g.2 k).trans (h.2 k)⟩
/-- the day's surroundings: town, what is supposed, legs, driver D, run R; B: the reference's town (its run may be another) -/
def ENV (σ τ : ST) (A B : TW) (D R : Nat) : Prop := (WFT A ∧ WFT B ∧ B.2 = A.2 ∧ B.1 0 = A.1 0 ∧ B.1 2 = A.1 2 ∧ B.1 3 = A.1 3) ∧ 0 < A.1 0 ∧ XT σ 3 6 A ∧ MT (gA τ 1) B ∧ LgR σ τ ∧ (∀ p, p < A.1 0 → ∃ s u : Nat, s ≤ 10 ∧ u ≤ 10 ∧ gA σ 39 p = nI s ∧ stN τ B p = nI s ∧ gA σ 40 p = nI u ∧ pdN τ B p = nI u) ∧ (D ≤ 5 ∧ gI σ 23 = nI D ∧ gI τ 9 = nI D) ∧ (R ≤ 60 ∧ gI σ 24 = nI R ∧ gI τ 10 = nI R)
theorem stN_m {τ τ' : ST} {B : TW} (h : mF τ τ') (p : Nat) : stN τ' B p = stN τ B p := by unfold stN puN; rw [h.1 5 (by omega), h.1 6 (by omega), h.1 7 (by omega)]
theorem pdN_m {τ τ' : ST} {B : TW} (h : mF τ τ') (p : Nat) : pdN τ' B p = pdN τ B p := by unfold pdN; rw [stN_m h]; unfold puN; rw [h.1 7 (by omega)]
theorem ENV_f {σ τ σ' τ' : ST} {A B : TW} {D R : Nat} (h : ENV σ τ A B D R) (hc : cF σ σ') (hm : mF τ τ') : ENV σ' τ' A B D R := by
  obtain ⟨w, p, x, m, l, s, ⟨d1, d2, d3⟩, r1, r2, r3⟩ := h
  refine ⟨w, p, XT_c x (fun k hk => hc.1 _ (by omega)) (fun k hk => hc.2 _ (by omega) (by omega)), by rw [hm.2 1]; exact m, ?_, ?_, ⟨d1, (hc.1 23 (by omega)).trans d2, (hm.1 9 (by omega)).trans d3⟩, r1, (hc.1 24 (by omega)).trans r2, (hm.1 10 (by omega)).trans r3⟩
  · intro i hi
    have := l i hi
    unfold LgP at this ⊢
    rw [hc.2 0 (by omega) (by omega), hc.2 1 (by omega) (by omega), hc.2 2 (by omega) (by omega), hc.2 3 (by omega) (by omega), hm.2 8, hm.2 9, hm.2 10, hm.2 11]
    exact this
  · intro q hq
    obtain ⟨s, u, h1, h2, h3, h4, h5, h6⟩ := s q hq
    exact ⟨s, u, h1, h2, by rw [hc.2 39 (by omega) (by omega)]; exact h3, (stN_m hm q).trans h4, by rw [hc.2 40 (by omega) (by omega)]; exact h5, (pdN_m hm q).trans h6⟩
/-- what both sides have come to, k chances behind them, at place w, minute m, so likely c -/
def DC (σ τ : ST) (q : Int32 × Int32) (k c : Nat) : Prop := gI σ 26 = gI τ 12 ∧ gI σ 27 = gI τ 13 ∧ (gL σ 0 = lN c ∧ gL τ 0 = lN c ∧ 10 ^ (12 - k) ∣ c ∧ c ≤ 1000000000000) ∧ gL σ 1 = gL τ 1 ∧ gI σ 21 = nI k ∧ ((gI τ 15, gI τ 16) = if gI τ 14 = 0 then q else drw (gA σ 41) (gA σ 42) k q) ∧ ∀ j, j < k → ∃ t : Nat, t ≤ 10 ∧ gA σ 41 j = nI t ∧ (gA σ 42 j = 0 ∨ gA σ 42 j = 1)
theorem drw_u {t s t' s' : Nat → Int32} : ∀ (k : Nat), (∀ j, j < k → t' j = t j ∧ s' j = s j) → ∀ q, drw t' s' k q = drw t s k q := by
  intro k
  induction k with
  | zero => intro _ q; rfl
  | succ k ih =>
    intro h q
    unfold drw
    rw [ih (fun j hj => h j (by omega)), (h k (by omega)).1, (h k (by omega)).2]
theorem pow_dvd_10 {k c : Nat} (hk : k < 12) (h : 10 ^ (12 - k) ∣ c) : 10 ∣ c := by
  have : 12 - k = (11 - k) + 1 := by omega
  rw [this, Nat.pow_succ] at h
  exact Nat.dvd_trans (Nat.dvd_mul_left 10 _) h
theorem pow_dvd_s {k c u : Nat} (hk : k < 12) (h : 10 ^ (12 - k) ∣ c) : 10 ^ (12 - (k + 1)) ∣ c / 10 * u := by
  have e : 12 - k = (12 - (k + 1)) + 1 := by omega
  rw [e, Nat.pow_succ] at h
  obtain ⟨d, rfl⟩ := h
  rw [Nat.mul_comm (10 ^ (12 - (k + 1))) 10, Nat.mul_assoc, Nat.mul_div_cancel_left _ (by omega), Nat.mul_assoc]
  exact Nat.dvd_mul_right _ _
/-- one chance of t tenths on both sides; st: a START -/
theorem EV {σ τ : ST} {q : Int32 × Int32} {k c t : Nat} (h : DC σ τ q k c) (hk : k < 12) (ht : t ≤ 10) (st : Bool) : ∃ σ' τ' : ST, dvl (gL σ 0) 10 (fun v => bnd (sL σ 0 (v * Int32.toInt64 (if st then nI t else 10 - nI t))) (fun s => calv (fX3_noteChance (nI t) (if st then 0 else 1) s) (fun s => some s))) = some σ' ∧ fX5_happens (nI t) (if st then 1 else 0) τ = some τ' ∧ cF σ σ' ∧ mF τ τ' ∧ (∀ j, j ≠ 21 → gI σ' j = gI σ j) ∧ ((∀ j, j ≠ 15 → j ≠ 16 → gI τ' j = gI τ j) ∧ ∀ j, 2 ≤ j → gL τ' j = gL τ j) ∧ DC σ' τ' q (k + 1) (c / 10 * (if st then t else 10 - t)) := by
  obtain ⟨h5, h6, ⟨h7, h8, h9, h10⟩, h11, h12, h13, h14⟩ := h
  obtain ⟨τ', e1, e2, e3, e4, e5, e6⟩ := hapM (τ := τ) h10 ht h8 st
  have dv := pow_dvd_10 hk h9
  have hu : (if st then t else 10 - t) ≤ 10 := by split <;> omega
  have eu : Int32.toInt64 (if st then nI t else 10 - nI t) = lN (if st then t else 10 - t) := by
    cases st with
    | false => exact (congrArg Int32.toInt64 (show (10 : Int32) - nI t = nI (10 - t) from by rw [l10]; exact pk_sub ht)).trans (nI_64 (by omega))
    | true => exact nI_64 (by omega)
  refine ⟨sI (sA (sA (sL σ 0 (lN (c / 10 * (if st then t else 10 - t)))) 41 (upd (gA σ 41) k (nI t))) 42 (upd (gA σ 42) k (if st then 0 else 1))) 21 (nI (k + 1)), τ', ?_, e1, ?_, ?_, ?_, ⟨e4, fun j hj => e3 j (by omega)⟩, ?_⟩
  · rw [evX (t := t) (u := 0) hk h12 h10 dv (by omega) h7, bnd_ap, eu, lN_mul, noteX hk (by rw [gI_sL]; exact h12), calv_s]
    cases st with
    | false => rw [show vp_nar .boolean (if false = true then 0 else 1) = 1 from vz1]; rfl
    | true => rw [show vp_nar .boolean (if true = true then 0 else 1) = 0 from vz0]; rfl
  · exact ⟨fun j hj => by rw [gI_sI, if_neg (by omega)]; rfl, fun j h1 h2 => by rw [gA_sI, gA_sA, if_neg h2, gA_sA, if_neg h1]; rfl⟩
  · exact ⟨fun j hj => e4 j (by omega) (by omega), e5⟩
  · intro j hj; rw [gI_sI, if_neg hj]; rfl
  · have hle : c / 10 * (if st then t else 10 - t) ≤ 1000000000000 := by
      rw [c10 dv]
      have : c * (if st then t else 10 - t) ≤ 1000000000000 * 10 := Nat.mul_le_mul h10 hu
      omega
    refine ⟨h5.trans (e4 12 (by omega) (by omega)).symm, h6.trans (e4 13 (by omega) (by omega)).symm, ⟨rfl, by rw [e2, c10 dv], pow_dvd_s hk h9, hle⟩, ?_, rfl, ?_, ?_⟩
    · show gL σ 1 = gL τ' 1
      rw [e3 1 (by omega)]; exact h11
    · rw [e4 14 (by omega) (by omega), e6]
      by_cases d : gI τ 14 = 0
      · rw [if_pos d, if_pos d]
        rw [if_pos d] at h13
        exact h13
      · rw [if_neg d, if_neg d]
        rw [if_neg d] at h13
        show drw1 (nI t) st (gI τ 15, gI τ 16) = drw1 (upd (gA σ 41) k (nI t) k) (decide (upd (gA σ 42) k (if st then 0 else 1) k = 0)) (drw (upd (gA σ 41) k (nI t)) (upd (gA σ 42) k (if st then 0 else 1)) k q)
        rw [drw_u (t := gA σ 41) (s := gA σ 42) k (fun j hj => ⟨by rw [upd_ap, if_neg (by omega)], by rw [upd_ap, if_neg (by omega)]⟩), ← h13, upd_ap, if_pos rfl, upd_ap, if_pos rfl]
        cases st <;> rfl
    · intro j hj
      show ∃ t' : Nat, t' ≤ 10 ∧ upd (gA σ 41) k (nI t) j = nI t' ∧ (upd (gA σ 42) k (if st then 0 else 1) j = 0 ∨ upd (gA σ 42) k (if st then 0 else 1) j = 1)
      rw [upd_ap, upd_ap]
      by_cases z : j = k
      · rw [if_pos z, if_pos z]
        refine ⟨t, ht, rfl, ?_⟩
        cases st
        · exact Or.inr rfl
        · exact Or.inl rfl
      · rw [if_neg z, if_neg z]; exact h14 j (by omega)
/-- the same, and the place w and the minute m -/
def DY (σ τ : ST) (q : Int32 × Int32) (w k m c : Nat) : Prop := gI σ 22 = nI w ∧ (gI σ 25 = nI m ∧ gI τ 11 = nI m ∧ m ≤ 31000 * k) ∧ DC σ τ q k c
theorem ST_ev {σ τ : ST} {A B : TW} {D R : Nat} {q : Int32 × Int32} {w k m c : Nat} (E : ENV σ τ A B D R) (h : DY σ τ q w k m c) (hw : w < A.1 0) (hk : k < 12) : ∃ (σ' τ' : ST) (c' : Nat), fX3_startHere σ = some σ' ∧ fX5_start (nI w) τ = some τ' ∧ cF σ σ' ∧ mF τ τ' ∧ (∀ j, j ≠ 21 → gI σ' j = gI σ j) ∧ ((∀ j, j ≠ 15 → j ≠ 16 → gI τ' j = gI τ j) ∧ ∀ j, 2 ≤ j → gL τ' j = gL τ j) ∧ DY σ' τ' q w (k + 1) m c' := by
  obtain ⟨⟨wA, wB, e2, e0, eE, eF⟩, hp, xA, mB, l, s, ⟨d1, d2, d3⟩, r⟩ := id E
  obtain ⟨y1, ⟨y2, y3, y4⟩, y5⟩ := h
  have hP := wA.1.1
  obtain ⟨s0, u0, b1, b2, b3, b4, b5, b6⟩ := s w hw
  unfold fX3_startHere fX5_start
  rw [d2, d3, y1, ald_n (by omega) (by omega), ald_n (by omega) (by omega), b3, b5, mst wB mB (by omega), mpd wB mB (by omega), b4, b6, cali_s, cali_s]
  have fin : ∀ t : Nat, t ≤ 10 → ∃ (σ' τ' : ST) (c' : Nat), fX3_startHere_J29 (nI t) σ = some σ' ∧ calv (fX5_happens (nI t) 1 τ) (fun s => some s) = some τ' ∧ cF σ σ' ∧ mF τ τ' ∧ (∀ j, j ≠ 21 → gI σ' j = gI σ j) ∧ ((∀ j, j ≠ 15 → j ≠ 16 → gI τ' j = gI τ j) ∧ ∀ j, 2 ≤ j → gL τ' j = gL τ j) ∧ DY σ' τ' q w (k + 1) m c' := by
    intro t ht
    obtain ⟨σ', τ', f1, f2, f3, f4, f5, f6, f7⟩ := EV y5 hk ht true
    refine ⟨σ', τ', _, ?_, ?_, f3, f4, f5, f6, (f5 22 (by omega)).trans y1, ⟨(f5 25 (by omega)).trans y2, (f6.1 11 (by omega) (by omega)).trans y3, by omega⟩, f7⟩
    · unfold fX3_startHere_J29
      rw [bnd_ap]
      exact f1
    · have f2 : fX5_happens (nI t) 1 τ = some τ' := f2
      rw [f2, calv_s]
  by_cases z : nI D = 3
  · rw [if_pos z, if_pos z]; exact fin u0 b2
  · rw [if_neg z, if_neg z]; exact fin s0 b1
theorem DC_x {σ σ' τ : ST} {q : Int32 × Int32} {k c : Nat} (h : DC σ τ q k c) (e1 : gI σ' 26 = gI σ 26) (e2 : gI σ' 27 = gI σ 27) (e3 : gI σ' 21 = gI σ 21) (e4 : ∀ j, gL σ' j = gL σ j) (e5 : gA σ' 41 = gA σ 41) (e6 : gA σ' 42 = gA σ 42) : DC σ' τ q k c := by
  unfold DC at h ⊢
  rw [e1, e2, e3, e4, e4, e5, e6]; exact h
theorem DC_m {σ τ τ' : ST} {q : Int32 × Int32} {k c : Nat} (h : DC σ τ q k c) (e1 : ∀ j, j ≠ 11 → gI τ' j = gI τ j) (e2 : ∀ j, gL τ' j = gL τ j) : DC σ τ' q k c := by
  unfold DC at h ⊢
  rw [e1 12 (by omega), e1 13 (by omega), e1 14 (by omega), e1 15 (by omega), e1 16 (by omega), e2, e2]; exact h
theorem DR_ev {σ τ : ST} {A B : TW} {D R : Nat} {q : Int32 × Int32} {w k m c p : Nat} (E : ENV σ τ A B D R) (h : DY σ τ q w k m c) (hw : w < A.1 0) (hp : p < A.1 0) (hk : k < 12) (hn : ¬ gA τ 8 (8 * w + p) = 100000) : ∃ (σ' τ' : ST) (d c' : Nat), d ≤ 30720 ∧ fX3_driveTo (nI p) σ = some σ' ∧ fX5_goesIn (nI w) (nI p) τ = some (nI d, τ') ∧ cF σ σ' ∧ mF τ τ' ∧ (∀ j, j ≠ 21 → j ≠ 22 → j ≠ 25 → gI σ' j = gI σ j) ∧ ((∀ j, j ≠ 15 → j ≠ 16 → gI τ' j = gI τ j) ∧ ∀ j, 2 ≤ j → gL τ' j = gL τ j) ∧ DY σ' (sI τ' 11 (nI (m + d))) q p (k + 1) (m + d) c' := by
  obtain ⟨⟨wA, wB, e2, e0, eE, eF⟩, hp0, xA, mB, l, s, ⟨d1, d2, d3⟩, r⟩ := id E
  obtain ⟨y1, ⟨y2, y3, y4⟩, y5⟩ := h
  have hP := wA.1.1
  have main : ∀ (sf : Int32) (t d : Nat), t ≤ 9 → d ≤ 30720 → (if sf = 0 then gA σ 1 (8 * w + p) else gA σ 3 (8 * w + p)) = nI t → (if sf = 0 then gA σ 0 (8 * w + p) else gA σ 2 (8 * w + p)) = nI d → ∃ (σ' τ' : ST) (c' : Nat), fX3_driveTo_J13 (nI p) sf σ = some σ' ∧ fX5_happens (nI t) 0 τ = some τ' ∧ cF σ σ' ∧ mF τ τ' ∧ (∀ j, j ≠ 21 → j ≠ 22 → j ≠ 25 → gI σ' j = gI σ j) ∧ ((∀ j, j ≠ 15 → j ≠ 16 → gI τ' j = gI τ j) ∧ ∀ j, 2 ≤ j → gL τ' j = gL τ j) ∧ DY σ' (sI τ' 11 (nI (m + d))) q p (k + 1) (m + d) c' := by
    intro sf t d ht hd et ed
    have y5' : DC (sI (sI σ 25 (nI (m + d))) 22 (nI p)) τ q k c := DC_x y5 rfl rfl rfl (fun _ => rfl) rfl rfl
    obtain ⟨σ', τ', f1, f2, f3, f4, f5, f6, f7⟩ := EV y5' hk (show t ≤ 10 by omega) false
    refine ⟨σ', τ', _, ?_, f2, ⟨fun j hj => (f3.1 j hj).trans (by rw [gI_sI, if_neg (by omega), gI_sI, if_neg (by omega)]), fun j a1 a2 => f3.2 j a1 a2⟩, f4, fun j a1 a2 a3 => (f5 j a1).trans (by rw [gI_sI, if_neg a2, gI_sI, if_neg a3]), f6, f5 22 (by omega), ⟨f5 25 (by omega), rfl, by omega⟩, DC_m f7 (fun j hj => by rw [gI_sI, if_neg hj]) (fun _ => rfl)⟩
    unfold fX3_driveTo_J13
    rw [bnd_ap, y1, staOf (by omega) (by omega), cali_s, bnd_ap, y1, minOf (by omega) (by omega), cali_s, et, ed, y2, na_add, bnd_ap, bnd_ap]
    exact f1
  have hi : 8 * w + p < 64 := by omega
  rcases l (8 * w + p) hi with ⟨v0, v1, v2, v3, v4⟩ | ⟨d, t, d', t', hd, ht, hd', ht', ⟨v0, z0⟩, ⟨v1, z1⟩, ⟨v2, z2⟩, ⟨v3, z3⟩⟩
  · exact absurd v4 hn
  unfold fX3_driveTo fX5_goesIn
  rw [d2, d3, bnd_ap, ix8', ald_n hi (by omega), ald_n hi (by omega), z1, z3]
  have J31 : ∀ (t0 : Nat) (τ' : ST), fX5_happens (nI t0) 0 τ = some τ' → mF τ τ' → fX5_goesIn_J31 (nI (8 * w + p)) (nI t0) τ = some (if nI D = 5 then nI d' else nI d, τ') := by
    intro t0 τ' g1 g2
    unfold fX5_goesIn_J31
    rw [g1, calv_s, g2.1 9 (by omega), d3, ald_n hi (by omega), ald_n hi (by omega), g2.2, g2.2, z0, z2]
    split <;> rfl
  by_cases z : nI D = 5
  · rw [if_pos z, if_pos z]
    obtain ⟨σ', τ', c', f1, f2, f3, f4, f5, f6, f7⟩ := main 1 t' d' ht' hd' (by rw [if_neg n10]; exact v3) (by rw [if_neg n10]; exact v2)
    exact ⟨σ', τ', d', c', hd', f1, by rw [J31 t' τ' f2 f4, if_pos z], f3, f4, f5, f6, f7⟩
  · rw [if_neg z, if_neg z]
    obtain ⟨σ', τ', c', f1, f2, f3, f4, f5, f6, f7⟩ := main 0 t d ht hd (by rw [if_pos rfl]; exact v1) (by rw [if_pos rfl]; exact v0)
    exact ⟨σ', τ', d, c', hd, f1, by rw [J31 t τ' f2 f4, if_neg z], f3, f4, f5, f6, f7⟩
