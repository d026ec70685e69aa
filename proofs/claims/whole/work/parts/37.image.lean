theorem mv_2_3 (τ0 : ST) : ∃ τ', fX5_move_2_3 τ0 = some τ' ∧ (∀ k, gI τ' k = gI τ0 k) ∧ (∀ k, k ≠ 2 → gA τ' k = gA τ0 k) ∧ ∀ i, i < 200 → gA τ' 2 i = gA τ0 1 i := by
  obtain ⟨τ', ⟨c1, c2, c3⟩, h2⟩ := loopK (fun (ke : ST → Option ST) m i τ => fX5_move_2_3_L2 ke m (nI i) τ) (fun ke τ => ke τ) 200 (fun n τ => (∀ k, gI τ k = gI τ0 k) ∧ (∀ k, k ≠ 2 → gA τ k = gA τ0 k) ∧ ∀ i, i < n → gA τ 2 i = gA τ0 1 i) (by
    intro i τ hi hI
    obtain ⟨c1, c2, c3⟩ := hI
    refine ⟨sA τ 2 (upd (gA τ 2) i (gA τ 1 i)), ⟨c1, fun k hk => by rw [gA_sA, if_neg hk]; exact c2 k hk, ?_⟩, ?_⟩
    · intro j hj
      show upd (gA τ 2) i _ j = _
      rw [upd_ap]
      by_cases z : j = i
      · rw [if_pos z, z, c2 1 (by omega)]
      · rw [if_neg z]; exact c3 j (by omega)
    · intro ke m
      show fX5_move_2_3_L2 ke (m + 1) (nI i) τ = _
      rw [fX5_move_2_3_L2, if_neg (by rw [l200, nI_le_iff (by omega) (by omega)]; omega), ald_n hi (by omega), ast_n hi (by omega)]
      simp only [bnd_ap, ← nI_succ]) (by
    intro ke m τ hI
    show fX5_move_2_3_L2 ke (m + 1) (nI 200) τ = _
    rw [fX5_move_2_3_L2, if_pos (by decide)]) 200 0 FU τ0 rfl (by rw [FU_eq]; omega) ⟨fun _ => rfl, fun _ _ => rfl, fun i hi => absurd hi (by omega)⟩
  refine ⟨τ', ?_, c1, c2, c3⟩
  unfold fX5_move_2_3
  rw [bnd_ap]
  exact h2 _
theorem mv_3_2 (τ0 : ST) : ∃ τ', fX5_move_3_2 τ0 = some τ' ∧ (∀ k, gI τ' k = gI τ0 k) ∧ (∀ k, k ≠ 1 → gA τ' k = gA τ0 k) ∧ ∀ i, i < 200 → gA τ' 1 i = gA τ0 2 i := by
  obtain ⟨τ', ⟨c1, c2, c3⟩, h2⟩ := loopK (fun (ke : ST → Option ST) m i τ => fX5_move_3_2_L2 ke m (nI i) τ) (fun ke τ => ke τ) 200 (fun n τ => (∀ k, gI τ k = gI τ0 k) ∧ (∀ k, k ≠ 1 → gA τ k = gA τ0 k) ∧ ∀ i, i < n → gA τ 1 i = gA τ0 2 i) (by
    intro i τ hi hI
    obtain ⟨c1, c2, c3⟩ := hI
    refine ⟨sA τ 1 (upd (gA τ 1) i (gA τ 2 i)), ⟨c1, fun k hk => by rw [gA_sA, if_neg hk]; exact c2 k hk, ?_⟩, ?_⟩
    · intro j hj
      show upd (gA τ 1) i _ j = _
      rw [upd_ap]
      by_cases z : j = i
      · rw [if_pos z, z, c2 2 (by omega)]
      · rw [if_neg z]; exact c3 j (by omega)
    · intro ke m
      show fX5_move_3_2_L2 ke (m + 1) (nI i) τ = _
      rw [fX5_move_3_2_L2, if_neg (by rw [l200, nI_le_iff (by omega) (by omega)]; omega), ald_n hi (by omega), ast_n hi (by omega)]
      simp only [bnd_ap, ← nI_succ]) (by
    intro ke m τ hI
    show fX5_move_3_2_L2 ke (m + 1) (nI 200) τ = _
    rw [fX5_move_3_2_L2, if_pos (by decide)]) 200 0 FU τ0 rfl (by rw [FU_eq]; omega) ⟨fun _ => rfl, fun _ _ => rfl, fun i hi => absurd hi (by omega)⟩
  refine ⟨τ', ?_, c1, c2, c3⟩
  unfold fX5_move_3_2
  rw [bnd_ap]
  exact h2 _
theorem mv_2_8 (τ0 : ST) : ∃ τ', fX5_move_2_8 τ0 = some τ' ∧ (∀ k, gI τ' k = gI τ0 k) ∧ (∀ k, k ≠ 7 → gA τ' k = gA τ0 k) ∧ ∀ i, i < 200 → gA τ' 7 i = gA τ0 1 i := by
  obtain ⟨τ', ⟨c1, c2, c3⟩, h2⟩ := loopK (fun (ke : ST → Option ST) m i τ => fX5_move_2_8_L2 ke m (nI i) τ) (fun ke τ => ke τ) 200 (fun n τ => (∀ k, gI τ k = gI τ0 k) ∧ (∀ k, k ≠ 7 → gA τ k = gA τ0 k) ∧ ∀ i, i < n → gA τ 7 i = gA τ0 1 i) (by
    intro i τ hi hI
    obtain ⟨c1, c2, c3⟩ := hI
    refine ⟨sA τ 7 (upd (gA τ 7) i (gA τ 1 i)), ⟨c1, fun k hk => by rw [gA_sA, if_neg hk]; exact c2 k hk, ?_⟩, ?_⟩
    · intro j hj
      show upd (gA τ 7) i _ j = _
      rw [upd_ap]
      by_cases z : j = i
      · rw [if_pos z, z, c2 1 (by omega)]
      · rw [if_neg z]; exact c3 j (by omega)
    · intro ke m
      show fX5_move_2_8_L2 ke (m + 1) (nI i) τ = _
      rw [fX5_move_2_8_L2, if_neg (by rw [l200, nI_le_iff (by omega) (by omega)]; omega), ald_n hi (by omega), ast_n hi (by omega)]
      simp only [bnd_ap, ← nI_succ]) (by
    intro ke m τ hI
    show fX5_move_2_8_L2 ke (m + 1) (nI 200) τ = _
    rw [fX5_move_2_8_L2, if_pos (by decide)]) 200 0 FU τ0 rfl (by rw [FU_eq]; omega) ⟨fun _ => rfl, fun _ _ => rfl, fun i hi => absurd hi (by omega)⟩
  refine ⟨τ', ?_, c1, c2, c3⟩
  unfold fX5_move_2_8
  rw [bnd_ap]
  exact h2 _
theorem mv_8_2 (τ0 : ST) : ∃ τ', fX5_move_8_2 τ0 = some τ' ∧ (∀ k, gI τ' k = gI τ0 k) ∧ (∀ k, k ≠ 1 → gA τ' k = gA τ0 k) ∧ ∀ i, i < 200 → gA τ' 1 i = gA τ0 7 i := by
  obtain ⟨τ', ⟨c1, c2, c3⟩, h2⟩ := loopK (fun (ke : ST → Option ST) m i τ => fX5_move_8_2_L2 ke m (nI i) τ) (fun ke τ => ke τ) 200 (fun n τ => (∀ k, gI τ k = gI τ0 k) ∧ (∀ k, k ≠ 1 → gA τ k = gA τ0 k) ∧ ∀ i, i < n → gA τ 1 i = gA τ0 7 i) (by
    intro i τ hi hI
    obtain ⟨c1, c2, c3⟩ := hI
    refine ⟨sA τ 1 (upd (gA τ 1) i (gA τ 7 i)), ⟨c1, fun k hk => by rw [gA_sA, if_neg hk]; exact c2 k hk, ?_⟩, ?_⟩
    · intro j hj
      show upd (gA τ 1) i _ j = _
      rw [upd_ap]
      by_cases z : j = i
      · rw [if_pos z, z, c2 7 (by omega)]
      · rw [if_neg z]; exact c3 j (by omega)
    · intro ke m
      show fX5_move_8_2_L2 ke (m + 1) (nI i) τ = _
      rw [fX5_move_8_2_L2, if_neg (by rw [l200, nI_le_iff (by omega) (by omega)]; omega), ald_n hi (by omega), ast_n hi (by omega)]
      simp only [bnd_ap, ← nI_succ]) (by
    intro ke m τ hI
    show fX5_move_8_2_L2 ke (m + 1) (nI 200) τ = _
    rw [fX5_move_8_2_L2, if_pos (by decide)]) 200 0 FU τ0 rfl (by rw [FU_eq]; omega) ⟨fun _ => rfl, fun _ _ => rfl, fun i hi => absurd hi (by omega)⟩
  refine ⟨τ', ?_, c1, c2, c3⟩
  unfold fX5_move_8_2
  rw [bnd_ap]
  exact h2 _
theorem MT_e {w w' : Nat → Int32} {A : TW} (wA : WFT A) (h : ∀ i, i < 200 → w' i = w i) (m : MT w A) : MT w' A := by
  have hP := wA.1.1
  have hE := wA.1.2.2.1
  obtain ⟨⟨a0, a1, a2, a3, a4, a5⟩, h2, h3, h4⟩ := m
  refine ⟨⟨(h _ (by omega)).trans a0, (h _ (by omega)).trans a1, (h _ (by omega)).trans a2, (h _ (by omega)).trans a3, (h _ (by omega)).trans a4, (h _ (by omega)).trans a5⟩, ?_, ?_, ?_⟩
  · intro i hi
    obtain ⟨e0, e1, e2⟩ := h2 i hi
    exact ⟨(h _ (by omega)).trans e0, (h _ (by omega)).trans e1, (h _ (by omega)).trans e2⟩
  · intro i hi
    obtain ⟨e0, e1, e2, e3⟩ := h3 i hi
    exact ⟨(h _ (by omega)).trans e0, (h _ (by omega)).trans e1, (h _ (by omega)).trans e2, (h _ (by omega)).trans e3⟩
  · intro a b ha hb
    obtain ⟨e0, e1⟩ := h4 a b ha hb
    exact ⟨(h _ (by omega)).trans e0, (h _ (by omega)).trans e1⟩
theorem cpy_o (σ : ST) (q0 q1 n : Nat) (hn : n < 2147483648) : ∃ σ' : ST, (∀ k : ST → Option ST, cpy σ q0 n (nI 0) q1 n (nI 0) (nI n) k = k σ') ∧ (∀ j, gI σ' j = gI σ j) ∧ (∀ j, gL σ' j = gL σ j) ∧ (∀ j, j ≠ q1 → gA σ' j = gA σ j) ∧ ∀ i, i < n → gA σ' q1 i = gA σ q0 i := by
  refine ⟨sA σ q1 (va_cpy (gA σ q0) (gA σ q1) 0 0 n), ?_, fun _ => rfl, fun _ => rfl, fun j hj => by rw [gA_sA, if_neg hj], fun i hi => by rw [gA_sA, if_pos rfl]; exact sb_cpy0 hi⟩
  intro k
  unfold cpy
  rw [nI_cl (by omega), nI_cl hn, if_neg]
  rintro (h | h | h | h | h)
  · exact nI_nneg (by omega) h
  · exact nI_nneg (by omega) h
  · exact nI_nneg hn h
  · omega
  · omega
theorem sI_o (σ : ST) (q : Nat) (v : Int32) : ∃ σ' : ST, (∀ k : ST → Option ST, bnd (sI σ q v) k = k σ') ∧ (∀ j, j ≠ q → gI σ' j = gI σ j) ∧ gI σ' q = v ∧ (∀ j, gL σ' j = gL σ j) ∧ (∀ j, gA σ' j = gA σ j) :=
  ⟨sI σ q v, fun _ => rfl, fun j hj => by rw [gI_sI, if_neg hj], by rw [gI_sI, if_pos rfl], fun _ => rfl, fun _ => rfl⟩
theorem bl_5_4 {σ : ST} {A : TW} (wA : WFT A) (xA : XT σ 3 6 A) : ∃ σ', fX2_becomeLike_5_4 σ = some σ' ∧ XT σ' 9 17 A ∧ (∀ k, k < 9 ∨ 9 + 6 ≤ k → gI σ' k = gI σ k) ∧ (∀ k, gL σ' k = gL σ k) ∧ (∀ k, k < 17 ∨ 17 + 11 ≤ k → gA σ' k = gA σ k) := by
  have hP := wA.1.1
  have hW := wA.1.2.1
  have hE := wA.1.2.2.1
  obtain ⟨⟨a0, a1, a2, a3, a4, a5⟩, h2, h3, h4⟩ := xA
  unfold fX2_becomeLike_5_4
  rw [show (0 : Int32) = nI 0 from rfl, show (8 : Int32) = nI 8 from rfl, show (14 : Int32) = nI 14 from rfl, show (5 : Int32) = nI 5 from rfl]
  obtain ⟨s0, c0, i0, L0, o0, v0⟩ := cpy_o σ 6 17 8 (by omega)
  obtain ⟨s1, c1, i1, L1, o1, v1⟩ := cpy_o s0 7 18 8 (by omega)
  obtain ⟨s2, c2, i2, L2, o2, v2⟩ := cpy_o s1 8 19 8 (by omega)
  obtain ⟨s3, c3, i3, L3, o3, v3⟩ := cpy_o s2 9 20 14 (by omega)
  obtain ⟨s4, c4, i4, L4, o4, v4⟩ := cpy_o s3 10 21 14 (by omega)
  obtain ⟨s5, c5, i5, L5, o5, v5⟩ := cpy_o s4 11 22 14 (by omega)
  obtain ⟨s6, c6, i6, L6, o6, v6⟩ := cpy_o s5 12 23 14 (by omega)
  obtain ⟨s7, c7, i7, L7, o7, v7⟩ := cpy_o s6 13 24 5 (by omega)
  obtain ⟨s8, c8, i8, L8, o8, v8⟩ := cpy_o s7 14 25 5 (by omega)
  obtain ⟨s9, c9, i9, L9, o9, v9⟩ := cpy_o s8 15 26 5 (by omega)
  obtain ⟨s10, c10, i10, L10, o10, v10⟩ := cpy_o s9 16 27 5 (by omega)
  obtain ⟨r0, d0, p0, q0, M0, z0⟩ := sI_o s10 9 (gI s10 3)
  obtain ⟨r1, d1, p1, q1, M1, z1⟩ := sI_o r0 10 (gI r0 4)
  obtain ⟨r2, d2, p2, q2, M2, z2⟩ := sI_o r1 11 (gI r1 5)
  obtain ⟨r3, d3, p3, q3, M3, z3⟩ := sI_o r2 12 (gI r2 6)
  obtain ⟨r4, d4, p4, q4, M4, z4⟩ := sI_o r3 13 (gI r3 7)
  obtain ⟨r5, d5, p5, q5, M5, z5⟩ := sI_o r4 14 (gI r4 8)
  rw [c0, c1, c2, c3, c4, c5, c6, c7, c8, c9, c10, d0, d1, d2, d3, d4, d5]
  have zA : ∀ j, gA r5 j = gA s10 j := fun j => by rw [z5, z4, z3, z2, z1, z0]
  have zI : ∀ j, gI s10 j = gI σ j := fun j => by rw [i10, i9, i8, i7, i6, i5, i4, i3, i2, i1, i0]
  have w0 : ∀ i, i < 8 → gA r5 17 i = gA σ 6 i := fun i hi => by
    rw [zA, o10 17 (by omega), o9 17 (by omega), o8 17 (by omega), o7 17 (by omega), o6 17 (by omega), o5 17 (by omega), o4 17 (by omega), o3 17 (by omega), o2 17 (by omega), o1 17 (by omega), v0 i hi]
  have w1 : ∀ i, i < 8 → gA r5 18 i = gA σ 7 i := fun i hi => by
    rw [zA, o10 18 (by omega), o9 18 (by omega), o8 18 (by omega), o7 18 (by omega), o6 18 (by omega), o5 18 (by omega), o4 18 (by omega), o3 18 (by omega), o2 18 (by omega), v1 i hi, o0 7 (by omega)]
  have w2 : ∀ i, i < 8 → gA r5 19 i = gA σ 8 i := fun i hi => by
    rw [zA, o10 19 (by omega), o9 19 (by omega), o8 19 (by omega), o7 19 (by omega), o6 19 (by omega), o5 19 (by omega), o4 19 (by omega), o3 19 (by omega), v2 i hi, o1 8 (by omega), o0 8 (by omega)]
  have w3 : ∀ i, i < 14 → gA r5 20 i = gA σ 9 i := fun i hi => by
    rw [zA, o10 20 (by omega), o9 20 (by omega), o8 20 (by omega), o7 20 (by omega), o6 20 (by omega), o5 20 (by omega), o4 20 (by omega), v3 i hi, o2 9 (by omega), o1 9 (by omega), o0 9 (by omega)]
  have w4 : ∀ i, i < 14 → gA r5 21 i = gA σ 10 i := fun i hi => by
    rw [zA, o10 21 (by omega), o9 21 (by omega), o8 21 (by omega), o7 21 (by omega), o6 21 (by omega), o5 21 (by omega), v4 i hi, o3 10 (by omega), o2 10 (by omega), o1 10 (by omega), o0 10 (by omega)]
  have w5 : ∀ i, i < 14 → gA r5 22 i = gA σ 11 i := fun i hi => by
    rw [zA, o10 22 (by omega), o9 22 (by omega), o8 22 (by omega), o7 22 (by omega), o6 22 (by omega), v5 i hi, o4 11 (by omega), o3 11 (by omega), o2 11 (by omega), o1 11 (by omega), o0 11 (by omega)]
  have w6 : ∀ i, i < 14 → gA r5 23 i = gA σ 12 i := fun i hi => by
    rw [zA, o10 23 (by omega), o9 23 (by omega), o8 23 (by omega), o7 23 (by omega), v6 i hi, o5 12 (by omega), o4 12 (by omega), o3 12 (by omega), o2 12 (by omega), o1 12 (by omega), o0 12 (by omega)]
  have w7 : ∀ i, i < 5 → gA r5 24 i = gA σ 13 i := fun i hi => by
    rw [zA, o10 24 (by omega), o9 24 (by omega), o8 24 (by omega), v7 i hi, o6 13 (by omega), o5 13 (by omega), o4 13 (by omega), o3 13 (by omega), o2 13 (by omega), o1 13 (by omega), o0 13 (by omega)]
  have w8 : ∀ i, i < 5 → gA r5 25 i = gA σ 14 i := fun i hi => by
    rw [zA, o10 25 (by omega), o9 25 (by omega), v8 i hi, o7 14 (by omega), o6 14 (by omega), o5 14 (by omega), o4 14 (by omega), o3 14 (by omega), o2 14 (by omega), o1 14 (by omega), o0 14 (by omega)]
  have w9 : ∀ i, i < 5 → gA r5 26 i = gA σ 15 i := fun i hi => by
    rw [zA, o10 26 (by omega), v9 i hi, o8 15 (by omega), o7 15 (by omega), o6 15 (by omega), o5 15 (by omega), o4 15 (by omega), o3 15 (by omega), o2 15 (by omega), o1 15 (by omega), o0 15 (by omega)]
  have w10 : ∀ i, i < 5 → gA r5 27 i = gA σ 16 i := fun i hi => by
    rw [zA, v10 i hi, o9 16 (by omega), o8 16 (by omega), o7 16 (by omega), o6 16 (by omega), o5 16 (by omega), o4 16 (by omega), o3 16 (by omega), o2 16 (by omega), o1 16 (by omega), o0 16 (by omega)]
  have y0 : gI r5 9 = gI σ 3 := by rw [p5 9 (by omega), p4 9 (by omega), p3 9 (by omega), p2 9 (by omega), p1 9 (by omega), q0, zI]
  have y1 : gI r5 10 = gI σ 4 := by rw [p5 10 (by omega), p4 10 (by omega), p3 10 (by omega), p2 10 (by omega), q1, p0 4 (by omega), zI]
  have y2 : gI r5 11 = gI σ 5 := by rw [p5 11 (by omega), p4 11 (by omega), p3 11 (by omega), q2, p1 5 (by omega), p0 5 (by omega), zI]
  have y3 : gI r5 12 = gI σ 6 := by rw [p5 12 (by omega), p4 12 (by omega), q3, p2 6 (by omega), p1 6 (by omega), p0 6 (by omega), zI]
  have y4 : gI r5 13 = gI σ 7 := by rw [p5 13 (by omega), q4, p3 7 (by omega), p2 7 (by omega), p1 7 (by omega), p0 7 (by omega), zI]
  have y5 : gI r5 14 = gI σ 8 := by rw [q5, p4 8 (by omega), p3 8 (by omega), p2 8 (by omega), p1 8 (by omega), p0 8 (by omega), zI]
  refine ⟨r5, rfl, ⟨⟨y0.trans a0, y1.trans a1, y2.trans a2, y3.trans a3, y4.trans a4, y5.trans a5⟩, ?_, ?_, ?_⟩, ?_, ?_, ?_⟩
  · intro i hi
    obtain ⟨e0, e1, e2⟩ := h2 i hi
    exact ⟨(w0 i (by omega)).trans e0, (w1 i (by omega)).trans e1, (w2 i (by omega)).trans e2⟩
  · intro i hi
    obtain ⟨e0, e1, e2, e3⟩ := h3 i hi
    exact ⟨(w3 i (by omega)).trans e0, (w4 i (by omega)).trans e1, (w5 i (by omega)).trans e2, (w6 i (by omega)).trans e3⟩
  · intro i hi
    obtain ⟨e0, e1, e2, e3⟩ := h4 i hi
    exact ⟨(w7 i (by omega)).trans e0, (w8 i (by omega)).trans e1, (w9 i (by omega)).trans e2, (w10 i (by omega)).trans e3⟩
  · intro k hk
    rw [p5 k (by omega), p4 k (by omega), p3 k (by omega), p2 k (by omega), p1 k (by omega), p0 k (by omega), zI]
  · intro k
    rw [M5, M4, M3, M2, M1, M0, L10, L9, L8, L7, L6, L5, L4, L3, L2, L1, L0]
  · intro k hk
    rw [zA, o10 k (by omega), o9 k (by omega), o8 k (by omega), o7 k (by omega), o6 k (by omega), o5 k (by omega), o4 k (by omega), o3 k (by omega), o2 k (by omega), o1 k (by omega), o0 k (by omega)]
theorem bl_4_5 {σ : ST} {A : TW} (wA : WFT A) (xA : XT σ 9 17 A) : ∃ σ', fX2_becomeLike_4_5 σ = some σ' ∧ XT σ' 3 6 A ∧ (∀ k, k < 3 ∨ 3 + 6 ≤ k → gI σ' k = gI σ k) ∧ (∀ k, gL σ' k = gL σ k) ∧ (∀ k, k < 6 ∨ 6 + 11 ≤ k → gA σ' k = gA σ k) := by
  have hP := wA.1.1
  have hW := wA.1.2.1
  have hE := wA.1.2.2.1
  obtain ⟨⟨a0, a1, a2, a3, a4, a5⟩, h2, h3, h4⟩ := xA
  unfold fX2_becomeLike_4_5
  rw [show (0 : Int32) = nI 0 from rfl, show (8 : Int32) = nI 8 from rfl, show (14 : Int32) = nI 14 from rfl, show (5 : Int32) = nI 5 from rfl]
  obtain ⟨s0, c0, i0, L0, o0, v0⟩ := cpy_o σ 17 6 8 (by omega)
  obtain ⟨s1, c1, i1, L1, o1, v1⟩ := cpy_o s0 18 7 8 (by omega)
  obtain ⟨s2, c2, i2, L2, o2, v2⟩ := cpy_o s1 19 8 8 (by omega)
  obtain ⟨s3, c3, i3, L3, o3, v3⟩ := cpy_o s2 20 9 14 (by omega)
  obtain ⟨s4, c4, i4, L4, o4, v4⟩ := cpy_o s3 21 10 14 (by omega)
  obtain ⟨s5, c5, i5, L5, o5, v5⟩ := cpy_o s4 22 11 14 (by omega)
  obtain ⟨s6, c6, i6, L6, o6, v6⟩ := cpy_o s5 23 12 14 (by omega)
  obtain ⟨s7, c7, i7, L7, o7, v7⟩ := cpy_o s6 24 13 5 (by omega)
  obtain ⟨s8, c8, i8, L8, o8, v8⟩ := cpy_o s7 25 14 5 (by omega)
  obtain ⟨s9, c9, i9, L9, o9, v9⟩ := cpy_o s8 26 15 5 (by omega)
  obtain ⟨s10, c10, i10, L10, o10, v10⟩ := cpy_o s9 27 16 5 (by omega)
  obtain ⟨r0, d0, p0, q0, M0, z0⟩ := sI_o s10 3 (gI s10 9)
  obtain ⟨r1, d1, p1, q1, M1, z1⟩ := sI_o r0 4 (gI r0 10)
  obtain ⟨r2, d2, p2, q2, M2, z2⟩ := sI_o r1 5 (gI r1 11)
  obtain ⟨r3, d3, p3, q3, M3, z3⟩ := sI_o r2 6 (gI r2 12)
  obtain ⟨r4, d4, p4, q4, M4, z4⟩ := sI_o r3 7 (gI r3 13)
  obtain ⟨r5, d5, p5, q5, M5, z5⟩ := sI_o r4 8 (gI r4 14)
  rw [c0, c1, c2, c3, c4, c5, c6, c7, c8, c9, c10, d0, d1, d2, d3, d4, d5]
  have zA : ∀ j, gA r5 j = gA s10 j := fun j => by rw [z5, z4, z3, z2, z1, z0]
  have zI : ∀ j, gI s10 j = gI σ j := fun j => by rw [i10, i9, i8, i7, i6, i5, i4, i3, i2, i1, i0]
  have w0 : ∀ i, i < 8 → gA r5 6 i = gA σ 17 i := fun i hi => by
    rw [zA, o10 6 (by omega), o9 6 (by omega), o8 6 (by omega), o7 6 (by omega), o6 6 (by omega), o5 6 (by omega), o4 6 (by omega), o3 6 (by omega), o2 6 (by omega), o1 6 (by omega), v0 i hi]
  have w1 : ∀ i, i < 8 → gA r5 7 i = gA σ 18 i := fun i hi => by
    rw [zA, o10 7 (by omega), o9 7 (by omega), o8 7 (by omega), o7 7 (by omega), o6 7 (by omega), o5 7 (by omega), o4 7 (by omega), o3 7 (by omega), o2 7 (by omega), v1 i hi, o0 18 (by omega)]
  have w2 : ∀ i, i < 8 → gA r5 8 i = gA σ 19 i := fun i hi => by
    rw [zA, o10 8 (by omega), o9 8 (by omega), o8 8 (by omega), o7 8 (by omega), o6 8 (by omega), o5 8 (by omega), o4 8 (by omega), o3 8 (by omega), v2 i hi, o1 19 (by omega), o0 19 (by omega)]
  have w3 : ∀ i, i < 14 → gA r5 9 i = gA σ 20 i := fun i hi => by
    rw [zA, o10 9 (by omega), o9 9 (by omega), o8 9 (by omega), o7 9 (by omega), o6 9 (by omega), o5 9 (by omega), o4 9 (by omega), v3 i hi, o2 20 (by omega), o1 20 (by omega), o0 20 (by omega)]
  have w4 : ∀ i, i < 14 → gA r5 10 i = gA σ 21 i := fun i hi => by
    rw [zA, o10 10 (by omega), o9 10 (by omega), o8 10 (by omega), o7 10 (by omega), o6 10 (by omega), o5 10 (by omega), v4 i hi, o3 21 (by omega), o2 21 (by omega), o1 21 (by omega), o0 21 (by omega)]
  have w5 : ∀ i, i < 14 → gA r5 11 i = gA σ 22 i := fun i hi => by
    rw [zA, o10 11 (by omega), o9 11 (by omega), o8 11 (by omega), o7 11 (by omega), o6 11 (by omega), v5 i hi, o4 22 (by omega), o3 22 (by omega), o2 22 (by omega), o1 22 (by omega), o0 22 (by omega)]
  have w6 : ∀ i, i < 14 → gA r5 12 i = gA σ 23 i := fun i hi => by
    rw [zA, o10 12 (by omega), o9 12 (by omega), o8 12 (by omega), o7 12 (by omega), v6 i hi, o5 23 (by omega), o4 23 (by omega), o3 23 (by omega), o2 23 (by omega), o1 23 (by omega), o0 23 (by omega)]
  have w7 : ∀ i, i < 5 → gA r5 13 i = gA σ 24 i := fun i hi => by
    rw [zA, o10 13 (by omega), o9 13 (by omega), o8 13 (by omega), v7 i hi, o6 24 (by omega), o5 24 (by omega), o4 24 (by omega), o3 24 (by omega), o2 24 (by omega), o1 24 (by omega), o0 24 (by omega)]
  have w8 : ∀ i, i < 5 → gA r5 14 i = gA σ 25 i := fun i hi => by
    rw [zA, o10 14 (by omega), o9 14 (by omega), v8 i hi, o7 25 (by omega), o6 25 (by omega), o5 25 (by omega), o4 25 (by omega), o3 25 (by omega), o2 25 (by omega), o1 25 (by omega), o0 25 (by omega)]
  have w9 : ∀ i, i < 5 → gA r5 15 i = gA σ 26 i := fun i hi => by
    rw [zA, o10 15 (by omega), v9 i hi, o8 26 (by omega), o7 26 (by omega), o6 26 (by omega), o5 26 (by omega), o4 26 (by omega), o3 26 (by omega), o2 26 (by omega), o1 26 (by omega), o0 26 (by omega)]
  have w10 : ∀ i, i < 5 → gA r5 16 i = gA σ 27 i := fun i hi => by
    rw [zA, v10 i hi, o9 27 (by omega), o8 27 (by omega), o7 27 (by omega), o6 27 (by omega), o5 27 (by omega), o4 27 (by omega), o3 27 (by omega), o2 27 (by omega), o1 27 (by omega), o0 27 (by omega)]
  have y0 : gI r5 3 = gI σ 9 := by rw [p5 3 (by omega), p4 3 (by omega), p3 3 (by omega), p2 3 (by omega), p1 3 (by omega), q0, zI]
  have y1 : gI r5 4 = gI σ 10 := by rw [p5 4 (by omega), p4 4 (by omega), p3 4 (by omega), p2 4 (by omega), q1, p0 10 (by omega), zI]
  have y2 : gI r5 5 = gI σ 11 := by rw [p5 5 (by omega), p4 5 (by omega), p3 5 (by omega), q2, p1 11 (by omega), p0 11 (by omega), zI]
  have y3 : gI r5 6 = gI σ 12 := by rw [p5 6 (by omega), p4 6 (by omega), q3, p2 12 (by omega), p1 12 (by omega), p0 12 (by omega), zI]
  have y4 : gI r5 7 = gI σ 13 := by rw [p5 7 (by omega), q4, p3 13 (by omega), p2 13 (by omega), p1 13 (by omega), p0 13 (by omega), zI]
  have y5 : gI r5 8 = gI σ 14 := by rw [q5, p4 14 (by omega), p3 14 (by omega), p2 14 (by omega), p1 14 (by omega), p0 14 (by omega), zI]
  refine ⟨r5, rfl, ⟨⟨y0.trans a0, y1.trans a1, y2.trans a2, y3.trans a3, y4.trans a4, y5.trans a5⟩, ?_, ?_, ?_⟩, ?_, ?_, ?_⟩
  · intro i hi
    obtain ⟨e0, e1, e2⟩ := h2 i hi
    exact ⟨(w0 i (by omega)).trans e0, (w1 i (by omega)).trans e1, (w2 i (by omega)).trans e2⟩
  · intro i hi
    obtain ⟨e0, e1, e2, e3⟩ := h3 i hi
    exact ⟨(w3 i (by omega)).trans e0, (w4 i (by omega)).trans e1, (w5 i (by omega)).trans e2, (w6 i (by omega)).trans e3⟩
  · intro i hi
    obtain ⟨e0, e1, e2, e3⟩ := h4 i hi
    exact ⟨(w7 i (by omega)).trans e0, (w8 i (by omega)).trans e1, (w9 i (by omega)).trans e2, (w10 i (by omega)).trans e3⟩
  · intro k hk
    rw [p5 k (by omega), p4 k (by omega), p3 k (by omega), p2 k (by omega), p1 k (by omega), p0 k (by omega), zI]
  · intro k
    rw [M5, M4, M3, M2, M1, M0, L10, L9, L8, L7, L6, L5, L4, L3, L2, L1, L0]
  · intro k hk
    rw [zA, o10 k (by omega), o9 k (by omega), o8 k (by omega), o7 k (by omega), o6 k (by omega), o5 k (by omega), o4 k (by omega), o3 k (by omega), o2 k (by omega), o1 k (by omega), o0 k (by omega)]
theorem bl_6_4 {σ : ST} {A : TW} (wA : WFT A) (xA : XT σ 3 6 A) : ∃ σ', fX2_becomeLike_6_4 σ = some σ' ∧ XT σ' 15 28 A ∧ (∀ k, k < 15 ∨ 15 + 6 ≤ k → gI σ' k = gI σ k) ∧ (∀ k, gL σ' k = gL σ k) ∧ (∀ k, k < 28 ∨ 28 + 11 ≤ k → gA σ' k = gA σ k) := by
  have hP := wA.1.1
  have hW := wA.1.2.1
  have hE := wA.1.2.2.1
  obtain ⟨⟨a0, a1, a2, a3, a4, a5⟩, h2, h3, h4⟩ := xA
  unfold fX2_becomeLike_6_4
  rw [show (0 : Int32) = nI 0 from rfl, show (8 : Int32) = nI 8 from rfl, show (14 : Int32) = nI 14 from rfl, show (5 : Int32) = nI 5 from rfl]
  obtain ⟨s0, c0, i0, L0, o0, v0⟩ := cpy_o σ 6 28 8 (by omega)
  obtain ⟨s1, c1, i1, L1, o1, v1⟩ := cpy_o s0 7 29 8 (by omega)
  obtain ⟨s2, c2, i2, L2, o2, v2⟩ := cpy_o s1 8 30 8 (by omega)
  obtain ⟨s3, c3, i3, L3, o3, v3⟩ := cpy_o s2 9 31 14 (by omega)
  obtain ⟨s4, c4, i4, L4, o4, v4⟩ := cpy_o s3 10 32 14 (by omega)
  obtain ⟨s5, c5, i5, L5, o5, v5⟩ := cpy_o s4 11 33 14 (by omega)
  obtain ⟨s6, c6, i6, L6, o6, v6⟩ := cpy_o s5 12 34 14 (by omega)
  obtain ⟨s7, c7, i7, L7, o7, v7⟩ := cpy_o s6 13 35 5 (by omega)
  obtain ⟨s8, c8, i8, L8, o8, v8⟩ := cpy_o s7 14 36 5 (by omega)
  obtain ⟨s9, c9, i9, L9, o9, v9⟩ := cpy_o s8 15 37 5 (by omega)
  obtain ⟨s10, c10, i10, L10, o10, v10⟩ := cpy_o s9 16 38 5 (by omega)
  obtain ⟨r0, d0, p0, q0, M0, z0⟩ := sI_o s10 15 (gI s10 3)
  obtain ⟨r1, d1, p1, q1, M1, z1⟩ := sI_o r0 16 (gI r0 4)
  obtain ⟨r2, d2, p2, q2, M2, z2⟩ := sI_o r1 17 (gI r1 5)
  obtain ⟨r3, d3, p3, q3, M3, z3⟩ := sI_o r2 18 (gI r2 6)
  obtain ⟨r4, d4, p4, q4, M4, z4⟩ := sI_o r3 19 (gI r3 7)
  obtain ⟨r5, d5, p5, q5, M5, z5⟩ := sI_o r4 20 (gI r4 8)
  rw [c0, c1, c2, c3, c4, c5, c6, c7, c8, c9, c10, d0, d1, d2, d3, d4, d5]
  have zA : ∀ j, gA r5 j = gA s10 j := fun j => by rw [z5, z4, z3, z2, z1, z0]
  have zI : ∀ j, gI s10 j = gI σ j := fun j => by rw [i10, i9, i8, i7, i6, i5, i4, i3, i2, i1, i0]
  have w0 : ∀ i, i < 8 → gA r5 28 i = gA σ 6 i := fun i hi => by
    rw [zA, o10 28 (by omega), o9 28 (by omega), o8 28 (by omega), o7 28 (by omega), o6 28 (by omega), o5 28 (by omega), o4 28 (by omega), o3 28 (by omega), o2 28 (by omega), o1 28 (by omega), v0 i hi]
  have w1 : ∀ i, i < 8 → gA r5 29 i = gA σ 7 i := fun i hi => by
    rw [zA, o10 29 (by omega), o9 29 (by omega), o8 29 (by omega), o7 29 (by omega), o6 29 (by omega), o5 29 (by omega), o4 29 (by omega), o3 29 (by omega), o2 29 (by omega), v1 i hi, o0 7 (by omega)]
  have w2 : ∀ i, i < 8 → gA r5 30 i = gA σ 8 i := fun i hi => by
    rw [zA, o10 30 (by omega), o9 30 (by omega), o8 30 (by omega), o7 30 (by omega), o6 30 (by omega), o5 30 (by omega), o4 30 (by omega), o3 30 (by omega), v2 i hi, o1 8 (by omega), o0 8 (by omega)]
  have w3 : ∀ i, i < 14 → gA r5 31 i = gA σ 9 i := fun i hi => by
    rw [zA, o10 31 (by omega), o9 31 (by omega), o8 31 (by omega), o7 31 (by omega), o6 31 (by omega), o5 31 (by omega), o4 31 (by omega), v3 i hi, o2 9 (by omega), o1 9 (by omega), o0 9 (by omega)]
  have w4 : ∀ i, i < 14 → gA r5 32 i = gA σ 10 i := fun i hi => by
    rw [zA, o10 32 (by omega), o9 32 (by omega), o8 32 (by omega), o7 32 (by omega), o6 32 (by omega), o5 32 (by omega), v4 i hi, o3 10 (by omega), o2 10 (by omega), o1 10 (by omega), o0 10 (by omega)]
  have w5 : ∀ i, i < 14 → gA r5 33 i = gA σ 11 i := fun i hi => by
    rw [zA, o10 33 (by omega), o9 33 (by omega), o8 33 (by omega), o7 33 (by omega), o6 33 (by omega), v5 i hi, o4 11 (by omega), o3 11 (by omega), o2 11 (by omega), o1 11 (by omega), o0 11 (by omega)]
  have w6 : ∀ i, i < 14 → gA r5 34 i = gA σ 12 i := fun i hi => by
    rw [zA, o10 34 (by omega), o9 34 (by omega), o8 34 (by omega), o7 34 (by omega), v6 i hi, o5 12 (by omega), o4 12 (by omega), o3 12 (by omega), o2 12 (by omega), o1 12 (by omega), o0 12 (by omega)]
  have w7 : ∀ i, i < 5 → gA r5 35 i = gA σ 13 i := fun i hi => by
    rw [zA, o10 35 (by omega), o9 35 (by omega), o8 35 (by omega), v7 i hi, o6 13 (by omega), o5 13 (by omega), o4 13 (by omega), o3 13 (by omega), o2 13 (by omega), o1 13 (by omega), o0 13 (by omega)]
  have w8 : ∀ i, i < 5 → gA r5 36 i = gA σ 14 i := fun i hi => by
    rw [zA, o10 36 (by omega), o9 36 (by omega), v8 i hi, o7 14 (by omega), o6 14 (by omega), o5 14 (by omega), o4 14 (by omega), o3 14 (by omega), o2 14 (by omega), o1 14 (by omega), o0 14 (by omega)]
  have w9 : ∀ i, i < 5 → gA r5 37 i = gA σ 15 i := fun i hi => by
    rw [zA, o10 37 (by omega), v9 i hi, o8 15 (by omega), o7 15 (by omega), o6 15 (by omega), o5 15 (by omega), o4 15 (by omega), o3 15 (by omega), o2 15 (by omega), o1 15 (by omega), o0 15 (by omega)]
  have w10 : ∀ i, i < 5 → gA r5 38 i = gA σ 16 i := fun i hi => by
    rw [zA, v10 i hi, o9 16 (by omega), o8 16 (by omega), o7 16 (by omega), o6 16 (by omega), o5 16 (by omega), o4 16 (by omega), o3 16 (by omega), o2 16 (by omega), o1 16 (by omega), o0 16 (by omega)]
  have y0 : gI r5 15 = gI σ 3 := by rw [p5 15 (by omega), p4 15 (by omega), p3 15 (by omega), p2 15 (by omega), p1 15 (by omega), q0, zI]
  have y1 : gI r5 16 = gI σ 4 := by rw [p5 16 (by omega), p4 16 (by omega), p3 16 (by omega), p2 16 (by omega), q1, p0 4 (by omega), zI]
  have y2 : gI r5 17 = gI σ 5 := by rw [p5 17 (by omega), p4 17 (by omega), p3 17 (by omega), q2, p1 5 (by omega), p0 5 (by omega), zI]
  have y3 : gI r5 18 = gI σ 6 := by rw [p5 18 (by omega), p4 18 (by omega), q3, p2 6 (by omega), p1 6 (by omega), p0 6 (by omega), zI]
  have y4 : gI r5 19 = gI σ 7 := by rw [p5 19 (by omega), q4, p3 7 (by omega), p2 7 (by omega), p1 7 (by omega), p0 7 (by omega), zI]
  have y5 : gI r5 20 = gI σ 8 := by rw [q5, p4 8 (by omega), p3 8 (by omega), p2 8 (by omega), p1 8 (by omega), p0 8 (by omega), zI]
  refine ⟨r5, rfl, ⟨⟨y0.trans a0, y1.trans a1, y2.trans a2, y3.trans a3, y4.trans a4, y5.trans a5⟩, ?_, ?_, ?_⟩, ?_, ?_, ?_⟩
  · intro i hi
    obtain ⟨e0, e1, e2⟩ := h2 i hi
    exact ⟨(w0 i (by omega)).trans e0, (w1 i (by omega)).trans e1, (w2 i (by omega)).trans e2⟩
  · intro i hi
    obtain ⟨e0, e1, e2, e3⟩ := h3 i hi
    exact ⟨(w3 i (by omega)).trans e0, (w4 i (by omega)).trans e1, (w5 i (by omega)).trans e2, (w6 i (by omega)).trans e3⟩
  · intro i hi
    obtain ⟨e0, e1, e2, e3⟩ := h4 i hi
    exact ⟨(w7 i (by omega)).trans e0, (w8 i (by omega)).trans e1, (w9 i (by omega)).trans e2, (w10 i (by omega)).trans e3⟩
  · intro k hk
    rw [p5 k (by omega), p4 k (by omega), p3 k (by omega), p2 k (by omega), p1 k (by omega), p0 k (by omega), zI]
  · intro k
    rw [M5, M4, M3, M2, M1, M0, L10, L9, L8, L7, L6, L5, L4, L3, L2, L1, L0]
  · intro k hk
    rw [zA, o10 k (by omega), o9 k (by omega), o8 k (by omega), o7 k (by omega), o6 k (by omega), o5 k (by omega), o4 k (by omega), o3 k (by omega), o2 k (by omega), o1 k (by omega), o0 k (by omega)]
theorem bl_4_6 {σ : ST} {A : TW} (wA : WFT A) (xA : XT σ 15 28 A) : ∃ σ', fX2_becomeLike_4_6 σ = some σ' ∧ XT σ' 3 6 A ∧ (∀ k, k < 3 ∨ 3 + 6 ≤ k → gI σ' k = gI σ k) ∧ (∀ k, gL σ' k = gL σ k) ∧ (∀ k, k < 6 ∨ 6 + 11 ≤ k → gA σ' k = gA σ k) := by
  have hP := wA.1.1
  have hW := wA.1.2.1
  have hE := wA.1.2.2.1
  obtain ⟨⟨a0, a1, a2, a3, a4, a5⟩, h2, h3, h4⟩ := xA
  unfold fX2_becomeLike_4_6
  rw [show (0 : Int32) = nI 0 from rfl, show (8 : Int32) = nI 8 from rfl, show (14 : Int32) = nI 14 from rfl, show (5 : Int32) = nI 5 from rfl]
  obtain ⟨s0, c0, i0, L0, o0, v0⟩ := cpy_o σ 28 6 8 (by omega)
  obtain ⟨s1, c1, i1, L1, o1, v1⟩ := cpy_o s0 29 7 8 (by omega)
  obtain ⟨s2, c2, i2, L2, o2, v2⟩ := cpy_o s1 30 8 8 (by omega)
  obtain ⟨s3, c3, i3, L3, o3, v3⟩ := cpy_o s2 31 9 14 (by omega)
  obtain ⟨s4, c4, i4, L4, o4, v4⟩ := cpy_o s3 32 10 14 (by omega)
  obtain ⟨s5, c5, i5, L5, o5, v5⟩ := cpy_o s4 33 11 14 (by omega)
  obtain ⟨s6, c6, i6, L6, o6, v6⟩ := cpy_o s5 34 12 14 (by omega)
  obtain ⟨s7, c7, i7, L7, o7, v7⟩ := cpy_o s6 35 13 5 (by omega)
  obtain ⟨s8, c8, i8, L8, o8, v8⟩ := cpy_o s7 36 14 5 (by omega)
  obtain ⟨s9, c9, i9, L9, o9, v9⟩ := cpy_o s8 37 15 5 (by omega)
  obtain ⟨s10, c10, i10, L10, o10, v10⟩ := cpy_o s9 38 16 5 (by omega)
  obtain ⟨r0, d0, p0, q0, M0, z0⟩ := sI_o s10 3 (gI s10 15)
  obtain ⟨r1, d1, p1, q1, M1, z1⟩ := sI_o r0 4 (gI r0 16)
  obtain ⟨r2, d2, p2, q2, M2, z2⟩ := sI_o r1 5 (gI r1 17)
  obtain ⟨r3, d3, p3, q3, M3, z3⟩ := sI_o r2 6 (gI r2 18)
  obtain ⟨r4, d4, p4, q4, M4, z4⟩ := sI_o r3 7 (gI r3 19)
  obtain ⟨r5, d5, p5, q5, M5, z5⟩ := sI_o r4 8 (gI r4 20)
  rw [c0, c1, c2, c3, c4, c5, c6, c7, c8, c9, c10, d0, d1, d2, d3, d4, d5]
  have zA : ∀ j, gA r5 j = gA s10 j := fun j => by rw [z5, z4, z3, z2, z1, z0]
  have zI : ∀ j, gI s10 j = gI σ j := fun j => by rw [i10, i9, i8, i7, i6, i5, i4, i3, i2, i1, i0]
  have w0 : ∀ i, i < 8 → gA r5 6 i = gA σ 28 i := fun i hi => by
    rw [zA, o10 6 (by omega), o9 6 (by omega), o8 6 (by omega), o7 6 (by omega), o6 6 (by omega), o5 6 (by omega), o4 6 (by omega), o3 6 (by omega), o2 6 (by omega), o1 6 (by omega), v0 i hi]
  have w1 : ∀ i, i < 8 → gA r5 7 i = gA σ 29 i := fun i hi => by
    rw [zA, o10 7 (by omega), o9 7 (by omega), o8 7 (by omega), o7 7 (by omega), o6 7 (by omega), o5 7 (by omega), o4 7 (by omega), o3 7 (by omega), o2 7 (by omega), v1 i hi, o0 29 (by omega)]
  have w2 : ∀ i, i < 8 → gA r5 8 i = gA σ 30 i := fun i hi => by
    rw [zA, o10 8 (by omega), o9 8 (by omega), o8 8 (by omega), o7 8 (by omega), o6 8 (by omega), o5 8 (by omega), o4 8 (by omega), o3 8 (by omega), v2 i hi, o1 30 (by omega), o0 30 (by omega)]
  have w3 : ∀ i, i < 14 → gA r5 9 i = gA σ 31 i := fun i hi => by
    rw [zA, o10 9 (by omega), o9 9 (by omega), o8 9 (by omega), o7 9 (by omega), o6 9 (by omega), o5 9 (by omega), o4 9 (by omega), v3 i hi, o2 31 (by omega), o1 31 (by omega), o0 31 (by omega)]
  have w4 : ∀ i, i < 14 → gA r5 10 i = gA σ 32 i := fun i hi => by
    rw [zA, o10 10 (by omega), o9 10 (by omega), o8 10 (by omega), o7 10 (by omega), o6 10 (by omega), o5 10 (by omega), v4 i hi, o3 32 (by omega), o2 32 (by omega), o1 32 (by omega), o0 32 (by omega)]
  have w5 : ∀ i, i < 14 → gA r5 11 i = gA σ 33 i := fun i hi => by
    rw [zA, o10 11 (by omega), o9 11 (by omega), o8 11 (by omega), o7 11 (by omega), o6 11 (by omega), v5 i hi, o4 33 (by omega), o3 33 (by omega), o2 33 (by omega), o1 33 (by omega), o0 33 (by omega)]
  have w6 : ∀ i, i < 14 → gA r5 12 i = gA σ 34 i := fun i hi => by
    rw [zA, o10 12 (by omega), o9 12 (by omega), o8 12 (by omega), o7 12 (by omega), v6 i hi, o5 34 (by omega), o4 34 (by omega), o3 34 (by omega), o2 34 (by omega), o1 34 (by omega), o0 34 (by omega)]
  have w7 : ∀ i, i < 5 → gA r5 13 i = gA σ 35 i := fun i hi => by
    rw [zA, o10 13 (by omega), o9 13 (by omega), o8 13 (by omega), v7 i hi, o6 35 (by omega), o5 35 (by omega), o4 35 (by omega), o3 35 (by omega), o2 35 (by omega), o1 35 (by omega), o0 35 (by omega)]
  have w8 : ∀ i, i < 5 → gA r5 14 i = gA σ 36 i := fun i hi => by
    rw [zA, o10 14 (by omega), o9 14 (by omega), v8 i hi, o7 36 (by omega), o6 36 (by omega), o5 36 (by omega), o4 36 (by omega), o3 36 (by omega), o2 36 (by omega), o1 36 (by omega), o0 36 (by omega)]
  have w9 : ∀ i, i < 5 → gA r5 15 i = gA σ 37 i := fun i hi => by
    rw [zA, o10 15 (by omega), v9 i hi, o8 37 (by omega), o7 37 (by omega), o6 37 (by omega), o5 37 (by omega), o4 37 (by omega), o3 37 (by omega), o2 37 (by omega), o1 37 (by omega), o0 37 (by omega)]
  have w10 : ∀ i, i < 5 → gA r5 16 i = gA σ 38 i := fun i hi => by
    rw [zA, v10 i hi, o9 38 (by omega), o8 38 (by omega), o7 38 (by omega), o6 38 (by omega), o5 38 (by omega), o4 38 (by omega), o3 38 (by omega), o2 38 (by omega), o1 38 (by omega), o0 38 (by omega)]
  have y0 : gI r5 3 = gI σ 15 := by rw [p5 3 (by omega), p4 3 (by omega), p3 3 (by omega), p2 3 (by omega), p1 3 (by omega), q0, zI]
  have y1 : gI r5 4 = gI σ 16 := by rw [p5 4 (by omega), p4 4 (by omega), p3 4 (by omega), p2 4 (by omega), q1, p0 16 (by omega), zI]
  have y2 : gI r5 5 = gI σ 17 := by rw [p5 5 (by omega), p4 5 (by omega), p3 5 (by omega), q2, p1 17 (by omega), p0 17 (by omega), zI]
  have y3 : gI r5 6 = gI σ 18 := by rw [p5 6 (by omega), p4 6 (by omega), q3, p2 18 (by omega), p1 18 (by omega), p0 18 (by omega), zI]
  have y4 : gI r5 7 = gI σ 19 := by rw [p5 7 (by omega), q4, p3 19 (by omega), p2 19 (by omega), p1 19 (by omega), p0 19 (by omega), zI]
  have y5 : gI r5 8 = gI σ 20 := by rw [q5, p4 20 (by omega), p3 20 (by omega), p2 20 (by omega), p1 20 (by omega), p0 20 (by omega), zI]
  refine ⟨r5, rfl, ⟨⟨y0.trans a0, y1.trans a1, y2.trans a2, y3.trans a3, y4.trans a4, y5.trans a5⟩, ?_, ?_, ?_⟩, ?_, ?_, ?_⟩
  · intro i hi
    obtain ⟨e0, e1, e2⟩ := h2 i hi
    exact ⟨(w0 i (by omega)).trans e0, (w1 i (by omega)).trans e1, (w2 i (by omega)).trans e2⟩
  · intro i hi
    obtain ⟨e0, e1, e2, e3⟩ := h3 i hi
    exact ⟨(w3 i (by omega)).trans e0, (w4 i (by omega)).trans e1, (w5 i (by omega)).trans e2, (w6 i (by omega)).trans e3⟩
  · intro i hi
    obtain ⟨e0, e1, e2, e3⟩ := h4 i hi
    exact ⟨(w7 i (by omega)).trans e0, (w8 i (by omega)).trans e1, (w9 i (by omega)).trans e2, (w10 i (by omega)).trans e3⟩
  · intro k hk
    rw [p5 k (by omega), p4 k (by omega), p3 k (by omega), p2 k (by omega), p1 k (by omega), p0 k (by omega), zI]
  · intro k
    rw [M5, M4, M3, M2, M1, M0, L10, L9, L8, L7, L6, L5, L4, L3, L2, L1, L0]
  · intro k hk
    rw [zA, o10 k (by omega), o9 k (by omega), o8 k (by omega), o7 k (by omega), o6 k (by omega), o5 k (by omega), o4 k (by omega), o3 k (by omega), o2 k (by omega), o1 k (by omega), o0 k (by omega)]
theorem sim_image : SIMi Rl fX4_image fX5_image := by
  intro σ τ h
  obtain ⟨g1, ⟨L, hL, r1, r2, r3⟩, ⟨n, hn, t1, t2, t3⟩, ⟨A, wA, xA, mA, lA⟩, g5, ⟨m1, m2, m3, m4⟩, mb, mk⟩ := id h
  unfold fX4_image fX5_image
  obtain ⟨σ', e1, e2, e3, e4, e5⟩ := bl_5_4 wA xA
  obtain ⟨τ', f1, f2, f3, f4⟩ := mv_2_3 (sI τ 0 1)
  rw [e1, calv_s, bnd_ap, bnd_ap, f1, calv_s, ald_e (j := 0) (show (0 : Int32) = nI 0 from rfl) (by omega) (by omega)]
  have k3 : gI (sI σ' 1 1) 3 = nI (A.1 0) := (e3 3 (by omega)).trans xA.1.1
  have k0 : gA τ' 1 0 = nI (A.1 0) := by rw [f3 1 (by omega)]; exact mA.1.1
  rw [k3, k0]
  have f2' : ∀ k, k ≠ 0 → gI τ' k = gI τ k := fun k hk => (f2 k).trans (by rw [gI_sI, if_neg hk])
  refine ⟨_, _, _, rfl, rfl, ?_, ⟨L, hL, ?_, ?_, ?_⟩, ⟨n, hn, ?_, ?_, ?_⟩, ⟨A, wA, ?_, ?_, ?_⟩, ⟨?_, Or.inr ⟨rfl, A, wA, ?_, ?_⟩⟩, ⟨?_, ?_, ?_, ?_⟩, ?_, ?_⟩
  · intro k hk
    rw [gA_sI, e5 46 (by omega), f3 0 (by omega)]; exact g1 k hk
  · exact (e3 0 (by omega)).trans r1
  · exact (f2' 17 (by omega)).trans r2
  · rw [gA_sI, e5 43 (by omega), f3 13 (by omega)]; exact r3
  · exact (e3 2 (by omega)).trans t1
  · exact (f2' 1 (by omega)).trans t2
  · rw [gA_sI, e5 5 (by omega), f3 3 (by omega)]; exact t3
  · exact XT_c xA (fun k hk => by rw [gI_sI, if_neg (by omega)]; exact e3 _ (by omega)) (fun k hk => e5 _ (by omega))
  · rw [f3 1 (by omega)]; exact mA
  · rcases lA with l | l
    · exact Or.inl l
    · right
      intro i hi
      rw [gA_sI, gA_sI, gA_sI, gA_sI, e5 0 (by omega), e5 1 (by omega), e5 2 (by omega), e5 3 (by omega)]
      exact l i hi
  · exact (f2 0).symm
  · exact XT_c e2 (fun k hk => by rw [gI_sI, if_neg (by omega)]) (fun k hk => rfl)
  · exact MT_e wA f4 mA
  · exact (f2' 5 (by omega)).trans m1
  · exact (f2' 6 (by omega)).trans m2
  · exact (f2' 7 (by omega)).trans m3
  · exact (f2' 14 (by omega)).trans m4
  · rw [f3 4 (by omega)]; exact mb
  · rw [f3 5 (by omega)]; exact mk
theorem sim_on : SIMi Rl fX4_on fX5_on := by
  intro σ τ h
  obtain ⟨g1, ⟨L, hL, r1, r2, r3⟩, ⟨n, hn, t1, t2, t3⟩, ⟨A, wA, xA, mA, lA⟩, ⟨i1, i2⟩, ⟨m1, m2, m3, m4⟩, mb, mk⟩ := id h
  unfold fX4_on fX5_on
  rw [← i1]
  rcases i2 with i2 | ⟨i2, B, wB, xB, mB⟩
  · rw [i2, if_pos rfl, if_pos rfl]
    exact ref_i h (-3) 3 rfl (by omega) (by omega)
  · rw [i2, if_neg n10, if_neg n10]
    obtain ⟨σ1, e1, e2, e3, e4, e5⟩ := bl_4_5 wB xB
    obtain ⟨σ2, l1, l2, l3⟩ := measX wB e2
    obtain ⟨τ', f1, f2, f3, f4⟩ := mv_3_2 τ
    rw [e1, calv_s, l1, calv_s, f1, calv_s, ald_e (j := 0) (show (0 : Int32) = nI 0 from rfl) (by omega) (by omega)]
    have x2 := l2.XT (by omega) e2
    have mB' : MT (gA τ' 1) B := MT_e wB f4 mB
    have k3 : gI σ2 3 = nI (B.1 0) := x2.1.1
    have k0 : gA τ' 1 0 = nI (B.1 0) := mB'.1.1
    rw [k3, k0]
    have eI : ∀ k, k < 3 ∨ 9 ≤ k → gI σ2 k = gI σ k := fun k hk => (l2.1 k).trans (e3 k (by omega))
    have eA : ∀ k, k = 5 ∨ 17 ≤ k → gA σ2 k = gA σ k := fun k hk => (l2.2.2 k (by omega)).trans (e5 k (by omega))
    refine ⟨_, _, _, rfl, rfl, ?_, ⟨L, hL, ?_, ?_, ?_⟩, ⟨n, hn, ?_, ?_, ?_⟩, ⟨B, wB, x2, mB', Or.inr l3⟩, ⟨?_, Or.inr ⟨?_, B, wB, ?_, ?_⟩⟩, ⟨?_, ?_, ?_, ?_⟩, ?_, ?_⟩
    · intro k hk
      rw [eA 46 (by omega), f3 0 (by omega)]; exact g1 k hk
    · exact (eI 0 (by omega)).trans r1
    · exact (f2 17).trans r2
    · rw [eA 43 (by omega), f3 13 (by omega)]; exact r3
    · exact (eI 2 (by omega)).trans t1
    · exact (f2 1).trans t2
    · rw [eA 5 (by omega), f3 3 (by omega)]; exact t3
    · rw [eI 1 (by omega), f2 0]; exact i1
    · rw [eI 1 (by omega)]; exact i2
    · exact XT_c xB (fun k hk => eI _ (by omega)) (fun k hk => eA _ (by omega))
    · rw [f3 2 (by omega)]; exact mB
    · exact (f2 5).trans m1
    · exact (f2 6).trans m2
    · exact (f2 7).trans m3
    · exact (f2 14).trans m4
    · rw [f3 4 (by omega)]; exact mb
    · rw [f3 5 (by omega)]; exact mk
