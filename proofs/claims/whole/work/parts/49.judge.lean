/-! ===== judge ===== -/
def bt (x : Int32) (v : Nat) : Bool := x.toBitVec.getLsbD v
theorem nbv {v : Nat} (hv : v < 10) : (nI (2 ^ v)).toBitVec = BitVec.twoPow 32 v := by
  apply BitVec.eq_of_toNat_eq
  have := p10 v hv
  rw [nI_bv (by omega), BitVec.toNat_twoPow, Nat.mod_eq_of_lt (by omega)]
theorem bt_or {x : Int32} {v u : Nat} (hv : v < 10) (hu : u < 10) : bt (x ||| nI (2 ^ v)) u = (bt x u || decide (v = u)) := by
  unfold bt
  rw [Int32.toBitVec_or, nbv hv, BitVec.getLsbD_or, BitVec.getLsbD_twoPow]
  congr 1
  rw [decide_eq_true (show v < 32 by omega), Bool.true_and]
theorem bt_cl {x : Int32} {v u : Nat} (hv : v < 10) (hu : u < 10) : bt (x &&& (nI (2 ^ v) ^^^ (-1))) u = (bt x u && !decide (v = u)) := by
  unfold bt
  have e1 : (-1 : Int32).toBitVec = BitVec.allOnes 32 := by decide
  rw [Int32.toBitVec_and, Int32.toBitVec_xor, nbv hv, e1, BitVec.getLsbD_and, BitVec.getLsbD_xor, BitVec.getLsbD_twoPow, BitVec.getLsbD_allOnes, decide_eq_true (show v < 32 by omega), decide_eq_true (show u < 32 by omega), Bool.true_and, Bool.xor_true]
theorem bt_0 {x : Int32} {v : Nat} (hv : v < 10) : (x &&& nI (2 ^ v)) = 0 ↔ bt x v = false := by
  constructor
  · intro h
    have h1 : (x &&& nI (2 ^ v)).toBitVec.getLsbD v = false := by rw [h]; show (0#32).getLsbD v = false; exact BitVec.getLsbD_zero
    rw [Int32.toBitVec_and, nbv hv, BitVec.getLsbD_and, BitVec.getLsbD_twoPow, decide_eq_true (show v < 32 by omega), decide_eq_true rfl, Bool.true_and, Bool.and_true] at h1
    exact h1
  · intro h
    apply Int32.toBitVec_inj.mp
    rw [Int32.toBitVec_and, nbv hv]
    apply BitVec.eq_of_getLsbD_eq
    intro i hi
    rw [BitVec.getLsbD_and, BitVec.getLsbD_twoPow, decide_eq_true (show v < 32 by omega), Bool.true_and]
    show _ = (0#32).getLsbD i
    rw [BitVec.getLsbD_zero]
    by_cases z : v = i
    · subst z
      unfold bt at h
      rw [h]; rfl
    · rw [decide_eq_false z, Bool.and_false]
theorem bt_sr {x : Int32} {v : Nat} (hv : v < 10) : ((x >>> (nI v &&& 31)) &&& 1) = (if bt x v then 1 else 0) := by
  apply Int32.toBitVec_inj.mp
  rw [Int32.toBitVec_and, Int32.toBitVec_shiftRight]
  apply BitVec.eq_of_getLsbD_eq
  intro i hi
  have e : (BitVec.smod (nI v &&& 31).toBitVec 32).toNat = v := shv v hv
  have e2 : (1 : Int32).toBitVec = BitVec.twoPow 32 0 := by decide
  rw [BitVec.getLsbD_and, e2, BitVec.getLsbD_twoPow, BitVec.sshiftRight_eq', e, BitVec.getLsbD_sshiftRight]
  unfold bt
  by_cases z : 0 = i
  · subst z
    cases h : x.toBitVec.getLsbD v <;> simp [h, show v < 32 by omega] <;> omega
  · cases h : x.toBitVec.getLsbD v <;> simp [h, z, show ¬ i = 0 by omega]
theorem JUL {L : Nat} (hL : L ≤ 10) {σ τ : ST} (r1 : gI σ 0 = nI L) (r2 : gI τ 17 = nI L) (rv : ∀ k, k < L → ∃ v : Nat, v ≤ 9 ∧ gA σ 43 k = nI v ∧ gA τ 13 k = nI v) : ∀ (j x fu fu' : Nat) (y s : Int32), x + j = L → j < fu → j < fu' → (∀ v, v < 10 → bt y v = (bt (gI τ 12) v && !bt s v)) → ∃ r, fX4_judge_L31 (fun σ_8 => some ((-9), σ_8)) fu y (nI x) σ = some (r, σ) ∧ fX5_judge_L28 (fun σ_12 => some ((-9), σ_12)) fu' s (nI x) τ = some (r, τ) := by
  intro j
  induction j with
  | zero =>
    intro x fu fu' y s hx h1 h2 hb
    obtain ⟨fu, rfl⟩ : ∃ f, fu = f + 1 := ⟨fu - 1, by omega⟩
    obtain ⟨fu', rfl⟩ : ∃ f, fu' = f + 1 := ⟨fu' - 1, by omega⟩
    refine ⟨-9, ?_, ?_⟩
    · rw [fX4_judge_L31, if_pos (by rw [r1, nI_le_iff (by omega) (by omega)]; omega)]
    · rw [fX5_judge_L28, if_pos (by rw [r2, nI_le_iff (by omega) (by omega)]; omega)]
  | succ j ih =>
    intro x fu fu' y s hx h1 h2 hb
    obtain ⟨fu, rfl⟩ : ∃ f, fu = f + 1 := ⟨fu - 1, by omega⟩
    obtain ⟨fu', rfl⟩ : ∃ f, fu' = f + 1 := ⟨fu' - 1, by omega⟩
    obtain ⟨v, hv, v1, v2⟩ := rv x (by omega)
    have nx : nI x + 1 = nI (x + 1) := by rw [l1, na_add]
    have b := hb v (by omega)
    rw [fX4_judge_L31, if_neg (by rw [r1, nI_le_iff (by omega) (by omega)]; omega), ald_n (by omega) (by omega), v1, bnd_ap, sh1 v (by omega), fX5_judge_L28, if_neg (show ¬ gI τ 17 ≤ nI x from by rw [r2, nI_le_iff (by omega) (by omega)]; omega), ald_n (by omega) (by omega), ald_n (by omega) (by omega), ald_n (by omega) (by omega), v2, bt_sr (by omega), bt_sr (by omega), sh1 v (by omega), bnd_ap, bnd_ap, bnd_ap, bnd_ap, nx]
    by_cases d : bt (gI τ 12) v = true
    · rw [d, Bool.true_and] at b
      rw [d, if_neg (show ¬ (if true = true then (1 : Int32) else 0) = 0 from by decide)]
      by_cases e : bt s v = true
      · rw [e] at b
        rw [e, if_pos ((bt_0 (by omega)).mpr b), if_pos (show (if true = true then (1 : Int32) else 0) = 1 from by decide)]
        exact ⟨_, rfl, rfl⟩
      · have e' : bt s v = false := by cases h : bt s v <;> simp_all
        rw [e'] at b
        rw [e', if_neg (show ¬ (y &&& nI (2 ^ v)) = 0 from fun q => by rw [bt_0 (by omega), b] at q; exact absurd q (by decide)), if_neg (show ¬ (if false = true then (1 : Int32) else 0) = 1 from by decide)]
        refine ih (x + 1) fu fu' _ _ (by omega) (by omega) (by omega) (fun u hu => ?_)
        rw [bt_cl (by omega) hu, bt_or (by omega) hu, hb u hu, Bool.not_or, Bool.and_assoc]
    · have d' : bt (gI τ 12) v = false := by cases h : bt (gI τ 12) v <;> simp_all
      rw [d', Bool.false_and] at b
      rw [d', if_pos ((bt_0 (by omega)).mpr b), if_pos (show (if false = true then (1 : Int32) else 0) = 0 from by decide)]
      exact ⟨_, rfl, rfl⟩
theorem sim_judge : SIMi Rl fX4_judge fX5_judge := by
  intro σ τ h
  obtain ⟨g1, g2, g3, ⟨A, wA, xA, mA, lA⟩, g5, ⟨⟨m5, m6, m7, m14⟩, g7⟩⟩ := id h
  have hP := wA.1.1
  unfold fX4_judge fX5_judge
  rw [noT mA wA, cali_s]
  by_cases z : A.1 0 = 0
  · rw [if_pos z, if_neg n10, if_pos (by rw [xA.1.1, z]; rfl)]
    exact ref_i h (-3) 3 (by decide) (by omega) (by omega)
  · have l : LegX σ A := by rcases lA with l | l; omega; exact l
    obtain ⟨σ', τ', k, m, c, e1, e2, e3, e4, e5, e6, e7, e8, e9⟩ := RDAY wA (by omega) xA mA l g2 m5 m6 m7
    rw [if_neg z, if_pos rfl, if_neg (by rw [xA.1.1, show (0 : Int32) = nI 0 from rfl, nI_eq_iff (by omega) (by omega)]; exact z), e1, calv_s, show (5 : Int32) = nI 5 from rfl, ald_n (by omega) (by omega), mA.1.2.2.2.2.2, e2, calv_s, bnd_ap, bnd_ap, bnd_ap, bnd_ap]
    have hR := Rl_s h e3 e4
    obtain ⟨L, hL, r1, r2, r3⟩ := hR.2.1
    obtain ⟨r, u1, u2⟩ := JUL hL r1 r2 r3 L 0 FU FU (gI σ' 26) 0 (by omega) (by rw [FU_eq]; omega) (by rw [FU_eq]; omega) (fun v hv => by
      rw [e9.1, show bt 0 v = false from by unfold bt; show (0#32).getLsbD v = false; exact BitVec.getLsbD_zero, Bool.not_false, Bool.and_true])
    exact ⟨r, σ', τ', u1, u2, hR⟩
