/-! ===== the row's order on both sides ===== -/
theorem nI_bv {a : Nat} (ha : a < 2147483648) : (nI a).toBitVec.toNat = a := by
  show (BitVec.ofNat 32 a).toNat = a
  rw [BitVec.toNat_ofNat]; exact Nat.mod_eq_of_lt (by omega)
theorem nI_or {a b : Nat} (ha : a < 1024) (hb : b < 1024) : nI a ||| nI b = nI (a ||| b) := by
  apply Int32.toBitVec_inj.mp
  apply BitVec.eq_of_toNat_eq
  have : a ||| b < 2 ^ 10 := Nat.or_lt_two_pow (by omega) (by omega)
  rw [Int32.toBitVec_or, BitVec.toNat_or, nI_bv (by omega), nI_bv (by omega), nI_bv (by omega)]
theorem nI_an {a b : Nat} (ha : a < 1024) (hb : b < 1024) : nI a &&& nI b = nI (a &&& b) := by
  apply Int32.toBitVec_inj.mp
  apply BitVec.eq_of_toNat_eq
  have : a &&& b < 2 ^ 10 := Nat.and_lt_two_pow a (by omega)
  rw [Int32.toBitVec_and, BitVec.toNat_and, nI_bv (by omega), nI_bv (by omega), nI_bv (by omega)]
theorem sh1 : ∀ v, v < 10 → (1 : Int32) <<< (nI v &&& 31) = nI (2 ^ v) := by decide +kernel
theorem shv : ∀ v, v < 10 → ((nI v &&& 31).toBitVec.smod 32).toNat = v := by decide +kernel
theorem p10 : ∀ v, v < 10 → 2 ^ v < 1024 := by decide +kernel
theorem tb_and : ∀ c, c < 1024 → ∀ v, v < 10 → (c &&& 2 ^ v = 0 ↔ c.testBit v = false) := by decide +kernel
theorem seenM {s v : Nat} (hs : s < 1024) (hv : v < 10) : ((nI s >>> (nI v &&& 31)) &&& 1) = 0 ↔ s.testBit v = false := by
  rw [pk_shrN (by omega) _ v (shv v hv), pk_andN (k := 1) (Nat.lt_of_le_of_lt (Nat.div_le_self _ _) (by omega)) (by rfl), show (0 : Int32) = nI 0 from rfl, nI_eq_iff (by omega) (by omega), Nat.testBit_eq_decide_div_mod_eq]
  rw [decide_eq_false_iff_not]
  omega
theorem seenC {c v : Nat} (hc : c < 1024) (hv : v < 10) : (nI c &&& nI (2 ^ v)) = 0 ↔ c.testBit v = false := by
  have : c &&& 2 ^ v < 2 ^ 10 := Nat.and_lt_two_pow c (p10 v hv)
  rw [nI_an hc (p10 v hv), show (0 : Int32) = nI 0 from rfl, nI_eq_iff (by omega) (by omega)]
  exact tb_and c hc v hv
theorem tb_or (c v u : Nat) : (c ||| 2 ^ v).testBit u = (c.testBit u || decide (v = u)) := by rw [Nat.testBit_or, Nat.testBit_two_pow]
theorem or_1024 {c v : Nat} (hc : c < 1024) (hv : v < 10) : c ||| 2 ^ v < 1024 := Nat.or_lt_two_pow (n := 10) hc (p10 v hv)
def b01 (c v : Nat) : Nat := if c.testBit v then 1 else 0
def cnt (c : Nat) : Nat := b01 c 0 + b01 c 1 + b01 c 2 + b01 c 3 + b01 c 4
theorem cnt_or {c : Nat} {v : Nat} (hv : v < 5) (h : c.testBit v = false) : cnt (c ||| 2 ^ v) = cnt c + 1 := by
  unfold cnt b01
  rw [tb_or, tb_or, tb_or, tb_or, tb_or]
  rcases v with _ | _ | _ | _ | _ | v
  · rw [h]; simp; omega
  · rw [h]; simp; omega
  · rw [h]; simp; omega
  · rw [h]; simp; omega
  · rw [h]; simp
  · omega
theorem b01_le (c v : Nat) : b01 c v ≤ 1 := by unfold b01; split <;> omega
theorem cnt_le (c : Nat) : cnt c ≤ 5 := by
  have := b01_le c 0
  have := b01_le c 1
  have := b01_le c 2
  have := b01_le c 3
  have := b01_le c 4
  unfold cnt; omega
def oX (σ σ' : ST) : Prop := (∀ k, gI σ' k = gI σ k) ∧ (∀ k, k ≠ 44 → gA σ' k = gA σ k)
def oM (τ τ' : ST) : Prop := (∀ k, k ≠ 8 → gI τ' k = gI τ k) ∧ (∀ k, k ≠ 12 → gA τ' k = gA τ k)
theorem oX.rf (σ : ST) : oX σ σ := ⟨fun _ => rfl, fun _ _ => rfl⟩
theorem oM.rf (σ : ST) : oM σ σ := ⟨fun _ _ => rfl, fun _ _ => rfl⟩
theorem oX.tr {a b c : ST} (h : oX a b) (g : oX b c) : oX a c := ⟨fun k => (g.1 k).trans (h.1 k), fun k q => (g.2 k q).trans (h.2 k q)⟩
theorem oM.tr {a b c : ST} (h : oM a b) (g : oM b c) : oM a c := ⟨fun k q => (g.1 k q).trans (h.1 k q), fun k q => (g.2 k q).trans (h.2 k q)⟩
/-- taken so far: n errands, alike -/
def OT (σ τ : ST) (E n : Nat) : Prop := gI τ 8 = nI n ∧ ∀ y, y < n → ∃ e, e < E ∧ gA σ 44 y = nI e ∧ gA τ 12 y = nI e
theorem ORL {E L : Nat} (hE : E ≤ 5) (hL : L ≤ 10) (but : Int32) : ∀ (j x fu fu' c s : Nat) (σ τ : ST), x + j = L → j < fu → j < fu' → c < 1024 → s < 1024 → (∀ v, v < E → ¬ nI v = but → c.testBit v = s.testBit v) → gI σ 0 = nI L → gI τ 17 = nI L → gI σ 5 = nI E → gA τ 1 2 = nI E → (∀ k, k < L → ∃ v : Nat, v ≤ 9 ∧ gA σ 43 k = nI v ∧ gA τ 13 k = nI v) → OT σ τ E (cnt c) → ∃ (σ' τ' : ST) (n : Nat), n ≤ 5 ∧ (∀ ke, fX4_orderOfRow_L7 ke fu but (nI (cnt c)) (nI c) (nI x) σ = ke (nI n) σ') ∧ (∀ ke, fX5_byRow_L9 ke fu' but (nI s) (nI x) τ = ke τ') ∧ oX σ σ' ∧ oM τ τ' ∧ OT σ' τ' E n := by
  intro j
  induction j with
  | zero =>
    intro x fu fu' c s σ τ hx h1 h2 hc hs hb r1 r2 r3 r4 rv O
    obtain ⟨fu, rfl⟩ : ∃ f, fu = f + 1 := ⟨fu - 1, by omega⟩
    obtain ⟨fu', rfl⟩ : ∃ f, fu' = f + 1 := ⟨fu' - 1, by omega⟩
    refine ⟨σ, τ, cnt c, cnt_le c, fun ke => ?_, fun ke => ?_, oX.rf _, oM.rf _, O⟩
    · unfold fX4_orderOfRow_L7
      rw [if_pos (by rw [r1, nI_le_iff (by omega) (by omega)]; omega)]
    · unfold fX5_byRow_L9
      rw [if_pos (by rw [r2, nI_le_iff (by omega) (by omega)]; omega)]
  | succ j ih =>
    intro x fu fu' c s σ τ hx h1 h2 hc hs hb r1 r2 r3 r4 rv O
    obtain ⟨fu, rfl⟩ : ∃ f, fu = f + 1 := ⟨fu - 1, by omega⟩
    obtain ⟨fu', rfl⟩ : ∃ f, fu' = f + 1 := ⟨fu' - 1, by omega⟩
    obtain ⟨v, hv, v1, v2⟩ := rv x (by omega)
    have nx : nI x + 1 = nI (x + 1) := by rw [l1, na_add]
    have eor : nI s ||| (1 <<< (nI v &&& 31)) = nI (s ||| 2 ^ v) := by rw [sh1 v (by omega), nI_or hs (p10 v (by omega))]
    have hs' := or_1024 hs (show v < 10 by omega)
    have Lx : ∀ ke, fX4_orderOfRow_L7 ke (fu + 1) but (nI (cnt c)) (nI c) (nI x) σ = (if nI E ≤ nI v then fX4_orderOfRow_L7 ke fu but (nI (cnt c)) (nI c) (nI (x + 1)) σ else (if nI v = but then fX4_orderOfRow_L7 ke fu but (nI (cnt c)) (nI c) (nI (x + 1)) σ else (if (nI c &&& nI (2 ^ v)) = 0 then (if 5 ≤ nI (cnt c) then fX4_orderOfRow_L7 ke fu but (nI (cnt c)) (nI c) (nI (x + 1)) σ else ast σ 44 5 (nI (cnt c)) (nI v) (fun σ_12 => fX4_orderOfRow_L7 ke fu but (nI (cnt c) + 1) (nI c ||| nI (2 ^ v)) (nI (x + 1)) σ_12)) else fX4_orderOfRow_L7 ke fu but (nI (cnt c)) (nI c) (nI (x + 1)) σ))) := by
      intro ke
      rw [fX4_orderOfRow_L7, if_neg (by rw [r1, nI_le_iff (by omega) (by omega)]; omega), ald_n (by omega) (by omega), v1, bnd_ap, bnd_ap, sh1 v (by omega), r3, nx]
      rfl
    have Lm : ∀ ke, fX5_byRow_L9 ke (fu' + 1) but (nI s) (nI x) τ = (if nI E ≤ nI v then fX5_byRow_L9 ke fu' but (nI (s ||| 2 ^ v)) (nI (x + 1)) τ else (if ((nI s >>> (nI v &&& 31)) &&& 1) = 0 then (if nI v = but then fX5_byRow_L9 ke fu' but (nI (s ||| 2 ^ v)) (nI (x + 1)) τ else ast τ 12 10 (gI τ 8) (nI v) (fun σ_13 => fX5_byRow_L9 ke fu' but (nI (s ||| 2 ^ v)) (nI (x + 1)) (sI σ_13 8 ((gI σ_13 8) + 1)))) else fX5_byRow_L9 ke fu' but (nI (s ||| 2 ^ v)) (nI (x + 1)) τ)) := by
      intro ke
      rw [fX5_byRow_L9, if_neg (by rw [r2, nI_le_iff (by omega) (by omega)]; omega), ald_n (by omega) (by omega), v2, bnd_ap, show (2 : Int32) = nI 2 from rfl, ald_n (by omega) (by omega), r4, eor, nx]
      rfl
    have skip : (∀ u, u < E → ¬ nI u = but → c.testBit u = (s ||| 2 ^ v).testBit u) → ∃ (σ' τ' : ST) (n : Nat), n ≤ 5 ∧ (∀ ke, fX4_orderOfRow_L7 ke fu but (nI (cnt c)) (nI c) (nI (x + 1)) σ = ke (nI n) σ') ∧ (∀ ke, fX5_byRow_L9 ke fu' but (nI (s ||| 2 ^ v)) (nI (x + 1)) τ = ke τ') ∧ oX σ σ' ∧ oM τ τ' ∧ OT σ' τ' E n := fun hb' => ih (x + 1) fu fu' c (s ||| 2 ^ v) σ τ (by omega) (by omega) (by omega) hc hs' hb' r1 r2 r3 r4 rv O
    by_cases z : E ≤ v
    · have z' : nI E ≤ nI v := by rw [nI_le_iff (by omega) (by omega)]; exact z
      obtain ⟨σ', τ', n, g1, g2, g3, g4⟩ := skip (fun u hu nb => by rw [tb_or, decide_eq_false (show ¬ v = u by omega), Bool.or_false]; exact hb u hu nb)
      exact ⟨σ', τ', n, g1, fun ke => by rw [Lx, if_pos z']; exact g2 ke, fun ke => by rw [Lm, if_pos z']; exact g3 ke, g4⟩
    · have z' : ¬ nI E ≤ nI v := by rw [nI_le_iff (by omega) (by omega)]; exact z
      by_cases zb : nI v = but
      · obtain ⟨σ', τ', n, g1, g2, g3, g4⟩ := skip (fun u hu nb => by
          have : ¬ v = u := fun q => nb (by rw [← q]; exact zb)
          rw [tb_or, decide_eq_false this, Bool.or_false]; exact hb u hu nb)
        refine ⟨σ', τ', n, g1, fun ke => by rw [Lx, if_neg z', if_pos zb]; exact g2 ke, fun ke => ?_, g4⟩
        rw [Lm, if_neg z', if_pos zb]
        split <;> exact g3 ke
      · have bb := hb v (by omega) zb
        by_cases sn : c.testBit v = false
        · have hcc : cnt (c ||| 2 ^ v) = cnt c + 1 := cnt_or (by omega) sn
          have hc5 := cnt_le (c ||| 2 ^ v)
          have hc' := or_1024 hc (show v < 10 by omega)
          have q5 : ¬ (5 : Int32) ≤ nI (cnt c) := by rw [l5, nI_le_iff (by omega) (by omega)]; omega
          have O' : OT (sA σ 44 (upd (gA σ 44) (cnt c) (nI v))) (sI (sA τ 12 (upd (gA τ 12) (cnt c) (nI v))) 8 (nI (cnt c + 1))) E (cnt (c ||| 2 ^ v)) := by
            refine ⟨by rw [hcc]; rfl, fun y hy => ?_⟩
            show ∃ e, e < E ∧ upd (gA σ 44) (cnt c) (nI v) y = nI e ∧ upd (gA τ 12) (cnt c) (nI v) y = nI e
            rw [upd_ap, upd_ap]
            by_cases w : y = cnt c
            · rw [if_pos w, if_pos w]; exact ⟨v, by omega, rfl, rfl⟩
            · rw [if_neg w, if_neg w]; exact O.2 y (by omega)
          obtain ⟨σ', τ', n, g1, g2, g3, g4, g5, g6⟩ := ih (x + 1) fu fu' (c ||| 2 ^ v) (s ||| 2 ^ v) (sA σ 44 (upd (gA σ 44) (cnt c) (nI v))) (sI (sA τ 12 (upd (gA τ 12) (cnt c) (nI v))) 8 (nI (cnt c + 1))) (by omega) (by omega) (by omega) hc' hs' (fun u hu nb => by rw [tb_or, tb_or, hb u hu nb]) r1 r2 r3 r4 rv O'
          refine ⟨σ', τ', n, g1, fun ke => ?_, fun ke => ?_, oX.tr (b := sA σ 44 (upd (gA σ 44) (cnt c) (nI v))) ⟨fun _ => rfl, fun k hk => by rw [gA_sA, if_neg hk]⟩ g4, oM.tr (b := sI (sA τ 12 (upd (gA τ 12) (cnt c) (nI v))) 8 (nI (cnt c + 1))) ⟨fun k hk => by rw [gI_sI, if_neg hk]; rfl, fun k hk => by rw [gA_sI, gA_sA, if_neg hk]⟩ g5, g6⟩
          · rw [Lx, if_neg z', if_neg zb, if_pos ((seenC hc (by omega)).mpr sn), if_neg q5, ast_n (by omega) (by omega), show nI (cnt c) + 1 = nI (cnt (c ||| 2 ^ v)) from by rw [hcc, l1, na_add], nI_or hc (p10 v (by omega))]
            exact g2 ke
          · rw [Lm, if_neg z', if_pos ((seenM hs (by omega)).mpr (by rw [← bb]; exact sn)), if_neg zb, O.1, ast_n (by omega) (by omega), gI_sA, O.1, show nI (cnt c) + 1 = nI (cnt c + 1) from by rw [l1, na_add]]
            exact g3 ke
        · have sn' : c.testBit v = true := by cases h : c.testBit v <;> simp_all
          have smn : ¬ ((nI s >>> (nI v &&& 31)) &&& 1) = 0 := by
            rw [seenM hs (by omega), ← bb]; exact sn
          have scn : ¬ (nI c &&& nI (2 ^ v)) = 0 := by
            rw [seenC hc (by omega)]; exact sn
          obtain ⟨σ', τ', n, g1, g2, g3, g4⟩ := skip (fun u hu nb => by
            rw [tb_or]
            by_cases q : v = u
            · subst q
              rw [sn', decide_eq_true rfl, Bool.or_true]
            · rw [decide_eq_false q, Bool.or_false]; exact hb u hu nb)
          exact ⟨σ', τ', n, g1, fun ke => by rw [Lx, if_neg z', if_neg zb, if_neg scn]; exact g2 ke, fun ke => by rw [Lm, if_neg z', if_neg smn]; exact g3 ke, g4⟩
theorem ORD {σ τ : ST} {A : TW} (wA : WFT A) (xA : XT σ 3 6 A) (mA : MT (gA τ 1) A) (hr : RowR σ τ) (but : Int32) : ∃ (σ' τ' : ST) (n : Nat), n ≤ 5 ∧ fX4_orderOfRow but σ = some (nI n, σ') ∧ fX5_byRow but τ = some τ' ∧ oX σ σ' ∧ oM τ τ' ∧ OT σ' τ' (A.1 2) n := by
  obtain ⟨L, hL, r1, r2, r3⟩ := hr
  obtain ⟨σ', τ', n, g1, g2, g3, g4, g5, g6⟩ := ORL wA.1.2.2.1 hL but L 0 FU FU 0 0 σ (sI τ 8 0) (by omega) (by rw [FU_eq]; omega) (by rw [FU_eq]; omega) (by omega) (by omega) (fun _ _ _ => rfl) r1 r2 xA.1.2.2.1 mA.1.2.2.1 r3 ⟨rfl, fun y hy => absurd hy (by have : cnt 0 = 0 := rfl; omega)⟩
  refine ⟨σ', τ', n, g1, ?_, ?_, g4, oM.tr (b := sI τ 8 0) ⟨fun k hk => by rw [gI_sI, if_neg hk], fun _ _ => rfl⟩ g5, g6⟩
  · unfold fX4_orderOfRow
    rw [bnd_ap, bnd_ap, bnd_ap]
    exact g2 _
  · unfold fX5_byRow
    rw [bnd_ap, bnd_ap, bnd_ap]
    exact g3 _
