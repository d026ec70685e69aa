/-! ===== town: the second pass ===== -/
theorem NUML {σ : ST} {n q0 k : Nat} {c : Nat → Nat} (LX : LTX σ n c) (hq : q0 + k ≤ n) (ke : Int32 → ST → Option (Int32 × ST)) : ∀ (r q y fu : Nat), q + r = q0 + k → r < fu → (∀ i, i < r → 48 ≤ c (q + i)) → fX1_number_L5 ke fu (nI q0) (nI k) (nI y) (nI q) σ = ke (nI (numf c q r y)) σ := by
  obtain ⟨L1, L2, L3⟩ := LX
  intro r
  induction r with
  | zero =>
    intro q y fu h1 h2 _
    obtain ⟨fu, rfl⟩ : ∃ f, fu = f + 1 := ⟨fu - 1, by omega⟩
    rw [fX1_number_L5, na_add, if_pos (by rw [nI_le_iff (by omega) (by omega)]; omega)]
    rfl
  | succ r ih =>
    intro q y fu h1 h2 h
    obtain ⟨fu, rfl⟩ : ∃ f, fu = f + 1 := ⟨fu - 1, by omega⟩
    obtain ⟨e1, e2⟩ := L3 q (by omega)
    have h0 := h 0 (by omega)
    rw [Nat.add_zero] at h0
    rw [fX1_number_L5, na_add, if_neg (by rw [nI_le_iff (by omega) (by omega)]; omega), L1, if_neg (by rw [nI_le_iff (by omega) (by omega)]; omega), ald_n (by omega) (by omega), e1, bnd_ap, bnd_ap, d48 h0, show nI q + 1 = nI (q + 1) from by rw [l1, na_add], ih (q + 1) _ fu (by omega) (by omega) (fun i hi => by rw [show q + 1 + i = q + (i + 1) by omega]; exact h (i + 1) (by omega))]
    rfl
theorem NUMX {σ : ST} {n p q k : Nat} {c : Nat → Nat} {qI kI : Int32} (LX : LTX σ n c) (eq : qI = nI q) (ek : kI = nI k) (hq : q + k ≤ n) (h : ∀ i, i < k → 48 ≤ c (q + i)) (_ : p = 0) : fX1_number qI kI σ = some (nI (numf c q k 0), σ) := by
  subst eq ek
  have hn := LX.2.1
  unfold fX1_number
  rw [bnd_ap, bnd_ap]
  exact NUML LX hq (fun x3_6 σ_7 => some (x3_6, σ_7)) k q 0 FU (by omega) (by rw [FU_eq]; omega) h
theorem KINX {σ : ST} {n q : Nat} {c : Nat → Nat} (LX : LTX σ n c) (hq : q < n) (hk : kdx (c q) < 6) : fX1_kindAt (nI q) σ = some (nI (kdx (c q)), σ) := by
  obtain ⟨L1, L2, L3⟩ := LX
  obtain ⟨e1, e2⟩ := L3 q hq
  unfold fX1_kindAt
  rw [L1, if_neg (by rw [nI_le_iff (by omega) (by omega)]; omega), ald_n (by omega) (by omega), e1]
  unfold sg
  rw [if_pos (by decide), sIdx _ e2, cali_s, if_pos hk]
theorem OUT_bz {f : Option (Int32 × ST)} {σ τ : ST} (h : OUT f σ τ) : OUT (cali f (fun r s => bz r (some (r, s)))) σ τ := by
  unfold OUT at h ⊢
  rcases h with ⟨h1, h2⟩ | ⟨σ', τ', A', h1, h2⟩
  · left
    rw [h1]
    exact ⟨rfl, h2⟩
  · right
    rw [h1]
    exact ⟨σ', τ', A', rfl, h2⟩
theorem srt_c {v : Nat} (h : srt v < 5) : (v = 112 ∧ srt v = 0) ∨ (v = 119 ∧ srt v = 1) ∨ (v = 101 ∧ srt v = 2) ∨ (v = 102 ∧ srt v = 3) ∨ (v = 100 ∧ srt v = 4) := by
  by_cases a : v = 112
  · subst a; exact Or.inl ⟨rfl, rfl⟩
  by_cases b : v = 119
  · subst b; exact Or.inr (Or.inl ⟨rfl, rfl⟩)
  by_cases d : v = 101
  · subst d; exact Or.inr (Or.inr (Or.inl ⟨rfl, rfl⟩))
  by_cases e : v = 102
  · subst e; exact Or.inr (Or.inr (Or.inr (Or.inl ⟨rfl, rfl⟩)))
  by_cases f : v = 100
  · subst f; exact Or.inr (Or.inr (Or.inr (Or.inr ⟨rfl, rfl⟩)))
  unfold srt at h
  rw [if_neg a, if_neg b, if_neg d, if_neg e, if_neg f] at h
  omega
theorem fit48 {v : Nat} (h : fitB 48 v = true) : 48 ≤ v ∧ v ≤ 57 := by
  unfold fitB at h
  rw [if_neg (by omega), if_pos rfl, decide_eq_true_iff] at h
  exact h
theorem num1 {c : Nat → Nat} {q : Nat} (h : c q ≤ 57) : numf c q 1 0 < 10 := by
  show 10 * 0 + (c q - 48) < 10
  omega
theorem num2 {c : Nat → Nat} {q : Nat} (h : c q ≤ 57) (h' : c (q + 1) ≤ 57) : numf c q 2 0 < 100 := by
  show 10 * (10 * 0 + (c q - 48)) + (c (q + 1) - 48) < 100
  omega
theorem num3 {c : Nat → Nat} {q : Nat} (h : c q ≤ 57) (h' : c (q + 1) ≤ 57) (h'' : c (q + 1 + 1) ≤ 57) : numf c q 3 0 < 1000 := by
  show 10 * (10 * (10 * 0 + (c q - 48)) + (c (q + 1) - 48)) + (c (q + 1 + 1) - 48) < 1000
  omega
theorem dg1 {c : Nat → Nat} {q : Nat} (h : 48 ≤ c q) : ∀ i, i < 1 → 48 ≤ c (q + i) := by
  intro i hi
  obtain rfl : i = 0 := by omega
  exact h
theorem dg2 {c : Nat → Nat} {q : Nat} (h : 48 ≤ c q) (h' : 48 ≤ c (q + 1)) : ∀ i, i < 2 → 48 ≤ c (q + i) := by
  intro i hi
  rcases (show i = 0 ∨ i = 1 by omega) with rfl | rfl
  · exact h
  · exact h'
theorem dg3 {c : Nat → Nat} {q : Nat} (h : 48 ≤ c q) (h' : 48 ≤ c (q + 1)) (h'' : 48 ≤ c (q + 2)) : ∀ i, i < 3 → 48 ≤ c (q + i) := by
  intro i hi
  rcases (show i = 0 ∨ i = 1 ∨ i = 2 by omega) with rfl | rfl | rfl
  · exact h
  · exact h'
  · exact h''
theorem nIa (a b : Nat) {x : Int32} (e : x = nI b) : nI a + x = nI (a + b) := by rw [e, na_add]
theorem TEL {σ τ : ST} {n p : Nat} {c : Nat → Nat} {A : TW} (LX : LTX σ n c) (hp : p < n) (hs : srt (c p) < 5) (hf : fbI c n (srt (c p)) (leN (srt (c p))) 0 (p + 1) = none) (wA : WFT A) (xA : XT σ 15 28 A) (mA : MT (gA τ 1) A) (e4 : gI τ 4 = nI (srt (c p))) (fl : ∀ i, i < nFd (srt (c p)) → gA τ 6 i = nI (FD c p (srt (c p)) i)) : OUT (fX1_tellStatement_6 (nI p) σ) σ τ := by
  obtain ⟨L1, L2, L3⟩ := id LX
  obtain ⟨e1, e2⟩ := L3 p hp
  have F := fbI_none c n _ _ _ _ hf
  have V : ∀ k, k < 256 → (nI (c p) = nI k ↔ c p = k) := fun k hk => nI_eq_iff (by omega) (by omega)
  have D : ∀ i, i < leN (srt (c p)) → cdN (srt (c p)) i = 48 → p + 1 + i < n ∧ 48 ≤ c (p + 1 + i) ∧ c (p + 1 + i) ≤ 57 := by
    intro i hi hc
    obtain ⟨f1, f2⟩ := F i hi
    rw [Nat.zero_add, hc] at f2
    exact ⟨f1, fit48 f2⟩
  unfold fX1_tellStatement_6
  rw [ald_n (by omega) (by omega), e1]
  rcases srt_c hs with ⟨v, s⟩ | ⟨v, s⟩ | ⟨v, s⟩ | ⟨v, s⟩ | ⟨v, s⟩
  · rw [s] at F D e4 fl
    have K := (F 0 (by decide))
    have K2 : kdx (c (p + 1)) < 6 := by
      have := K.2
      unfold fitB at this
      rw [if_pos (show cdN 0 (0 + 0) = 107 from rfl), decide_eq_true_iff] at this
      exact this
    have D1 := D 1 (by decide) rfl
    have D2 := D 2 (by decide) rfl
    have h1 := dg1 (c := c) (q := p + 2) D1.2.1
    have h2 := dg1 (c := c) (q := p + 3) D2.2.1
    rw [v, if_neg (show ¬ nI 112 = 100 by decide), if_neg (show ¬ nI 112 = 101 by decide), if_neg (show ¬ nI 112 = 102 by decide), if_pos (show nI 112 = 112 from rfl), show nI p + 1 = nI (p + 1) from nIa p 1 rfl, show nI p + 2 = nI (p + 2) from nIa p 2 rfl, show nI p + 3 = nI (p + 3) from nIa p 3 rfl, KINX LX (by omega) K2, cali_s, NUMX (p := 0) (q := p + 2) (k := 1) (kI := 1) LX rfl rfl (by omega) h1 rfl, cali_s, NUMX (p := 0) (q := p + 3) (k := 1) (kI := 1) LX rfl rfl (by omega) h2 rfl, cali_s]
    exact OUT_bz (PLA wA xA mA e4 (fl 0 (by decide)) (fl 1 (by decide)) (fl 2 (by decide)) K2 (num1 D1.2.2) (num1 D2.2.2))
  · rw [s] at F D e4 fl
    have D0 := D 0 (by decide) rfl
    have D1 := D 1 (by decide) rfl
    have D2 := D 2 (by decide) rfl
    have D3 := D 3 (by decide) rfl
    have D4 := D 4 (by decide) rfl
    have h0 := dg1 (c := c) (q := p + 1) D0.2.1
    have h1 := dg1 (c := c) (q := p + 2) D1.2.1
    have h2 := dg2 (c := c) (q := p + 3) D2.2.1 D3.2.1
    have h3 := dg1 (c := c) (q := p + 5) D4.2.1
    rw [v, if_neg (show ¬ nI 119 = 100 by decide), if_neg (show ¬ nI 119 = 101 by decide), if_neg (show ¬ nI 119 = 102 by decide), if_neg (show ¬ nI 119 = 112 by decide), if_pos (show nI 119 = 119 from rfl), show nI p + 1 = nI (p + 1) from nIa p 1 rfl, show nI p + 2 = nI (p + 2) from nIa p 2 rfl, show nI p + 3 = nI (p + 3) from nIa p 3 rfl, show nI p + 5 = nI (p + 5) from nIa p 5 rfl, NUMX (p := 0) (q := p + 1) (k := 1) (kI := 1) LX rfl rfl (by omega) h0 rfl, cali_s, NUMX (p := 0) (q := p + 2) (k := 1) (kI := 1) LX rfl rfl (by omega) h1 rfl, cali_s, NUMX (p := 0) (q := p + 3) (k := 2) (kI := 2) LX rfl rfl (by omega) h2 rfl, cali_s, NUMX (p := 0) (q := p + 5) (k := 1) (kI := 1) LX rfl rfl (by omega) h3 rfl, cali_s]
    exact OUT_bz (WYA wA xA mA e4 (fl 0 (by decide)) (fl 1 (by decide)) (fl 2 (by decide)) (fl 3 (by decide)) (num1 D0.2.2) (num1 D1.2.2) (num2 D2.2.2 D3.2.2) (num1 D4.2.2))
  · rw [s] at F D e4 fl
    have D0 := D 0 (by decide) rfl
    have D1 := D 1 (by decide) rfl
    have D2 := D 2 (by decide) rfl
    have D3 := D 3 (by decide) rfl
    have D4 := D 4 (by decide) rfl
    have D5 := D 5 (by decide) rfl
    have D6 := D 6 (by decide) rfl
    have D7 := D 7 (by decide) rfl
    have h0 := dg1 (c := c) (q := p + 1) D0.2.1
    have h1 := dg2 (c := c) (q := p + 2) D1.2.1 D2.2.1
    have h2 := dg2 (c := c) (q := p + 4) D3.2.1 D4.2.1
    have h3 := dg3 (c := c) (q := p + 6) D5.2.1 D6.2.1 D7.2.1
    rw [v, if_neg (show ¬ nI 101 = 100 by decide), if_pos (show nI 101 = 101 from rfl), show nI p + 1 = nI (p + 1) from nIa p 1 rfl, show nI p + 2 = nI (p + 2) from nIa p 2 rfl, show nI p + 4 = nI (p + 4) from nIa p 4 rfl, show nI p + 6 = nI (p + 6) from nIa p 6 rfl, NUMX (p := 0) (q := p + 1) (k := 1) (kI := 1) LX rfl rfl (by omega) h0 rfl, cali_s, NUMX (p := 0) (q := p + 2) (k := 2) (kI := 2) LX rfl rfl (by omega) h1 rfl, cali_s, NUMX (p := 0) (q := p + 4) (k := 2) (kI := 2) LX rfl rfl (by omega) h2 rfl, cali_s, NUMX (p := 0) (q := p + 6) (k := 3) (kI := 3) LX rfl rfl (by omega) h3 rfl, cali_s]
    exact OUT_bz (ERA wA xA mA e4 (fl 0 (by decide)) (fl 1 (by decide)) (fl 2 (by decide)) (fl 3 (by decide)) (num1 D0.2.2) (num2 D1.2.2 D2.2.2) (num2 D3.2.2 D4.2.2) (num3 D5.2.2 D6.2.2 D7.2.2))
  · rw [s] at F D e4 fl
    have D0 := D 0 (by decide) rfl
    have D1 := D 1 (by decide) rfl
    have D2 := D 2 (by decide) rfl
    have h0 := dg1 (c := c) (q := p + 1) D0.2.1
    have h1 := dg2 (c := c) (q := p + 2) D1.2.1 D2.2.1
    rw [v, if_neg (show ¬ nI 102 = 100 by decide), if_neg (show ¬ nI 102 = 101 by decide), if_pos (show nI 102 = 102 from rfl), show nI p + 1 = nI (p + 1) from nIa p 1 rfl, show nI p + 2 = nI (p + 2) from nIa p 2 rfl, NUMX (p := 0) (q := p + 1) (k := 1) (kI := 1) LX rfl rfl (by omega) h0 rfl, cali_s, NUMX (p := 0) (q := p + 2) (k := 2) (kI := 2) LX rfl rfl (by omega) h1 rfl, cali_s]
    exact OUT_bz (FUA wA xA mA e4 (fl 0 (by decide)) (fl 1 (by decide)) (num1 D0.2.2) (num2 D1.2.2 D2.2.2))
  · rw [s] at F D e4 fl
    have D0 := D 0 (by decide) rfl
    have h0 := dg1 (c := c) (q := p + 1) D0.2.1
    rw [v, if_pos (show nI 100 = 100 from rfl), show nI p + 1 = nI (p + 1) from nIa p 1 rfl, NUMX (p := 0) (q := p + 1) (k := 1) (kI := 1) LX rfl rfl (by omega) h0 rfl, cali_s]
    exact OUT_bz (DRA wA xA mA e4 (fl 0 (by decide)) (num1 D0.2.2))
/-- no statement begins there -/
theorem SK2 {σ : ST} {n : Nat} {c : Nat → Nat} (LX : LTX σ n c) (ke : ST → Option (Int32 × ST)) : ∀ (r q fu : Nat), 1 ≤ q → q + r ≤ n → (∀ i, i < r → c (q - 1 + i) ≠ 59) → fX1_firstWrongStatement_6_L2 ke (fu + r) (nI q) σ = fX1_firstWrongStatement_6_L2 ke fu (nI (q + r)) σ := by
  obtain ⟨L1, L2, L3⟩ := LX
  intro r
  induction r with
  | zero => intro q fu _ _ _; rfl
  | succ r ih =>
    intro q fu h1 hq h
    obtain ⟨e1, e2⟩ := L3 (q - 1) (by omega)
    have h0 := h 0 (by omega)
    rw [Nat.add_zero] at h0
    rw [show fu + (r + 1) = (fu + r) + 1 by omega, fX1_firstWrongStatement_6_L2, L1, if_neg (by rw [nI_le_iff (by omega) (by omega)]; omega), if_neg (show ¬ nI q = 0 by rw [l0, nI_eq_iff (by omega) (by omega)]; omega), show nI q - 1 = nI (q - 1) from by rw [l1, pk_sub (by omega)], ald_n (by omega) (by omega), e1, if_neg (show ¬ nI (c (q - 1)) = 59 by rw [show (59 : Int32) = nI 59 from rfl, nI_eq_iff (by omega) (by omega)]; exact h0)]
    unfold fX1_firstWrongStatement_6_J32
    rw [bnd_ap, if_pos rfl, bnd_ap, l1, na_add, ih (q + 1) fu (by omega) (by omega) (fun i hi => by rw [show q + 1 - 1 + i = q - 1 + (i + 1) by omega]; exact h (i + 1) (by omega)), show q + 1 + r = q + (r + 1) by omega]
def uM (τ τ' : ST) : Prop := (∀ k, k ≠ 2 → k ≠ 3 → k ≠ 4 → gI τ' k = gI τ k) ∧ (∀ k, k ≠ 1 → k ≠ 6 → gA τ' k = gA τ k)
theorem uM.tr {a b d : ST} (h : uM a b) (g : uM b d) : uM a d := ⟨fun k q r t => (g.1 k q r t).trans (h.1 k q r t), fun k q r => (g.2 k q r).trans (h.2 k q r)⟩
theorem trX.tr {a b d : ST} (h : trX a b) (g : trX b d) : trX a d := ⟨fun k q => (g.1 k q).trans (h.1 k q), fun k q => (g.2 k q).trans (h.2 k q)⟩
theorem PS2 {n : Nat} {c : Nat → Nat} (ke : ST → Option (Int32 × ST)) (ke' : Int32 → ST → Option (Int32 × ST)) (x1 : Int32) : ∀ (k p fu fu' : Nat) (σ τ : ST) (A : TW), GPr c n k p → p ≤ n → (p = 0 ∨ c (p - 1) = 59) → k < fu' → LTX σ n c → LTM τ n c → BGK τ → RS τ none p → WFT A → XT σ 15 28 A → MT (gA τ 1) A → ∃ σ' τ', trX σ σ' ∧ uM τ τ' ∧ ((∃ q, q ≤ n ∧ fX1_firstWrongStatement_6_L2 ke (fu + (n - p) + 1) (nI p) σ = some (nI q, σ') ∧ fX5_read_L69 ke' fu' x1 τ = calv (fX5_move_8_2 τ') (fun s => some ((-2000) - nI q, s))) ∨ (fX1_firstWrongStatement_6_L2 ke (fu + (n - p) + 1) (nI p) σ = ke σ' ∧ fX5_read_L69 ke' fu' x1 τ = ke' x1 τ' ∧ ∃ A', WFT A' ∧ XT σ' 15 28 A' ∧ MT (gA τ' 1) A')) := by
  intro k
  induction k with
  | zero =>
    intro p fu fu' σ τ A g hp _ hf LX LM B R wA xA mA
    obtain ⟨fu', rfl⟩ : ∃ f, fu' = f + 1 := ⟨fu' - 1, by omega⟩
    have hn := LX.2.1
    have g : p = n := g
    refine ⟨σ, τ, ⟨fun _ _ => rfl, fun _ _ => rfl⟩, ⟨fun _ _ _ _ => rfl, fun _ _ _ => rfl⟩, Or.inr ⟨?_, ?_, A, wA, xA, mA⟩⟩
    · rw [fX1_firstWrongStatement_6_L2, LX.1, if_pos (by rw [nI_le_iff (by omega) (by omega)]; omega)]
    · rw [fX5_read_L69, LM.1, R.1, if_pos (by rw [nI_le_iff (by omega) (by omega)]; omega)]
  | succ k ih =>
    intro p fu fu' σ τ A g hp hb hf LX LM B R wA xA mA
    obtain ⟨fu', rfl⟩ : ∃ f, fu' = f + 1 := ⟨fu' - 1, by omega⟩
    obtain ⟨L1, L2, L3⟩ := id LX
    obtain ⟨g1, g2, g3, g4⟩ := g
    obtain ⟨τ1, u1, u2, u3⟩ := STM LM B.1 B.2 hp R
    rcases u3 with ⟨w, _⟩ | ⟨w1, w2, w3, w4, w5⟩
    · rcases w with w | w
      · omega
      · omega
    have w5 := w5 g3
    rw [g3] at w4
    obtain ⟨i1, i2, i3⟩ := INS g2 g3
    have T := TEL (τ := τ1) LX g1 g2 g3 wA xA (by rw [u2.2 1 (by omega)]; exact mA) w3 w5
    have cx : ∀ f : Nat, fX1_firstWrongStatement_6_L2 ke (f + 1) (nI p) σ = cali (fX1_tellStatement_6 (nI p) σ) (fun r_5 σ_4 => (if r_5 = 0 then some (nI p, σ_4) else fX1_firstWrongStatement_6_L2 ke f (nI (p + 1)) σ_4)) := by
      intro f
      rw [fX1_firstWrongStatement_6_L2, L1, if_neg (by rw [nI_le_iff (by omega) (by omega)]; omega)]
      unfold fX1_firstWrongStatement_6_J27 fX1_firstWrongStatement_6_J32
      simp only [bnd_ap, if_neg n10]
      rw [show nI p + 1 = nI (p + 1) from by rw [l1, na_add]]
      by_cases p0 : p = 0
      · rw [if_pos (by rw [p0]; rfl)]
      · have hb : c (p - 1) = 59 := by rcases hb with hb | hb; exact absurd hb p0; exact hb
        rw [if_neg (show ¬ nI p = 0 by rw [l0, nI_eq_iff (by omega) (by omega)]; exact p0), show nI p - 1 = nI (p - 1) from by rw [l1, pk_sub (by omega)], ald_n (by omega) (by omega), (L3 (p - 1) (by omega)).1, hb, if_pos (show nI 59 = 59 from rfl)]
    have cm : fX5_read_L69 ke' (fu' + 1) x1 τ = cali (fX5_isAsItMustBe τ1) (fun r_13 σ_12 => (if r_13 = 0 then calv (fX5_move_8_2 σ_12) (fun σ_15 => some (((-2000) - nI p), σ_15)) else calv (fX5_take σ_12) (fun σ_14 => fX5_read_L69 ke' fu' x1 σ_14))) := by
      rw [fX5_read_L69, LM.1, R.1, if_neg (by rw [nI_le_iff (by omega) (by omega)]; omega), bnd_ap, u1, calv_s]
    have m1 : uM τ τ1 := ⟨fun k a b d => u2.1 k a b d, fun k _ b => u2.2 k b⟩
    rcases T with ⟨t1, t2⟩ | ⟨σ', τ', A', t1, t2, t3, t4, t5, t6, t7, t8⟩
    · refine ⟨σ, τ1, ⟨fun _ _ => rfl, fun _ _ => rfl⟩, m1, Or.inl ⟨p, hp, ?_, ?_⟩⟩
      · rw [cx, t1, cali_s, if_pos rfl]
      · rw [cm, t2, cali_s, if_pos rfl]
    · obtain ⟨S, hS⟩ : ∃ z, z = srt (c p) := ⟨_, rfl⟩
      rw [← hS] at w4 g4 i1 i2 i3 w2 w3
      have LX' : LTX σ' n c := by
        unfold LTX at LX ⊢
        rw [t7.1 2 (by omega), t7.2 5 (by omega)]
        exact LX
      obtain ⟨le1, le2⟩ := leN_le S (by omega)
      have m2 : uM τ1 τ' := ⟨fun k _ _ _ => t8.1 k, fun k a _ => t8.2 k a⟩
      obtain ⟨σ2, τ2, v1, v2, v3⟩ := ih (p + 1 + leN S) fu fu' σ' τ' A' g4 i1 (Or.inr (by rw [show p + 1 + leN S - 1 = p + leN S by omega]; exact i2)) (by omega) LX' (LTM_c LM ((m1.tr m2).1 1 (by omega) (by omega) (by omega)) ((m1.tr m2).2 3 (by omega) (by omega))) (by
        unfold BGK at B ⊢
        rw [(m1.tr m2).2 4 (by omega) (by omega), (m1.tr m2).2 5 (by omega) (by omega)]
        exact B) (show RS τ' none (p + 1 + leN S) from ⟨(t8.1 2).trans w4.1, (t8.1 3).trans w4.2⟩) t4 t5 t6
      have sk := SK2 LX' ke (leN S) (p + 1) (fu + (n - (p + 1 + leN S)) + 1) (by omega) (by omega) (by
        intro i hi
        by_cases z : i = 0
        · rw [z]; exact srt59 g2
        · have := i3 (i - 1) (by omega)
          rw [show p + 1 + (i - 1) = p + 1 - 1 + i by omega] at this
          exact this)
      refine ⟨σ2, τ2, t7.tr v1, (m1.tr m2).tr v2, ?_⟩
      rw [show fu + (n - p) + 1 = (fu + (n - (p + 1 + leN S)) + 1 + leN S) + 1 by omega, cx, t1, cali_s, if_neg n10, sk, cm, t2, cali_s, if_neg n10, t3, calv_s]
      exact v3
