/-! ===== the reference's statement as a whole ===== -/
def FD (c : Nat → Nat) (p : Nat) : Nat → Nat → Nat
  | 0, 0 => kdx (c (p + 1))
  | 0, 1 => numf c (p + 2) 1 0
  | 0, _ => numf c (p + 3) 1 0
  | 1, 0 => numf c (p + 1) 1 0
  | 1, 1 => numf c (p + 2) 1 0
  | 1, 2 => numf c (p + 3) 2 0
  | 1, _ => numf c (p + 5) 1 0
  | 2, 0 => numf c (p + 1) 1 0
  | 2, 1 => numf c (p + 2) 2 0
  | 2, 2 => numf c (p + 4) 2 0
  | 2, _ => numf c (p + 6) 3 0
  | 3, 0 => numf c (p + 1) 1 0
  | 3, _ => numf c (p + 2) 2 0
  | _, _ => numf c (p + 1) 1 0
def nFd : Nat → Nat
  | 0 => 3
  | 1 => 4
  | 2 => 4
  | 3 => 2
  | _ => 1
def pM' (τ τ' : ST) : Prop := (∀ k, k ≠ 2 → k ≠ 3 → k ≠ 4 → gI τ' k = gI τ k) ∧ (∀ k, k ≠ 6 → gA τ' k = gA τ k)
theorem pM'.tr {a b d : ST} (h : pM' a b) (g : pM' b d) : pM' a d := ⟨fun k q r t => (g.1 k q r t).trans (h.1 k q r t), fun k q => (g.2 k q).trans (h.2 k q)⟩
theorem sM.pM {a b : ST} (h : sM a b) : pM' a b := ⟨fun k q r _ => h.1 k q r, fun k _ => h.2 k⟩
def qF (i : Nat) (τ τ' : ST) : Prop := (∀ k, k ≠ 2 → k ≠ 3 → gI τ' k = gI τ k) ∧ (∀ k, k ≠ 6 → gA τ' k = gA τ k) ∧ ∀ q, q ≠ i → gA τ' 6 q = gA τ 6 q
theorem qF.pM {i : Nat} {a b : ST} (h : qF i a b) : pM' a b := ⟨fun k q r _ => h.1 k q r, fun k q => h.2.1 k q⟩
theorem qF_of {i : Nat} {τ τ' : ST} (h : sM τ τ') (r : Int32) : qF i τ (sA τ' 6 (upd (gA τ' 6) i r)) := ⟨fun k a b => h.1 k a b, fun k a => by rw [gA_sA, if_neg a]; exact h.2 k, fun q hq => by rw [gA_sA, if_pos rfl, upd_ap, if_neg hq, h.2]⟩
theorem RS_a {τ : ST} {o : Option Nat} {p q : Nat} {f : Nat → Int32} (h : RS τ o p) : RS (sA τ q f) o p := by cases o <;> exact h
theorem FGS {τ : ST} {n p : Nat} {c : Nat → Nat} {o : Option Nat} (s k j i : Nat) (kI iI : Int32) (ek : kI = nI k) (ei : iI = nI i) (hi : i < 4) (L : LTM τ n c) (hk : k ≤ 3) (hp : p + k ≤ 300) (cd : ∀ q, q < k → cdN s (j + q) = 48) (R : RS τ o p) : ∃ τ', (∀ K : ST → Option ST, cali (fX5_figures kI τ) (fun r t => ast t 6 4 iI r K) = K τ') ∧ RS τ' (oo o (fbI c n s k j p)) (p + k) ∧ (oo o (fbI c n s k j p) = none → gA τ' 6 i = nI (numf c p k 0)) ∧ LTM τ' n c ∧ qF i τ τ' := by
  subst ek ei
  obtain ⟨r, τ', u1, u2, u3, u4⟩ := FG L hk hp cd R
  refine ⟨sA τ' 6 (upd (gA τ' 6) i r), fun K => ?_, RS_a u2, fun h => ?_, LTM_c L (u4.1 1 (by omega) (by omega)) (by rw [gA_sA, if_neg (by omega)]; exact u4.2 3), qF_of u4 r⟩
  · rw [u1, cali_s, ast_n (by omega) (by omega)]
  · rw [gA_sA, if_pos rfl, upd_ap, if_pos rfl]; exact u3 h
theorem O6S {τ : ST} {n p : Nat} {c : Nat → Nat} {o : Option Nat} (L : LTM τ n c) (hb : gA τ 5 0 = 112 ∧ gA τ 5 1 = 119 ∧ gA τ 5 2 = 98 ∧ gA τ 5 3 = 104 ∧ gA τ 5 4 = 107 ∧ gA τ 5 5 = 110) (hp : p ≤ 300) (R : RS τ o p) : ∃ τ', (∀ K : ST → Option ST, cali (fX5_oneOf_6 τ) (fun r t => ast t 6 4 0 r K) = K τ') ∧ RS τ' (oo o (fbI c n 0 1 0 p)) (p + 1) ∧ (oo o (fbI c n 0 1 0 p) = none → gA τ' 6 0 = nI (kdx (c p))) ∧ LTM τ' n c ∧ qF 0 τ τ' := by
  obtain ⟨r, τ', u1, u4, u2, u3⟩ := O6 L hb hp R
  refine ⟨sA τ' 6 (upd (gA τ' 6) 0 r), fun K => ?_, RS_a u2, fun h => ?_, LTM_c L (u4.1 1 (by omega) (by omega)) (by rw [gA_sA, if_neg (by omega)]; exact u4.2 3), qF_of u4 r⟩
  · rw [u1, cali_s, show ast τ' 6 4 0 = ast τ' 6 4 (nI 0) from rfl, ast_n (by omega) (by omega)]
  · rw [gA_sA, if_pos rfl, upd_ap, if_pos rfl]; exact (u3 h).1
/-- what a statement of sort s comes to, from the letter behind its begin -/
theorem STS {τ : ST} {n p s : Nat} {c : Nat → Nat} {o : Option Nat} (L : LTM τ n c) (hk : gA τ 5 0 = 112 ∧ gA τ 5 1 = 119 ∧ gA τ 5 2 = 98 ∧ gA τ 5 3 = 104 ∧ gA τ 5 4 = 107 ∧ gA τ 5 5 = 110) (hp : p ≤ 200) (hs : s < 5) (e4 : gI τ 4 = nI s) (R : RS τ o (p + 1)) : ∃ τ', (if (gI τ 4) = 0 then cali (fX5_oneOf_6 τ) (fun r_5 σ_4 => ast σ_4 6 4 0 r_5 (fun σ_6 => cali (fX5_figures 1 σ_6) (fun r_8 σ_7 => ast σ_7 6 4 1 r_8 (fun σ_9 => cali (fX5_figures 1 σ_9) (fun r_11 σ_10 => ast σ_10 6 4 2 r_11 (fun σ_12 => fX5_statement_J217 σ_12)))))) else (if (gI τ 4) = 1 then cali (fX5_figures 1 τ) (fun r_19 σ_18 => ast σ_18 6 4 0 r_19 (fun σ_20 => cali (fX5_figures 1 σ_20) (fun r_22 σ_21 => ast σ_21 6 4 1 r_22 (fun σ_23 => cali (fX5_figures 2 σ_23) (fun r_25 σ_24 => ast σ_24 6 4 2 r_25 (fun σ_26 => cali (fX5_figures 1 σ_26) (fun r_28 σ_27 => ast σ_27 6 4 3 r_28 (fun σ_29 => fX5_statement_J217 σ_29)))))))) else (if (gI τ 4) = 2 then cali (fX5_figures 1 τ) (fun r_31 σ_30 => ast σ_30 6 4 0 r_31 (fun σ_32 => cali (fX5_figures 2 σ_32) (fun r_34 σ_33 => ast σ_33 6 4 1 r_34 (fun σ_35 => cali (fX5_figures 2 σ_35) (fun r_37 σ_36 => ast σ_36 6 4 2 r_37 (fun σ_38 => cali (fX5_figures 3 σ_38) (fun r_40 σ_39 => ast σ_39 6 4 3 r_40 (fun σ_41 => fX5_statement_J217 σ_41)))))))) else (if (gI τ 4) = 3 then cali (fX5_figures 1 τ) (fun r_43 σ_42 => ast σ_42 6 4 0 r_43 (fun σ_44 => cali (fX5_figures 2 σ_44) (fun r_46 σ_45 => ast σ_45 6 4 1 r_46 (fun σ_47 => fX5_statement_J217 σ_47)))) else cali (fX5_figures 1 τ) (fun r_49 σ_48 => ast σ_48 6 4 0 r_49 (fun σ_50 => fX5_statement_J217 σ_50)))))) = some τ' ∧ pM' τ τ' ∧ gI τ' 4 = nI s ∧ RS τ' (oo o (fbI c n s (leN s) 0 (p + 1))) (p + 1 + leN s) ∧ (oo o (fbI c n s (leN s) 0 (p + 1)) = none → ∀ i, i < nFd s → gA τ' 6 i = nI (FD c p s i)) := by
  rw [e4]
  rcases (show s = 0 ∨ s = 1 ∨ s = 2 ∨ s = 3 ∨ s = 4 by omega) with rfl | rfl | rfl | rfl | rfl
  · rw [if_pos (show nI 0 = 0 from rfl)]
    obtain ⟨τ1, a1, a2, a3, a4, a5⟩ := O6S L hk (by omega) R
    obtain ⟨τ2, b1, b2, b3, b4, b5⟩ := FGS 0 1 1 1 1 1 rfl rfl (by omega) a4 (by omega) (by omega) (by decide) a2
    obtain ⟨τ3, d1, d2, d3, d4, d5⟩ := FGS 0 1 2 2 1 2 rfl rfl (by omega) b4 (by omega) (by omega) (by decide) b2
    obtain ⟨τ4, f1, f2, f3⟩ := J217 (s := 0) (j := 3) d4 (by omega) rfl d2
    have e : oo o (fbI c n 0 (leN 0) 0 (p + 1)) = oo (oo (oo (oo o (fbI c n 0 1 0 (p + 1))) (fbI c n 0 1 1 (p + 1 + 1))) (fbI c n 0 1 2 (p + 1 + 1 + 1))) (fbI c n 0 1 3 (p + 1 + 1 + 1 + 1)) := by
      rw [show leN 0 = 1 + 1 + 1 + 1 from rfl, fbI_app, fbI_app, fbI_app, ← oo_as, ← oo_as, ← oo_as]
    refine ⟨τ4, by rw [a1, b1, d1, f1], a5.pM.tr (b5.pM.tr (d5.pM.tr f2.pM)), ?_, by rw [e]; exact f3, ?_⟩
    · rw [f2.1 4 (by omega) (by omega), d5.1 4 (by omega) (by omega), b5.1 4 (by omega) (by omega), a5.1 4 (by omega) (by omega)]; exact e4
    · rw [e]
      intro h i hi
      have hi : i < 3 := hi
      obtain ⟨h3, _⟩ := oo_none h
      obtain ⟨h2, _⟩ := oo_none h3
      obtain ⟨h1, _⟩ := oo_none h2
      rw [f2.2 6]
      rcases (show i = 0 ∨ i = 1 ∨ i = 2 by omega) with rfl | rfl | rfl
      · rw [d5.2.2 0 (by omega), b5.2.2 0 (by omega)]; exact a3 h1
      · rw [d5.2.2 1 (by omega)]; exact b3 h2
      · exact d3 h3
  · rw [if_neg (show ¬ nI 1 = 0 by decide), if_pos (show nI 1 = 1 from rfl)]
    obtain ⟨τ1, a1, a2, a3, a4, a5⟩ := FGS 1 1 0 0 1 0 rfl rfl (by omega) L (by omega) (by omega) (by decide) R
    obtain ⟨τ2, b1, b2, b3, b4, b5⟩ := FGS 1 1 1 1 1 1 rfl rfl (by omega) a4 (by omega) (by omega) (by decide) a2
    obtain ⟨τ3, d1, d2, d3, d4, d5⟩ := FGS 1 2 2 2 2 2 rfl rfl (by omega) b4 (by omega) (by omega) (by decide) b2
    obtain ⟨τ4, f1, f2, f3, f4, f5⟩ := FGS 1 1 4 3 1 3 rfl rfl (by omega) d4 (by omega) (by omega) (by decide) d2
    obtain ⟨τ5, g1, g2, g3⟩ := J217 (s := 1) (j := 5) f4 (by omega) rfl f2
    have e : oo o (fbI c n 1 (leN 1) 0 (p + 1)) = oo (oo (oo (oo (oo o (fbI c n 1 1 0 (p + 1))) (fbI c n 1 1 1 (p + 1 + 1))) (fbI c n 1 2 2 (p + 1 + 1 + 1))) (fbI c n 1 1 4 (p + 1 + 1 + 1 + 2))) (fbI c n 1 1 5 (p + 1 + 1 + 1 + 2 + 1)) := by
      rw [show leN 1 = 1 + 1 + 2 + 1 + 1 from rfl, fbI_app, fbI_app, fbI_app, fbI_app, ← oo_as, ← oo_as, ← oo_as, ← oo_as]
    refine ⟨τ5, by rw [a1, b1, d1, f1, g1], a5.pM.tr (b5.pM.tr (d5.pM.tr (f5.pM.tr g2.pM))), ?_, by rw [e]; exact g3, ?_⟩
    · rw [g2.1 4 (by omega) (by omega), f5.1 4 (by omega) (by omega), d5.1 4 (by omega) (by omega), b5.1 4 (by omega) (by omega), a5.1 4 (by omega) (by omega)]; exact e4
    · rw [e]
      intro h i hi
      have hi : i < 4 := hi
      obtain ⟨h4, _⟩ := oo_none h
      obtain ⟨h3, _⟩ := oo_none h4
      obtain ⟨h2, _⟩ := oo_none h3
      obtain ⟨h1, _⟩ := oo_none h2
      rw [g2.2 6]
      rcases (show i = 0 ∨ i = 1 ∨ i = 2 ∨ i = 3 by omega) with rfl | rfl | rfl | rfl
      · rw [f5.2.2 0 (by omega), d5.2.2 0 (by omega), b5.2.2 0 (by omega)]; exact a3 h1
      · rw [f5.2.2 1 (by omega), d5.2.2 1 (by omega)]; exact b3 h2
      · rw [f5.2.2 2 (by omega)]; exact d3 h3
      · exact f3 h4
  · rw [if_neg (show ¬ nI 2 = 0 by decide), if_neg (show ¬ nI 2 = 1 by decide), if_pos (show nI 2 = 2 from rfl)]
    obtain ⟨τ1, a1, a2, a3, a4, a5⟩ := FGS 2 1 0 0 1 0 rfl rfl (by omega) L (by omega) (by omega) (by decide) R
    obtain ⟨τ2, b1, b2, b3, b4, b5⟩ := FGS 2 2 1 1 2 1 rfl rfl (by omega) a4 (by omega) (by omega) (by decide) a2
    obtain ⟨τ3, d1, d2, d3, d4, d5⟩ := FGS 2 2 3 2 2 2 rfl rfl (by omega) b4 (by omega) (by omega) (by decide) b2
    obtain ⟨τ4, f1, f2, f3, f4, f5⟩ := FGS 2 3 5 3 3 3 rfl rfl (by omega) d4 (by omega) (by omega) (by decide) d2
    obtain ⟨τ5, g1, g2, g3⟩ := J217 (s := 2) (j := 8) f4 (by omega) rfl f2
    have e : oo o (fbI c n 2 (leN 2) 0 (p + 1)) = oo (oo (oo (oo (oo o (fbI c n 2 1 0 (p + 1))) (fbI c n 2 2 1 (p + 1 + 1))) (fbI c n 2 2 3 (p + 1 + 1 + 2))) (fbI c n 2 3 5 (p + 1 + 1 + 2 + 2))) (fbI c n 2 1 8 (p + 1 + 1 + 2 + 2 + 3)) := by
      rw [show leN 2 = 1 + 2 + 2 + 3 + 1 from rfl, fbI_app, fbI_app, fbI_app, fbI_app, ← oo_as, ← oo_as, ← oo_as, ← oo_as]
    refine ⟨τ5, by rw [a1, b1, d1, f1, g1], a5.pM.tr (b5.pM.tr (d5.pM.tr (f5.pM.tr g2.pM))), ?_, by rw [e]; exact g3, ?_⟩
    · rw [g2.1 4 (by omega) (by omega), f5.1 4 (by omega) (by omega), d5.1 4 (by omega) (by omega), b5.1 4 (by omega) (by omega), a5.1 4 (by omega) (by omega)]; exact e4
    · rw [e]
      intro h i hi
      have hi : i < 4 := hi
      obtain ⟨h4, _⟩ := oo_none h
      obtain ⟨h3, _⟩ := oo_none h4
      obtain ⟨h2, _⟩ := oo_none h3
      obtain ⟨h1, _⟩ := oo_none h2
      rw [g2.2 6]
      rcases (show i = 0 ∨ i = 1 ∨ i = 2 ∨ i = 3 by omega) with rfl | rfl | rfl | rfl
      · rw [f5.2.2 0 (by omega), d5.2.2 0 (by omega), b5.2.2 0 (by omega)]; exact a3 h1
      · rw [f5.2.2 1 (by omega), d5.2.2 1 (by omega)]; exact b3 h2
      · rw [f5.2.2 2 (by omega)]; exact d3 h3
      · exact f3 h4
  · rw [if_neg (show ¬ nI 3 = 0 by decide), if_neg (show ¬ nI 3 = 1 by decide), if_neg (show ¬ nI 3 = 2 by decide), if_pos (show nI 3 = 3 from rfl)]
    obtain ⟨τ1, a1, a2, a3, a4, a5⟩ := FGS 3 1 0 0 1 0 rfl rfl (by omega) L (by omega) (by omega) (by decide) R
    obtain ⟨τ2, b1, b2, b3, b4, b5⟩ := FGS 3 2 1 1 2 1 rfl rfl (by omega) a4 (by omega) (by omega) (by decide) a2
    obtain ⟨τ3, f1, f2, f3⟩ := J217 (s := 3) (j := 3) b4 (by omega) rfl b2
    have e : oo o (fbI c n 3 (leN 3) 0 (p + 1)) = oo (oo (oo o (fbI c n 3 1 0 (p + 1))) (fbI c n 3 2 1 (p + 1 + 1))) (fbI c n 3 1 3 (p + 1 + 1 + 2)) := by
      rw [show leN 3 = 1 + 2 + 1 from rfl, fbI_app, fbI_app, ← oo_as, ← oo_as]
    refine ⟨τ3, by rw [a1, b1, f1], a5.pM.tr (b5.pM.tr f2.pM), ?_, by rw [e]; exact f3, ?_⟩
    · rw [f2.1 4 (by omega) (by omega), b5.1 4 (by omega) (by omega), a5.1 4 (by omega) (by omega)]; exact e4
    · rw [e]
      intro h i hi
      have hi : i < 2 := hi
      obtain ⟨h2, _⟩ := oo_none h
      obtain ⟨h1, _⟩ := oo_none h2
      rw [f2.2 6]
      rcases (show i = 0 ∨ i = 1 by omega) with rfl | rfl
      · rw [b5.2.2 0 (by omega)]; exact a3 h1
      · exact b3 h2
  · rw [if_neg (show ¬ nI 4 = 0 by decide), if_neg (show ¬ nI 4 = 1 by decide), if_neg (show ¬ nI 4 = 2 by decide), if_neg (show ¬ nI 4 = 3 by decide)]
    obtain ⟨τ1, a1, a2, a3, a4, a5⟩ := FGS 4 1 0 0 1 0 rfl rfl (by omega) L (by omega) (by omega) (by decide) R
    obtain ⟨τ2, f1, f2, f3⟩ := J217 (s := 4) (j := 1) a4 (by omega) rfl a2
    have e : oo o (fbI c n 4 (leN 4) 0 (p + 1)) = oo (oo o (fbI c n 4 1 0 (p + 1))) (fbI c n 4 1 1 (p + 1 + 1)) := by
      rw [show leN 4 = 1 + 1 from rfl, fbI_app, ← oo_as]
    refine ⟨τ2, by rw [a1, f1], a5.pM.tr f2.pM, ?_, by rw [e]; exact f3, ?_⟩
    · rw [f2.1 4 (by omega) (by omega), a5.1 4 (by omega) (by omega)]; exact e4
    · rw [e]
      intro h i hi
      have hi : i < 1 := hi
      obtain ⟨h1, _⟩ := oo_none h
      rw [f2.2 6]
      obtain rfl : i = 0 := by omega
      exact a3 h1
theorem STM {τ : ST} {n p : Nat} {c : Nat → Nat} (L : LTM τ n c) (hb : gA τ 4 0 = 112 ∧ gA τ 4 1 = 119 ∧ gA τ 4 2 = 101 ∧ gA τ 4 3 = 102 ∧ gA τ 4 4 = 100) (hk : gA τ 5 0 = 112 ∧ gA τ 5 1 = 119 ∧ gA τ 5 2 = 98 ∧ gA τ 5 3 = 104 ∧ gA τ 5 4 = 107 ∧ gA τ 5 5 = 110) (hp : p ≤ n) (R : RS τ none p) : ∃ τ', fX5_statement τ = some τ' ∧ pM' τ τ' ∧ (((n ≤ p ∨ srt (c p) = 5) ∧ RS τ' (some p) p) ∨ (p < n ∧ srt (c p) < 5 ∧ gI τ' 4 = nI (srt (c p)) ∧ RS τ' (fbI c n (srt (c p)) (leN (srt (c p))) 0 (p + 1)) (p + 1 + leN (srt (c p))) ∧ (fbI c n (srt (c p)) (leN (srt (c p))) 0 (p + 1) = none → ∀ i, i < nFd (srt (c p)) → gA τ' 6 i = nI (FD c p (srt (c p)) i)))) := by
  obtain ⟨r, τ1, a1, a2, a3⟩ := O5 L hb hp R
  have hn := L.2.1
  have L1 : LTM (sI τ1 4 r) n c := LTM_c L (by rw [gI_sI, if_neg (by omega)]; exact a2.1 1 (by omega) (by omega)) (a2.2 3)
  have f1 : pM' τ (sI τ1 4 r) := ⟨fun k q r t => by rw [gI_sI, if_neg t]; exact a2.1 k q r, fun k _ => a2.2 k⟩
  have k1 : gA (sI τ1 4 r) 5 0 = 112 ∧ gA (sI τ1 4 r) 5 1 = 119 ∧ gA (sI τ1 4 r) 5 2 = 98 ∧ gA (sI τ1 4 r) 5 3 = 104 ∧ gA (sI τ1 4 r) 5 4 = 107 ∧ gA (sI τ1 4 r) 5 5 = 110 := by rw [gA_sI, a2.2 5]; exact hk
  unfold fX5_statement
  rw [a1, cali_s, bnd_ap]
  rcases a3 with ⟨b1, b2, b3⟩ | ⟨b1, b2, b3, b4⟩
  · obtain ⟨τ', u1, u2, u3, u4, u5⟩ := STS (τ := sI τ1 4 r) (s := 0) (o := some p) (p := p) L1 k1 (by omega) (by omega) (by rw [gI_sI, if_pos rfl, b2]; rfl) b3
    exact ⟨τ', u1, f1.tr u2, Or.inl ⟨b1, u4⟩⟩
  · obtain ⟨τ', u1, u2, u3, u4, u5⟩ := STS (τ := sI τ1 4 r) (s := srt (c p)) (o := none) (p := p) L1 k1 (by omega) b2 (by rw [gI_sI, if_pos rfl, b3]) b4
    exact ⟨τ', u1, f1.tr u2, Or.inr ⟨b1, b2, u3, u4, u5⟩⟩
