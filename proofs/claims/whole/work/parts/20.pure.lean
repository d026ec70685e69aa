/-! ===== pure facts: states, numbers ===== -/
theorem gI_sI (σ : ST) (k j : Nat) (v : Int32) : gI (sI σ k v) j = if j = k then v else gI σ j := rfl
theorem gI_sL (σ : ST) (k j : Nat) (v : Int64) : gI (sL σ k v) j = gI σ j := rfl
theorem gI_sA (σ : ST) (k j : Nat) (f : Nat → Int32) : gI (sA σ k f) j = gI σ j := rfl
theorem gL_sI (σ : ST) (k j : Nat) (v : Int32) : gL (sI σ k v) j = gL σ j := rfl
theorem gL_sL (σ : ST) (k j : Nat) (v : Int64) : gL (sL σ k v) j = if j = k then v else gL σ j := rfl
theorem gL_sA (σ : ST) (k j : Nat) (f : Nat → Int32) : gL (sA σ k f) j = gL σ j := rfl
theorem gA_sI (σ : ST) (k j : Nat) (v : Int32) : gA (sI σ k v) j = gA σ j := rfl
theorem gA_sL (σ : ST) (k j : Nat) (v : Int64) : gA (sL σ k v) j = gA σ j := rfl
theorem gA_sA (σ : ST) (k j : Nat) (f : Nat → Int32) : gA (sA σ k f) j = if j = k then f else gA σ j := rfl
theorem upd_ap (f : Nat → Int32) (k : Nat) (x : Int32) (j : Nat) : upd f k x j = if j = k then x else f j := rfl
theorem bnd_ap {α β : Type} (v : α) (k : α → Option β) : bnd v k = k v := id rfl
theorem cali_s {β : Type} (r : Int32) (σ : ST) (k : Int32 → ST → Option β) : cali (some (r, σ)) k = k r σ := id rfl
theorem call_s {β : Type} (r : Int64) (σ : ST) (k : Int64 → ST → Option β) : call (some (r, σ)) k = k r σ := id rfl
theorem calv_s {β : Type} (σ : ST) (k : ST → Option β) : calv (some σ) k = k σ := id rfl
theorem cals_s {β : Type} (r : Nat) (σ : ST) (k : Nat → ST → Option β) : cals (some (r, σ)) k = k r σ := id rfl
theorem na_add (a b : Nat) : nI a + nI b = nI (a + b) := by unfold nI; rw [Int32.ofNat_add]
theorem nI_le_iff {a b : Nat} (ha : a < 2147483648) (hb : b < 2147483648) : nI a ≤ nI b ↔ a ≤ b := by
  rw [Int32.le_iff_toInt_le, nI_toInt ha, nI_toInt hb]; omega
theorem nI_lt_iff {a b : Nat} (ha : a < 2147483648) (hb : b < 2147483648) : nI a < nI b ↔ a < b := by
  rw [Int32.lt_iff_toInt_lt, nI_toInt ha, nI_toInt hb]; omega
theorem nI_eq_iff {a b : Nat} (ha : a < 2147483648) (hb : b < 2147483648) : nI a = nI b ↔ a = b := by
  rw [← Int32.toInt_inj, nI_toInt ha, nI_toInt hb]; omega
theorem nI_cl {a : Nat} (ha : a < 2147483648) : (nI a).toNatClampNeg = a := nI_clamp ha
theorem nI_nneg {a : Nat} (ha : a < 2147483648) : ¬ nI a < 0 := nI_pos ha
theorem ald_n {β : Type} {f : Nat → Int32} {n j : Nat} {k : Int32 → Option β} (hj : j < n) (hn : n < 2147483648) : ald f n (nI j) k = k (f j) := by
  unfold ald
  rw [nI_cl (by omega), if_neg]
  rintro (h | h)
  · exact nI_nneg (by omega) h
  · omega
theorem ald_e {β : Type} {f : Nat → Int32} {n j : Nat} {i : Int32} {k : Int32 → Option β} (e : i = nI j) (hj : j < n) (hn : n < 2147483648) : ald f n i k = k (f j) := by
  rw [e]; exact ald_n hj hn
theorem ast_n {β : Type} {σ : ST} {q n j : Nat} {x : Int32} {k : ST → Option β} (hj : j < n) (hn : n < 2147483648) : ast σ q n (nI j) x k = k (sA σ q (upd (gA σ q) j x)) := by
  unfold ast
  rw [nI_cl (by omega), if_neg]
  rintro (h | h)
  · exact nI_nneg (by omega) h
  · omega
theorem ast_e {β : Type} {σ : ST} {q n j : Nat} {i x : Int32} {k : ST → Option β} (e : i = nI j) (hj : j < n) (hn : n < 2147483648) : ast σ q n i x k = k (sA σ q (upd (gA σ q) j x)) := by
  rw [e]; exact ast_n hj hn
/-- every int is below 0 or the number of a natural one -/
theorem na_of {x : Int32} (h : ¬ x < 0) : ∃ n : Nat, n < 2147483648 ∧ x = nI n := by
  refine ⟨x.toNatClampNeg, ?_, ?_⟩
  · have := Int32.toInt_lt x
    have h2 : x.toNatClampNeg = x.toInt.toNat := rfl
    rw [Int32.lt_iff_toInt_lt] at h
    rw [h2]
    have h3 : (0 : Int32).toInt = 0 := by decide
    omega
  · rw [← Int32.toInt_inj]
    have := Int32.toInt_lt x
    have h2 : x.toNatClampNeg = x.toInt.toNat := rfl
    rw [Int32.lt_iff_toInt_lt] at h
    have h3 : (0 : Int32).toInt = 0 := by decide
    rw [nI_toInt (by rw [h2]; omega), h2]
    omega
theorem l0 : (0 : Int32) = nI 0 := rfl
theorem l1 : (1 : Int32) = nI 1 := rfl
theorem l2 : (2 : Int32) = nI 2 := rfl
theorem l3 : (3 : Int32) = nI 3 := rfl
theorem l4 : (4 : Int32) = nI 4 := rfl
theorem l5 : (5 : Int32) = nI 5 := rfl
theorem l6 : (6 : Int32) = nI 6 := rfl
theorem l7 : (7 : Int32) = nI 7 := rfl
theorem l8 : (8 : Int32) = nI 8 := rfl
theorem l9 : (9 : Int32) = nI 9 := rfl
theorem l10 : (10 : Int32) = nI 10 := rfl
theorem l12 : (12 : Int32) = nI 12 := rfl
theorem l14 : (14 : Int32) = nI 14 := rfl
theorem l16 : (16 : Int32) = nI 16 := rfl
theorem l11 : (11 : Int32) = nI 11 := rfl
theorem l40 : (40 : Int32) = nI 40 := rfl
theorem l60 : (60 : Int32) = nI 60 := rfl
theorem l64 : (64 : Int32) = nI 64 := rfl
theorem l96 : (96 : Int32) = nI 96 := rfl
theorem l99 : (99 : Int32) = nI 99 := rfl
theorem l130 : (130 : Int32) = nI 130 := rfl
theorem l200 : (200 : Int32) = nI 200 := rfl
theorem l255 : (255 : Int32) = nI 255 := rfl
theorem l999 : (999 : Int32) = nI 999 := rfl
theorem l1000 : (1000 : Int32) = nI 1000 := rfl
theorem l2000 : (2000 : Int32) = nI 2000 := rfl
theorem l100000 : (100000 : Int32) = nI 100000 := rfl
theorem l1000000 : (1000000 : Int32) = nI 1000000 := rfl
