/-! ===== the next order ===== -/
def fiN (a : Nat → Nat) : Nat → Nat
  | 0 => 0
  | i + 1 => if a i ≤ a (i + 1) then i + 1 else fiN a i
def fjN (a : Nat → Nat) (i : Nat) : Nat → Nat
  | 0 => 0
  | j + 1 => if j + 1 ≤ i then j + 1 else if a i ≤ a (j + 1) then j + 1 else fjN a i j
def swN (a : Nat → Nat) (x y : Nat) : Nat → Nat := fun k => if k = y then a x else if k = x then a y else a k
def rvN : Nat → (Nat → Nat) → Nat → Nat → (Nat → Nat)
  | 0, a, _, _ => a
  | f + 1, a, x, y => if y ≤ x then a else rvN f (swN a x y) (x + 1) (y - 1)
def nxN (n : Nat) (a : Nat → Nat) : Option (Nat → Nat) := if n = 0 then none else if fiN a (n - 1) = 0 then none else some (rvN 3 (swN a (fiN a (n - 1) - 1) (fjN a (fiN a (n - 1) - 1) (n - 1))) (fiN a (n - 1)) (n - 1))
def ordT : Nat → List (List Nat)
  | 0 => [[]]
  | 1 => [[0]]
  | 2 => [[0, 1], [1, 0]]
  | 3 => [[0, 1, 2], [0, 2, 1], [1, 0, 2], [1, 2, 0], [2, 0, 1], [2, 1, 0]]
  | 4 => [[0, 1, 2, 3], [0, 1, 3, 2], [0, 2, 1, 3], [0, 2, 3, 1], [0, 3, 1, 2], [0, 3, 2, 1], [1, 0, 2, 3], [1, 0, 3, 2], [1, 2, 0, 3], [1, 2, 3, 0], [1, 3, 0, 2], [1, 3, 2, 0], [2, 0, 1, 3], [2, 0, 3, 1], [2, 1, 0, 3], [2, 1, 3, 0], [2, 3, 0, 1], [2, 3, 1, 0], [3, 0, 1, 2], [3, 0, 2, 1], [3, 1, 0, 2], [3, 1, 2, 0], [3, 2, 0, 1], [3, 2, 1, 0]]
  | _ => [[0, 1, 2, 3, 4], [0, 1, 2, 4, 3], [0, 1, 3, 2, 4], [0, 1, 3, 4, 2], [0, 1, 4, 2, 3], [0, 1, 4, 3, 2], [0, 2, 1, 3, 4], [0, 2, 1, 4, 3], [0, 2, 3, 1, 4], [0, 2, 3, 4, 1], [0, 2, 4, 1, 3], [0, 2, 4, 3, 1], [0, 3, 1, 2, 4], [0, 3, 1, 4, 2], [0, 3, 2, 1, 4], [0, 3, 2, 4, 1], [0, 3, 4, 1, 2], [0, 3, 4, 2, 1], [0, 4, 1, 2, 3], [0, 4, 1, 3, 2], [0, 4, 2, 1, 3], [0, 4, 2, 3, 1], [0, 4, 3, 1, 2], [0, 4, 3, 2, 1], [1, 0, 2, 3, 4], [1, 0, 2, 4, 3], [1, 0, 3, 2, 4], [1, 0, 3, 4, 2], [1, 0, 4, 2, 3], [1, 0, 4, 3, 2], [1, 2, 0, 3, 4], [1, 2, 0, 4, 3], [1, 2, 3, 0, 4], [1, 2, 3, 4, 0], [1, 2, 4, 0, 3], [1, 2, 4, 3, 0], [1, 3, 0, 2, 4], [1, 3, 0, 4, 2], [1, 3, 2, 0, 4], [1, 3, 2, 4, 0], [1, 3, 4, 0, 2], [1, 3, 4, 2, 0], [1, 4, 0, 2, 3], [1, 4, 0, 3, 2], [1, 4, 2, 0, 3], [1, 4, 2, 3, 0], [1, 4, 3, 0, 2], [1, 4, 3, 2, 0], [2, 0, 1, 3, 4], [2, 0, 1, 4, 3], [2, 0, 3, 1, 4], [2, 0, 3, 4, 1], [2, 0, 4, 1, 3], [2, 0, 4, 3, 1], [2, 1, 0, 3, 4], [2, 1, 0, 4, 3], [2, 1, 3, 0, 4], [2, 1, 3, 4, 0], [2, 1, 4, 0, 3], [2, 1, 4, 3, 0], [2, 3, 0, 1, 4], [2, 3, 0, 4, 1], [2, 3, 1, 0, 4], [2, 3, 1, 4, 0], [2, 3, 4, 0, 1], [2, 3, 4, 1, 0], [2, 4, 0, 1, 3], [2, 4, 0, 3, 1], [2, 4, 1, 0, 3], [2, 4, 1, 3, 0], [2, 4, 3, 0, 1], [2, 4, 3, 1, 0], [3, 0, 1, 2, 4], [3, 0, 1, 4, 2], [3, 0, 2, 1, 4], [3, 0, 2, 4, 1], [3, 0, 4, 1, 2], [3, 0, 4, 2, 1], [3, 1, 0, 2, 4], [3, 1, 0, 4, 2], [3, 1, 2, 0, 4], [3, 1, 2, 4, 0], [3, 1, 4, 0, 2], [3, 1, 4, 2, 0], [3, 2, 0, 1, 4], [3, 2, 0, 4, 1], [3, 2, 1, 0, 4], [3, 2, 1, 4, 0], [3, 2, 4, 0, 1], [3, 2, 4, 1, 0], [3, 4, 0, 1, 2], [3, 4, 0, 2, 1], [3, 4, 1, 0, 2], [3, 4, 1, 2, 0], [3, 4, 2, 0, 1], [3, 4, 2, 1, 0], [4, 0, 1, 2, 3], [4, 0, 1, 3, 2], [4, 0, 2, 1, 3], [4, 0, 2, 3, 1], [4, 0, 3, 1, 2], [4, 0, 3, 2, 1], [4, 1, 0, 2, 3], [4, 1, 0, 3, 2], [4, 1, 2, 0, 3], [4, 1, 2, 3, 0], [4, 1, 3, 0, 2], [4, 1, 3, 2, 0], [4, 2, 0, 1, 3], [4, 2, 0, 3, 1], [4, 2, 1, 0, 3], [4, 2, 1, 3, 0], [4, 2, 3, 0, 1], [4, 2, 3, 1, 0], [4, 3, 0, 1, 2], [4, 3, 0, 2, 1], [4, 3, 1, 0, 2], [4, 3, 1, 2, 0], [4, 3, 2, 0, 1], [4, 3, 2, 1, 0]]
def ordP (n k j : Nat) : Nat := ((ordT n).getD k []).getD j 0
def factN : Nat → Nat
  | 0 => 1
  | 1 => 1
  | 2 => 2
  | 3 => 6
  | 4 => 24
  | _ => 120
theorem factN_le (n : Nat) : 1 ≤ factN n ∧ factN n ≤ 120 := by
  unfold factN
  split <;> omega
/-- one step of the table -/
def ordC (n k : Nat) : Bool := match nxN n (ordP n k) with
  | none => decide (k + 1 = factN n)
  | some b => decide (k + 1 < factN n) && (List.range n).all (fun j => b j == ordP n (k + 1) j)
theorem ordC_all : ∀ n, n < 6 → ∀ k, k < factN n → ordC n k = true ∧ ∀ j, j < n → ordP n k j < n := by decide +kernel
theorem ordP_0 : ∀ n, n < 6 → ∀ j, j < n → ordP n 0 j = j := by decide +kernel
theorem nIpd (i : Nat) : nI (i + 1) + (-1) = nI i := by
  rw [← na_add, Int32.add_assoc, show nI 1 + (-1) = 0 from by decide, Int32.add_zero]
def ARn (σ : ST) (q n : Nat) (a : Nat → Nat) : Prop := ∀ j, j < n → gA σ q j = nI (a j) ∧ a j < 5
theorem fi_le (a : Nat → Nat) : ∀ i, fiN a i ≤ i := by
  intro i
  induction i with
  | zero => exact Nat.le_refl 0
  | succ i ih => rw [fiN]; split <;> omega
theorem fj_le (a : Nat → Nat) (i : Nat) : ∀ j, fjN a i j ≤ j := by
  intro j
  induction j with
  | zero => exact Nat.le_refl 0
  | succ j ih =>
    rw [fjN]
    split
    · omega
    · split <;> omega
theorem ARn_sw {a : Nat → Nat} {n x y : Nat} {q m : Nat} {σ : ST} (A : ARn σ q n a) (hx : x < n) (hy : y < n) {σ' : ST} (e : σ' = sA (sA σ q (upd (gA σ q) x (gA σ q y))) q (upd (gA (sA σ q (upd (gA σ q) x (gA σ q y))) q) y (gA σ q x))) (_ : m = 0) : ARn σ' q n (swN a x y) := by
  intro j hj
  rw [e, gA_sA, if_pos rfl, upd_ap, gA_sA, if_pos rfl, upd_ap]
  unfold swN
  by_cases h1 : j = y
  · rw [if_pos h1, if_pos h1]; exact A x hx
  · rw [if_neg h1, if_neg h1]
    by_cases h2 : j = x
    · rw [if_pos h2, if_pos h2]; exact A y hy
    · rw [if_neg h2, if_neg h2]; exact A j hj
def tX (σ σ' : ST) : Prop := (∀ k, gI σ' k = gI σ k) ∧ (∀ k, gL σ' k = gL σ k) ∧ (∀ k, k ≠ 44 → gA σ' k = gA σ k)
def tM (σ σ' : ST) : Prop := (∀ k, gI σ' k = gI σ k) ∧ (∀ k, gL σ' k = gL σ k) ∧ (∀ k, k ≠ 12 → gA σ' k = gA σ k)
theorem tX.tr {a b c : ST} (h : tX a b) (g : tX b c) : tX a c := ⟨fun k => (g.1 k).trans (h.1 k), fun k => (g.2.1 k).trans (h.2.1 k), fun k q => (g.2.2 k q).trans (h.2.2 k q)⟩
theorem tM.tr {a b c : ST} (h : tM a b) (g : tM b c) : tM a c := ⟨fun k => (g.1 k).trans (h.1 k), fun k => (g.2.1 k).trans (h.2.1 k), fun k q => (g.2.2 k q).trans (h.2.2 k q)⟩
theorem swX {σ : ST} {n x y : Nat} {a : Nat → Nat} (A : ARn σ 44 n a) (hn : n ≤ 5) (hx : x < n) (hy : y < n) : ∃ σ', fX4_swapInOrder (nI x) (nI y) σ = some σ' ∧ ARn σ' 44 n (swN a x y) ∧ tX σ σ' := by
  refine ⟨_, ?_, ARn_sw A hx hy rfl rfl, fun _ => rfl, fun _ => rfl, fun k hk => by rw [gA_sA, if_neg hk, gA_sA, if_neg hk]⟩
  unfold fX4_swapInOrder
  rw [ald_n (by omega) (by omega), bnd_ap, ald_n (by omega) (by omega), ast_n (by omega) (by omega), ast_n (by omega) (by omega)]
theorem swM {σ : ST} {n x y : Nat} {a : Nat → Nat} (A : ARn σ 12 n a) (hn : n ≤ 5) (hx : x < n) (hy : y < n) : ∃ σ', fX5_swap (nI x) (nI y) σ = some σ' ∧ ARn σ' 12 n (swN a x y) ∧ tM σ σ' := by
  refine ⟨_, ?_, ARn_sw A hx hy rfl rfl, fun _ => rfl, fun _ => rfl, fun k hk => by rw [gA_sA, if_neg hk, gA_sA, if_neg hk]⟩
  unfold fX5_swap
  rw [ald_n (by omega) (by omega), bnd_ap, ald_n (by omega) (by omega), ast_n (by omega) (by omega), ast_n (by omega) (by omega)]
theorem rvX {n : Nat} (hn : n ≤ 5) (ke : ST → Option (Int32 × ST)) : ∀ (f x y fu : Nat) (σ : ST) (a : Nat → Nat), ARn σ 44 n a → y ≤ x + 2 * f → y < n → f < fu → ∃ σ', fX4_turnToNextOrder_L83 ke fu (nI x) (nI y) σ = ke σ' ∧ ARn σ' 44 n (rvN f a x y) ∧ tX σ σ' := by
  intro f
  induction f with
  | zero =>
    intro x y fu σ a A h1 h2 h3
    obtain ⟨fu, rfl⟩ : ∃ f, fu = f + 1 := ⟨fu - 1, by omega⟩
    refine ⟨σ, ?_, A, fun _ => rfl, fun _ => rfl, fun _ _ => rfl⟩
    by_cases xx : x < 1000
    · rw [fX4_turnToNextOrder_L83, if_pos (by rw [nI_le_iff (by omega) (by omega)]; omega)]
    · omega
  | succ f ih =>
    intro x y fu σ a A h1 h2 h3
    obtain ⟨fu, rfl⟩ : ∃ f, fu = f + 1 := ⟨fu - 1, by omega⟩
    rw [rvN]
    by_cases c : y ≤ x
    · refine ⟨σ, ?_, by rw [if_pos c]; exact A, fun _ => rfl, fun _ => rfl, fun _ _ => rfl⟩
      by_cases xx : x < 1000
      · rw [fX4_turnToNextOrder_L83, if_pos (by rw [nI_le_iff (by omega) (by omega)]; omega)]
      · omega
    · obtain ⟨σ1, s1, s2, s3⟩ := swX A hn (x := x) (y := y) (by omega) h2
      obtain ⟨σ2, u1, u2, u3⟩ := ih (x + 1) (y - 1) fu σ1 _ s2 (by omega) (by omega) (by omega)
      refine ⟨σ2, ?_, by rw [if_neg c]; exact u2, s3.tr u3⟩
      rw [fX4_turnToNextOrder_L83, if_neg (by rw [nI_le_iff (by omega) (by omega)]; omega), s1, calv_s, bnd_ap, bnd_ap, l1, na_add, show nI y + (-1) = nI (y - 1) from by rw [← nIpd (y - 1), show y - 1 + 1 = y by omega]]
      exact u1
