/-! ===== the next order ===== -/
def fiN (a : Nat → Nat) : Nat → Nat
  | 0 => 0
  | i + 1 => if a i ≤ a (i + 1) then i + 1 else fiN a i
def fjN (a : Nat → Nat) (i : Nat) : Nat → Nat
  | 0 => 0
  | j + 1 => if j + 1 ≤ i then j + 1 else if a i ≤ a (j + 1) then j + 1 else fjN a i j
def swN (a : Nat → Nat) (x y : Nat) : Nat → Nat := fun k => if k = y then a x else if k = x then a y else a k
def rvN : Nat → (Nat → Nat) → Nat → Nat → (Nat → Nat)
  | 0, a, _, _ => a
  | f + 1, a, x, y => if y ≤ x then a else rvN f (swN a x y) (x + 1) (y - 1)
def nxN (n : Nat) (a : Nat → Nat) : Option (Nat → Nat) := if n = 0 then none else if fiN a (n - 1) = 0 then none else some (rvN 3 (swN a (fiN a (n - 1) - 1) (fjN a (fiN a (n - 1) - 1) (n - 1))) (fiN a (n - 1)) (n - 1))
def ordT : Nat → List (List Nat)
  | 0 => [[]]
  | 1 => [[0]]
  | 2 => [[0, 1], [1, 0]]
  | 3 => [[0, 1, 2], [0, 2, 1], [1, 0, 2], [1, 2, 0], [2, 0, 1], [2, 1, 0]]
  | 4 => [[0, 1, 2, 3], [0, 1, 3, 2], [0, 2, 1, 3], [0, 2, 3, 1], [0, 3, 1, 2], [0, 3, 2, 1], [1, 0, 2, 3], [1, 0, 3, 2], [1, 2, 0, 3], [1, 2, 3, 0], [1, 3, 0, 2], [1, 3, 2, 0], [2, 0, 1, 3], [2, 0, 3, 1], [2, 1, 0, 3], [2, 1, 3, 0], [2, 3, 0, 1], [2, 3, 1, 0], [3, 0, 1, 2], [3, 0, 2, 1], [3, 1, 0, 2], [3, 1, 2, 0], [3, 2, 0, 1], [3, 2, 1, 0]]
  | _ => [[0, 1, 2, 3, 4], [0, 1, 2, 4, 3], [0, 1, 3, 2, 4], [0, 1, 3, 4, 2], [0, 1, 4, 2, 3], [0, 1, 4, 3, 2], [0, 2, 1, 3, 4], [0, 2, 1, 4, 3], [0, 2, 3, 1, 4], [0, 2, 3, 4, 1], [0, 2, 4, 1, 3], [0, 2, 4, 3, 1], [0, 3, 1, 2, 4], [0, 3, 1, 4, 2], [0, 3, 2, 1, 4], [0, 3, 2, 4, 1], [0, 3, 4, 1, 2], [0, 3, 4, 2, 1], [0, 4, 1, 2, 3], [0, 4, 1, 3, 2], [0, 4, 2, 1, 3], [0, 4, 2, 3, 1], [0, 4, 3, 1, 2], [0, 4, 3, 2, 1], [1, 0, 2, 3, 4], [1, 0, 2, 4, 3], [1, 0, 3, 2, 4], [1, 0, 3, 4, 2], [1, 0, 4, 2, 3], [1, 0, 4, 3, 2], [1, 2, 0, 3, 4], [1, 2, 0, 4, 3], [1, 2, 3, 0, 4], [1, 2, 3, 4, 0], [1, 2, 4, 0, 3], [1, 2, 4, 3, 0], [1, 3, 0, 2, 4], [1, 3, 0, 4, 2], [1, 3, 2, 0, 4], [1, 3, 2, 4, 0], [1, 3, 4, 0, 2], [1, 3, 4, 2, 0], [1, 4, 0, 2, 3], [1, 4, 0, 3, 2], [1, 4, 2, 0, 3], [1, 4, 2, 3, 0], [1, 4, 3, 0, 2], [1, 4, 3, 2, 0], [2, 0, 1, 3, 4], [2, 0, 1, 4, 3], [2, 0, 3, 1, 4], [2, 0, 3, 4, 1], [2, 0, 4, 1, 3], [2, 0, 4, 3, 1], [2, 1, 0, 3, 4], [2, 1, 0, 4, 3], [2, 1, 3, 0, 4], [2, 1, 3, 4, 0], [2, 1, 4, 0, 3], [2, 1, 4, 3, 0], [2, 3, 0, 1, 4], [2, 3, 0, 4, 1], [2, 3, 1, 0, 4], [2, 3, 1, 4, 0], [2, 3, 4, 0, 1], [2, 3, 4, 1, 0], [2, 4, 0, 1, 3], [2, 4, 0, 3, 1], [2, 4, 1, 0, 3], [2, 4, 1, 3, 0], [2, 4, 3, 0, 1], [2, 4, 3, 1, 0], [3, 0, 1, 2, 4], [3, 0, 1, 4, 2], [3, 0, 2, 1, 4], [3, 0, 2, 4, 1], [3, 0, 4, 1, 2], [3, 0, 4, 2, 1], [3, 1, 0, 2, 4], [3, 1, 0, 4, 2], [3, 1, 2, 0, 4], [3, 1, 2, 4, 0], [3, 1, 4, 0, 2], [3, 1, 4, 2, 0], [3, 2, 0, 1, 4], [3, 2, 0, 4, 1], [3, 2, 1, 0, 4], [3, 2, 1, 4, 0], [3, 2, 4, 0, 1], [3, 2, 4, 1, 0], [3, 4, 0, 1, 2], [3, 4, 0, 2, 1], [3, 4, 1, 0, 2], [3, 4, 1, 2, 0], [3, 4, 2, 0, 1], [3, 4, 2, 1, 0], [4, 0, 1, 2, 3], [4, 0, 1, 3, 2], [4, 0, 2, 1, 3], [4, 0, 2, 3, 1], [4, 0, 3, 1, 2], [4, 0, 3, 2, 1], [4, 1, 0, 2, 3], [4, 1, 0, 3, 2], [4, 1, 2, 0, 3], [4, 1, 2, 3, 0], [4, 1, 3, 0, 2], [4, 1, 3, 2, 0], [4, 2, 0, 1, 3], [4, 2, 0, 3, 1], [4, 2, 1, 0, 3], [4, 2, 1, 3, 0], [4, 2, 3, 0, 1], [4, 2, 3, 1, 0], [4, 3, 0, 1, 2], [4, 3, 0, 2, 1], [4, 3, 1, 0, 2], [4, 3, 1, 2, 0], [4, 3, 2, 0, 1], [4, 3, 2, 1, 0]]
def ordP (n k j : Nat) : Nat := ((ordT n).getD k []).getD j 0
def factN : Nat → Nat
  | 0 => 1
  | 1 => 1
  | 2 => 2
  | 3 => 6
  | 4 => 24
  | _ => 120
theorem factN_le (n : Nat) : 1 ≤ factN n ∧ factN n ≤ 120 := by
  unfold factN
  split <;> omega
/-- one step of the table -/
def ordC (n k : Nat) : Bool := match nxN n (ordP n k) with
  | none => decide (k + 1 = factN n)
  | some b => decide (k + 1 < factN n) && (List.range n).all (fun j => b j == ordP n (k + 1) j)
theorem ordC_all : ∀ n, n < 6 → ∀ k, k < factN n → ordC n k = true ∧ ∀ j, j < n → ordP n k j < n := by decide +kernel
theorem ordP_0 : ∀ n, n < 6 → ∀ j, j < n → ordP n 0 j = j := by decide +kernel
theorem nIpd (i : Nat) : nI (i + 1) + (-1) = nI i := by
  rw [← na_add, Int32.add_assoc, show nI 1 + (-1) = 0 from by decide, Int32.add_zero]
def ARn (σ : ST) (q n : Nat) (a : Nat → Nat) : Prop := ∀ j, j < n → gA σ q j = nI (a j) ∧ a j < 5
theorem fi_le (a : Nat → Nat) : ∀ i, fiN a i ≤ i := by
  intro i
  induction i with
  | zero => exact Nat.le_refl 0
  | succ i ih => rw [fiN]; split <;> omega
theorem fj_le (a : Nat → Nat) (i : Nat) : ∀ j, fjN a i j ≤ j := by
  intro j
  induction j with
  | zero => exact Nat.le_refl 0
  | succ j ih =>
    rw [fjN]
    split
    · omega
    · split <;> omega
theorem ARn_sw {a : Nat → Nat} {n x y : Nat} {q m : Nat} {σ : ST} (A : ARn σ q n a) (hx : x < n) (hy : y < n) {σ' : ST} (e : σ' = sA (sA σ q (upd (gA σ q) x (gA σ q y))) q (upd (gA (sA σ q (upd (gA σ q) x (gA σ q y))) q) y (gA σ q x))) (_ : m = 0) : ARn σ' q n (swN a x y) := by
  intro j hj
  rw [e, gA_sA, if_pos rfl, upd_ap, gA_sA, if_pos rfl, upd_ap]
  unfold swN
  by_cases h1 : j = y
  · rw [if_pos h1, if_pos h1]; exact A x hx
  · rw [if_neg h1, if_neg h1]
    by_cases h2 : j = x
    · rw [if_pos h2, if_pos h2]; exact A y hy
    · rw [if_neg h2, if_neg h2]; exact A j hj
def tX (σ σ' : ST) : Prop := (∀ k, gI σ' k = gI σ k) ∧ (∀ k, gL σ' k = gL σ k) ∧ (∀ k, k ≠ 44 → gA σ' k = gA σ k)
def tM (σ σ' : ST) : Prop := (∀ k, gI σ' k = gI σ k) ∧ (∀ k, gL σ' k = gL σ k) ∧ (∀ k, k ≠ 12 → gA σ' k = gA σ k)
theorem tX.tr {a b c : ST} (h : tX a b) (g : tX b c) : tX a c := ⟨fun k => (g.1 k).trans (h.1 k), fun k => (g.2.1 k).trans (h.2.1 k), fun k q => (g.2.2 k q).trans (h.2.2 k q)⟩
theorem tM.tr {a b c : ST} (h : tM a b) (g : tM b c) : tM a c := ⟨fun k => (g.1 k).trans (h.1 k), fun k => (g.2.1 k).trans (h.2.1 k), fun k q => (g.2.2 k q).trans (h.2.2 k q)⟩
theorem swX {σ : ST} {n x y : Nat} {a : Nat → Nat} (A : ARn σ 44 n a) (hn : n ≤ 5) (hx : x < n) (hy : y < n) : ∃ σ', fX4_swapInOrder (nI x) (nI y) σ = some σ' ∧ ARn σ' 44 n (swN a x y) ∧ tX σ σ' := by
  refine ⟨_, ?_, ARn_sw A hx hy rfl rfl, fun _ => rfl, fun _ => rfl, fun k hk => by rw [gA_sA, if_neg hk, gA_sA, if_neg hk]⟩
  unfold fX4_swapInOrder
  rw [ald_n (by omega) (by omega), bnd_ap, ald_n (by omega) (by omega), ast_n (by omega) (by omega), ast_n (by omega) (by omega)]
theorem swM {σ : ST} {n x y : Nat} {a : Nat → Nat} (A : ARn σ 12 n a) (hn : n ≤ 5) (hx : x < n) (hy : y < n) : ∃ σ', fX5_swap (nI x) (nI y) σ = some σ' ∧ ARn σ' 12 n (swN a x y) ∧ tM σ σ' := by
  refine ⟨_, ?_, ARn_sw A hx hy rfl rfl, fun _ => rfl, fun _ => rfl, fun k hk => by rw [gA_sA, if_neg hk, gA_sA, if_neg hk]⟩
  unfold fX5_swap
  rw [ald_n (by omega) (by omega), bnd_ap, ald_n (by omega) (by omega), ast_n (by omega) (by omega), ast_n (by omega) (by omega)]
theorem rvX {n : Nat} (hn : n ≤ 5) (ke : ST → Option (Int32 × ST)) : ∀ (f x y fu : Nat) (σ : ST) (a : Nat → Nat), ARn σ 44 n a → y ≤ x + 2 * f → y < n → f < fu → x + f ≤ 20 → ∃ σ', fX4_turnToNextOrder_L83 ke fu (nI x) (nI y) σ = ke σ' ∧ ARn σ' 44 n (rvN f a x y) ∧ tX σ σ' := by
  intro f
  induction f with
  | zero =>
    intro x y fu σ a A h1 h2 h3 h4
    obtain ⟨fu, rfl⟩ : ∃ f, fu = f + 1 := ⟨fu - 1, by omega⟩
    refine ⟨σ, ?_, A, fun _ => rfl, fun _ => rfl, fun _ _ => rfl⟩
    rw [fX4_turnToNextOrder_L83, if_pos (by rw [nI_le_iff (by omega) (by omega)]; omega)]
  | succ f ih =>
    intro x y fu σ a A h1 h2 h3 h4
    obtain ⟨fu, rfl⟩ : ∃ f, fu = f + 1 := ⟨fu - 1, by omega⟩
    rw [rvN]
    by_cases c : y ≤ x
    · refine ⟨σ, ?_, by rw [if_pos c]; exact A, fun _ => rfl, fun _ => rfl, fun _ _ => rfl⟩
      rw [fX4_turnToNextOrder_L83, if_pos (by rw [nI_le_iff (by omega) (by omega)]; omega)]
    · obtain ⟨σ1, s1, s2, s3⟩ := swX A hn (x := x) (y := y) (by omega) h2
      obtain ⟨σ2, u1, u2, u3⟩ := ih (x + 1) (y - 1) fu σ1 _ s2 (by omega) (by omega) (by omega) (by omega)
      refine ⟨σ2, ?_, by rw [if_neg c]; exact u2, s3.tr u3⟩
      rw [fX4_turnToNextOrder_L83, if_neg (by rw [nI_le_iff (by omega) (by omega)]; omega), s1, calv_s, bnd_ap, bnd_ap, show nI x + 1 = nI (x + 1) from by rw [l1, na_add], show nI y + (-1) = nI (y - 1) from by rw [← nIpd (y - 1), show y - 1 + 1 = y by omega]]
      exact u1
theorem rvM {n : Nat} (hn : n ≤ 5) (ke : ST → Option (Int32 × ST)) : ∀ (f x y fu : Nat) (σ : ST) (a : Nat → Nat), ARn σ 12 n a → y ≤ x + 2 * f → y < n → f < fu → x + f ≤ 20 → ∃ σ', fX5_next_L86 ke fu (nI x) (nI y) σ = ke σ' ∧ ARn σ' 12 n (rvN f a x y) ∧ tM σ σ' := by
  intro f
  induction f with
  | zero =>
    intro x y fu σ a A h1 h2 h3 h4
    obtain ⟨fu, rfl⟩ : ∃ f, fu = f + 1 := ⟨fu - 1, by omega⟩
    refine ⟨σ, ?_, A, fun _ => rfl, fun _ => rfl, fun _ _ => rfl⟩
    rw [fX5_next_L86, if_pos (by rw [nI_le_iff (by omega) (by omega)]; omega)]
  | succ f ih =>
    intro x y fu σ a A h1 h2 h3 h4
    obtain ⟨fu, rfl⟩ : ∃ f, fu = f + 1 := ⟨fu - 1, by omega⟩
    rw [rvN]
    by_cases c : y ≤ x
    · refine ⟨σ, ?_, by rw [if_pos c]; exact A, fun _ => rfl, fun _ => rfl, fun _ _ => rfl⟩
      rw [fX5_next_L86, if_pos (by rw [nI_le_iff (by omega) (by omega)]; omega)]
    · obtain ⟨σ1, s1, s2, s3⟩ := swM A hn (x := x) (y := y) (by omega) h2
      obtain ⟨σ2, u1, u2, u3⟩ := ih (x + 1) (y - 1) fu σ1 _ s2 (by omega) (by omega) (by omega) (by omega)
      refine ⟨σ2, ?_, by rw [if_neg c]; exact u2, s3.tr u3⟩
      rw [fX5_next_L86, if_neg (by rw [nI_le_iff (by omega) (by omega)]; omega), s1, calv_s, bnd_ap, bnd_ap, show nI x + 1 = nI (x + 1) from by rw [l1, na_add], show nI y + (-1) = nI (y - 1) from by rw [← nIpd (y - 1), show y - 1 + 1 = y by omega]]
      exact u1
theorem L4X {n : Nat} (hn : n ≤ 5) (ke : Int32 → Int32 → ST → Option (Int32 × ST)) (x1 : Int32) {σ : ST} {a : Nat → Nat} (A : ARn σ 44 n a) : ∀ (i fu : Nat), i < n → i < fu → fX4_turnToNextOrder_L4 ke fu x1 (nI i + (-1)) σ = ke x1 (nI (fiN a i) + (-1)) σ := by
  intro i
  induction i with
  | zero =>
    intro fu h1 h2
    obtain ⟨fu, rfl⟩ : ∃ f, fu = f + 1 := ⟨fu - 1, by omega⟩
    rw [fX4_turnToNextOrder_L4, if_pos (by decide)]
    rfl
  | succ i ih =>
    intro fu h1 h2
    obtain ⟨fu, rfl⟩ : ∃ f, fu = f + 1 := ⟨fu - 1, by omega⟩
    have b1 := A i (by omega)
    have b2 := A (i + 1) h1
    rw [fX4_turnToNextOrder_L4, nIpd, if_neg (nI_nneg (by omega)), ald_n (by omega) (by omega), show nI i + 1 = nI (i + 1) from by rw [l1, na_add], ald_n (by omega) (by omega), b1.1, b2.1, fiN]
    by_cases c : a i ≤ a (i + 1)
    · rw [if_pos c, if_pos (by rw [nI_le_iff (by omega) (by omega)]; exact c), nIpd]
    · rw [if_neg c, if_neg (by rw [nI_le_iff (by omega) (by omega)]; exact c), bnd_ap]
      exact ih fu (by omega) (by omega)
theorem L7M {n : Nat} (hn : n ≤ 5) (ke : Int32 → ST → Option (Int32 × ST)) {σ : ST} {a : Nat → Nat} (A : ARn σ 12 n a) : ∀ (i fu : Nat), i < n → i < fu → fX5_next_L7 ke fu (nI i + (-1)) σ = ke (nI (fiN a i) + (-1)) σ := by
  intro i
  induction i with
  | zero =>
    intro fu h1 h2
    obtain ⟨fu, rfl⟩ : ∃ f, fu = f + 1 := ⟨fu - 1, by omega⟩
    rw [fX5_next_L7, if_pos (by decide)]
    rfl
  | succ i ih =>
    intro fu h1 h2
    obtain ⟨fu, rfl⟩ : ∃ f, fu = f + 1 := ⟨fu - 1, by omega⟩
    have b1 := A i (by omega)
    have b2 := A (i + 1) h1
    rw [fX5_next_L7, nIpd, if_neg (nI_nneg (by omega)), ald_n (by omega) (by omega), show nI i + 1 = nI (i + 1) from by rw [l1, na_add], ald_n (by omega) (by omega), b1.1, b2.1, fiN]
    by_cases c : a i ≤ a (i + 1)
    · rw [if_pos c, if_pos (by rw [nI_le_iff (by omega) (by omega)]; exact c), nIpd]
    · rw [if_neg c, if_neg (by rw [nI_le_iff (by omega) (by omega)]; exact c), bnd_ap]
      exact ih fu (by omega) (by omega)
theorem L41X {n i : Nat} (hn : n ≤ 5) (ke : Int32 → Int32 → Int32 → ST → Option (Int32 × ST)) (x1 : Int32) {σ : ST} {a : Nat → Nat} (A : ARn σ 44 n a) (hi : i < n) : ∀ (j fu : Nat), j < n → j < fu → fX4_turnToNextOrder_L41 ke fu x1 (nI i) (nI j) σ = ke x1 (nI i) (nI (fjN a i j)) σ := by
  intro j
  induction j with
  | zero =>
    intro fu h1 h2
    obtain ⟨fu, rfl⟩ : ∃ f, fu = f + 1 := ⟨fu - 1, by omega⟩
    rw [fX4_turnToNextOrder_L41, if_pos (by rw [nI_le_iff (by omega) (by omega)]; omega)]
    rfl
  | succ j ih =>
    intro fu h1 h2
    obtain ⟨fu, rfl⟩ : ∃ f, fu = f + 1 := ⟨fu - 1, by omega⟩
    have b1 := A i (by omega)
    have b2 := A (j + 1) h1
    rw [fX4_turnToNextOrder_L41, fjN]
    by_cases d : j + 1 ≤ i
    · rw [if_pos d, if_pos (by rw [nI_le_iff (by omega) (by omega)]; exact d)]
    · rw [if_neg d, if_neg (by rw [nI_le_iff (by omega) (by omega)]; exact d), ald_n (by omega) (by omega), ald_n (by omega) (by omega), b1.1, b2.1]
      by_cases c : a i ≤ a (j + 1)
      · rw [if_pos c, if_pos (by rw [nI_le_iff (by omega) (by omega)]; exact c)]
      · rw [if_neg c, if_neg (by rw [nI_le_iff (by omega) (by omega)]; exact c), bnd_ap, nIpd]
        exact ih fu (by omega) (by omega)
theorem L47M {n i : Nat} (hn : n ≤ 5) (ke : Int32 → Int32 → ST → Option (Int32 × ST)) {σ : ST} {a : Nat → Nat} (A : ARn σ 12 n a) (hi : i < n) : ∀ (j fu : Nat), i ≤ j → j < n → j < fu → fX5_next_L47 ke fu (nI i) (nI j) σ = ke (nI i) (nI (fjN a i j)) σ := by
  intro j
  induction j with
  | zero =>
    intro fu h0 h1 h2
    obtain ⟨fu, rfl⟩ : ∃ f, fu = f + 1 := ⟨fu - 1, by omega⟩
    obtain rfl : i = 0 := by omega
    rw [fX5_next_L47, ald_n (by omega) (by omega), ald_n (by omega) (by omega), if_pos (Int32.le_refl _)]
    rfl
  | succ j ih =>
    intro fu h0 h1 h2
    obtain ⟨fu, rfl⟩ : ∃ f, fu = f + 1 := ⟨fu - 1, by omega⟩
    have b1 := A i (by omega)
    have b2 := A (j + 1) h1
    rw [fX5_next_L47, fjN, ald_n (by omega) (by omega), ald_n (by omega) (by omega), b1.1, b2.1]
    by_cases d : j + 1 ≤ i
    · obtain rfl : i = j + 1 := by omega
      rw [if_pos d, if_pos (Int32.le_refl _)]
    · rw [if_neg d]
      by_cases c : a i ≤ a (j + 1)
      · rw [if_pos c, if_pos (by rw [nI_le_iff (by omega) (by omega)]; exact c)]
      · rw [if_neg c, if_neg (by rw [nI_le_iff (by omega) (by omega)]; exact c), bnd_ap, nIpd]
        exact ih fu (by omega) (by omega) (by omega)
theorem nm2 {n : Nat} (h1 : 1 ≤ n) (hn : n ≤ 5) : nI n - 2 = nI (n - 1) + (-1) := by
  rcases (show n = 1 ∨ n = 2 ∨ n = 3 ∨ n = 4 ∨ n = 5 by omega) with rfl | rfl | rfl | rfl | rfl <;> decide
theorem nm1 {n : Nat} (h1 : 1 ≤ n) (hn : n ≤ 5) : nI n - 1 = nI (n - 1) := by
  rcases (show n = 1 ∨ n = 2 ∨ n = 3 ∨ n = 4 ∨ n = 5 by omega) with rfl | rfl | rfl | rfl | rfl <;> decide
theorem TNX {n : Nat} (hn : n ≤ 5) {σ : ST} {a : Nat → Nat} (A : ARn σ 44 n a) : (nxN n a = none ∧ fX4_turnToNextOrder (nI n) σ = some (0, σ)) ∨ ∃ b σ', nxN n a = some b ∧ fX4_turnToNextOrder (nI n) σ = some (1, σ') ∧ ARn σ' 44 n b ∧ tX σ σ' := by
  unfold fX4_turnToNextOrder nxN
  by_cases n0 : n = 0
  · subst n0
    left
    refine ⟨if_pos rfl, ?_⟩
    rw [bnd_ap, FU_eq, fX4_turnToNextOrder_L4, if_pos (by decide)]
    unfold fX4_turnToNextOrder_J31
    rw [if_neg (by decide)]
  · rw [if_neg n0, bnd_ap, nm2 (by omega) hn, L4X hn _ _ A (n - 1) FU (by omega) (by rw [FU_eq]; omega)]
    have fl := fi_le a (n - 1)
    obtain ⟨i, hi⟩ : ∃ z, z = fiN a (n - 1) := ⟨_, rfl⟩
    rw [← hi] at fl ⊢
    unfold fX4_turnToNextOrder_J31
    by_cases i0 : i = 0
    · left
      refine ⟨if_pos i0, ?_⟩
      rw [i0, if_neg (by decide)]
    · right
      have ip : nI i + (-1) = nI (i - 1) := by rw [← nIpd (i - 1), show i - 1 + 1 = i by omega]
      have jl := fj_le a (i - 1) (n - 1)
      rw [if_neg i0, ip, if_pos (nI_ge0 (by omega)), bnd_ap, nm1 (by omega) hn, L41X hn _ _ A (by omega) (n - 1) FU (by omega) (by rw [FU_eq]; omega)]
      obtain ⟨j, hj⟩ : ∃ z, z = fjN a (i - 1) (n - 1) := ⟨_, rfl⟩
      rw [← hj] at jl ⊢
      unfold fX4_turnToNextOrder_J67
      obtain ⟨σ1, s1, s2, s3⟩ := swX A hn (x := i - 1) (y := j) (by omega) (by omega)
      obtain ⟨σ2, u1, u2, u3⟩ := rvX hn (fun σ_22 => some (1, σ_22)) 3 i (n - 1) FU σ1 _ s2 (by omega) (by omega) (by rw [FU_eq]; omega) (by omega)
      refine ⟨_, σ2, rfl, ?_, u2, s3.tr u3⟩
      rw [s1, calv_s, bnd_ap, bnd_ap, nm1 (by omega) hn, l1, na_add, show i - 1 + 1 = i by omega]
      exact u1
theorem TNM {n : Nat} (hn : n ≤ 5) {σ : ST} {a : Nat → Nat} (A : ARn σ 12 n a) (e8 : gI σ 8 = nI n) : (nxN n a = none ∧ fX5_next σ = some (0, σ)) ∨ ∃ b σ', nxN n a = some b ∧ fX5_next σ = some (1, σ') ∧ ARn σ' 12 n b ∧ tM σ σ' := by
  unfold fX5_next nxN
  rw [e8]
  by_cases n0 : n = 0
  · subst n0
    left
    refine ⟨if_pos rfl, ?_⟩
    rw [bnd_ap, FU_eq, fX5_next_L7, if_pos (by decide)]
    unfold fX5_next_J34
    rw [if_neg (by decide)]
  · rw [if_neg n0, bnd_ap, nm2 (by omega) hn, L7M hn _ A (n - 1) FU (by omega) (by rw [FU_eq]; omega)]
    have fl := fi_le a (n - 1)
    obtain ⟨i, hi⟩ : ∃ z, z = fiN a (n - 1) := ⟨_, rfl⟩
    rw [← hi] at fl ⊢
    unfold fX5_next_J34
    by_cases i0 : i = 0
    · left
      refine ⟨if_pos i0, ?_⟩
      rw [i0, if_neg (by decide)]
    · right
      have ip : nI i + (-1) = nI (i - 1) := by rw [← nIpd (i - 1), show i - 1 + 1 = i by omega]
      have jl := fj_le a (i - 1) (n - 1)
      rw [if_neg i0, ip, if_pos (nI_ge0 (by omega)), e8, bnd_ap, nm1 (by omega) hn, L47M hn _ A (by omega) (n - 1) FU (by omega) (by omega) (by rw [FU_eq]; omega)]
      obtain ⟨j, hj⟩ : ∃ z, z = fjN a (i - 1) (n - 1) := ⟨_, rfl⟩
      rw [← hj] at jl ⊢
      obtain ⟨σ1, s1, s2, s3⟩ := swM A hn (x := i - 1) (y := j) (by omega) (by omega)
      obtain ⟨σ2, u1, u2, u3⟩ := rvM hn (fun σ_22 => some (1, σ_22)) 3 i (n - 1) FU σ1 _ s2 (by omega) (by omega) (by rw [FU_eq]; omega) (by omega)
      refine ⟨_, σ2, rfl, ?_, u2, s3.tr u3⟩
      rw [s1, calv_s, bnd_ap, s3.1 8, e8, bnd_ap, nm1 (by omega) hn, l1, na_add, show i - 1 + 1 = i by omega]
      exact u1
/-- from the k-th order to the next, on both sides -/
theorem TNB {n k : Nat} (hn : n ≤ 5) (hk : k < factN n) {σ τ : ST} (A : ARn σ 44 n (ordP n k)) (B : ARn τ 12 n (ordP n k)) (e8 : gI τ 8 = nI n) : (k + 1 = factN n ∧ fX4_turnToNextOrder (nI n) σ = some (0, σ) ∧ fX5_next τ = some (0, τ)) ∨ (k + 1 < factN n ∧ ∃ σ' τ', fX4_turnToNextOrder (nI n) σ = some (1, σ') ∧ fX5_next τ = some (1, τ') ∧ ARn σ' 44 n (ordP n (k + 1)) ∧ ARn τ' 12 n (ordP n (k + 1)) ∧ tX σ σ' ∧ tM τ τ') := by
  obtain ⟨c1, c2⟩ := ordC_all n (by omega) k hk
  unfold ordC at c1
  rcases TNX hn A with ⟨a1, a2⟩ | ⟨b, σ', a1, a2, a3, a4⟩
  · rw [a1] at c1
    rcases TNM hn B e8 with ⟨b1, b2⟩ | ⟨b, τ', b1, b2, b3, b4⟩
    · left
      exact ⟨of_decide_eq_true c1, a2, b2⟩
    · rw [a1] at b1; cases b1
  · rcases TNM hn B e8 with ⟨b1, b2⟩ | ⟨b', τ', b1, b2, b3, b4⟩
    · rw [a1] at b1; cases b1
    · right
      rw [a1] at b1
      obtain rfl := Option.some.inj b1
      rw [a1] at c1
      dsimp only at c1
      rw [Bool.and_eq_true] at c1
      have q : ∀ j, j < n → b j = ordP n (k + 1) j := by
        intro j hj
        have := List.all_eq_true.mp c1.2 j (List.mem_range.mpr hj)
        exact beq_iff_eq.mp this
      refine ⟨of_decide_eq_true c1.1, σ', τ', a2, b2, fun j hj => ?_, fun j hj => ?_, a4, b4⟩
      · rw [← q j hj]; exact a3 j hj
      · rw [← q j hj]; exact b3 j hj
