theorem va_D_map {A B : Nat → Prop} {ws ws' : va_W} (h : va_D A ws) (e : ws'.map Prod.fst = ws.map Prod.fst) (hB : ∀ q ∈ ws.map Prod.fst, B q) : va_D B ws' := by
  have key : ∀ (i : Nat) (p : Nat × va_E), ws'[i]? = some p → ∃ p', ws[i]? = some p' ∧ p'.1 = p.1 := by
    intro i p hp
    have h1 : (ws'.map Prod.fst)[i]? = some p.1 := by rw [List.getElem?_map, hp]; rfl
    rw [e, List.getElem?_map] at h1
    cases hw : ws[i]? with
    | none => rw [hw] at h1; cases h1
    | some p' => rw [hw] at h1; exact ⟨p', rfl, Option.some.inj h1⟩
  refine ⟨fun i j p q hi hj hpq => ?_, fun k q hk => ?_⟩
  · obtain ⟨p', h1, e1⟩ := key i p hi
    obtain ⟨q', h2, e2⟩ := key j q hj
    exact h.1 i j p' q' h1 h2 (by rw [e1, e2]; exact hpq)
  · obtain ⟨q', h1, e1⟩ := key k q hk
    rw [← e1]
    exact hB _ (List.mem_map.mpr ⟨q', List.mem_of_getElem? h1, rfl⟩)
theorem va_D_lt {A : Nat → Prop} {ws : va_W} (h : va_D A ws) : ∀ q ∈ ws.map Prod.fst, A q := by
  intro q hq
  obtain ⟨p, hp, rfl⟩ := List.mem_map.mp hq
  obtain ⟨k, hk⟩ := List.mem_iff_getElem?.mp hp
  exact h.2 k p hk
theorem va_D_dis {A : Nat → Prop} {w1 w2 : va_W} (h : va_D A (w1 ++ w2)) : ∀ q, q ∈ w1.map Prod.fst → ¬ q ∈ w2.map Prod.fst := by
  intro q h1 h2
  obtain ⟨p, hp, e1⟩ := List.mem_map.mp h1
  obtain ⟨r, hr, e2⟩ := List.mem_map.mp h2
  obtain ⟨i, hi⟩ := List.mem_iff_getElem?.mp hp
  obtain ⟨j, hj⟩ := List.mem_iff_getElem?.mp hr
  have li : i < w1.length := (List.getElem?_eq_some_iff.mp hi).1
  have := h.1 i (w1.length + j) p r (by rw [List.getElem?_append_left li]; exact hi) (by rw [List.getElem?_append_right (by omega), show w1.length + j - w1.length = j by omega]; exact hj) (by rw [e1, e2])
  omega
def σX0 : ST := ((fun k => if k = 19 then 10 else if k = 13 then 10 else if k = 7 then 10 else if k = 18 then 1 else if k = 12 then 1 else if k = 6 then 1 else 0), fun _ => 0, fun _ _ => 0)
def σM0 : ST := ((fun k => if k = 7 then (-9) else 0), fun _ => 0, fun k => if k = 1 then (upd (upd (fun _ => 0) (Int32.toNatClampNeg 3) 1) (Int32.toNatClampNeg 4) 10) else if k = 4 then (upd (upd (upd (upd (upd (fun _ => 0) (Int32.toNatClampNeg 0) (vp_nar .char 112)) (Int32.toNatClampNeg 1) (vp_nar .char 119)) (Int32.toNatClampNeg 2) (vp_nar .char 101)) (Int32.toNatClampNeg 3) (vp_nar .char 102)) (Int32.toNatClampNeg 4) (vp_nar .char 100)) else if k = 5 then (upd (upd (upd (upd (upd (upd (fun _ => 0) (Int32.toNatClampNeg 0) (vp_nar .char 112)) (Int32.toNatClampNeg 1) (vp_nar .char 119)) (Int32.toNatClampNeg 2) (vp_nar .char 98)) (Int32.toNatClampNeg 3) (vp_nar .char 104)) (Int32.toNatClampNeg 4) (vp_nar .char 107)) (Int32.toNatClampNeg 5) (vp_nar .char 110)) else fun _ => 0)
theorem law_xK {s U : State} {H : Heap} {locs : List Loc} {D : va_G} {ad : Nat → Nat} {cI cZ cC : ClassId} {B : Nat → Prop} {adK adV : Nat → Nat} (hK : va_K D vwCl [(cI, .int), (cZ, .boolean), (cC, .char)] s) (hVS : vk_S nJS lenJS bytJS adK adV (lawA s) s s.heap) (hR : ∀ i : Nat, i < nJS → vk_R RX1 (poJS.getD i 0) (txJS.getD i "") (adK i) s) (hZ : va_Z "java/lang/String" "COMPACT_STRINGS" "Z" (.int 1) (lawA s) s s.heap) (hZq : va_Zq "jdk/internal/util/Preconditions" "SIOOBE_FORMATTER" "Ljava/util/function/BiFunction;" (lawA s) s s.heap) (hS : va_S (lawA s) s.heap H locs) (hU : U.heap = H) (hW : s.WarmedH U.vm) (hB : ∀ q, B q → lawA s q) : xK (D, ad, (cI, cZ, cC), B, adK, adV) U := by
  refine ⟨va_K.moved hW.alike hK, ?_, fun i hi => vk_R.warm hW (hR i hi), ?_, ?_⟩
  · rw [hU]; exact ((vk_S.moved hW.alike hVS).kept hS.2.1).narrow hB
  · rw [hU]; exact ((va_Z.moved hW.alike hZ).kept hS.2.1).narrow hB
  · rw [hU]; exact ((va_Zq.moved hW.alike hZq).kept hS.2.1).narrow hB
set_option maxHeartbeats 4000000 in
set_option maxRecDepth 100000 in
theorem str_all {args : Array Value} {s : State} {A : Nat → Prop} (hfl : ∀ c ∈ flatC (Jvm.Cond.and given_1 narrow_1), c.before args s = true) (hnA : ∀ a : Nat, a < s.heap.size → ¬ A a) : ∃ adK adV : Nat → Nat, vk_S nJS lenJS bytJS adK adV A s s.heap ∧ ∀ i : Nat, i < nJS → (Term.string RX1 (poJS.getD i 0)).eval args s none [] s = some (.ref (adK i)) := by
  refine vk_Sof (tm := fun i => Term.string RX1 (poJS.getD i 0)) ?_ ?_ ?_ ?_ ?_ ?_ ?_ hnA
  · intro i hi
    match i, hi with
    | 0, _ => decide
    | 1, _ => decide
    | 2, _ => decide
    | 3, _ => decide
    | 4, _ => decide
    | 5, _ => decide
    | 6, _ => decide
    | i + 7, hi => exact absurd hi (by unfold nJS; omega)
  · intro i hi
    match i, hi with
    | 0, _ => exact hfl (Cond.exactly (.string RX1 19) "java/lang/String") (by decide +kernel)
    | 1, _ => exact hfl (Cond.exactly (.string RX1 21) "java/lang/String") (by decide +kernel)
    | 2, _ => exact hfl (Cond.exactly (.string RX1 23) "java/lang/String") (by decide +kernel)
    | 3, _ => exact hfl (Cond.exactly (.string RX1 25) "java/lang/String") (by decide +kernel)
    | 4, _ => exact hfl (Cond.exactly (.string RX1 27) "java/lang/String") (by decide +kernel)
    | 5, _ => exact hfl (Cond.exactly (.string RX1 29) "java/lang/String") (by decide +kernel)
    | 6, _ => exact hfl (Cond.exactly (.string RX1 31) "java/lang/String") (by decide +kernel)
    | i + 7, hi => exact absurd hi (by unfold nJS; omega)
  · intro i hi
    match i, hi with
    | 0, _ => exact hfl (Cond.eq (.field (.string RX1 19) "java/lang/String" "coder" "B") (.int 0)) (by decide +kernel)
    | 1, _ => exact hfl (Cond.eq (.field (.string RX1 21) "java/lang/String" "coder" "B") (.int 0)) (by decide +kernel)
    | 2, _ => exact hfl (Cond.eq (.field (.string RX1 23) "java/lang/String" "coder" "B") (.int 0)) (by decide +kernel)
    | 3, _ => exact hfl (Cond.eq (.field (.string RX1 25) "java/lang/String" "coder" "B") (.int 0)) (by decide +kernel)
    | 4, _ => exact hfl (Cond.eq (.field (.string RX1 27) "java/lang/String" "coder" "B") (.int 0)) (by decide +kernel)
    | 5, _ => exact hfl (Cond.eq (.field (.string RX1 29) "java/lang/String" "coder" "B") (.int 0)) (by decide +kernel)
    | 6, _ => exact hfl (Cond.eq (.field (.string RX1 31) "java/lang/String" "coder" "B") (.int 0)) (by decide +kernel)
    | i + 7, hi => exact absurd hi (by unfold nJS; omega)
  · intro i hi
    match i, hi with
    | 0, _ => exact hfl (Cond.arrayOf (.field (.string RX1 19) "java/lang/String" "value" "[B") .byte) (by decide +kernel)
    | 1, _ => exact hfl (Cond.arrayOf (.field (.string RX1 21) "java/lang/String" "value" "[B") .byte) (by decide +kernel)
    | 2, _ => exact hfl (Cond.arrayOf (.field (.string RX1 23) "java/lang/String" "value" "[B") .byte) (by decide +kernel)
    | 3, _ => exact hfl (Cond.arrayOf (.field (.string RX1 25) "java/lang/String" "value" "[B") .byte) (by decide +kernel)
    | 4, _ => exact hfl (Cond.arrayOf (.field (.string RX1 27) "java/lang/String" "value" "[B") .byte) (by decide +kernel)
    | 5, _ => exact hfl (Cond.arrayOf (.field (.string RX1 29) "java/lang/String" "value" "[B") .byte) (by decide +kernel)
    | 6, _ => exact hfl (Cond.arrayOf (.field (.string RX1 31) "java/lang/String" "value" "[B") .byte) (by decide +kernel)
    | i + 7, hi => exact absurd hi (by unfold nJS; omega)
  · intro i hi
    match i, hi with
    | 0, _ => exact hfl (Cond.eq (.length (.field (.string RX1 19) "java/lang/String" "value" "[B")) (.int 4)) (by decide +kernel)
    | 1, _ => exact hfl (Cond.eq (.length (.field (.string RX1 21) "java/lang/String" "value" "[B")) (.int 6)) (by decide +kernel)
    | 2, _ => exact hfl (Cond.eq (.length (.field (.string RX1 23) "java/lang/String" "value" "[B")) (.int 9)) (by decide +kernel)
    | 3, _ => exact hfl (Cond.eq (.length (.field (.string RX1 25) "java/lang/String" "value" "[B")) (.int 4)) (by decide +kernel)
    | 4, _ => exact hfl (Cond.eq (.length (.field (.string RX1 27) "java/lang/String" "value" "[B")) (.int 2)) (by decide +kernel)
    | 5, _ => exact hfl (Cond.eq (.length (.field (.string RX1 29) "java/lang/String" "value" "[B")) (.int 0)) (by decide +kernel)
    | 6, _ => exact hfl (Cond.eq (.length (.field (.string RX1 31) "java/lang/String" "value" "[B")) (.int 6)) (by decide +kernel)
    | i + 7, hi => exact absurd hi (by unfold nJS; omega)
  · intro i hi j hj
    match i, hi with
    | 0, _ =>
      match j, hj with
      | 0, _ => exact hfl (Cond.eq (.elem (.field (.string RX1 19) "java/lang/String" "value" "[B") (.int 0)) (.int 107)) (by decide +kernel)
      | 1, _ => exact hfl (Cond.eq (.elem (.field (.string RX1 19) "java/lang/String" "value" "[B") (.int 1)) (.int 48)) (by decide +kernel)
      | 2, _ => exact hfl (Cond.eq (.elem (.field (.string RX1 19) "java/lang/String" "value" "[B") (.int 2)) (.int 48)) (by decide +kernel)
      | 3, _ => exact hfl (Cond.eq (.elem (.field (.string RX1 19) "java/lang/String" "value" "[B") (.int 3)) (.int 59)) (by decide +kernel)
      | j + 4, hj => exact absurd hj (by show ¬ j + 4 < 4; omega)
    | 1, _ =>
      match j, hj with
      | 0, _ => exact hfl (Cond.eq (.elem (.field (.string RX1 21) "java/lang/String" "value" "[B") (.int 0)) (.int 48)) (by decide +kernel)
      | 1, _ => exact hfl (Cond.eq (.elem (.field (.string RX1 21) "java/lang/String" "value" "[B") (.int 1)) (.int 48)) (by decide +kernel)
      | 2, _ => exact hfl (Cond.eq (.elem (.field (.string RX1 21) "java/lang/String" "value" "[B") (.int 2)) (.int 48)) (by decide +kernel)
      | 3, _ => exact hfl (Cond.eq (.elem (.field (.string RX1 21) "java/lang/String" "value" "[B") (.int 3)) (.int 48)) (by decide +kernel)
      | 4, _ => exact hfl (Cond.eq (.elem (.field (.string RX1 21) "java/lang/String" "value" "[B") (.int 4)) (.int 48)) (by decide +kernel)
      | 5, _ => exact hfl (Cond.eq (.elem (.field (.string RX1 21) "java/lang/String" "value" "[B") (.int 5)) (.int 59)) (by decide +kernel)
      | j + 6, hj => exact absurd hj (by show ¬ j + 6 < 6; omega)
    | 2, _ =>
      match j, hj with
      | 0, _ => exact hfl (Cond.eq (.elem (.field (.string RX1 23) "java/lang/String" "value" "[B") (.int 0)) (.int 48)) (by decide +kernel)
      | 1, _ => exact hfl (Cond.eq (.elem (.field (.string RX1 23) "java/lang/String" "value" "[B") (.int 1)) (.int 48)) (by decide +kernel)
      | 2, _ => exact hfl (Cond.eq (.elem (.field (.string RX1 23) "java/lang/String" "value" "[B") (.int 2)) (.int 48)) (by decide +kernel)
      | 3, _ => exact hfl (Cond.eq (.elem (.field (.string RX1 23) "java/lang/String" "value" "[B") (.int 3)) (.int 48)) (by decide +kernel)
      | 4, _ => exact hfl (Cond.eq (.elem (.field (.string RX1 23) "java/lang/String" "value" "[B") (.int 4)) (.int 48)) (by decide +kernel)
      | 5, _ => exact hfl (Cond.eq (.elem (.field (.string RX1 23) "java/lang/String" "value" "[B") (.int 5)) (.int 48)) (by decide +kernel)
      | 6, _ => exact hfl (Cond.eq (.elem (.field (.string RX1 23) "java/lang/String" "value" "[B") (.int 6)) (.int 48)) (by decide +kernel)
      | 7, _ => exact hfl (Cond.eq (.elem (.field (.string RX1 23) "java/lang/String" "value" "[B") (.int 7)) (.int 48)) (by decide +kernel)
      | 8, _ => exact hfl (Cond.eq (.elem (.field (.string RX1 23) "java/lang/String" "value" "[B") (.int 8)) (.int 59)) (by decide +kernel)
      | j + 9, hj => exact absurd hj (by show ¬ j + 9 < 9; omega)
    | 3, _ =>
      match j, hj with
      | 0, _ => exact hfl (Cond.eq (.elem (.field (.string RX1 25) "java/lang/String" "value" "[B") (.int 0)) (.int 48)) (by decide +kernel)
      | 1, _ => exact hfl (Cond.eq (.elem (.field (.string RX1 25) "java/lang/String" "value" "[B") (.int 1)) (.int 48)) (by decide +kernel)
      | 2, _ => exact hfl (Cond.eq (.elem (.field (.string RX1 25) "java/lang/String" "value" "[B") (.int 2)) (.int 48)) (by decide +kernel)
      | 3, _ => exact hfl (Cond.eq (.elem (.field (.string RX1 25) "java/lang/String" "value" "[B") (.int 3)) (.int 59)) (by decide +kernel)
      | j + 4, hj => exact absurd hj (by show ¬ j + 4 < 4; omega)
    | 4, _ =>
      match j, hj with
      | 0, _ => exact hfl (Cond.eq (.elem (.field (.string RX1 27) "java/lang/String" "value" "[B") (.int 0)) (.int 48)) (by decide +kernel)
      | 1, _ => exact hfl (Cond.eq (.elem (.field (.string RX1 27) "java/lang/String" "value" "[B") (.int 1)) (.int 59)) (by decide +kernel)
      | j + 2, hj => exact absurd hj (by show ¬ j + 2 < 2; omega)
    | 5, _ =>
      match j, hj with
      | j + 0, hj => exact absurd hj (by show ¬ j + 0 < 0; omega)
    | 6, _ =>
      match j, hj with
      | 0, _ => exact hfl (Cond.eq (.elem (.field (.string RX1 31) "java/lang/String" "value" "[B") (.int 0)) (.int 112)) (by decide +kernel)
      | 1, _ => exact hfl (Cond.eq (.elem (.field (.string RX1 31) "java/lang/String" "value" "[B") (.int 1)) (.int 119)) (by decide +kernel)
      | 2, _ => exact hfl (Cond.eq (.elem (.field (.string RX1 31) "java/lang/String" "value" "[B") (.int 2)) (.int 98)) (by decide +kernel)
      | 3, _ => exact hfl (Cond.eq (.elem (.field (.string RX1 31) "java/lang/String" "value" "[B") (.int 3)) (.int 104)) (by decide +kernel)
      | 4, _ => exact hfl (Cond.eq (.elem (.field (.string RX1 31) "java/lang/String" "value" "[B") (.int 4)) (.int 107)) (by decide +kernel)
      | 5, _ => exact hfl (Cond.eq (.elem (.field (.string RX1 31) "java/lang/String" "value" "[B") (.int 5)) (.int 110)) (by decide +kernel)
      | j + 6, hj => exact absurd hj (by show ¬ j + 6 < 6; omega)
    | i + 7, hi => exact absurd hi (by unfold nJS; omega)
  · intro i j hi hj hij
    match i, hi with
    | 0, _ =>
      match j, hj with
      | 0, _ => exact absurd rfl hij
      | 1, _ => first | exact Or.inl (hfl (Cond.not (Cond.eq (.string RX1 19) (.string RX1 21))) (by decide +kernel)) | exact Or.inr (hfl (Cond.not (Cond.eq (.string RX1 21) (.string RX1 19))) (by decide +kernel))
      | 2, _ => first | exact Or.inl (hfl (Cond.not (Cond.eq (.string RX1 19) (.string RX1 23))) (by decide +kernel)) | exact Or.inr (hfl (Cond.not (Cond.eq (.string RX1 23) (.string RX1 19))) (by decide +kernel))
      | 3, _ => first | exact Or.inl (hfl (Cond.not (Cond.eq (.string RX1 19) (.string RX1 25))) (by decide +kernel)) | exact Or.inr (hfl (Cond.not (Cond.eq (.string RX1 25) (.string RX1 19))) (by decide +kernel))
      | 4, _ => first | exact Or.inl (hfl (Cond.not (Cond.eq (.string RX1 19) (.string RX1 27))) (by decide +kernel)) | exact Or.inr (hfl (Cond.not (Cond.eq (.string RX1 27) (.string RX1 19))) (by decide +kernel))
      | 5, _ => first | exact Or.inl (hfl (Cond.not (Cond.eq (.string RX1 19) (.string RX1 29))) (by decide +kernel)) | exact Or.inr (hfl (Cond.not (Cond.eq (.string RX1 29) (.string RX1 19))) (by decide +kernel))
      | 6, _ => first | exact Or.inl (hfl (Cond.not (Cond.eq (.string RX1 19) (.string RX1 31))) (by decide +kernel)) | exact Or.inr (hfl (Cond.not (Cond.eq (.string RX1 31) (.string RX1 19))) (by decide +kernel))
      | j + 7, hj => exact absurd hj (by unfold nJS; omega)
    | 1, _ =>
      match j, hj with
      | 0, _ => first | exact Or.inl (hfl (Cond.not (Cond.eq (.string RX1 21) (.string RX1 19))) (by decide +kernel)) | exact Or.inr (hfl (Cond.not (Cond.eq (.string RX1 19) (.string RX1 21))) (by decide +kernel))
      | 1, _ => exact absurd rfl hij
      | 2, _ => first | exact Or.inl (hfl (Cond.not (Cond.eq (.string RX1 21) (.string RX1 23))) (by decide +kernel)) | exact Or.inr (hfl (Cond.not (Cond.eq (.string RX1 23) (.string RX1 21))) (by decide +kernel))
      | 3, _ => first | exact Or.inl (hfl (Cond.not (Cond.eq (.string RX1 21) (.string RX1 25))) (by decide +kernel)) | exact Or.inr (hfl (Cond.not (Cond.eq (.string RX1 25) (.string RX1 21))) (by decide +kernel))
      | 4, _ => first | exact Or.inl (hfl (Cond.not (Cond.eq (.string RX1 21) (.string RX1 27))) (by decide +kernel)) | exact Or.inr (hfl (Cond.not (Cond.eq (.string RX1 27) (.string RX1 21))) (by decide +kernel))
      | 5, _ => first | exact Or.inl (hfl (Cond.not (Cond.eq (.string RX1 21) (.string RX1 29))) (by decide +kernel)) | exact Or.inr (hfl (Cond.not (Cond.eq (.string RX1 29) (.string RX1 21))) (by decide +kernel))
      | 6, _ => first | exact Or.inl (hfl (Cond.not (Cond.eq (.string RX1 21) (.string RX1 31))) (by decide +kernel)) | exact Or.inr (hfl (Cond.not (Cond.eq (.string RX1 31) (.string RX1 21))) (by decide +kernel))
      | j + 7, hj => exact absurd hj (by unfold nJS; omega)
    | 2, _ =>
      match j, hj with
      | 0, _ => first | exact Or.inl (hfl (Cond.not (Cond.eq (.string RX1 23) (.string RX1 19))) (by decide +kernel)) | exact Or.inr (hfl (Cond.not (Cond.eq (.string RX1 19) (.string RX1 23))) (by decide +kernel))
      | 1, _ => first | exact Or.inl (hfl (Cond.not (Cond.eq (.string RX1 23) (.string RX1 21))) (by decide +kernel)) | exact Or.inr (hfl (Cond.not (Cond.eq (.string RX1 21) (.string RX1 23))) (by decide +kernel))
      | 2, _ => exact absurd rfl hij
      | 3, _ => first | exact Or.inl (hfl (Cond.not (Cond.eq (.string RX1 23) (.string RX1 25))) (by decide +kernel)) | exact Or.inr (hfl (Cond.not (Cond.eq (.string RX1 25) (.string RX1 23))) (by decide +kernel))
      | 4, _ => first | exact Or.inl (hfl (Cond.not (Cond.eq (.string RX1 23) (.string RX1 27))) (by decide +kernel)) | exact Or.inr (hfl (Cond.not (Cond.eq (.string RX1 27) (.string RX1 23))) (by decide +kernel))
      | 5, _ => first | exact Or.inl (hfl (Cond.not (Cond.eq (.string RX1 23) (.string RX1 29))) (by decide +kernel)) | exact Or.inr (hfl (Cond.not (Cond.eq (.string RX1 29) (.string RX1 23))) (by decide +kernel))
      | 6, _ => first | exact Or.inl (hfl (Cond.not (Cond.eq (.string RX1 23) (.string RX1 31))) (by decide +kernel)) | exact Or.inr (hfl (Cond.not (Cond.eq (.string RX1 31) (.string RX1 23))) (by decide +kernel))
      | j + 7, hj => exact absurd hj (by unfold nJS; omega)
    | 3, _ =>
      match j, hj with
      | 0, _ => first | exact Or.inl (hfl (Cond.not (Cond.eq (.string RX1 25) (.string RX1 19))) (by decide +kernel)) | exact Or.inr (hfl (Cond.not (Cond.eq (.string RX1 19) (.string RX1 25))) (by decide +kernel))
      | 1, _ => first | exact Or.inl (hfl (Cond.not (Cond.eq (.string RX1 25) (.string RX1 21))) (by decide +kernel)) | exact Or.inr (hfl (Cond.not (Cond.eq (.string RX1 21) (.string RX1 25))) (by decide +kernel))
      | 2, _ => first | exact Or.inl (hfl (Cond.not (Cond.eq (.string RX1 25) (.string RX1 23))) (by decide +kernel)) | exact Or.inr (hfl (Cond.not (Cond.eq (.string RX1 23) (.string RX1 25))) (by decide +kernel))
      | 3, _ => exact absurd rfl hij
      | 4, _ => first | exact Or.inl (hfl (Cond.not (Cond.eq (.string RX1 25) (.string RX1 27))) (by decide +kernel)) | exact Or.inr (hfl (Cond.not (Cond.eq (.string RX1 27) (.string RX1 25))) (by decide +kernel))
      | 5, _ => first | exact Or.inl (hfl (Cond.not (Cond.eq (.string RX1 25) (.string RX1 29))) (by decide +kernel)) | exact Or.inr (hfl (Cond.not (Cond.eq (.string RX1 29) (.string RX1 25))) (by decide +kernel))
      | 6, _ => first | exact Or.inl (hfl (Cond.not (Cond.eq (.string RX1 25) (.string RX1 31))) (by decide +kernel)) | exact Or.inr (hfl (Cond.not (Cond.eq (.string RX1 31) (.string RX1 25))) (by decide +kernel))
      | j + 7, hj => exact absurd hj (by unfold nJS; omega)
    | 4, _ =>
      match j, hj with
      | 0, _ => first | exact Or.inl (hfl (Cond.not (Cond.eq (.string RX1 27) (.string RX1 19))) (by decide +kernel)) | exact Or.inr (hfl (Cond.not (Cond.eq (.string RX1 19) (.string RX1 27))) (by decide +kernel))
      | 1, _ => first | exact Or.inl (hfl (Cond.not (Cond.eq (.string RX1 27) (.string RX1 21))) (by decide +kernel)) | exact Or.inr (hfl (Cond.not (Cond.eq (.string RX1 21) (.string RX1 27))) (by decide +kernel))
      | 2, _ => first | exact Or.inl (hfl (Cond.not (Cond.eq (.string RX1 27) (.string RX1 23))) (by decide +kernel)) | exact Or.inr (hfl (Cond.not (Cond.eq (.string RX1 23) (.string RX1 27))) (by decide +kernel))
      | 3, _ => first | exact Or.inl (hfl (Cond.not (Cond.eq (.string RX1 27) (.string RX1 25))) (by decide +kernel)) | exact Or.inr (hfl (Cond.not (Cond.eq (.string RX1 25) (.string RX1 27))) (by decide +kernel))
      | 4, _ => exact absurd rfl hij
      | 5, _ => first | exact Or.inl (hfl (Cond.not (Cond.eq (.string RX1 27) (.string RX1 29))) (by decide +kernel)) | exact Or.inr (hfl (Cond.not (Cond.eq (.string RX1 29) (.string RX1 27))) (by decide +kernel))
      | 6, _ => first | exact Or.inl (hfl (Cond.not (Cond.eq (.string RX1 27) (.string RX1 31))) (by decide +kernel)) | exact Or.inr (hfl (Cond.not (Cond.eq (.string RX1 31) (.string RX1 27))) (by decide +kernel))
      | j + 7, hj => exact absurd hj (by unfold nJS; omega)
    | 5, _ =>
      match j, hj with
      | 0, _ => first | exact Or.inl (hfl (Cond.not (Cond.eq (.string RX1 29) (.string RX1 19))) (by decide +kernel)) | exact Or.inr (hfl (Cond.not (Cond.eq (.string RX1 19) (.string RX1 29))) (by decide +kernel))
      | 1, _ => first | exact Or.inl (hfl (Cond.not (Cond.eq (.string RX1 29) (.string RX1 21))) (by decide +kernel)) | exact Or.inr (hfl (Cond.not (Cond.eq (.string RX1 21) (.string RX1 29))) (by decide +kernel))
      | 2, _ => first | exact Or.inl (hfl (Cond.not (Cond.eq (.string RX1 29) (.string RX1 23))) (by decide +kernel)) | exact Or.inr (hfl (Cond.not (Cond.eq (.string RX1 23) (.string RX1 29))) (by decide +kernel))
      | 3, _ => first | exact Or.inl (hfl (Cond.not (Cond.eq (.string RX1 29) (.string RX1 25))) (by decide +kernel)) | exact Or.inr (hfl (Cond.not (Cond.eq (.string RX1 25) (.string RX1 29))) (by decide +kernel))
      | 4, _ => first | exact Or.inl (hfl (Cond.not (Cond.eq (.string RX1 29) (.string RX1 27))) (by decide +kernel)) | exact Or.inr (hfl (Cond.not (Cond.eq (.string RX1 27) (.string RX1 29))) (by decide +kernel))
      | 5, _ => exact absurd rfl hij
      | 6, _ => first | exact Or.inl (hfl (Cond.not (Cond.eq (.string RX1 29) (.string RX1 31))) (by decide +kernel)) | exact Or.inr (hfl (Cond.not (Cond.eq (.string RX1 31) (.string RX1 29))) (by decide +kernel))
      | j + 7, hj => exact absurd hj (by unfold nJS; omega)
    | 6, _ =>
      match j, hj with
      | 0, _ => first | exact Or.inl (hfl (Cond.not (Cond.eq (.string RX1 31) (.string RX1 19))) (by decide +kernel)) | exact Or.inr (hfl (Cond.not (Cond.eq (.string RX1 19) (.string RX1 31))) (by decide +kernel))
      | 1, _ => first | exact Or.inl (hfl (Cond.not (Cond.eq (.string RX1 31) (.string RX1 21))) (by decide +kernel)) | exact Or.inr (hfl (Cond.not (Cond.eq (.string RX1 21) (.string RX1 31))) (by decide +kernel))
      | 2, _ => first | exact Or.inl (hfl (Cond.not (Cond.eq (.string RX1 31) (.string RX1 23))) (by decide +kernel)) | exact Or.inr (hfl (Cond.not (Cond.eq (.string RX1 23) (.string RX1 31))) (by decide +kernel))
      | 3, _ => first | exact Or.inl (hfl (Cond.not (Cond.eq (.string RX1 31) (.string RX1 25))) (by decide +kernel)) | exact Or.inr (hfl (Cond.not (Cond.eq (.string RX1 25) (.string RX1 31))) (by decide +kernel))
      | 4, _ => first | exact Or.inl (hfl (Cond.not (Cond.eq (.string RX1 31) (.string RX1 27))) (by decide +kernel)) | exact Or.inr (hfl (Cond.not (Cond.eq (.string RX1 27) (.string RX1 31))) (by decide +kernel))
      | 5, _ => first | exact Or.inl (hfl (Cond.not (Cond.eq (.string RX1 31) (.string RX1 29))) (by decide +kernel)) | exact Or.inr (hfl (Cond.not (Cond.eq (.string RX1 29) (.string RX1 31))) (by decide +kernel))
      | 6, _ => exact absurd rfl hij
      | j + 7, hj => exact absurd hj (by unfold nJS; omega)
    | i + 7, hi => exact absurd hi (by unfold nJS; omega)
set_option maxRecDepth 100000 in
theorem str_ref {args : Array Value} {s : State} (hts0 : ∀ w ∈ lw_tbl, w.before args s = true) : ∀ i : Nat, i < nJS → (Cond.stringRef RX1 (poJS.getD i 0) (txJS.getD i "")).before args s = true := by
  intro i hi
  match i, hi with
  | 0, _ => exact hts0 (Cond.stringRef RX1 19 "k00;") (by decide +kernel)
  | 1, _ => exact hts0 (Cond.stringRef RX1 21 "00000;") (by decide +kernel)
  | 2, _ => exact hts0 (Cond.stringRef RX1 23 "00000000;") (by decide +kernel)
  | 3, _ => exact hts0 (Cond.stringRef RX1 25 "000;") (by decide +kernel)
  | 4, _ => exact hts0 (Cond.stringRef RX1 27 "0;") (by decide +kernel)
  | 5, _ => exact hts0 (Cond.stringRef RX1 29 "") (by decide +kernel)
  | 6, _ => exact hts0 (Cond.stringRef RX1 31 "pwbhkn") (by decide +kernel)
  | i + 7, hi => exact absurd hi (by unfold nJS; omega)

set_option maxHeartbeats 16000000 in
set_option maxRecDepth 100000 in
theorem start_of {Rl : ST → ST → Prop} (S : SIMS Rl) (h0 : Rl σX0 σM0) {p : Program} {e : Env} {s : State} {m : MethodId} {below : List Frame} {meth : Method} {c : Code} (l : Launch) {b L : Nat} {xs : Nat → Int32} (hL : L ≤ 2048) (C0 : lw_At p s m meth c b L xs) : W p l e room_1 s m #[Value.ref b] below meth c s.heap [] 0 0 (lw_Z below #[Value.ref b] s) (entryFrame m ([Value.ref b] : List Value).toArray 4) := by
  obtain ⟨hx, hb, hr, hml, hown, hts0, hX, hbl, hlk, hgv⟩ := id C0
  have hts : ∀ w ∈ wsL_law, w.before #[Value.ref b] s = true := fun w h => hts0 w (wsL_law_in w h)
  have hb : c.code = cL_law := hb
  have hown : s.vm.findClass RL = some m.cls := hown
  have hA : ∀ q : Nat, s.heap.size ≤ q → lawA s q := fun _ h => h
  have hnA : ∀ a : Nat, a < s.heap.size → ¬ lawA s a := fun a h => Nat.not_le.mpr h
  obtain ⟨c0, i0, hKn0⟩ := u_known (C := RX0) (T := TX0) (N := 5) (n := 5) hts inlX0 (hts _ u_42)
  obtain ⟨c1, i1, hKn1⟩ := u_known (C := RX1) (T := TX1) (N := 2) (n := 2) hts inlX1 (hts _ u_26)
  obtain ⟨c2, i2, hKn2⟩ := u_known (C := RX2) (T := TX2) (N := 17) (n := 17) hts inlX2 (hts _ u_21)
  obtain ⟨c3, i3, hKn3⟩ := u_known (C := RX3) (T := TX3) (N := 15) (n := 15) hts inlX3 (hts _ u_13)
  obtain ⟨c4, i4, hKn4⟩ := u_known (C := RX4) (T := TX4) (N := 12) (n := 12) hts inlX4 (hts _ u_1)
  obtain ⟨c5, i5, hKn5⟩ := u_known (C := RX5) (T := TX5) (N := 38) (n := 38) hts inlX5 (hts _ u_4)
  obtain ⟨D, hKc⟩ : ∃ D : va_G, ∀ (k : Nat) (q : vw_C), vwCl[k]? = some q → u_Kn s q.1 q.2.1 q.2.2 (D.1 k) (D.2 k) := by
    refine ⟨(fun k => if k = 0 then c0 else if k = 1 then c1 else if k = 2 then c2 else if k = 3 then c3 else if k = 4 then c4 else c5, fun k => if k = 0 then i0 else if k = 1 then i1 else if k = 2 then i2 else if k = 3 then i3 else if k = 4 then i4 else i5), ?_⟩
    intro k q hq
    match k, hq with
    | 0, hq => cases hq; exact hKn0
    | 1, hq => cases hq; exact hKn1
    | 2, hq => cases hq; exact hKn2
    | 3, hq => cases hq; exact hKn3
    | 4, hq => cases hq; exact hKn4
    | 5, hq => cases hq; exact hKn5
    | k + 6, hq => simp [vwCl] at hq
  obtain ⟨cI, kcI, pcI, fcI, gcI, dcI⟩ := Cond.arrayClass_spec (hts _ u_29)
  obtain ⟨cZ, kcZ, pcZ, fcZ, gcZ, dcZ⟩ := Cond.arrayClass_spec (hts _ u_48)
  obtain ⟨cC, kcC, pcC, fcC, gcC, dcC⟩ := Cond.arrayClass_spec (hts _ u_100)
  have hK : va_K D vwCl [(cI, .int), (cZ, .boolean), (cC, .char)] s := by
    refine ⟨hKc, fun k q h => ?_⟩
    match k, h with
    | 0, h => cases h; exact ⟨fun n z => ⟨fun k h => (by cases h), kcI, gcI, pcI, dcI⟩, fcI⟩
    | 1, h => cases h; exact ⟨fun n z => ⟨fun k h => (by cases h), kcZ, gcZ, pcZ, dcZ⟩, fcZ⟩
    | 2, h => cases h; exact ⟨fun n z => ⟨fun k h => (by cases h), kcC, gcC, pcC, dcC⟩, fcC⟩
    | k + 3, h => simp at h
  have hfl := flat_of_before _ hgv
  obtain ⟨adK, adV, hVS, hVe⟩ := str_all hfl hnA
  have hR : ∀ i : Nat, i < nJS → vk_R RX1 (poJS.getD i 0) (txJS.getD i "") (adK i) s := fun i hi => vk_R.of (str_ref hts0 i hi) (hVe i hi)
  have hZ : va_Z "java/lang/String" "COMPACT_STRINGS" "Z" (.int 1) (lawA s) s s.heap := va_Zof (hts0 _ (by decide +kernel)) (hts0 _ (by decide +kernel)) (va_eqi (hfl (Cond.eq (.static "java/lang/String" "COMPACT_STRINGS" "Z") (.int 1)) (by decide +kernel))) hnA
  have hZq : va_Zq "jdk/internal/util/Preconditions" "SIOOBE_FORMATTER" "Ljava/util/function/BiFunction;" (lawA s) s s.heap := va_Zqof (hts0 _ (by decide +kernel)) (hts0 _ (by decide +kernel)) (hfl (Cond.isRef (.static "jdk/internal/util/Preconditions" "SIOOBE_FORMATTER" "Ljava/util/function/BiFunction;")) (by decide +kernel)) hnA
  have hN : nest_X4_init s := ⟨va_Nw.of rfl (hts0 _ (by decide +kernel)), va_Nw.of rfl (hts0 _ (by decide +kernel)), va_Nw.of rfl (hts0 _ (by decide +kernel)), va_Nw.of rfl (hts0 _ (by decide +kernel)), va_Nw.of rfl (hts0 _ (by decide +kernel))⟩
  have hS : va_S (lawA s) s.heap s.heap [] := va_S.rf
  have hP : va_P D vwCl [] s.heap := fun k q h => by simp at h
  have hD : va_D (lawA s) [] := ⟨fun i j p q h => by simp at h, fun k q h => by simp at h⟩
  have hl := lv_entry ([.ref b]) (n := 4) (Nat.le_of_ble_eq_true rfl)
  rw [lg_entry_eq]
  generalize (lg_sl ([.ref b]) ++ List.replicate (4 - (lg_sl ([.ref b])).length) Slot.unset).toArray = ls at hl ⊢
  have hl : lv_has ls 4 [(0, .ref b)] := hl
  refine va_new (ci := 4) (fs := [.null, .null, .null, .null, .null, .null, .null, .null, .null, .null, .int 0, .int 0]) (C := RX4) (T := TX4) (N := 12) hx hb (fun w h => hts w (inlX4 w h)) (fun _ h => h) tyX4 tyX4_ok hown (hts _ u_0) (hts _ u_1) (hts _ u_2) hK hP hD hS hA rfl (fun j hj => by rcases (show j = 0 ∨ j = 1 ∨ j = 2 ∨ j = 3 ∨ j = 4 ∨ j = 5 ∨ j = 6 ∨ j = 7 ∨ j = 8 ∨ j = 9 ∨ j = 10 ∨ j = 11 by omega) with rfl | rfl | rfl | rfl | rfl | rfl | rfl | rfl | rfl | rfl | rfl | rfl <;> rfl) (Nat.le_of_ble_eq_true rfl) (Nat.le_of_ble_eq_true rfl) dL_law_0 (fun ah0 H hP hD hS => ?_)
  have hP : va_P D vwCl [(ah0, .inr (4, [.null, .null, .null, .null, .null, .null, .null, .null, .null, .null, .int 0, .int 0]))] H := hP
  have hD : va_D (lawA s) [(ah0, .inr (4, [.null, .null, .null, .null, .null, .null, .null, .null, .null, .null, .int 0, .int 0]))] := hD
  refine W.widen (k := 1) (n := 12) (Nat.le_of_ble_eq_true rfl) (Nat.le_of_ble_eq_true rfl) ?_
  refine lv_dup hx hb dL_law_3 rfl ?_
  have hPc := hP.sub (ws' := [(ah0, .inr (4, [.null, .null, .null, .null, .null, .null, .null, .null, .null, .null, .int 0, .int 0]))]) [0] rfl
  have hDc := hD.sub (ws' := [(ah0, .inr (4, [.null, .null, .null, .null, .null, .null, .null, .null, .null, .null, .int 0, .int 0]))]) [0] (by decide) rfl
  have hFc := va_free (wc := [(ah0, .inr (4, [.null, .null, .null, .null, .null, .null, .null, .null, .null, .null, .int 0, .int 0]))]) hD hS hA [0] rfl
  refine va_callv (va_runI (As := []) (rest := [.ref ah0]) ⟨hx, hb, hml, hown, hts⟩ (kX4_init l D ah0 H.size cI cZ cC) (cwI 0 hts (gU_c u_8) rfl rfl rfl (hts _ u_2) (hts _ u_6) (hts _ u_7) rfl q_X4_init ⟨Nat.le_of_ble_eq_true rfl, Nat.le_of_ble_eq_true rfl⟩) ⟨fun a U g mk q => by obtain ⟨z0, z1, z2, z3, z4, z5⟩ := q; exact ⟨z0, z1, z2, va_K.moved (u := U) (U := U.calling g mk a) (Vm.Alike.refl U.vm) z3, z4, nest_same_X4_init (u := U) (U := U.calling g mk a) rfl z5⟩, fun U hU hW => ⟨rfl, by rw [hU], by rw [hU]; exact hPc, va_K.moved hW.alike hK, hDc.weaken (fun _ _ _ _ => trivial), nest_warm_X4_init hW hN⟩⟩ rfl rfl hl.1 rfl (lv_room (Nat.le_of_ble_eq_true rfl)) dL_law_4 ⟨Nat.le_of_ble_eq_true rfl, Nat.le_of_ble_eq_true rfl⟩) hS (fun q _ h => hFc q h) hFc (fun u t H1 locs ht hvm hw hB hz1 hk1 hS => ?_)
  obtain ⟨aq1, aq2, aq3, aq4, aq5, aq6, aq7, aq8, aq9, aq10, aq11, aq12, aq13, aq14, aq15, aq16, aq17, aq18, aq19, aq20, aq21, aq22, aq23, aq24, aq25, aq26, aq27, aq28, aq29, aq30, aq31, aq32, aq33, aq34, aq35, aq36, aq37, aq38, aq39, aq40, aq41, aq42, aq43, aq44, aq45, aq46, aq47, aq48, aq49, aq50, aq51, aq52, aq53⟩ := u
  obtain ⟨hP1, hD1⟩ := hB
  rw [ht] at hP1
  dsimp only [at_X4_init] at hP1 hD1
  obtain ⟨hP, hD⟩ := va_join (wr := []) (w1 := [(ah0, .inr (4, [.ref aq1, .ref aq2, .ref aq14, .ref aq24, .ref aq36, .ref aq48, .ref aq50, .ref aq51, .ref aq52, .ref aq53, .int 0, .int 0])), (aq1, .inr (3, [.ref aq2, .ref aq14, .ref aq20, .ref aq21, .ref aq22, .ref aq23, .int 0, .int 0, .int 0, .int 0, .int 0, .int 0, .int 0, .long 0, .long 0])), (aq2, .inr (2, [.ref aq3, .ref aq4, .ref aq5, .ref aq6, .ref aq7, .ref aq8, .ref aq9, .ref aq10, .ref aq11, .ref aq12, .ref aq13, .int 0, .int 0, .int 0, .int 1, .int 10, .int 0])), (aq3, .inl (cI, 8, .inl (fun _ => 0))), (aq4, .inl (cI, 8, .inl (fun _ => 0))), (aq5, .inl (cI, 8, .inl (fun _ => 0))), (aq6, .inl (cI, 14, .inl (fun _ => 0))), (aq7, .inl (cI, 14, .inl (fun _ => 0))), (aq8, .inl (cI, 14, .inl (fun _ => 0))), (aq9, .inl (cI, 14, .inl (fun _ => 0))), (aq10, .inl (cI, 5, .inl (fun _ => 0))), (aq11, .inl (cI, 5, .inl (fun _ => 0))), (aq12, .inl (cI, 5, .inl (fun _ => 0))), (aq13, .inl (cI, 5, .inl (fun _ => 0))), (aq14, .inr (0, [.ref aq15, .ref aq16, .ref aq17, .ref aq18, .ref aq19])), (aq15, .inl (cI, 64, .inl (fun _ => 0))), (aq16, .inl (cI, 64, .inl (fun _ => 0))), (aq17, .inl (cI, 64, .inl (fun _ => 0))), (aq18, .inl (cI, 64, .inl (fun _ => 0))), (aq19, .inl (cI, 64, .inl (fun _ => 0))), (aq20, .inl (cI, 8, .inl (fun _ => 0))), (aq21, .inl (cI, 8, .inl (fun _ => 0))), (aq22, .inl (cI, 12, .inl (fun _ => 0))), (aq23, .inl (cZ, 12, .inl (fun _ => 0))), (aq24, .inr (2, [.ref aq25, .ref aq26, .ref aq27, .ref aq28, .ref aq29, .ref aq30, .ref aq31, .ref aq32, .ref aq33, .ref aq34, .ref aq35, .int 0, .int 0, .int 0, .int 1, .int 10, .int 0])), (aq25, .inl (cI, 8, .inl (fun _ => 0))), (aq26, .inl (cI, 8, .inl (fun _ => 0))), (aq27, .inl (cI, 8, .inl (fun _ => 0))), (aq28, .inl (cI, 14, .inl (fun _ => 0))), (aq29, .inl (cI, 14, .inl (fun _ => 0))), (aq30, .inl (cI, 14, .inl (fun _ => 0))), (aq31, .inl (cI, 14, .inl (fun _ => 0))), (aq32, .inl (cI, 5, .inl (fun _ => 0))), (aq33, .inl (cI, 5, .inl (fun _ => 0))), (aq34, .inl (cI, 5, .inl (fun _ => 0))), (aq35, .inl (cI, 5, .inl (fun _ => 0))), (aq36, .inr (2, [.ref aq37, .ref aq38, .ref aq39, .ref aq40, .ref aq41, .ref aq42, .ref aq43, .ref aq44, .ref aq45, .ref aq46, .ref aq47, .int 0, .int 0, .int 0, .int 1, .int 10, .int 0])), (aq37, .inl (cI, 8, .inl (fun _ => 0))), (aq38, .inl (cI, 8, .inl (fun _ => 0))), (aq39, .inl (cI, 8, .inl (fun _ => 0))), (aq40, .inl (cI, 14, .inl (fun _ => 0))), (aq41, .inl (cI, 14, .inl (fun _ => 0))), (aq42, .inl (cI, 14, .inl (fun _ => 0))), (aq43, .inl (cI, 14, .inl (fun _ => 0))), (aq44, .inl (cI, 5, .inl (fun _ => 0))), (aq45, .inl (cI, 5, .inl (fun _ => 0))), (aq46, .inl (cI, 5, .inl (fun _ => 0))), (aq47, .inl (cI, 5, .inl (fun _ => 0))), (aq48, .inr (1, [.ref aq49, .int 0])), (aq49, .inl (cI, 96, .inl (fun _ => 0))), (aq50, .inl (cI, 10, .inl (fun _ => 0))), (aq51, .inl (cI, 5, .inl (fun _ => 0))), (aq52, .inl (cI, 5, .inl (fun _ => 0))), (aq53, .inl (cI, 7, .inl (fun _ => 0)))]) hP hD [0] [] rfl rfl (by decide) (by decide) hk1 hFc hP1 hD1
  generalize H1 = H at hP hS ⊢
  have hP : va_P D vwCl [(ah0, .inr (4, [.ref aq1, .ref aq2, .ref aq14, .ref aq24, .ref aq36, .ref aq48, .ref aq50, .ref aq51, .ref aq52, .ref aq53, .int 0, .int 0])), (aq1, .inr (3, [.ref aq2, .ref aq14, .ref aq20, .ref aq21, .ref aq22, .ref aq23, .int 0, .int 0, .int 0, .int 0, .int 0, .int 0, .int 0, .long 0, .long 0])), (aq2, .inr (2, [.ref aq3, .ref aq4, .ref aq5, .ref aq6, .ref aq7, .ref aq8, .ref aq9, .ref aq10, .ref aq11, .ref aq12, .ref aq13, .int 0, .int 0, .int 0, .int 1, .int 10, .int 0])), (aq3, .inl (cI, 8, .inl (fun _ => 0))), (aq4, .inl (cI, 8, .inl (fun _ => 0))), (aq5, .inl (cI, 8, .inl (fun _ => 0))), (aq6, .inl (cI, 14, .inl (fun _ => 0))), (aq7, .inl (cI, 14, .inl (fun _ => 0))), (aq8, .inl (cI, 14, .inl (fun _ => 0))), (aq9, .inl (cI, 14, .inl (fun _ => 0))), (aq10, .inl (cI, 5, .inl (fun _ => 0))), (aq11, .inl (cI, 5, .inl (fun _ => 0))), (aq12, .inl (cI, 5, .inl (fun _ => 0))), (aq13, .inl (cI, 5, .inl (fun _ => 0))), (aq14, .inr (0, [.ref aq15, .ref aq16, .ref aq17, .ref aq18, .ref aq19])), (aq15, .inl (cI, 64, .inl (fun _ => 0))), (aq16, .inl (cI, 64, .inl (fun _ => 0))), (aq17, .inl (cI, 64, .inl (fun _ => 0))), (aq18, .inl (cI, 64, .inl (fun _ => 0))), (aq19, .inl (cI, 64, .inl (fun _ => 0))), (aq20, .inl (cI, 8, .inl (fun _ => 0))), (aq21, .inl (cI, 8, .inl (fun _ => 0))), (aq22, .inl (cI, 12, .inl (fun _ => 0))), (aq23, .inl (cZ, 12, .inl (fun _ => 0))), (aq24, .inr (2, [.ref aq25, .ref aq26, .ref aq27, .ref aq28, .ref aq29, .ref aq30, .ref aq31, .ref aq32, .ref aq33, .ref aq34, .ref aq35, .int 0, .int 0, .int 0, .int 1, .int 10, .int 0])), (aq25, .inl (cI, 8, .inl (fun _ => 0))), (aq26, .inl (cI, 8, .inl (fun _ => 0))), (aq27, .inl (cI, 8, .inl (fun _ => 0))), (aq28, .inl (cI, 14, .inl (fun _ => 0))), (aq29, .inl (cI, 14, .inl (fun _ => 0))), (aq30, .inl (cI, 14, .inl (fun _ => 0))), (aq31, .inl (cI, 14, .inl (fun _ => 0))), (aq32, .inl (cI, 5, .inl (fun _ => 0))), (aq33, .inl (cI, 5, .inl (fun _ => 0))), (aq34, .inl (cI, 5, .inl (fun _ => 0))), (aq35, .inl (cI, 5, .inl (fun _ => 0))), (aq36, .inr (2, [.ref aq37, .ref aq38, .ref aq39, .ref aq40, .ref aq41, .ref aq42, .ref aq43, .ref aq44, .ref aq45, .ref aq46, .ref aq47, .int 0, .int 0, .int 0, .int 1, .int 10, .int 0])), (aq37, .inl (cI, 8, .inl (fun _ => 0))), (aq38, .inl (cI, 8, .inl (fun _ => 0))), (aq39, .inl (cI, 8, .inl (fun _ => 0))), (aq40, .inl (cI, 14, .inl (fun _ => 0))), (aq41, .inl (cI, 14, .inl (fun _ => 0))), (aq42, .inl (cI, 14, .inl (fun _ => 0))), (aq43, .inl (cI, 14, .inl (fun _ => 0))), (aq44, .inl (cI, 5, .inl (fun _ => 0))), (aq45, .inl (cI, 5, .inl (fun _ => 0))), (aq46, .inl (cI, 5, .inl (fun _ => 0))), (aq47, .inl (cI, 5, .inl (fun _ => 0))), (aq48, .inr (1, [.ref aq49, .int 0])), (aq49, .inl (cI, 96, .inl (fun _ => 0))), (aq50, .inl (cI, 10, .inl (fun _ => 0))), (aq51, .inl (cI, 5, .inl (fun _ => 0))), (aq52, .inl (cI, 5, .inl (fun _ => 0))), (aq53, .inl (cI, 7, .inl (fun _ => 0)))] H := hP
  have hD : va_D (lawA s) [(ah0, .inr (4, [.ref aq1, .ref aq2, .ref aq14, .ref aq24, .ref aq36, .ref aq48, .ref aq50, .ref aq51, .ref aq52, .ref aq53, .int 0, .int 0])), (aq1, .inr (3, [.ref aq2, .ref aq14, .ref aq20, .ref aq21, .ref aq22, .ref aq23, .int 0, .int 0, .int 0, .int 0, .int 0, .int 0, .int 0, .long 0, .long 0])), (aq2, .inr (2, [.ref aq3, .ref aq4, .ref aq5, .ref aq6, .ref aq7, .ref aq8, .ref aq9, .ref aq10, .ref aq11, .ref aq12, .ref aq13, .int 0, .int 0, .int 0, .int 1, .int 10, .int 0])), (aq3, .inl (cI, 8, .inl (fun _ => 0))), (aq4, .inl (cI, 8, .inl (fun _ => 0))), (aq5, .inl (cI, 8, .inl (fun _ => 0))), (aq6, .inl (cI, 14, .inl (fun _ => 0))), (aq7, .inl (cI, 14, .inl (fun _ => 0))), (aq8, .inl (cI, 14, .inl (fun _ => 0))), (aq9, .inl (cI, 14, .inl (fun _ => 0))), (aq10, .inl (cI, 5, .inl (fun _ => 0))), (aq11, .inl (cI, 5, .inl (fun _ => 0))), (aq12, .inl (cI, 5, .inl (fun _ => 0))), (aq13, .inl (cI, 5, .inl (fun _ => 0))), (aq14, .inr (0, [.ref aq15, .ref aq16, .ref aq17, .ref aq18, .ref aq19])), (aq15, .inl (cI, 64, .inl (fun _ => 0))), (aq16, .inl (cI, 64, .inl (fun _ => 0))), (aq17, .inl (cI, 64, .inl (fun _ => 0))), (aq18, .inl (cI, 64, .inl (fun _ => 0))), (aq19, .inl (cI, 64, .inl (fun _ => 0))), (aq20, .inl (cI, 8, .inl (fun _ => 0))), (aq21, .inl (cI, 8, .inl (fun _ => 0))), (aq22, .inl (cI, 12, .inl (fun _ => 0))), (aq23, .inl (cZ, 12, .inl (fun _ => 0))), (aq24, .inr (2, [.ref aq25, .ref aq26, .ref aq27, .ref aq28, .ref aq29, .ref aq30, .ref aq31, .ref aq32, .ref aq33, .ref aq34, .ref aq35, .int 0, .int 0, .int 0, .int 1, .int 10, .int 0])), (aq25, .inl (cI, 8, .inl (fun _ => 0))), (aq26, .inl (cI, 8, .inl (fun _ => 0))), (aq27, .inl (cI, 8, .inl (fun _ => 0))), (aq28, .inl (cI, 14, .inl (fun _ => 0))), (aq29, .inl (cI, 14, .inl (fun _ => 0))), (aq30, .inl (cI, 14, .inl (fun _ => 0))), (aq31, .inl (cI, 14, .inl (fun _ => 0))), (aq32, .inl (cI, 5, .inl (fun _ => 0))), (aq33, .inl (cI, 5, .inl (fun _ => 0))), (aq34, .inl (cI, 5, .inl (fun _ => 0))), (aq35, .inl (cI, 5, .inl (fun _ => 0))), (aq36, .inr (2, [.ref aq37, .ref aq38, .ref aq39, .ref aq40, .ref aq41, .ref aq42, .ref aq43, .ref aq44, .ref aq45, .ref aq46, .ref aq47, .int 0, .int 0, .int 0, .int 1, .int 10, .int 0])), (aq37, .inl (cI, 8, .inl (fun _ => 0))), (aq38, .inl (cI, 8, .inl (fun _ => 0))), (aq39, .inl (cI, 8, .inl (fun _ => 0))), (aq40, .inl (cI, 14, .inl (fun _ => 0))), (aq41, .inl (cI, 14, .inl (fun _ => 0))), (aq42, .inl (cI, 14, .inl (fun _ => 0))), (aq43, .inl (cI, 14, .inl (fun _ => 0))), (aq44, .inl (cI, 5, .inl (fun _ => 0))), (aq45, .inl (cI, 5, .inl (fun _ => 0))), (aq46, .inl (cI, 5, .inl (fun _ => 0))), (aq47, .inl (cI, 5, .inl (fun _ => 0))), (aq48, .inr (1, [.ref aq49, .int 0])), (aq49, .inl (cI, 96, .inl (fun _ => 0))), (aq50, .inl (cI, 10, .inl (fun _ => 0))), (aq51, .inl (cI, 5, .inl (fun _ => 0))), (aq52, .inl (cI, 5, .inl (fun _ => 0))), (aq53, .inl (cI, 7, .inl (fun _ => 0)))] := hD
  refine W.widen (k := 54) (n := 868) (Nat.le_of_ble_eq_true rfl) (Nat.le_of_ble_eq_true rfl) ?_
  refine lv_astore_n (lv' := [(1, .ref ah0), (0, .ref b)]) hx hb dL_law_7 rfl hl (by decide) rfl (fun ls hl => ?_)
  refine va_new (ci := 5) (fs := [.null, .null, .null, .int 0, .null, .int 0, .int 0, .int 0, .null, .null, .int 0, .null, .null, .int 0, .int 0, .int 0, .null, .null, .null, .null, .null, .int 0, .int 0, .int 0, .int 0, .int 0, .int 0, .long 0, .long 0, .int 0, .int 0, .int 0, .null, .int 0, .null, .int 0, .long 0, .long 0]) (C := RX5) (T := TX5) (N := 38) hx hb (fun w h => hts w (inlX5 w h)) (fun _ h => h) tyX5 tyX5_ok hown (hts _ u_3) (hts _ u_4) (hts _ u_5) hK hP hD hS hA rfl (fun j hj => by rcases (show j = 0 ∨ j = 1 ∨ j = 2 ∨ j = 3 ∨ j = 4 ∨ j = 5 ∨ j = 6 ∨ j = 7 ∨ j = 8 ∨ j = 9 ∨ j = 10 ∨ j = 11 ∨ j = 12 ∨ j = 13 ∨ j = 14 ∨ j = 15 ∨ j = 16 ∨ j = 17 ∨ j = 18 ∨ j = 19 ∨ j = 20 ∨ j = 21 ∨ j = 22 ∨ j = 23 ∨ j = 24 ∨ j = 25 ∨ j = 26 ∨ j = 27 ∨ j = 28 ∨ j = 29 ∨ j = 30 ∨ j = 31 ∨ j = 32 ∨ j = 33 ∨ j = 34 ∨ j = 35 ∨ j = 36 ∨ j = 37 by omega) with rfl | rfl | rfl | rfl | rfl | rfl | rfl | rfl | rfl | rfl | rfl | rfl | rfl | rfl | rfl | rfl | rfl | rfl | rfl | rfl | rfl | rfl | rfl | rfl | rfl | rfl | rfl | rfl | rfl | rfl | rfl | rfl | rfl | rfl | rfl | rfl | rfl | rfl <;> rfl) (Nat.le_of_ble_eq_true rfl) (Nat.le_of_ble_eq_true rfl) dL_law_8 (fun bh0 H hP hD hS => ?_)
  have hP : va_P D vwCl [(ah0, .inr (4, [.ref aq1, .ref aq2, .ref aq14, .ref aq24, .ref aq36, .ref aq48, .ref aq50, .ref aq51, .ref aq52, .ref aq53, .int 0, .int 0])), (aq1, .inr (3, [.ref aq2, .ref aq14, .ref aq20, .ref aq21, .ref aq22, .ref aq23, .int 0, .int 0, .int 0, .int 0, .int 0, .int 0, .int 0, .long 0, .long 0])), (aq2, .inr (2, [.ref aq3, .ref aq4, .ref aq5, .ref aq6, .ref aq7, .ref aq8, .ref aq9, .ref aq10, .ref aq11, .ref aq12, .ref aq13, .int 0, .int 0, .int 0, .int 1, .int 10, .int 0])), (aq3, .inl (cI, 8, .inl (fun _ => 0))), (aq4, .inl (cI, 8, .inl (fun _ => 0))), (aq5, .inl (cI, 8, .inl (fun _ => 0))), (aq6, .inl (cI, 14, .inl (fun _ => 0))), (aq7, .inl (cI, 14, .inl (fun _ => 0))), (aq8, .inl (cI, 14, .inl (fun _ => 0))), (aq9, .inl (cI, 14, .inl (fun _ => 0))), (aq10, .inl (cI, 5, .inl (fun _ => 0))), (aq11, .inl (cI, 5, .inl (fun _ => 0))), (aq12, .inl (cI, 5, .inl (fun _ => 0))), (aq13, .inl (cI, 5, .inl (fun _ => 0))), (aq14, .inr (0, [.ref aq15, .ref aq16, .ref aq17, .ref aq18, .ref aq19])), (aq15, .inl (cI, 64, .inl (fun _ => 0))), (aq16, .inl (cI, 64, .inl (fun _ => 0))), (aq17, .inl (cI, 64, .inl (fun _ => 0))), (aq18, .inl (cI, 64, .inl (fun _ => 0))), (aq19, .inl (cI, 64, .inl (fun _ => 0))), (aq20, .inl (cI, 8, .inl (fun _ => 0))), (aq21, .inl (cI, 8, .inl (fun _ => 0))), (aq22, .inl (cI, 12, .inl (fun _ => 0))), (aq23, .inl (cZ, 12, .inl (fun _ => 0))), (aq24, .inr (2, [.ref aq25, .ref aq26, .ref aq27, .ref aq28, .ref aq29, .ref aq30, .ref aq31, .ref aq32, .ref aq33, .ref aq34, .ref aq35, .int 0, .int 0, .int 0, .int 1, .int 10, .int 0])), (aq25, .inl (cI, 8, .inl (fun _ => 0))), (aq26, .inl (cI, 8, .inl (fun _ => 0))), (aq27, .inl (cI, 8, .inl (fun _ => 0))), (aq28, .inl (cI, 14, .inl (fun _ => 0))), (aq29, .inl (cI, 14, .inl (fun _ => 0))), (aq30, .inl (cI, 14, .inl (fun _ => 0))), (aq31, .inl (cI, 14, .inl (fun _ => 0))), (aq32, .inl (cI, 5, .inl (fun _ => 0))), (aq33, .inl (cI, 5, .inl (fun _ => 0))), (aq34, .inl (cI, 5, .inl (fun _ => 0))), (aq35, .inl (cI, 5, .inl (fun _ => 0))), (aq36, .inr (2, [.ref aq37, .ref aq38, .ref aq39, .ref aq40, .ref aq41, .ref aq42, .ref aq43, .ref aq44, .ref aq45, .ref aq46, .ref aq47, .int 0, .int 0, .int 0, .int 1, .int 10, .int 0])), (aq37, .inl (cI, 8, .inl (fun _ => 0))), (aq38, .inl (cI, 8, .inl (fun _ => 0))), (aq39, .inl (cI, 8, .inl (fun _ => 0))), (aq40, .inl (cI, 14, .inl (fun _ => 0))), (aq41, .inl (cI, 14, .inl (fun _ => 0))), (aq42, .inl (cI, 14, .inl (fun _ => 0))), (aq43, .inl (cI, 14, .inl (fun _ => 0))), (aq44, .inl (cI, 5, .inl (fun _ => 0))), (aq45, .inl (cI, 5, .inl (fun _ => 0))), (aq46, .inl (cI, 5, .inl (fun _ => 0))), (aq47, .inl (cI, 5, .inl (fun _ => 0))), (aq48, .inr (1, [.ref aq49, .int 0])), (aq49, .inl (cI, 96, .inl (fun _ => 0))), (aq50, .inl (cI, 10, .inl (fun _ => 0))), (aq51, .inl (cI, 5, .inl (fun _ => 0))), (aq52, .inl (cI, 5, .inl (fun _ => 0))), (aq53, .inl (cI, 7, .inl (fun _ => 0))), (bh0, .inr (5, [.null, .null, .null, .int 0, .null, .int 0, .int 0, .int 0, .null, .null, .int 0, .null, .null, .int 0, .int 0, .int 0, .null, .null, .null, .null, .null, .int 0, .int 0, .int 0, .int 0, .int 0, .int 0, .long 0, .long 0, .int 0, .int 0, .int 0, .null, .int 0, .null, .int 0, .long 0, .long 0]))] H := hP
  have hD : va_D (lawA s) [(ah0, .inr (4, [.ref aq1, .ref aq2, .ref aq14, .ref aq24, .ref aq36, .ref aq48, .ref aq50, .ref aq51, .ref aq52, .ref aq53, .int 0, .int 0])), (aq1, .inr (3, [.ref aq2, .ref aq14, .ref aq20, .ref aq21, .ref aq22, .ref aq23, .int 0, .int 0, .int 0, .int 0, .int 0, .int 0, .int 0, .long 0, .long 0])), (aq2, .inr (2, [.ref aq3, .ref aq4, .ref aq5, .ref aq6, .ref aq7, .ref aq8, .ref aq9, .ref aq10, .ref aq11, .ref aq12, .ref aq13, .int 0, .int 0, .int 0, .int 1, .int 10, .int 0])), (aq3, .inl (cI, 8, .inl (fun _ => 0))), (aq4, .inl (cI, 8, .inl (fun _ => 0))), (aq5, .inl (cI, 8, .inl (fun _ => 0))), (aq6, .inl (cI, 14, .inl (fun _ => 0))), (aq7, .inl (cI, 14, .inl (fun _ => 0))), (aq8, .inl (cI, 14, .inl (fun _ => 0))), (aq9, .inl (cI, 14, .inl (fun _ => 0))), (aq10, .inl (cI, 5, .inl (fun _ => 0))), (aq11, .inl (cI, 5, .inl (fun _ => 0))), (aq12, .inl (cI, 5, .inl (fun _ => 0))), (aq13, .inl (cI, 5, .inl (fun _ => 0))), (aq14, .inr (0, [.ref aq15, .ref aq16, .ref aq17, .ref aq18, .ref aq19])), (aq15, .inl (cI, 64, .inl (fun _ => 0))), (aq16, .inl (cI, 64, .inl (fun _ => 0))), (aq17, .inl (cI, 64, .inl (fun _ => 0))), (aq18, .inl (cI, 64, .inl (fun _ => 0))), (aq19, .inl (cI, 64, .inl (fun _ => 0))), (aq20, .inl (cI, 8, .inl (fun _ => 0))), (aq21, .inl (cI, 8, .inl (fun _ => 0))), (aq22, .inl (cI, 12, .inl (fun _ => 0))), (aq23, .inl (cZ, 12, .inl (fun _ => 0))), (aq24, .inr (2, [.ref aq25, .ref aq26, .ref aq27, .ref aq28, .ref aq29, .ref aq30, .ref aq31, .ref aq32, .ref aq33, .ref aq34, .ref aq35, .int 0, .int 0, .int 0, .int 1, .int 10, .int 0])), (aq25, .inl (cI, 8, .inl (fun _ => 0))), (aq26, .inl (cI, 8, .inl (fun _ => 0))), (aq27, .inl (cI, 8, .inl (fun _ => 0))), (aq28, .inl (cI, 14, .inl (fun _ => 0))), (aq29, .inl (cI, 14, .inl (fun _ => 0))), (aq30, .inl (cI, 14, .inl (fun _ => 0))), (aq31, .inl (cI, 14, .inl (fun _ => 0))), (aq32, .inl (cI, 5, .inl (fun _ => 0))), (aq33, .inl (cI, 5, .inl (fun _ => 0))), (aq34, .inl (cI, 5, .inl (fun _ => 0))), (aq35, .inl (cI, 5, .inl (fun _ => 0))), (aq36, .inr (2, [.ref aq37, .ref aq38, .ref aq39, .ref aq40, .ref aq41, .ref aq42, .ref aq43, .ref aq44, .ref aq45, .ref aq46, .ref aq47, .int 0, .int 0, .int 0, .int 1, .int 10, .int 0])), (aq37, .inl (cI, 8, .inl (fun _ => 0))), (aq38, .inl (cI, 8, .inl (fun _ => 0))), (aq39, .inl (cI, 8, .inl (fun _ => 0))), (aq40, .inl (cI, 14, .inl (fun _ => 0))), (aq41, .inl (cI, 14, .inl (fun _ => 0))), (aq42, .inl (cI, 14, .inl (fun _ => 0))), (aq43, .inl (cI, 14, .inl (fun _ => 0))), (aq44, .inl (cI, 5, .inl (fun _ => 0))), (aq45, .inl (cI, 5, .inl (fun _ => 0))), (aq46, .inl (cI, 5, .inl (fun _ => 0))), (aq47, .inl (cI, 5, .inl (fun _ => 0))), (aq48, .inr (1, [.ref aq49, .int 0])), (aq49, .inl (cI, 96, .inl (fun _ => 0))), (aq50, .inl (cI, 10, .inl (fun _ => 0))), (aq51, .inl (cI, 5, .inl (fun _ => 0))), (aq52, .inl (cI, 5, .inl (fun _ => 0))), (aq53, .inl (cI, 7, .inl (fun _ => 0))), (bh0, .inr (5, [.null, .null, .null, .int 0, .null, .int 0, .int 0, .int 0, .null, .null, .int 0, .null, .null, .int 0, .int 0, .int 0, .null, .null, .null, .null, .null, .int 0, .int 0, .int 0, .int 0, .int 0, .int 0, .long 0, .long 0, .int 0, .int 0, .int 0, .null, .int 0, .null, .int 0, .long 0, .long 0]))] := hD
  refine W.widen (k := 55) (n := 906) (Nat.le_of_ble_eq_true rfl) (Nat.le_of_ble_eq_true rfl) ?_
  refine lv_dup hx hb dL_law_11 rfl ?_
  have hPc := hP.sub (ws' := [(bh0, .inr (5, [.null, .null, .null, .int 0, .null, .int 0, .int 0, .int 0, .null, .null, .int 0, .null, .null, .int 0, .int 0, .int 0, .null, .null, .null, .null, .null, .int 0, .int 0, .int 0, .int 0, .int 0, .int 0, .long 0, .long 0, .int 0, .int 0, .int 0, .null, .int 0, .null, .int 0, .long 0, .long 0]))]) [54] rfl
  have hDc := hD.sub (ws' := [(bh0, .inr (5, [.null, .null, .null, .int 0, .null, .int 0, .int 0, .int 0, .null, .null, .int 0, .null, .null, .int 0, .int 0, .int 0, .null, .null, .null, .null, .null, .int 0, .int 0, .int 0, .int 0, .int 0, .int 0, .long 0, .long 0, .int 0, .int 0, .int 0, .null, .int 0, .null, .int 0, .long 0, .long 0]))]) [54] (by decide) rfl
  have hFc := va_free (wc := [(bh0, .inr (5, [.null, .null, .null, .int 0, .null, .int 0, .int 0, .int 0, .null, .null, .int 0, .null, .null, .int 0, .int 0, .int 0, .null, .null, .null, .null, .null, .int 0, .int 0, .int 0, .int 0, .int 0, .int 0, .long 0, .long 0, .int 0, .int 0, .int 0, .null, .int 0, .null, .int 0, .long 0, .long 0]))]) hD hS hA [54] rfl
  refine va_callv (va_runI (As := []) (rest := [.ref bh0]) ⟨hx, hb, hml, hown, hts⟩ (kX5_init l D bh0 H.size cI cZ cC) (cwI 0 hts (gU_c u_94) rfl rfl rfl (hts _ u_5) (hts _ u_92) (hts _ u_93) rfl q_X5_init ⟨Nat.le_of_ble_eq_true rfl, Nat.le_of_ble_eq_true rfl⟩) ⟨fun a U g mk q => by obtain ⟨z0, z1, z2, z3, z4⟩ := q; exact ⟨z0, z1, z2, va_K.moved (u := U) (U := U.calling g mk a) (Vm.Alike.refl U.vm) z3, z4⟩, fun U hU hW => ⟨rfl, by rw [hU], by rw [hU]; exact hPc, va_K.moved hW.alike hK, hDc.weaken (fun _ _ _ _ => trivial)⟩⟩ rfl rfl hl.1 rfl (lv_room (Nat.le_of_ble_eq_true rfl)) dL_law_12 ⟨Nat.le_of_ble_eq_true rfl, Nat.le_of_ble_eq_true rfl⟩) hS (fun q _ h => hFc q h) hFc (fun u t H1 locs ht hvm hw hB hz1 hk1 hS => ?_)
  obtain ⟨bq1, bq2, bq3, bq4, bq5, bq6, bq7, bq8, bq9, bq10, bq11, bq12, bq13, bq14, bq15⟩ := u
  obtain ⟨hP1, hD1⟩ := hB
  rw [ht] at hP1
  dsimp only [at_X5_init] at hP1 hD1
  obtain ⟨hP, hD⟩ := va_join (wr := [(ah0, .inr (4, [.ref aq1, .ref aq2, .ref aq14, .ref aq24, .ref aq36, .ref aq48, .ref aq50, .ref aq51, .ref aq52, .ref aq53, .int 0, .int 0])), (aq1, .inr (3, [.ref aq2, .ref aq14, .ref aq20, .ref aq21, .ref aq22, .ref aq23, .int 0, .int 0, .int 0, .int 0, .int 0, .int 0, .int 0, .long 0, .long 0])), (aq2, .inr (2, [.ref aq3, .ref aq4, .ref aq5, .ref aq6, .ref aq7, .ref aq8, .ref aq9, .ref aq10, .ref aq11, .ref aq12, .ref aq13, .int 0, .int 0, .int 0, .int 1, .int 10, .int 0])), (aq3, .inl (cI, 8, .inl (fun _ => 0))), (aq4, .inl (cI, 8, .inl (fun _ => 0))), (aq5, .inl (cI, 8, .inl (fun _ => 0))), (aq6, .inl (cI, 14, .inl (fun _ => 0))), (aq7, .inl (cI, 14, .inl (fun _ => 0))), (aq8, .inl (cI, 14, .inl (fun _ => 0))), (aq9, .inl (cI, 14, .inl (fun _ => 0))), (aq10, .inl (cI, 5, .inl (fun _ => 0))), (aq11, .inl (cI, 5, .inl (fun _ => 0))), (aq12, .inl (cI, 5, .inl (fun _ => 0))), (aq13, .inl (cI, 5, .inl (fun _ => 0))), (aq14, .inr (0, [.ref aq15, .ref aq16, .ref aq17, .ref aq18, .ref aq19])), (aq15, .inl (cI, 64, .inl (fun _ => 0))), (aq16, .inl (cI, 64, .inl (fun _ => 0))), (aq17, .inl (cI, 64, .inl (fun _ => 0))), (aq18, .inl (cI, 64, .inl (fun _ => 0))), (aq19, .inl (cI, 64, .inl (fun _ => 0))), (aq20, .inl (cI, 8, .inl (fun _ => 0))), (aq21, .inl (cI, 8, .inl (fun _ => 0))), (aq22, .inl (cI, 12, .inl (fun _ => 0))), (aq23, .inl (cZ, 12, .inl (fun _ => 0))), (aq24, .inr (2, [.ref aq25, .ref aq26, .ref aq27, .ref aq28, .ref aq29, .ref aq30, .ref aq31, .ref aq32, .ref aq33, .ref aq34, .ref aq35, .int 0, .int 0, .int 0, .int 1, .int 10, .int 0])), (aq25, .inl (cI, 8, .inl (fun _ => 0))), (aq26, .inl (cI, 8, .inl (fun _ => 0))), (aq27, .inl (cI, 8, .inl (fun _ => 0))), (aq28, .inl (cI, 14, .inl (fun _ => 0))), (aq29, .inl (cI, 14, .inl (fun _ => 0))), (aq30, .inl (cI, 14, .inl (fun _ => 0))), (aq31, .inl (cI, 14, .inl (fun _ => 0))), (aq32, .inl (cI, 5, .inl (fun _ => 0))), (aq33, .inl (cI, 5, .inl (fun _ => 0))), (aq34, .inl (cI, 5, .inl (fun _ => 0))), (aq35, .inl (cI, 5, .inl (fun _ => 0))), (aq36, .inr (2, [.ref aq37, .ref aq38, .ref aq39, .ref aq40, .ref aq41, .ref aq42, .ref aq43, .ref aq44, .ref aq45, .ref aq46, .ref aq47, .int 0, .int 0, .int 0, .int 1, .int 10, .int 0])), (aq37, .inl (cI, 8, .inl (fun _ => 0))), (aq38, .inl (cI, 8, .inl (fun _ => 0))), (aq39, .inl (cI, 8, .inl (fun _ => 0))), (aq40, .inl (cI, 14, .inl (fun _ => 0))), (aq41, .inl (cI, 14, .inl (fun _ => 0))), (aq42, .inl (cI, 14, .inl (fun _ => 0))), (aq43, .inl (cI, 14, .inl (fun _ => 0))), (aq44, .inl (cI, 5, .inl (fun _ => 0))), (aq45, .inl (cI, 5, .inl (fun _ => 0))), (aq46, .inl (cI, 5, .inl (fun _ => 0))), (aq47, .inl (cI, 5, .inl (fun _ => 0))), (aq48, .inr (1, [.ref aq49, .int 0])), (aq49, .inl (cI, 96, .inl (fun _ => 0))), (aq50, .inl (cI, 10, .inl (fun _ => 0))), (aq51, .inl (cI, 5, .inl (fun _ => 0))), (aq52, .inl (cI, 5, .inl (fun _ => 0))), (aq53, .inl (cI, 7, .inl (fun _ => 0)))]) (w1 := [(bh0, .inr (5, [.ref bq1, .ref bq2, .ref bq3, .int 0, .ref bq4, .int 0, .int 0, .int 0, .ref bq5, .ref bq6, .int 0, .ref bq7, .ref bq8, .int 0, .int 0, .int (-9), .ref bq9, .ref bq10, .ref bq11, .ref bq12, .ref bq13, .int 0, .int 0, .int 0, .int 0, .int 0, .int 0, .long 0, .long 0, .int 0, .int 0, .int 0, .ref bq14, .int 0, .ref bq15, .int 0, .long 0, .long 0])), (bq1, .inl (cI, 7, .inl (fun _ => 0))), (bq2, .inl (cI, 200, .inl (upd (upd (fun _ => 0) (Int32.toNatClampNeg 3) 1) (Int32.toNatClampNeg 4) 10))), (bq3, .inl (cI, 200, .inl (fun _ => 0))), (bq4, .inl (cI, 96, .inl (fun _ => 0))), (bq5, .inl (cC, 5, .inl (upd (upd (upd (upd (upd (fun _ => 0) (Int32.toNatClampNeg 0) (vp_nar .char 112)) (Int32.toNatClampNeg 1) (vp_nar .char 119)) (Int32.toNatClampNeg 2) (vp_nar .char 101)) (Int32.toNatClampNeg 3) (vp_nar .char 102)) (Int32.toNatClampNeg 4) (vp_nar .char 100)))), (bq6, .inl (cC, 6, .inl (upd (upd (upd (upd (upd (upd (fun _ => 0) (Int32.toNatClampNeg 0) (vp_nar .char 112)) (Int32.toNatClampNeg 1) (vp_nar .char 119)) (Int32.toNatClampNeg 2) (vp_nar .char 98)) (Int32.toNatClampNeg 3) (vp_nar .char 104)) (Int32.toNatClampNeg 4) (vp_nar .char 107)) (Int32.toNatClampNeg 5) (vp_nar .char 110)))), (bq7, .inl (cI, 4, .inl (fun _ => 0))), (bq8, .inl (cI, 200, .inl (fun _ => 0))), (bq9, .inl (cI, 64, .inl (fun _ => 0))), (bq10, .inl (cI, 64, .inl (fun _ => 0))), (bq11, .inl (cI, 64, .inl (fun _ => 0))), (bq12, .inl (cI, 64, .inl (fun _ => 0))), (bq13, .inl (cI, 10, .inl (fun _ => 0))), (bq14, .inl (cI, 10, .inl (fun _ => 0))), (bq15, .inl (cI, 5, .inl (fun _ => 0)))]) hP hD [54] [0, 1, 2, 3, 4, 5, 6, 7, 8, 9, 10, 11, 12, 13, 14, 15, 16, 17, 18, 19, 20, 21, 22, 23, 24, 25, 26, 27, 28, 29, 30, 31, 32, 33, 34, 35, 36, 37, 38, 39, 40, 41, 42, 43, 44, 45, 46, 47, 48, 49, 50, 51, 52, 53] rfl rfl (by decide) (by decide) hk1 hFc hP1 hD1
  generalize H1 = H at hP hS ⊢
  have hP : va_P D vwCl [(ah0, .inr (4, [.ref aq1, .ref aq2, .ref aq14, .ref aq24, .ref aq36, .ref aq48, .ref aq50, .ref aq51, .ref aq52, .ref aq53, .int 0, .int 0])), (aq1, .inr (3, [.ref aq2, .ref aq14, .ref aq20, .ref aq21, .ref aq22, .ref aq23, .int 0, .int 0, .int 0, .int 0, .int 0, .int 0, .int 0, .long 0, .long 0])), (aq2, .inr (2, [.ref aq3, .ref aq4, .ref aq5, .ref aq6, .ref aq7, .ref aq8, .ref aq9, .ref aq10, .ref aq11, .ref aq12, .ref aq13, .int 0, .int 0, .int 0, .int 1, .int 10, .int 0])), (aq3, .inl (cI, 8, .inl (fun _ => 0))), (aq4, .inl (cI, 8, .inl (fun _ => 0))), (aq5, .inl (cI, 8, .inl (fun _ => 0))), (aq6, .inl (cI, 14, .inl (fun _ => 0))), (aq7, .inl (cI, 14, .inl (fun _ => 0))), (aq8, .inl (cI, 14, .inl (fun _ => 0))), (aq9, .inl (cI, 14, .inl (fun _ => 0))), (aq10, .inl (cI, 5, .inl (fun _ => 0))), (aq11, .inl (cI, 5, .inl (fun _ => 0))), (aq12, .inl (cI, 5, .inl (fun _ => 0))), (aq13, .inl (cI, 5, .inl (fun _ => 0))), (aq14, .inr (0, [.ref aq15, .ref aq16, .ref aq17, .ref aq18, .ref aq19])), (aq15, .inl (cI, 64, .inl (fun _ => 0))), (aq16, .inl (cI, 64, .inl (fun _ => 0))), (aq17, .inl (cI, 64, .inl (fun _ => 0))), (aq18, .inl (cI, 64, .inl (fun _ => 0))), (aq19, .inl (cI, 64, .inl (fun _ => 0))), (aq20, .inl (cI, 8, .inl (fun _ => 0))), (aq21, .inl (cI, 8, .inl (fun _ => 0))), (aq22, .inl (cI, 12, .inl (fun _ => 0))), (aq23, .inl (cZ, 12, .inl (fun _ => 0))), (aq24, .inr (2, [.ref aq25, .ref aq26, .ref aq27, .ref aq28, .ref aq29, .ref aq30, .ref aq31, .ref aq32, .ref aq33, .ref aq34, .ref aq35, .int 0, .int 0, .int 0, .int 1, .int 10, .int 0])), (aq25, .inl (cI, 8, .inl (fun _ => 0))), (aq26, .inl (cI, 8, .inl (fun _ => 0))), (aq27, .inl (cI, 8, .inl (fun _ => 0))), (aq28, .inl (cI, 14, .inl (fun _ => 0))), (aq29, .inl (cI, 14, .inl (fun _ => 0))), (aq30, .inl (cI, 14, .inl (fun _ => 0))), (aq31, .inl (cI, 14, .inl (fun _ => 0))), (aq32, .inl (cI, 5, .inl (fun _ => 0))), (aq33, .inl (cI, 5, .inl (fun _ => 0))), (aq34, .inl (cI, 5, .inl (fun _ => 0))), (aq35, .inl (cI, 5, .inl (fun _ => 0))), (aq36, .inr (2, [.ref aq37, .ref aq38, .ref aq39, .ref aq40, .ref aq41, .ref aq42, .ref aq43, .ref aq44, .ref aq45, .ref aq46, .ref aq47, .int 0, .int 0, .int 0, .int 1, .int 10, .int 0])), (aq37, .inl (cI, 8, .inl (fun _ => 0))), (aq38, .inl (cI, 8, .inl (fun _ => 0))), (aq39, .inl (cI, 8, .inl (fun _ => 0))), (aq40, .inl (cI, 14, .inl (fun _ => 0))), (aq41, .inl (cI, 14, .inl (fun _ => 0))), (aq42, .inl (cI, 14, .inl (fun _ => 0))), (aq43, .inl (cI, 14, .inl (fun _ => 0))), (aq44, .inl (cI, 5, .inl (fun _ => 0))), (aq45, .inl (cI, 5, .inl (fun _ => 0))), (aq46, .inl (cI, 5, .inl (fun _ => 0))), (aq47, .inl (cI, 5, .inl (fun _ => 0))), (aq48, .inr (1, [.ref aq49, .int 0])), (aq49, .inl (cI, 96, .inl (fun _ => 0))), (aq50, .inl (cI, 10, .inl (fun _ => 0))), (aq51, .inl (cI, 5, .inl (fun _ => 0))), (aq52, .inl (cI, 5, .inl (fun _ => 0))), (aq53, .inl (cI, 7, .inl (fun _ => 0))), (bh0, .inr (5, [.ref bq1, .ref bq2, .ref bq3, .int 0, .ref bq4, .int 0, .int 0, .int 0, .ref bq5, .ref bq6, .int 0, .ref bq7, .ref bq8, .int 0, .int 0, .int (-9), .ref bq9, .ref bq10, .ref bq11, .ref bq12, .ref bq13, .int 0, .int 0, .int 0, .int 0, .int 0, .int 0, .long 0, .long 0, .int 0, .int 0, .int 0, .ref bq14, .int 0, .ref bq15, .int 0, .long 0, .long 0])), (bq1, .inl (cI, 7, .inl (fun _ => 0))), (bq2, .inl (cI, 200, .inl (upd (upd (fun _ => 0) (Int32.toNatClampNeg 3) 1) (Int32.toNatClampNeg 4) 10))), (bq3, .inl (cI, 200, .inl (fun _ => 0))), (bq4, .inl (cI, 96, .inl (fun _ => 0))), (bq5, .inl (cC, 5, .inl (upd (upd (upd (upd (upd (fun _ => 0) (Int32.toNatClampNeg 0) (vp_nar .char 112)) (Int32.toNatClampNeg 1) (vp_nar .char 119)) (Int32.toNatClampNeg 2) (vp_nar .char 101)) (Int32.toNatClampNeg 3) (vp_nar .char 102)) (Int32.toNatClampNeg 4) (vp_nar .char 100)))), (bq6, .inl (cC, 6, .inl (upd (upd (upd (upd (upd (upd (fun _ => 0) (Int32.toNatClampNeg 0) (vp_nar .char 112)) (Int32.toNatClampNeg 1) (vp_nar .char 119)) (Int32.toNatClampNeg 2) (vp_nar .char 98)) (Int32.toNatClampNeg 3) (vp_nar .char 104)) (Int32.toNatClampNeg 4) (vp_nar .char 107)) (Int32.toNatClampNeg 5) (vp_nar .char 110)))), (bq7, .inl (cI, 4, .inl (fun _ => 0))), (bq8, .inl (cI, 200, .inl (fun _ => 0))), (bq9, .inl (cI, 64, .inl (fun _ => 0))), (bq10, .inl (cI, 64, .inl (fun _ => 0))), (bq11, .inl (cI, 64, .inl (fun _ => 0))), (bq12, .inl (cI, 64, .inl (fun _ => 0))), (bq13, .inl (cI, 10, .inl (fun _ => 0))), (bq14, .inl (cI, 10, .inl (fun _ => 0))), (bq15, .inl (cI, 5, .inl (fun _ => 0)))] H := hP
  have hD : va_D (lawA s) [(ah0, .inr (4, [.ref aq1, .ref aq2, .ref aq14, .ref aq24, .ref aq36, .ref aq48, .ref aq50, .ref aq51, .ref aq52, .ref aq53, .int 0, .int 0])), (aq1, .inr (3, [.ref aq2, .ref aq14, .ref aq20, .ref aq21, .ref aq22, .ref aq23, .int 0, .int 0, .int 0, .int 0, .int 0, .int 0, .int 0, .long 0, .long 0])), (aq2, .inr (2, [.ref aq3, .ref aq4, .ref aq5, .ref aq6, .ref aq7, .ref aq8, .ref aq9, .ref aq10, .ref aq11, .ref aq12, .ref aq13, .int 0, .int 0, .int 0, .int 1, .int 10, .int 0])), (aq3, .inl (cI, 8, .inl (fun _ => 0))), (aq4, .inl (cI, 8, .inl (fun _ => 0))), (aq5, .inl (cI, 8, .inl (fun _ => 0))), (aq6, .inl (cI, 14, .inl (fun _ => 0))), (aq7, .inl (cI, 14, .inl (fun _ => 0))), (aq8, .inl (cI, 14, .inl (fun _ => 0))), (aq9, .inl (cI, 14, .inl (fun _ => 0))), (aq10, .inl (cI, 5, .inl (fun _ => 0))), (aq11, .inl (cI, 5, .inl (fun _ => 0))), (aq12, .inl (cI, 5, .inl (fun _ => 0))), (aq13, .inl (cI, 5, .inl (fun _ => 0))), (aq14, .inr (0, [.ref aq15, .ref aq16, .ref aq17, .ref aq18, .ref aq19])), (aq15, .inl (cI, 64, .inl (fun _ => 0))), (aq16, .inl (cI, 64, .inl (fun _ => 0))), (aq17, .inl (cI, 64, .inl (fun _ => 0))), (aq18, .inl (cI, 64, .inl (fun _ => 0))), (aq19, .inl (cI, 64, .inl (fun _ => 0))), (aq20, .inl (cI, 8, .inl (fun _ => 0))), (aq21, .inl (cI, 8, .inl (fun _ => 0))), (aq22, .inl (cI, 12, .inl (fun _ => 0))), (aq23, .inl (cZ, 12, .inl (fun _ => 0))), (aq24, .inr (2, [.ref aq25, .ref aq26, .ref aq27, .ref aq28, .ref aq29, .ref aq30, .ref aq31, .ref aq32, .ref aq33, .ref aq34, .ref aq35, .int 0, .int 0, .int 0, .int 1, .int 10, .int 0])), (aq25, .inl (cI, 8, .inl (fun _ => 0))), (aq26, .inl (cI, 8, .inl (fun _ => 0))), (aq27, .inl (cI, 8, .inl (fun _ => 0))), (aq28, .inl (cI, 14, .inl (fun _ => 0))), (aq29, .inl (cI, 14, .inl (fun _ => 0))), (aq30, .inl (cI, 14, .inl (fun _ => 0))), (aq31, .inl (cI, 14, .inl (fun _ => 0))), (aq32, .inl (cI, 5, .inl (fun _ => 0))), (aq33, .inl (cI, 5, .inl (fun _ => 0))), (aq34, .inl (cI, 5, .inl (fun _ => 0))), (aq35, .inl (cI, 5, .inl (fun _ => 0))), (aq36, .inr (2, [.ref aq37, .ref aq38, .ref aq39, .ref aq40, .ref aq41, .ref aq42, .ref aq43, .ref aq44, .ref aq45, .ref aq46, .ref aq47, .int 0, .int 0, .int 0, .int 1, .int 10, .int 0])), (aq37, .inl (cI, 8, .inl (fun _ => 0))), (aq38, .inl (cI, 8, .inl (fun _ => 0))), (aq39, .inl (cI, 8, .inl (fun _ => 0))), (aq40, .inl (cI, 14, .inl (fun _ => 0))), (aq41, .inl (cI, 14, .inl (fun _ => 0))), (aq42, .inl (cI, 14, .inl (fun _ => 0))), (aq43, .inl (cI, 14, .inl (fun _ => 0))), (aq44, .inl (cI, 5, .inl (fun _ => 0))), (aq45, .inl (cI, 5, .inl (fun _ => 0))), (aq46, .inl (cI, 5, .inl (fun _ => 0))), (aq47, .inl (cI, 5, .inl (fun _ => 0))), (aq48, .inr (1, [.ref aq49, .int 0])), (aq49, .inl (cI, 96, .inl (fun _ => 0))), (aq50, .inl (cI, 10, .inl (fun _ => 0))), (aq51, .inl (cI, 5, .inl (fun _ => 0))), (aq52, .inl (cI, 5, .inl (fun _ => 0))), (aq53, .inl (cI, 7, .inl (fun _ => 0))), (bh0, .inr (5, [.ref bq1, .ref bq2, .ref bq3, .int 0, .ref bq4, .int 0, .int 0, .int 0, .ref bq5, .ref bq6, .int 0, .ref bq7, .ref bq8, .int 0, .int 0, .int (-9), .ref bq9, .ref bq10, .ref bq11, .ref bq12, .ref bq13, .int 0, .int 0, .int 0, .int 0, .int 0, .int 0, .long 0, .long 0, .int 0, .int 0, .int 0, .ref bq14, .int 0, .ref bq15, .int 0, .long 0, .long 0])), (bq1, .inl (cI, 7, .inl (fun _ => 0))), (bq2, .inl (cI, 200, .inl (upd (upd (fun _ => 0) (Int32.toNatClampNeg 3) 1) (Int32.toNatClampNeg 4) 10))), (bq3, .inl (cI, 200, .inl (fun _ => 0))), (bq4, .inl (cI, 96, .inl (fun _ => 0))), (bq5, .inl (cC, 5, .inl (upd (upd (upd (upd (upd (fun _ => 0) (Int32.toNatClampNeg 0) (vp_nar .char 112)) (Int32.toNatClampNeg 1) (vp_nar .char 119)) (Int32.toNatClampNeg 2) (vp_nar .char 101)) (Int32.toNatClampNeg 3) (vp_nar .char 102)) (Int32.toNatClampNeg 4) (vp_nar .char 100)))), (bq6, .inl (cC, 6, .inl (upd (upd (upd (upd (upd (upd (fun _ => 0) (Int32.toNatClampNeg 0) (vp_nar .char 112)) (Int32.toNatClampNeg 1) (vp_nar .char 119)) (Int32.toNatClampNeg 2) (vp_nar .char 98)) (Int32.toNatClampNeg 3) (vp_nar .char 104)) (Int32.toNatClampNeg 4) (vp_nar .char 107)) (Int32.toNatClampNeg 5) (vp_nar .char 110)))), (bq7, .inl (cI, 4, .inl (fun _ => 0))), (bq8, .inl (cI, 200, .inl (fun _ => 0))), (bq9, .inl (cI, 64, .inl (fun _ => 0))), (bq10, .inl (cI, 64, .inl (fun _ => 0))), (bq11, .inl (cI, 64, .inl (fun _ => 0))), (bq12, .inl (cI, 64, .inl (fun _ => 0))), (bq13, .inl (cI, 10, .inl (fun _ => 0))), (bq14, .inl (cI, 10, .inl (fun _ => 0))), (bq15, .inl (cI, 5, .inl (fun _ => 0)))] := hD
  refine W.widen (k := 70) (n := 1905) (Nat.le_of_ble_eq_true rfl) (Nat.le_of_ble_eq_true rfl) ?_
  refine lv_astore_n (lv' := [(2, .ref bh0), (1, .ref ah0), (0, .ref b)]) hx hb dL_law_15 rfl hl (by decide) rfl (fun ls hl => ?_)
  refine lv_iconst (v := 0) hx hb dL_law_16 (by decide) ?_
  refine lv_istore_n (lv' := [(3, .int 0), (2, .ref bh0), (1, .ref ah0), (0, .ref b)]) hx hb dL_law_17 rfl hl (by decide) rfl (fun ls hl => ?_)
  obtain ⟨E1, e1⟩ : ∃ E : EN, E = (D, (fun k => ([ah0, aq1, aq14, aq48, aq2, aq24, aq36, aq15, aq16, aq17, aq18, aq19, aq49, aq3, aq4, aq5, aq6, aq7, aq8, aq9, aq10, aq11, aq12, aq13, aq25, aq26, aq27, aq28, aq29, aq30, aq31, aq32, aq33, aq34, aq35, aq37, aq38, aq39, aq40, aq41, aq42, aq43, aq44, aq45, aq46, aq47, aq20, aq21, aq22, aq23, aq50, aq51, aq52, aq53] : List Nat).getD k 0), (cI, cZ, cC), (fun q => q ∈ ([ah0, aq1, aq14, aq48, aq2, aq24, aq36, aq15, aq16, aq17, aq18, aq19, aq49, aq3, aq4, aq5, aq6, aq7, aq8, aq9, aq10, aq11, aq12, aq13, aq25, aq26, aq27, aq28, aq29, aq30, aq31, aq32, aq33, aq34, aq35, aq37, aq38, aq39, aq40, aq41, aq42, aq43, aq44, aq45, aq46, aq47, aq20, aq21, aq22, aq23, aq50, aq51, aq52, aq53] : List Nat)), adK, adV) := ⟨_, rfl⟩
  obtain ⟨E2, e2⟩ : ∃ E : EN, E = (D, (fun k => ([bh0, bq1, bq2, bq3, bq4, bq5, bq6, bq7, bq8, bq9, bq10, bq11, bq12, bq13, bq14, bq15] : List Nat).getD k 0), (cI, cZ, cC), (fun q => q ∈ ([bh0, bq1, bq2, bq3, bq4, bq5, bq6, bq7, bq8, bq9, bq10, bq11, bq12, bq13, bq14, bq15] : List Nat)), adK, adV) := ⟨_, rfl⟩
  have hPx : va_P (eD E1) vwCl (xW E1 σX0) H := by subst e1; exact hP.sub [0, 1, 14, 48, 2, 24, 36, 15, 16, 17, 18, 19, 49, 3, 4, 5, 6, 7, 8, 9, 10, 11, 12, 13, 25, 26, 27, 28, 29, 30, 31, 32, 33, 34, 35, 37, 38, 39, 40, 41, 42, 43, 44, 45, 46, 47, 20, 21, 22, 23, 50, 51, 52, 53] rfl
  have hPm : va_P (eD E2) vwCl (mW E2 σM0) H := by subst e2; exact hP.sub [54, 55, 56, 57, 58, 59, 60, 61, 62, 63, 64, 65, 66, 67, 68, 69] rfl
  have hDa : va_D (lawA s) (xW E1 σX0 ++ mW E2 σM0) := by subst e1; subst e2; exact hD.sub [0, 1, 14, 48, 2, 24, 36, 15, 16, 17, 18, 19, 49, 3, 4, 5, 6, 7, 8, 9, 10, 11, 12, 13, 25, 26, 27, 28, 29, 30, 31, 32, 33, 34, 35, 37, 38, 39, 40, 41, 42, 43, 44, 45, 46, 47, 20, 21, 22, 23, 50, 51, 52, 53, 54, 55, 56, 57, 58, 59, 60, 61, 62, 63, 64, 65, 66, 67, 68, 69] (by decide) rfl
  have ax : ∀ σ, (xW E1 σ).map Prod.fst = [ah0, aq1, aq14, aq48, aq2, aq24, aq36, aq15, aq16, aq17, aq18, aq19, aq49, aq3, aq4, aq5, aq6, aq7, aq8, aq9, aq10, aq11, aq12, aq13, aq25, aq26, aq27, aq28, aq29, aq30, aq31, aq32, aq33, aq34, aq35, aq37, aq38, aq39, aq40, aq41, aq42, aq43, aq44, aq45, aq46, aq47, aq20, aq21, aq22, aq23, aq50, aq51, aq52, aq53] := fun σ => by subst e1; rfl
  have am : ∀ σ, (mW E2 σ).map Prod.fst = [bh0, bq1, bq2, bq3, bq4, bq5, bq6, bq7, bq8, bq9, bq10, bq11, bq12, bq13, bq14, bq15] := fun σ => by subst e2; rfl
  have hDx : va_D (lawA s) (xW E1 σX0) := ⟨fun i j p q hi hj h => hDa.1 i j p q (by rw [List.getElem?_append_left (List.getElem?_eq_some_iff.mp hi).1]; exact hi) (by rw [List.getElem?_append_left (List.getElem?_eq_some_iff.mp hj).1]; exact hj) h, fun k q hk => hDa.2 k q (by rw [List.getElem?_append_left (List.getElem?_eq_some_iff.mp hk).1]; exact hk)⟩
  have hDm : va_D (lawA s) (mW E2 σM0) := by
    have sh : ∀ (i : Nat) (p : Nat × va_E), (mW E2 σM0)[i]? = some p → (xW E1 σX0 ++ mW E2 σM0)[(xW E1 σX0).length + i]? = some p := fun i p h => by rw [List.getElem?_append_right (by omega), show (xW E1 σX0).length + i - (xW E1 σX0).length = i by omega]; exact h
    exact ⟨fun i j p q hi hj h => by have := hDa.1 _ _ p q (sh i p hi) (sh j q hj) h; omega, fun k q hk => hDa.2 _ q (sh k q hk)⟩
  have hL1 := va_D_lt hDx
  have hL2 := va_D_lt hDm
  have hdi := va_D_dis hDa
  rw [ax] at hL1 hdi
  rw [am] at hL2 hdi
  have C : LC p s m meth c b L xs E1 E2 := by
    refine ⟨hx, hb, hml, hown, hts, hr, hlk, hX, hbl, hL, fun σ => va_D_map hDx ((ax σ).trans (ax σX0).symm) ?_, fun σ => va_D_map hDm ((am σ).trans (am σM0).symm) ?_, ?_, ?_, ?_, ?_, ?_, ?_, ?_⟩
    · rw [ax]; subst e1; exact fun q h => h
    · rw [am]; subst e2; exact fun q h => h
    · subst e1; exact hL1
    · subst e2; exact hL2
    · subst e1; subst e2; exact hdi
    · subst e1; exact hK
    · subst e2; exact hK
    · subst e1; intro U H locs hS hU hW; exact law_xK hK hVS hR hZ hZq hS hU hW hL1
    · subst e2; intro U H locs hS hU hW; exact law_xK hK hVS hR hZ hZq hS hU hW hL2
  have hl : lv_has ls 4 [(0, .ref b), (1, .ref (ea E1 0)), (2, .ref (ea E2 0)), (3, .int 0)] := by subst e1; subst e2; exact lv_sub hl [3, 2, 1, 0] rfl
  exact law_loop C S (L + 1) 0 0 (Nat.zero_le L) (by omega) nI_0.symm σX0 σM0 h0 _ _ _ hl hPx hPm hS
