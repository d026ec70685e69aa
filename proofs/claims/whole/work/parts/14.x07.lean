def fX4_worth  (x1 : Int32) (σ : ST) : Option (Int64 × ST) :=
  cali (fX4_refusalOfPart x1 σ) (fun r_2 σ_1 => bnd (r_2 : Int32) (fun x2_3 => (if 0 ≤ x2_3 then calv (fX4_goByRow σ_1) (fun σ_4 => call (fX4_partOf (gL σ_4 1) x1 σ_4) (fun r_6 σ_5 => some (r_6, σ_5))) else call (fX4_refuseLong x2_3 σ_1) (fun r_8 σ_7 => some (r_8, σ_7)))))
set_option maxHeartbeats 4000000 in
set_option maxRecDepth 100000 in
theorem wX4_worth {p : Program} {l : Launch} {e : Env} {s : State} {m : MethodId} {args : Array Value} {below : List Frame} {meth : Method} {c : Code} {E : EN} (C : zC E xW p s m args meth c cX4_worth 3 RX4 (some .long) wsL_law) {F : Int64 × ST}   (x1 : Int32) (σ : ST) (H : Heap) (locs : List Loc) (ls : Array Slot) (hl : lv_has ls 3 [(0, .ref (ea E 0)), (1, .int x1)]) (hP : va_P (eD E) vwCl (xW E σ) H) (hS : va_S (eA E) s.heap H locs) (hE : fX4_worth  x1 σ = some F) : zWl E xW p l e r_X4_worth s m args below meth c F H locs (F0 m 0 ls []) := by
  obtain ⟨hx, hb, hml, hown, hts, hr, hlk, hK, hD⟩ := id C
  have hwX3 : ∀ w ∈ wsX30, w.before args s = true := fun w h => hts w (inlX3 w h)
  have hwX4 : ∀ w ∈ wsX40, w.before args s = true := fun w h => hts w (inlX4 w h)
  unfold fX4_worth at hE
  refine lv_aload_n hx hb dX4_worth_0 rfl (lv_at hl 0 rfl) ?_
  refine lv_iload_n hx hb dX4_worth_1 rfl (lv_at hl 1 rfl) ?_
  refine z_goi (wf := xW) hS hE (fun F1 h1 => (va_runV (As := [.int x1]) (rest := []) ⟨hx, hb, hml, hown, hts⟩ (kX4_refusalOfPart l E hD x1 σ F1 h1) (cwV 1 hts (gU_V u_643 u_644 u_645 u_2 u_646) rfl rfl rfl q_X4_refusalOfPart ⟨Nat.le_of_ble_eq_true rfl, Nat.le_of_ble_eq_true rfl⟩) (z_preV hK hP hS (ci := 4) (q0 := 0) rfl rfl rfl) rfl rfl hl.1 rfl (lv_room (Nat.le_of_ble_eq_true rfl)) dX4_worth_2 ⟨Nat.le_of_ble_eq_true rfl, Nat.le_of_ble_eq_true rfl⟩)) (fun r_2 σ_1 H locs hP hS hE => ?_)
  refine z_istore_n hx hb (fun x2_3 => [(2, .int x2_3), (0, .ref (ea E 0)), (1, .int x1)]) dX4_worth_5 rfl hl (by decide) rfl hE (fun x2_3 ls hl hE => ?_)
  refine lv_iload_n hx hb dX4_worth_6 rfl (lv_at hl 0 rfl) ?_
  refine z_if_ge (tgt := 16) hx hb dX4_worth_7 (by decide) hE (fun hE => ?_) (fun hE => ?_)
  · refine lv_aload_n hx hb dX4_worth_16 rfl (lv_at hl 1 rfl) ?_
    refine z_gov (wf := xW) hS hE (fun F1 h1 => (va_runV (As := []) (rest := []) ⟨hx, hb, hml, hown, hts⟩ (kX4_goByRow l E hD  σ_1 F1 h1) (cwV 0 hts (gU_V u_521 u_522 u_523 u_2 u_524) rfl rfl rfl q_X4_goByRow ⟨Nat.le_of_ble_eq_true rfl, Nat.le_of_ble_eq_true rfl⟩) (z_preV hK hP hS (ci := 4) (q0 := 0) rfl rfl rfl) rfl rfl hl.1 rfl (lv_room (Nat.le_of_ble_eq_true rfl)) dX4_worth_17 ⟨Nat.le_of_ble_eq_true rfl, Nat.le_of_ble_eq_true rfl⟩)) (fun σ_4 H locs hP hS hE => ?_)
    refine lv_aload_n hx hb dX4_worth_20 rfl (lv_at hl 1 rfl) ?_
    refine xg_0_0 hx hb hown hwX4 (hts _ u_15) hK hP dX4_worth_21 ?_
    refine xg_1_14 hx hb hown hwX3 (hts _ u_680) hK hP dX4_worth_24 ?_
    refine lv_iload_n hx hb dX4_worth_27 rfl (lv_at hl 2 rfl) ?_
    refine z_gol (wf := xW) hS hE (fun F1 h1 => (va_runS (As := [.long (gL σ_4 1), .int x1]) (rest := []) ⟨hx, hb, hml, hown, hts⟩ (kX4_partOf l E hD (gL σ_4 1) x1 σ_4 F1 h1) (va_cwS 2 hts (gU_S u_652 u_653 u_2 u_654) rfl rfl rfl q_X4_partOf ⟨Nat.le_of_ble_eq_true rfl, Nat.le_of_ble_eq_true rfl⟩) (z_preS hK hP hS) rfl rfl hl.1 rfl (lv_room (Nat.le_of_ble_eq_true rfl)) dX4_worth_28 ⟨Nat.le_of_ble_eq_true rfl, Nat.le_of_ble_eq_true rfl⟩)) (fun r_6 σ_5 H locs hP hS hE => ?_)
    exact z_lret hx hb hr hlk hP hS dX4_worth_31 hE
  refine lv_aload_n hx hb dX4_worth_10 rfl (lv_at hl 1 rfl) ?_
  refine lv_iload_n hx hb dX4_worth_11 rfl (lv_at hl 0 rfl) ?_
  refine z_gol (wf := xW) hS hE (fun F1 h1 => (va_runV (As := [.int x2_3]) (rest := []) ⟨hx, hb, hml, hown, hts⟩ (kX4_refuseLong l E hD x2_3 σ_1 F1 h1) (cwV 1 hts (gU_V u_647 u_648 u_649 u_2 u_650) rfl rfl rfl q_X4_refuseLong ⟨Nat.le_of_ble_eq_true rfl, Nat.le_of_ble_eq_true rfl⟩) (z_preV hK hP hS (ci := 4) (q0 := 0) rfl rfl rfl) rfl rfl hl.1 rfl (lv_room (Nat.le_of_ble_eq_true rfl)) dX4_worth_12 ⟨Nat.le_of_ble_eq_true rfl, Nat.le_of_ble_eq_true rfl⟩)) (fun r_8 σ_7 H locs hP hS hE => ?_)
  exact z_lret hx hb hr hlk hP hS dX4_worth_15 hE
theorem kX4_worth (l : Launch) (E : EN) (hD : ∀ σ, va_D (eA E) (xW E σ)) (x1 : Int32) (σ : ST) (F : Int64 × ST) (hE : fX4_worth x1 σ = some F) : Met l yX4_worth wu_X4_worth r_X4_worth (zPc E xW [.ref (ea E 0), .int x1] σ) (zQl E xW F) 0 0 (eA E) := by
  refine Met.ofW (cc := cX4_worth) (maxL := 3) (ret := (some .long)) (by decide) rfl ?_
  intro p e s m args below meth c s₁ B hml hv
  obtain ⟨rfl, hP, hK⟩ := hv
  have hl := lv_entry ([.ref (ea E 0), .int x1]) (n := 3) (Nat.le_of_ble_eq_true rfl)
  rw [lg_entry_eq]
  generalize (lg_sl ([.ref (ea E 0), .int x1]) ++ List.replicate (3 - (lg_sl ([.ref (ea E 0), .int x1])).length) Slot.unset).toArray = ls at hl ⊢
  exact wX4_worth ⟨B.exec, B.bytes, hml, findClass_of_methodNamed B.named, fun w h => atoms_spec (ws := wu_X4_worth) B.pre w (List.mem_cons_of_mem _ h), B.returns, B.notSynchronized, hK, hD⟩ x1 σ s.heap [] ls hl hP va_S.rf hE
def fX4_refusalOfBest  (x1 : Int32) (σ : ST) : Option (Int32 × ST) :=
  (if x1 < 0 then some ((-2), σ) else (if x1 ≤ 2 then (if (gI σ 3) = 0 then some ((-3), σ) else some (0, σ)) else some ((-2), σ)))
set_option maxHeartbeats 4000000 in
set_option maxRecDepth 100000 in
theorem wX4_refusalOfBest {p : Program} {l : Launch} {e : Env} {s : State} {m : MethodId} {args : Array Value} {below : List Frame} {meth : Method} {c : Code} {E : EN} (C : zC E xW p s m args meth c cX4_refusalOfBest 2 RX4 (some .int) wsL_law) {F : Int32 × ST}   (x1 : Int32) (σ : ST) (H : Heap) (locs : List Loc) (ls : Array Slot) (hl : lv_has ls 2 [(0, .ref (ea E 0)), (1, .int x1)]) (hP : va_P (eD E) vwCl (xW E σ) H) (hS : va_S (eA E) s.heap H locs) (hE : fX4_refusalOfBest  x1 σ = some F) : zWi E xW p l e r_X4_refusalOfBest s m args below meth c F H locs (F0 m 0 ls []) := by
  obtain ⟨hx, hb, hml, hown, hts, hr, hlk, hK, hD⟩ := id C
  have hwX2 : ∀ w ∈ wsX20, w.before args s = true := fun w h => hts w (inlX2 w h)
  have hwX4 : ∀ w ∈ wsX40, w.before args s = true := fun w h => hts w (inlX4 w h)
  unfold fX4_refusalOfBest at hE
  refine lv_iload_n hx hb dX4_refusalOfBest_0 rfl (lv_at hl 1 rfl) ?_
  refine z_if_lt (tgt := 9) hx hb dX4_refusalOfBest_1 (by decide) hE (fun hE => ?_) (fun hE => ?_)
  · refine lv_bipush (v := -2) hx hb dX4_refusalOfBest_9 (by decide) ?_
    exact z_iret hx hb hr hlk hP hS dX4_refusalOfBest_11 hE
  refine lv_iload_n hx hb dX4_refusalOfBest_4 rfl (lv_at hl 1 rfl) ?_
  refine lv_iconst (v := 2) hx hb dX4_refusalOfBest_5 (by decide) ?_
  refine z_icmp_le (tgt := 12) hx hb dX4_refusalOfBest_6 (by decide) hE (fun hE => ?_) (fun hE => ?_)
  · refine lv_aload_n hx hb dX4_refusalOfBest_12 rfl (lv_at hl 0 rfl) ?_
    refine xg_0_1 hx hb hown hwX4 (hts _ u_17) hK hP dX4_refusalOfBest_13 ?_
    refine xg_4_11 hx hb hown hwX2 (hts _ u_387) hK hP dX4_refusalOfBest_16 ?_
    refine z_if_ne (tgt := 27) hx hb dX4_refusalOfBest_19 (by decide) hE (fun hE => ?_) (fun hE => ?_)
    · refine lv_iconst (v := 0) hx hb dX4_refusalOfBest_27 (by decide) ?_
      exact z_iret hx hb hr hlk hP hS dX4_refusalOfBest_28 hE
    refine lv_bipush (v := -3) hx hb dX4_refusalOfBest_22 (by decide) ?_
    refine lv_goto (tgt := 28) hx hb dX4_refusalOfBest_24 (by decide) ?_
    exact z_iret hx hb hr hlk hP hS dX4_refusalOfBest_28 hE
  refine lv_bipush (v := -2) hx hb dX4_refusalOfBest_9 (by decide) ?_
  exact z_iret hx hb hr hlk hP hS dX4_refusalOfBest_11 hE
theorem kX4_refusalOfBest (l : Launch) (E : EN) (hD : ∀ σ, va_D (eA E) (xW E σ)) (x1 : Int32) (σ : ST) (F : Int32 × ST) (hE : fX4_refusalOfBest x1 σ = some F) : Met l yX4_refusalOfBest wu_X4_refusalOfBest r_X4_refusalOfBest (zPc E xW [.ref (ea E 0), .int x1] σ) (zQi E xW F) 0 0 (eA E) := by
  refine Met.ofW (cc := cX4_refusalOfBest) (maxL := 2) (ret := (some .int)) (by decide) rfl ?_
  intro p e s m args below meth c s₁ B hml hv
  obtain ⟨rfl, hP, hK⟩ := hv
  have hl := lv_entry ([.ref (ea E 0), .int x1]) (n := 2) (Nat.le_of_ble_eq_true rfl)
  rw [lg_entry_eq]
  generalize (lg_sl ([.ref (ea E 0), .int x1]) ++ List.replicate (2 - (lg_sl ([.ref (ea E 0), .int x1])).length) Slot.unset).toArray = ls at hl ⊢
  exact wX4_refusalOfBest ⟨B.exec, B.bytes, hml, findClass_of_methodNamed B.named, fun w h => atoms_spec (ws := wu_X4_refusalOfBest) B.pre w (List.mem_cons_of_mem _ h), B.returns, B.notSynchronized, hK, hD⟩ x1 σ s.heap [] ls hl hP va_S.rf hE
def fX4_ratingBy  (x1 : Int32) (σ : ST) : Option (Int64 × ST) :=
  (if x1 = 0 then some ((Int32.toInt64 (-(gI σ 25))), σ) else (if x1 = 1 then some ((gL σ 0), σ) else some ((gL σ 1), σ)))
set_option maxHeartbeats 4000000 in
set_option maxRecDepth 100000 in
theorem wX4_ratingBy {p : Program} {l : Launch} {e : Env} {s : State} {m : MethodId} {args : Array Value} {below : List Frame} {meth : Method} {c : Code} {E : EN} (C : zC E xW p s m args meth c cX4_ratingBy 2 RX4 (some .long) wsL_law) {F : Int64 × ST}   (x1 : Int32) (σ : ST) (H : Heap) (locs : List Loc) (ls : Array Slot) (hl : lv_has ls 2 [(0, .ref (ea E 0)), (1, .int x1)]) (hP : va_P (eD E) vwCl (xW E σ) H) (hS : va_S (eA E) s.heap H locs) (hE : fX4_ratingBy  x1 σ = some F) : zWl E xW p l e r_X4_ratingBy s m args below meth c F H locs (F0 m 0 ls []) := by
  obtain ⟨hx, hb, hml, hown, hts, hr, hlk, hK, hD⟩ := id C
  have hwX3 : ∀ w ∈ wsX30, w.before args s = true := fun w h => hts w (inlX3 w h)
  have hwX4 : ∀ w ∈ wsX40, w.before args s = true := fun w h => hts w (inlX4 w h)
  unfold fX4_ratingBy at hE
  refine lv_iload_n hx hb dX4_ratingBy_0 rfl (lv_at hl 1 rfl) ?_
  refine z_if_ne (tgt := 14) hx hb dX4_ratingBy_1 (by decide) hE (fun hE => ?_) (fun hE => ?_)
  · refine lv_iload_n hx hb dX4_ratingBy_14 rfl (lv_at hl 1 rfl) ?_
    refine lv_iconst (v := 1) hx hb dX4_ratingBy_15 (by decide) ?_
    refine z_icmp_ne (tgt := 29) hx hb dX4_ratingBy_16 (by decide) hE (fun hE => ?_) (fun hE => ?_)
    · refine lv_aload_n hx hb dX4_ratingBy_29 rfl (lv_at hl 0 rfl) ?_
      refine xg_0_0 hx hb hown hwX4 (hts _ u_15) hK hP dX4_ratingBy_30 ?_
      refine xg_1_14 hx hb hown hwX3 (hts _ u_680) hK hP dX4_ratingBy_33 ?_
      exact z_lret hx hb hr hlk hP hS dX4_ratingBy_36 hE
    refine lv_aload_n hx hb dX4_ratingBy_19 rfl (lv_at hl 0 rfl) ?_
    refine xg_0_0 hx hb hown hwX4 (hts _ u_15) hK hP dX4_ratingBy_20 ?_
    refine xg_1_13 hx hb hown hwX3 (hts _ u_642) hK hP dX4_ratingBy_23 ?_
    refine lv_goto (tgt := 36) hx hb dX4_ratingBy_26 (by decide) ?_
    exact z_lret hx hb hr hlk hP hS dX4_ratingBy_36 hE
  refine lv_aload_n hx hb dX4_ratingBy_4 rfl (lv_at hl 0 rfl) ?_
  refine xg_0_0 hx hb hown hwX4 (hts _ u_15) hK hP dX4_ratingBy_5 ?_
  refine xg_1_10 hx hb hown hwX3 (hts _ u_518) hK hP dX4_ratingBy_8 ?_
  refine lv_ineg hx hb dX4_ratingBy_11 ?_
  refine lv_i2l (v := (Int32.toInt64 (-(gI σ 25)))) hx hb dX4_ratingBy_12 rfl ?_
  exact z_lret hx hb hr hlk hP hS dX4_ratingBy_13 hE
theorem kX4_ratingBy (l : Launch) (E : EN) (hD : ∀ σ, va_D (eA E) (xW E σ)) (x1 : Int32) (σ : ST) (F : Int64 × ST) (hE : fX4_ratingBy x1 σ = some F) : Met l yX4_ratingBy wu_X4_ratingBy r_X4_ratingBy (zPc E xW [.ref (ea E 0), .int x1] σ) (zQl E xW F) 0 0 (eA E) := by
  refine Met.ofW (cc := cX4_ratingBy) (maxL := 2) (ret := (some .long)) (by decide) rfl ?_
  intro p e s m args below meth c s₁ B hml hv
  obtain ⟨rfl, hP, hK⟩ := hv
  have hl := lv_entry ([.ref (ea E 0), .int x1]) (n := 2) (Nat.le_of_ble_eq_true rfl)
  rw [lg_entry_eq]
  generalize (lg_sl ([.ref (ea E 0), .int x1]) ++ List.replicate (2 - (lg_sl ([.ref (ea E 0), .int x1])).length) Slot.unset).toArray = ls at hl ⊢
  exact wX4_ratingBy ⟨B.exec, B.bytes, hml, findClass_of_methodNamed B.named, fun w h => atoms_spec (ws := wu_X4_ratingBy) B.pre w (List.mem_cons_of_mem _ h), B.returns, B.notSynchronized, hK, hD⟩ x1 σ s.heap [] ls hl hP va_S.rf hE
def fX4_swapInOrder  (x1 : Int32) (x2 : Int32) (σ : ST) : Option (ST) :=
  ald (gA σ 44) 5 x1 (fun v_1 => bnd (v_1 : Int32) (fun x3_2 => ald (gA σ 44) 5 x2 (fun v_3 => ast σ 44 5 x1 v_3 (fun σ_4 => ast σ_4 44 5 x2 x3_2 (fun σ_5 => some σ_5)))))
set_option maxHeartbeats 4000000 in
set_option maxRecDepth 100000 in
theorem wX4_swapInOrder {p : Program} {l : Launch} {e : Env} {s : State} {m : MethodId} {args : Array Value} {below : List Frame} {meth : Method} {c : Code} {E : EN} (C : zC E xW p s m args meth c cX4_swapInOrder 4 RX4 none wsL_law) {F : ST}   (x1 : Int32) (x2 : Int32) (σ : ST) (H : Heap) (locs : List Loc) (ls : Array Slot) (hl : lv_has ls 4 [(0, .ref (ea E 0)), (1, .int x1), (2, .int x2)]) (hP : va_P (eD E) vwCl (xW E σ) H) (hS : va_S (eA E) s.heap H locs) (hE : fX4_swapInOrder  x1 x2 σ = some F) : zWv E xW p l e r_X4_swapInOrder s m args below meth c F H locs (F0 m 0 ls []) := by
  obtain ⟨hx, hb, hml, hown, hts, hr, hlk, hK, hD⟩ := id C
  have hwX4 : ∀ w ∈ wsX40, w.before args s = true := fun w h => hts w (inlX4 w h)
  unfold fX4_swapInOrder at hE
  refine lv_aload_n hx hb dX4_swapInOrder_0 rfl (lv_at hl 0 rfl) ?_
  refine xg_0_7 hx hb hown hwX4 (hts _ u_31) hK hP dX4_swapInOrder_1 ?_
  refine lv_iload_n hx hb dX4_swapInOrder_4 rfl (lv_at hl 1 rfl) ?_
  refine xa_51 hx hb hK hP dX4_swapInOrder_5 hE (fun v_1 hE => ?_)
  refine z_istore_n hx hb (fun x3_2 => [(3, .int x3_2), (0, .ref (ea E 0)), (1, .int x1), (2, .int x2)]) dX4_swapInOrder_6 rfl hl (by decide) rfl hE (fun x3_2 ls hl hE => ?_)
  refine lv_aload_n hx hb dX4_swapInOrder_7 rfl (lv_at hl 1 rfl) ?_
  refine xg_0_7 hx hb hown hwX4 (hts _ u_31) hK hP dX4_swapInOrder_8 ?_
  refine lv_iload_n hx hb dX4_swapInOrder_11 rfl (lv_at hl 2 rfl) ?_
  refine lv_aload_n hx hb dX4_swapInOrder_12 rfl (lv_at hl 1 rfl) ?_
  refine xg_0_7 hx hb hown hwX4 (hts _ u_31) hK hP dX4_swapInOrder_13 ?_
  refine lv_iload_n hx hb dX4_swapInOrder_16 rfl (lv_at hl 3 rfl) ?_
  refine xa_51 hx hb hK hP dX4_swapInOrder_17 hE (fun v_3 hE => ?_)
  refine xs_51 hx hb hK hD hP hS dX4_swapInOrder_18 hE (fun σ_4 H locs hP hS hE => ?_)
  refine lv_aload_n hx hb dX4_swapInOrder_19 rfl (lv_at hl 1 rfl) ?_
  refine xg_0_7 hx hb hown hwX4 (hts _ u_31) hK hP dX4_swapInOrder_20 ?_
  refine lv_iload_n hx hb dX4_swapInOrder_23 rfl (lv_at hl 3 rfl) ?_
  refine lv_iload_n hx hb dX4_swapInOrder_24 rfl (lv_at hl 0 rfl) ?_
  refine xs_51 hx hb hK hD hP hS dX4_swapInOrder_25 hE (fun σ_5 H locs hP hS hE => ?_)
  exact z_vret hx hb hr hlk hP hS dX4_swapInOrder_26 hE
theorem kX4_swapInOrder (l : Launch) (E : EN) (hD : ∀ σ, va_D (eA E) (xW E σ)) (x1 : Int32) (x2 : Int32) (σ : ST) (F : ST) (hE : fX4_swapInOrder x1 x2 σ = some F) : Met l yX4_swapInOrder wu_X4_swapInOrder r_X4_swapInOrder (zPc E xW [.ref (ea E 0), .int x1, .int x2] σ) (zQv E xW F) 0 0 (eA E) := by
  refine Met.ofW (cc := cX4_swapInOrder) (maxL := 4) (ret := none) (by decide) rfl ?_
  intro p e s m args below meth c s₁ B hml hv
  obtain ⟨rfl, hP, hK⟩ := hv
  have hl := lv_entry ([.ref (ea E 0), .int x1, .int x2]) (n := 4) (Nat.le_of_ble_eq_true rfl)
  rw [lg_entry_eq]
  generalize (lg_sl ([.ref (ea E 0), .int x1, .int x2]) ++ List.replicate (4 - (lg_sl ([.ref (ea E 0), .int x1, .int x2])).length) Slot.unset).toArray = ls at hl ⊢
  exact wX4_swapInOrder ⟨B.exec, B.bytes, hml, findClass_of_methodNamed B.named, fun w h => atoms_spec (ws := wu_X4_swapInOrder) B.pre w (List.mem_cons_of_mem _ h), B.returns, B.notSynchronized, hK, hD⟩ x1 x2 σ s.heap [] ls hl hP va_S.rf hE
def fX4_turnToNextOrder_L4 (ke : Int32 → Int32 → ST → Option (Int32 × ST)) : Nat → Int32 → Int32 → ST → Option (Int32 × ST)
  | 0, _, _, _ => none
  | n + 1, x1, x2, σ => (if x2 < 0 then ke x1 x2 σ else ald (gA σ 44) 5 x2 (fun v_2 => ald (gA σ 44) 5 (x2 + 1) (fun v_3 => (if v_2 ≤ v_3 then ke x1 x2 σ else bnd (x2 + (-1)) (fun x2_4 => fX4_turnToNextOrder_L4 ke n x1 x2_4 σ)))))
set_option maxHeartbeats 4000000 in
set_option maxRecDepth 100000 in
theorem wX4_turnToNextOrder_L4 {p : Program} {l : Launch} {e : Env} {s : State} {m : MethodId} {args : Array Value} {below : List Frame} {meth : Method} {c : Code} {E : EN} (C : zC E xW p s m args meth c cX4_turnToNextOrder 6 RX4 (some .boolean) wsL_law) {F : Int32 × ST} {ke : Int32 → Int32 → ST → Option (Int32 × ST)} (hke : ∀ (x1 : Int32) (x2 : Int32) (σ : ST) (H : Heap) (locs : List Loc) (ls : Array Slot), lv_has ls 6 [(0, .ref (ea E 0)), (1, .int x1), (2, .int x2)] → va_P (eD E) vwCl (xW E σ) H → va_S (eA E) s.heap H locs → ke x1 x2 σ = some F → zWi E xW p l e r_X4_turnToNextOrder s m args below meth c F H locs (F0 m 31 ls [])) : ∀ (n : Nat) (x1 : Int32) (x2 : Int32) (σ : ST) (H : Heap) (locs : List Loc) (ls : Array Slot), lv_has ls 6 [(0, .ref (ea E 0)), (1, .int x1), (2, .int x2)] → va_P (eD E) vwCl (xW E σ) H → va_S (eA E) s.heap H locs → fX4_turnToNextOrder_L4 ke n x1 x2 σ = some F → zWi E xW p l e r_X4_turnToNextOrder s m args below meth c F H locs (F0 m 4 ls []) := by
  obtain ⟨hx, hb, hml, hown, hts, hr, hlk, hK, hD⟩ := id C
  have hwX4 : ∀ w ∈ wsX40, w.before args s = true := fun w h => hts w (inlX4 w h)
  intro n
  induction n with
  | zero => intro x1 x2 σ H locs ls hl hP hS hE; rw [fX4_turnToNextOrder_L4] at hE; cases hE
  | succ n ih =>
    intro x1 x2 σ H locs ls hl hP hS hE
    rw [fX4_turnToNextOrder_L4] at hE
    refine lv_iload_n hx hb dX4_turnToNextOrder_4 rfl (lv_at hl 2 rfl) ?_
    refine z_if_lt (tgt := 31) hx hb dX4_turnToNextOrder_5 (by decide) hE (fun hE => ?_) (fun hE => ?_)
    · exact hke x1 x2 σ _ _ _ (lv_sub hl [0, 1, 2] rfl) hP hS hE
    refine lv_aload_n hx hb dX4_turnToNextOrder_8 rfl (lv_at hl 0 rfl) ?_
    refine xg_0_7 hx hb hown hwX4 (hts _ u_31) hK hP dX4_turnToNextOrder_9 ?_
    refine lv_iload_n hx hb dX4_turnToNextOrder_12 rfl (lv_at hl 2 rfl) ?_
    refine xa_51 hx hb hK hP dX4_turnToNextOrder_13 hE (fun v_2 hE => ?_)
    refine lv_aload_n hx hb dX4_turnToNextOrder_14 rfl (lv_at hl 0 rfl) ?_
    refine xg_0_7 hx hb hown hwX4 (hts _ u_31) hK hP dX4_turnToNextOrder_15 ?_
    refine lv_iload_n hx hb dX4_turnToNextOrder_18 rfl (lv_at hl 2 rfl) ?_
    refine lv_iconst (v := 1) hx hb dX4_turnToNextOrder_19 (by decide) ?_
    refine lv_iadd hx hb dX4_turnToNextOrder_20 ?_
    refine xa_51 hx hb hK hP dX4_turnToNextOrder_21 hE (fun v_3 hE => ?_)
    refine z_icmp_le (tgt := 31) hx hb dX4_turnToNextOrder_22 (by decide) hE (fun hE => ?_) (fun hE => ?_)
    · exact hke x1 x2 σ _ _ _ (lv_sub hl [0, 1, 2] rfl) hP hS hE
    refine z_iinc hx hb (v := (x2 + (-1))) (k := 2) (fun x2_4 => [(2, .int x2_4), (0, .ref (ea E 0)), (1, .int x1)]) dX4_turnToNextOrder_25 hl rfl (by rfl) (by decide) rfl hE (fun x2_4 ls hl hE => ?_)
    refine lv_goto (tgt := 4) hx hb dX4_turnToNextOrder_28 (by decide) ?_
    exact ih x1 x2_4 σ _ _ _ (lv_sub hl [1, 2, 0] rfl) hP hS hE
def fX4_turnToNextOrder_L41 (ke : Int32 → Int32 → Int32 → ST → Option (Int32 × ST)) : Nat → Int32 → Int32 → Int32 → ST → Option (Int32 × ST)
  | 0, _, _, _, _ => none
  | n + 1, x1, x2, x3, σ => (if x3 ≤ x2 then ke x1 x2 x3 σ else ald (gA σ 44) 5 x3 (fun v_9 => ald (gA σ 44) 5 x2 (fun v_10 => (if v_10 ≤ v_9 then ke x1 x2 x3 σ else bnd (x3 + (-1)) (fun x3_11 => fX4_turnToNextOrder_L41 ke n x1 x2 x3_11 σ)))))
set_option maxHeartbeats 4000000 in
set_option maxRecDepth 100000 in
theorem wX4_turnToNextOrder_L41 {p : Program} {l : Launch} {e : Env} {s : State} {m : MethodId} {args : Array Value} {below : List Frame} {meth : Method} {c : Code} {E : EN} (C : zC E xW p s m args meth c cX4_turnToNextOrder 6 RX4 (some .boolean) wsL_law) {F : Int32 × ST} {ke : Int32 → Int32 → Int32 → ST → Option (Int32 × ST)} (hke : ∀ (x1 : Int32) (x2 : Int32) (x3 : Int32) (σ : ST) (H : Heap) (locs : List Loc) (ls : Array Slot), lv_has ls 6 [(0, .ref (ea E 0)), (1, .int x1), (2, .int x2), (3, .int x3)] → va_P (eD E) vwCl (xW E σ) H → va_S (eA E) s.heap H locs → ke x1 x2 x3 σ = some F → zWi E xW p l e r_X4_turnToNextOrder s m args below meth c F H locs (F0 m 67 ls [])) : ∀ (n : Nat) (x1 : Int32) (x2 : Int32) (x3 : Int32) (σ : ST) (H : Heap) (locs : List Loc) (ls : Array Slot), lv_has ls 6 [(0, .ref (ea E 0)), (1, .int x1), (2, .int x2), (3, .int x3)] → va_P (eD E) vwCl (xW E σ) H → va_S (eA E) s.heap H locs → fX4_turnToNextOrder_L41 ke n x1 x2 x3 σ = some F → zWi E xW p l e r_X4_turnToNextOrder s m args below meth c F H locs (F0 m 41 ls []) := by
  obtain ⟨hx, hb, hml, hown, hts, hr, hlk, hK, hD⟩ := id C
  have hwX4 : ∀ w ∈ wsX40, w.before args s = true := fun w h => hts w (inlX4 w h)
  intro n
  induction n with
  | zero => intro x1 x2 x3 σ H locs ls hl hP hS hE; rw [fX4_turnToNextOrder_L41] at hE; cases hE
  | succ n ih =>
    intro x1 x2 x3 σ H locs ls hl hP hS hE
    rw [fX4_turnToNextOrder_L41] at hE
    refine lv_iload_n hx hb dX4_turnToNextOrder_41 rfl (lv_at hl 3 rfl) ?_
    refine lv_iload_n hx hb dX4_turnToNextOrder_42 rfl (lv_at hl 2 rfl) ?_
    refine z_icmp_le (tgt := 67) hx hb dX4_turnToNextOrder_43 (by decide) hE (fun hE => ?_) (fun hE => ?_)
    · exact hke x1 x2 x3 σ _ _ _ (lv_sub hl [0, 1, 2, 3] rfl) hP hS hE
    refine lv_aload_n hx hb dX4_turnToNextOrder_46 rfl (lv_at hl 0 rfl) ?_
    refine xg_0_7 hx hb hown hwX4 (hts _ u_31) hK hP dX4_turnToNextOrder_47 ?_
    refine lv_iload_n hx hb dX4_turnToNextOrder_50 rfl (lv_at hl 3 rfl) ?_
    refine xa_51 hx hb hK hP dX4_turnToNextOrder_51 hE (fun v_9 hE => ?_)
    refine lv_aload_n hx hb dX4_turnToNextOrder_52 rfl (lv_at hl 0 rfl) ?_
    refine xg_0_7 hx hb hown hwX4 (hts _ u_31) hK hP dX4_turnToNextOrder_53 ?_
    refine lv_iload_n hx hb dX4_turnToNextOrder_56 rfl (lv_at hl 2 rfl) ?_
    refine xa_51 hx hb hK hP dX4_turnToNextOrder_57 hE (fun v_10 hE => ?_)
    refine z_icmp_ge (tgt := 67) hx hb dX4_turnToNextOrder_58 (by decide) hE (fun hE => ?_) (fun hE => ?_)
    · exact hke x1 x2 x3 σ _ _ _ (lv_sub hl [0, 1, 2, 3] rfl) hP hS hE
    refine z_iinc hx hb (v := (x3 + (-1))) (k := 3) (fun x3_11 => [(3, .int x3_11), (0, .ref (ea E 0)), (1, .int x1), (2, .int x2)]) dX4_turnToNextOrder_61 hl rfl (by rfl) (by decide) rfl hE (fun x3_11 ls hl hE => ?_)
    refine lv_goto (tgt := 41) hx hb dX4_turnToNextOrder_64 (by decide) ?_
    exact ih x1 x2 x3_11 σ _ _ _ (lv_sub hl [1, 2, 3, 0] rfl) hP hS hE
def fX4_turnToNextOrder_L83 (ke : ST → Option (Int32 × ST)) : Nat → Int32 → Int32 → ST → Option (Int32 × ST)
  | 0, _, _, _ => none
  | n + 1, x4, x5, σ => (if x5 ≤ x4 then ke  σ else calv (fX4_swapInOrder x4 x5 σ) (fun σ_19 => bnd (x4 + 1) (fun x4_20 => bnd (x5 + (-1)) (fun x5_21 => fX4_turnToNextOrder_L83 ke n x4_20 x5_21 σ_19))))
set_option maxHeartbeats 4000000 in
set_option maxRecDepth 100000 in
theorem wX4_turnToNextOrder_L83 {p : Program} {l : Launch} {e : Env} {s : State} {m : MethodId} {args : Array Value} {below : List Frame} {meth : Method} {c : Code} {E : EN} (C : zC E xW p s m args meth c cX4_turnToNextOrder 6 RX4 (some .boolean) wsL_law) {F : Int32 × ST} {ke : ST → Option (Int32 × ST)} (hke : ∀  (σ : ST) (H : Heap) (locs : List Loc) (ls : Array Slot), lv_has ls 6 [] → va_P (eD E) vwCl (xW E σ) H → va_S (eA E) s.heap H locs → ke  σ = some F → zWi E xW p l e r_X4_turnToNextOrder s m args below meth c F H locs (F0 m 107 ls [])) : ∀ (n : Nat) (x4 : Int32) (x5 : Int32) (σ : ST) (H : Heap) (locs : List Loc) (ls : Array Slot), lv_has ls 6 [(0, .ref (ea E 0)), (4, .int x4), (5, .int x5)] → va_P (eD E) vwCl (xW E σ) H → va_S (eA E) s.heap H locs → fX4_turnToNextOrder_L83 ke n x4 x5 σ = some F → zWi E xW p l e r_X4_turnToNextOrder s m args below meth c F H locs (F0 m 83 ls []) := by
  obtain ⟨hx, hb, hml, hown, hts, hr, hlk, hK, hD⟩ := id C
  intro n
  induction n with
  | zero => intro x4 x5 σ H locs ls hl hP hS hE; rw [fX4_turnToNextOrder_L83] at hE; cases hE
  | succ n ih =>
    intro x4 x5 σ H locs ls hl hP hS hE
    rw [fX4_turnToNextOrder_L83] at hE
    refine lv_iload hx hb dX4_turnToNextOrder_83 (lv_at hl 1 rfl) ?_
    refine lv_iload hx hb dX4_turnToNextOrder_85 (lv_at hl 2 rfl) ?_
    refine z_icmp_ge (tgt := 107) hx hb dX4_turnToNextOrder_87 (by decide) hE (fun hE => ?_) (fun hE => ?_)
    · exact hke  σ _ _ _ (lv_sub hl [] rfl) hP hS hE
    refine lv_aload_n hx hb dX4_turnToNextOrder_90 rfl (lv_at hl 0 rfl) ?_
    refine lv_iload hx hb dX4_turnToNextOrder_91 (lv_at hl 1 rfl) ?_
    refine lv_iload hx hb dX4_turnToNextOrder_93 (lv_at hl 2 rfl) ?_
    refine z_gov (wf := xW) hS hE (fun F1 h1 => (va_runV (As := [.int x4, .int x5]) (rest := []) ⟨hx, hb, hml, hown, hts⟩ (kX4_swapInOrder l E hD x4 x5 σ F1 h1) (cwV 2 hts (gU_V u_706 u_707 u_708 u_2 u_709) rfl rfl rfl q_X4_swapInOrder ⟨Nat.le_of_ble_eq_true rfl, Nat.le_of_ble_eq_true rfl⟩) (z_preV hK hP hS (ci := 4) (q0 := 0) rfl rfl rfl) rfl rfl hl.1 rfl (lv_room (Nat.le_of_ble_eq_true rfl)) dX4_turnToNextOrder_95 ⟨Nat.le_of_ble_eq_true rfl, Nat.le_of_ble_eq_true rfl⟩)) (fun σ_19 H locs hP hS hE => ?_)
    refine z_iinc hx hb (v := (x4 + 1)) (k := 1) (fun x4_20 => [(4, .int x4_20), (0, .ref (ea E 0)), (5, .int x5)]) dX4_turnToNextOrder_98 hl rfl (by rfl) (by decide) rfl hE (fun x4_20 ls hl hE => ?_)
    refine z_iinc hx hb (v := (x5 + (-1))) (k := 2) (fun x5_21 => [(5, .int x5_21), (4, .int x4_20), (0, .ref (ea E 0))]) dX4_turnToNextOrder_101 hl rfl (by rfl) (by decide) rfl hE (fun x5_21 ls hl hE => ?_)
    refine lv_goto (tgt := 83) hx hb dX4_turnToNextOrder_104 (by decide) ?_
    exact ih x4_20 x5_21 σ_19 _ _ _ (lv_sub hl [2, 1, 0] rfl) hP hS hE
def fX4_turnToNextOrder_J67  (x1 : Int32) (x2 : Int32) (x3 : Int32) (σ : ST) : Option (Int32 × ST) :=
  calv (fX4_swapInOrder x2 x3 σ) (fun σ_16 => bnd ((x2 + 1) : Int32) (fun x4_17 => bnd ((x1 - 1) : Int32) (fun x5_18 => fX4_turnToNextOrder_L83 (fun σ_22 => some (1, σ_22)) FU x4_17 x5_18 σ_16)))
set_option maxHeartbeats 4000000 in
set_option maxRecDepth 100000 in
theorem wX4_turnToNextOrder_J67 {p : Program} {l : Launch} {e : Env} {s : State} {m : MethodId} {args : Array Value} {below : List Frame} {meth : Method} {c : Code} {E : EN} (C : zC E xW p s m args meth c cX4_turnToNextOrder 6 RX4 (some .boolean) wsL_law) {F : Int32 × ST}   (x1 : Int32) (x2 : Int32) (x3 : Int32) (σ : ST) (H : Heap) (locs : List Loc) (ls : Array Slot) (hl : lv_has ls 6 [(0, .ref (ea E 0)), (1, .int x1), (2, .int x2), (3, .int x3)]) (hP : va_P (eD E) vwCl (xW E σ) H) (hS : va_S (eA E) s.heap H locs) (hE : fX4_turnToNextOrder_J67  x1 x2 x3 σ = some F) : zWi E xW p l e r_X4_turnToNextOrder s m args below meth c F H locs (F0 m 67 ls []) := by
  obtain ⟨hx, hb, hml, hown, hts, hr, hlk, hK, hD⟩ := id C
  unfold fX4_turnToNextOrder_J67 at hE
  refine lv_aload_n hx hb dX4_turnToNextOrder_67 rfl (lv_at hl 0 rfl) ?_
  refine lv_iload_n hx hb dX4_turnToNextOrder_68 rfl (lv_at hl 2 rfl) ?_
  refine lv_iload_n hx hb dX4_turnToNextOrder_69 rfl (lv_at hl 3 rfl) ?_
  refine z_gov (wf := xW) hS hE (fun F1 h1 => (va_runV (As := [.int x2, .int x3]) (rest := []) ⟨hx, hb, hml, hown, hts⟩ (kX4_swapInOrder l E hD x2 x3 σ F1 h1) (cwV 2 hts (gU_V u_706 u_707 u_708 u_2 u_709) rfl rfl rfl q_X4_swapInOrder ⟨Nat.le_of_ble_eq_true rfl, Nat.le_of_ble_eq_true rfl⟩) (z_preV hK hP hS (ci := 4) (q0 := 0) rfl rfl rfl) rfl rfl hl.1 rfl (lv_room (Nat.le_of_ble_eq_true rfl)) dX4_turnToNextOrder_70 ⟨Nat.le_of_ble_eq_true rfl, Nat.le_of_ble_eq_true rfl⟩)) (fun σ_16 H locs hP hS hE => ?_)
  refine lv_iload_n hx hb dX4_turnToNextOrder_73 rfl (lv_at hl 2 rfl) ?_
  refine lv_iconst (v := 1) hx hb dX4_turnToNextOrder_74 (by decide) ?_
  refine lv_iadd hx hb dX4_turnToNextOrder_75 ?_
  refine z_istore hx hb (fun x4_17 => [(4, .int x4_17), (0, .ref (ea E 0)), (1, .int x1), (2, .int x2), (3, .int x3)]) dX4_turnToNextOrder_76 hl (by decide) rfl hE (fun x4_17 ls hl hE => ?_)
  refine lv_iload_n hx hb dX4_turnToNextOrder_78 rfl (lv_at hl 2 rfl) ?_
  refine lv_iconst (v := 1) hx hb dX4_turnToNextOrder_79 (by decide) ?_
  refine lv_isub hx hb dX4_turnToNextOrder_80 ?_
  refine z_istore hx hb (fun x5_18 => [(5, .int x5_18), (4, .int x4_17), (0, .ref (ea E 0)), (1, .int x1), (2, .int x2), (3, .int x3)]) dX4_turnToNextOrder_81 hl (by decide) rfl hE (fun x5_18 ls hl hE => ?_)
  refine wX4_turnToNextOrder_L83 C ?_ FU x4_17 x5_18 σ_16 _ _ _ (lv_sub hl [2, 1, 0] rfl) hP hS hE
  intro σ_22 H locs ls hl hP hS hE
  refine lv_iconst (v := 1) hx hb dX4_turnToNextOrder_107 (by decide) ?_
  exact z_zret hx hb hr hlk rfl hP hS dX4_turnToNextOrder_108 hE
def fX4_turnToNextOrder_J31  (x1 : Int32) (x2 : Int32) (σ : ST) : Option (Int32 × ST) :=
  (if 0 ≤ x2 then bnd ((x1 - 1) : Int32) (fun x3_8 => fX4_turnToNextOrder_L41 (fun x1_12 x2_13 x3_14 σ_15 => fX4_turnToNextOrder_J67  x1_12 x2_13 x3_14 σ_15) FU x1 x2 x3_8 σ) else some (0, σ))
set_option maxHeartbeats 4000000 in
set_option maxRecDepth 100000 in
theorem wX4_turnToNextOrder_J31 {p : Program} {l : Launch} {e : Env} {s : State} {m : MethodId} {args : Array Value} {below : List Frame} {meth : Method} {c : Code} {E : EN} (C : zC E xW p s m args meth c cX4_turnToNextOrder 6 RX4 (some .boolean) wsL_law) {F : Int32 × ST}   (x1 : Int32) (x2 : Int32) (σ : ST) (H : Heap) (locs : List Loc) (ls : Array Slot) (hl : lv_has ls 6 [(0, .ref (ea E 0)), (1, .int x1), (2, .int x2)]) (hP : va_P (eD E) vwCl (xW E σ) H) (hS : va_S (eA E) s.heap H locs) (hE : fX4_turnToNextOrder_J31  x1 x2 σ = some F) : zWi E xW p l e r_X4_turnToNextOrder s m args below meth c F H locs (F0 m 31 ls []) := by
  obtain ⟨hx, hb, hml, hown, hts, hr, hlk, hK, hD⟩ := id C
  unfold fX4_turnToNextOrder_J31 at hE
  refine lv_iload_n hx hb dX4_turnToNextOrder_31 rfl (lv_at hl 2 rfl) ?_
  refine z_if_ge (tgt := 37) hx hb dX4_turnToNextOrder_32 (by decide) hE (fun hE => ?_) (fun hE => ?_)
  · refine lv_iload_n hx hb dX4_turnToNextOrder_37 rfl (lv_at hl 1 rfl) ?_
    refine lv_iconst (v := 1) hx hb dX4_turnToNextOrder_38 (by decide) ?_
    refine lv_isub hx hb dX4_turnToNextOrder_39 ?_
    refine z_istore_n hx hb (fun x3_8 => [(3, .int x3_8), (0, .ref (ea E 0)), (1, .int x1), (2, .int x2)]) dX4_turnToNextOrder_40 rfl hl (by decide) rfl hE (fun x3_8 ls hl hE => ?_)
    refine wX4_turnToNextOrder_L41 C ?_ FU x1 x2 x3_8 σ _ _ _ (lv_sub hl [1, 2, 3, 0] rfl) hP hS hE
    intro x1_12 x2_13 x3_14 σ_15 H locs ls hl hP hS hE
    exact wX4_turnToNextOrder_J67 C  x1_12 x2_13 x3_14 σ_15 _ _ _ (lv_sub hl [0, 1, 2, 3] rfl) hP hS hE
  refine lv_iconst (v := 0) hx hb dX4_turnToNextOrder_35 (by decide) ?_
  exact z_zret hx hb hr hlk rfl hP hS dX4_turnToNextOrder_36 hE
def fX4_turnToNextOrder  (x1 : Int32) (σ : ST) : Option (Int32 × ST) :=
  bnd ((x1 - 2) : Int32) (fun x2_1 => fX4_turnToNextOrder_L4 (fun x1_5 x2_6 σ_7 => fX4_turnToNextOrder_J31  x1_5 x2_6 σ_7) FU x1 x2_1 σ)
set_option maxHeartbeats 4000000 in
set_option maxRecDepth 100000 in
theorem wX4_turnToNextOrder {p : Program} {l : Launch} {e : Env} {s : State} {m : MethodId} {args : Array Value} {below : List Frame} {meth : Method} {c : Code} {E : EN} (C : zC E xW p s m args meth c cX4_turnToNextOrder 6 RX4 (some .boolean) wsL_law) {F : Int32 × ST}   (x1 : Int32) (σ : ST) (H : Heap) (locs : List Loc) (ls : Array Slot) (hl : lv_has ls 6 [(0, .ref (ea E 0)), (1, .int x1)]) (hP : va_P (eD E) vwCl (xW E σ) H) (hS : va_S (eA E) s.heap H locs) (hE : fX4_turnToNextOrder  x1 σ = some F) : zWi E xW p l e r_X4_turnToNextOrder s m args below meth c F H locs (F0 m 0 ls []) := by
  obtain ⟨hx, hb, hml, hown, hts, hr, hlk, hK, hD⟩ := id C
  unfold fX4_turnToNextOrder at hE
  refine lv_iload_n hx hb dX4_turnToNextOrder_0 rfl (lv_at hl 1 rfl) ?_
  refine lv_iconst (v := 2) hx hb dX4_turnToNextOrder_1 (by decide) ?_
  refine lv_isub hx hb dX4_turnToNextOrder_2 ?_
  refine z_istore_n hx hb (fun x2_1 => [(2, .int x2_1), (0, .ref (ea E 0)), (1, .int x1)]) dX4_turnToNextOrder_3 rfl hl (by decide) rfl hE (fun x2_1 ls hl hE => ?_)
  refine wX4_turnToNextOrder_L4 C ?_ FU x1 x2_1 σ _ _ _ (lv_sub hl [1, 2, 0] rfl) hP hS hE
  intro x1_5 x2_6 σ_7 H locs ls hl hP hS hE
  exact wX4_turnToNextOrder_J31 C  x1_5 x2_6 σ_7 _ _ _ (lv_sub hl [0, 1, 2] rfl) hP hS hE
theorem kX4_turnToNextOrder (l : Launch) (E : EN) (hD : ∀ σ, va_D (eA E) (xW E σ)) (x1 : Int32) (σ : ST) (F : Int32 × ST) (hE : fX4_turnToNextOrder x1 σ = some F) : Met l yX4_turnToNextOrder wu_X4_turnToNextOrder r_X4_turnToNextOrder (zPc E xW [.ref (ea E 0), .int x1] σ) (zQi E xW F) 0 0 (eA E) := by
  refine Met.ofW (cc := cX4_turnToNextOrder) (maxL := 6) (ret := (some .boolean)) (by decide) rfl ?_
  intro p e s m args below meth c s₁ B hml hv
  obtain ⟨rfl, hP, hK⟩ := hv
  have hl := lv_entry ([.ref (ea E 0), .int x1]) (n := 6) (Nat.le_of_ble_eq_true rfl)
  rw [lg_entry_eq]
  generalize (lg_sl ([.ref (ea E 0), .int x1]) ++ List.replicate (6 - (lg_sl ([.ref (ea E 0), .int x1])).length) Slot.unset).toArray = ls at hl ⊢
  exact wX4_turnToNextOrder ⟨B.exec, B.bytes, hml, findClass_of_methodNamed B.named, fun w h => atoms_spec (ws := wu_X4_turnToNextOrder) B.pre w (List.mem_cons_of_mem _ h), B.returns, B.notSynchronized, hK, hD⟩ x1 σ s.heap [] ls hl hP va_S.rf hE
def fX3_goBy_52_L43 (ke : ST → Option (ST)) : Nat → Int32 → Int32 → ST → Option (ST)
  | 0, _, _, _ => none
  | n + 1, x2, x3, σ => (if x2 ≤ x3 then ke  σ else (if 5 ≤ x3 then ke  σ else ald (gA σ 45) 5 x3 (fun v_10 => calv (fX3_visit v_10 σ) (fun σ_11 => bnd (x3 + 1) (fun x3_12 => fX3_goBy_52_L43 ke n x2 x3_12 σ_11)))))
set_option maxHeartbeats 4000000 in
set_option maxRecDepth 100000 in
theorem wX3_goBy_52_L43 {p : Program} {l : Launch} {e : Env} {s : State} {m : MethodId} {args : Array Value} {below : List Frame} {meth : Method} {c : Code} {E : EN} (C : zC E xW p s m args meth c cX3_goBy 4 RX3 none wsL_law) {F : ST} {ke : ST → Option (ST)} (hke : ∀  (σ : ST) (H : Heap) (locs : List Loc) (ls : Array Slot), lv_has ls 4 [(0, .ref (ea E 1))] → va_P (eD E) vwCl (xW E σ) H → va_S (eA E) s.heap H locs → ke  σ = some F → zWv E xW p l e r_X3_goBy s m args below meth c F H locs (F0 m 67 ls [])) : ∀ (n : Nat) (x2 : Int32) (x3 : Int32) (σ : ST) (H : Heap) (locs : List Loc) (ls : Array Slot), lv_has ls 4 [(0, .ref (ea E 1)), (1, .ref (ea E 52)), (2, .int x2), (3, .int x3)] → va_P (eD E) vwCl (xW E σ) H → va_S (eA E) s.heap H locs → fX3_goBy_52_L43 ke n x2 x3 σ = some F → zWv E xW p l e r_X3_goBy s m args below meth c F H locs (F0 m 43 ls []) := by
  obtain ⟨hx, hb, hml, hown, hts, hr, hlk, hK, hD⟩ := id C
  intro n
  induction n with
  | zero => intro x2 x3 σ H locs ls hl hP hS hE; rw [fX3_goBy_52_L43] at hE; cases hE
  | succ n ih =>
    intro x2 x3 σ H locs ls hl hP hS hE
    rw [fX3_goBy_52_L43] at hE
    refine lv_iload_n hx hb dX3_goBy_43 rfl (lv_at hl 3 rfl) ?_
    refine lv_iload_n hx hb dX3_goBy_44 rfl (lv_at hl 2 rfl) ?_
    refine z_icmp_ge (tgt := 67) hx hb dX3_goBy_45 (by decide) hE (fun hE => ?_) (fun hE => ?_)
    · exact hke  σ _ _ _ (lv_sub hl [0] rfl) hP hS hE
    refine lv_iload_n hx hb dX3_goBy_48 rfl (lv_at hl 3 rfl) ?_
    refine lv_aload_n hx hb dX3_goBy_49 rfl (lv_at hl 1 rfl) ?_
    refine xn_52 hx hb hK hP dX3_goBy_50 ?_
    refine z_icmp_ge (tgt := 67) hx hb dX3_goBy_51 (by decide) hE (fun hE => ?_) (fun hE => ?_)
    · exact hke  σ _ _ _ (lv_sub hl [0] rfl) hP hS hE
    refine lv_aload_n hx hb dX3_goBy_54 rfl (lv_at hl 0 rfl) ?_
    refine lv_aload_n hx hb dX3_goBy_55 rfl (lv_at hl 1 rfl) ?_
    refine lv_iload_n hx hb dX3_goBy_56 rfl (lv_at hl 3 rfl) ?_
    refine xa_52 hx hb hK hP dX3_goBy_57 hE (fun v_10 hE => ?_)
    refine z_gov (wf := xW) hS hE (fun F1 h1 => (va_runV (As := [.int v_10]) (rest := []) ⟨hx, hb, hml, hown, hts⟩ (kX3_visit l E hD v_10 σ F1 h1) (cwV 1 hts (gU_V u_557 u_558 u_559 u_14 u_560) rfl rfl rfl q_X3_visit ⟨Nat.le_of_ble_eq_true rfl, Nat.le_of_ble_eq_true rfl⟩) (z_preV hK hP hS (ci := 3) (q0 := 1) rfl rfl rfl) rfl rfl hl.1 rfl (lv_room (Nat.le_of_ble_eq_true rfl)) dX3_goBy_58 ⟨Nat.le_of_ble_eq_true rfl, Nat.le_of_ble_eq_true rfl⟩)) (fun σ_11 H locs hP hS hE => ?_)
    refine z_iinc hx hb (v := (x3 + 1)) (k := 3) (fun x3_12 => [(3, .int x3_12), (0, .ref (ea E 1)), (1, .ref (ea E 52)), (2, .int x2)]) dX3_goBy_61 hl rfl (by rfl) (by decide) rfl hE (fun x3_12 ls hl hE => ?_)
    refine lv_goto (tgt := 43) hx hb dX3_goBy_64 (by decide) ?_
    exact ih x2 x3_12 σ_11 _ _ _ (lv_sub hl [1, 2, 3, 0] rfl) hP hS hE
def fX3_goBy_52  (x2 : Int32) (σ : ST) : Option (ST) :=
  bnd (sI σ 21 0) (fun σ_1 => bnd (sI σ_1 22 0) (fun σ_2 => bnd (sI σ_2 25 0) (fun σ_3 => bnd (sI σ_3 26 0) (fun σ_4 => bnd (sI σ_4 27 0) (fun σ_5 => bnd (sL σ_5 0 1000000000000) (fun σ_6 => bnd (sL σ_6 1 0) (fun σ_7 => calv (fX3_startHere σ_7) (fun σ_8 => bnd (0 : Int32) (fun x3_9 => fX3_goBy_52_L43 (fun σ_13 => calv (fX3_driveTo 0 σ_13) (fun σ_14 => some σ_14)) FU x2 x3_9 σ_8)))))))))
set_option maxHeartbeats 4000000 in
set_option maxRecDepth 100000 in
theorem wX3_goBy_52 {p : Program} {l : Launch} {e : Env} {s : State} {m : MethodId} {args : Array Value} {below : List Frame} {meth : Method} {c : Code} {E : EN} (C : zC E xW p s m args meth c cX3_goBy 4 RX3 none wsL_law) {F : ST}   (x2 : Int32) (σ : ST) (H : Heap) (locs : List Loc) (ls : Array Slot) (hl : lv_has ls 4 [(0, .ref (ea E 1)), (1, .ref (ea E 52)), (2, .int x2)]) (hP : va_P (eD E) vwCl (xW E σ) H) (hS : va_S (eA E) s.heap H locs) (hE : fX3_goBy_52  x2 σ = some F) : zWv E xW p l e r_X3_goBy s m args below meth c F H locs (F0 m 0 ls []) := by
  obtain ⟨hx, hb, hml, hown, hts, hr, hlk, hK, hD⟩ := id C
  have hwX3 : ∀ w ∈ wsX30, w.before args s = true := fun w h => hts w (inlX3 w h)
  unfold fX3_goBy_52 at hE
  refine lv_aload_n hx hb dX3_goBy_0 rfl (lv_at hl 0 rfl) ?_
  refine lv_iconst (v := 0) hx hb dX3_goBy_1 (by decide) ?_
  refine xp_1_6 hx hb hown hwX3 (hts _ u_50) hK hD hP hS dX3_goBy_2 hE (fun σ_1 H locs hP hS hE => ?_)
  refine lv_aload_n hx hb dX3_goBy_5 rfl (lv_at hl 0 rfl) ?_
  refine lv_iconst (v := 0) hx hb dX3_goBy_6 (by decide) ?_
  refine xp_1_7 hx hb hown hwX3 (hts _ u_51) hK hD hP hS dX3_goBy_7 hE (fun σ_2 H locs hP hS hE => ?_)
  refine lv_aload_n hx hb dX3_goBy_10 rfl (lv_at hl 0 rfl) ?_
  refine lv_iconst (v := 0) hx hb dX3_goBy_11 (by decide) ?_
  refine xp_1_10 hx hb hown hwX3 (hts _ u_54) hK hD hP hS dX3_goBy_12 hE (fun σ_3 H locs hP hS hE => ?_)
  refine lv_aload_n hx hb dX3_goBy_15 rfl (lv_at hl 0 rfl) ?_
  refine lv_iconst (v := 0) hx hb dX3_goBy_16 (by decide) ?_
  refine xp_1_11 hx hb hown hwX3 (hts _ u_55) hK hD hP hS dX3_goBy_17 hE (fun σ_4 H locs hP hS hE => ?_)
  refine lv_aload_n hx hb dX3_goBy_20 rfl (lv_at hl 0 rfl) ?_
  refine lv_iconst (v := 0) hx hb dX3_goBy_21 (by decide) ?_
  refine xp_1_12 hx hb hown hwX3 (hts _ u_56) hK hD hP hS dX3_goBy_22 hE (fun σ_5 H locs hP hS hE => ?_)
  refine lv_aload_n hx hb dX3_goBy_25 rfl (lv_at hl 0 rfl) ?_
  refine lv_ldc2 (v := 1000000000000) hx hb hown (hts _ u_547) dX3_goBy_26 ?_
  refine xp_1_13 hx hb hown hwX3 (hts _ u_57) hK hD hP hS dX3_goBy_29 hE (fun σ_6 H locs hP hS hE => ?_)
  refine lv_aload_n hx hb dX3_goBy_32 rfl (lv_at hl 0 rfl) ?_
  refine lv_lconst (v := 0) hx hb dX3_goBy_33 (by decide) ?_
  refine xp_1_14 hx hb hown hwX3 (hts _ u_58) hK hD hP hS dX3_goBy_34 hE (fun σ_7 H locs hP hS hE => ?_)
  refine lv_aload_n hx hb dX3_goBy_37 rfl (lv_at hl 0 rfl) ?_
  refine z_gov (wf := xW) hS hE (fun F1 h1 => (va_runV (As := []) (rest := []) ⟨hx, hb, hml, hown, hts⟩ (kX3_startHere l E hD  σ_7 F1 h1) (cwV 0 hts (gU_V u_548 u_549 u_550 u_14 u_551) rfl rfl rfl q_X3_startHere ⟨Nat.le_of_ble_eq_true rfl, Nat.le_of_ble_eq_true rfl⟩) (z_preV hK hP hS (ci := 3) (q0 := 1) rfl rfl rfl) rfl rfl hl.1 rfl (lv_room (Nat.le_of_ble_eq_true rfl)) dX3_goBy_38 ⟨Nat.le_of_ble_eq_true rfl, Nat.le_of_ble_eq_true rfl⟩)) (fun σ_8 H locs hP hS hE => ?_)
  refine lv_iconst (v := 0) hx hb dX3_goBy_41 (by decide) ?_
  refine z_istore_n hx hb (fun x3_9 => [(3, .int x3_9), (0, .ref (ea E 1)), (1, .ref (ea E 52)), (2, .int x2)]) dX3_goBy_42 rfl hl (by decide) rfl hE (fun x3_9 ls hl hE => ?_)
  refine wX3_goBy_52_L43 C ?_ FU x2 x3_9 σ_8 _ _ _ (lv_sub hl [1, 2, 3, 0] rfl) hP hS hE
  intro σ_13 H locs ls hl hP hS hE
  refine lv_aload_n hx hb dX3_goBy_67 rfl (lv_at hl 0 rfl) ?_
  refine lv_iconst (v := 0) hx hb dX3_goBy_68 (by decide) ?_
  refine z_gov (wf := xW) hS hE (fun F1 h1 => (va_runV (As := [.int 0]) (rest := []) ⟨hx, hb, hml, hown, hts⟩ (kX3_driveTo l E hD 0 σ_13 F1 h1) (cwV 1 hts (gU_V u_572 u_573 u_574 u_14 u_575) rfl rfl rfl q_X3_driveTo ⟨Nat.le_of_ble_eq_true rfl, Nat.le_of_ble_eq_true rfl⟩) (z_preV hK hP hS (ci := 3) (q0 := 1) rfl rfl rfl) rfl rfl hl.1 rfl (lv_room (Nat.le_of_ble_eq_true rfl)) dX3_goBy_69 ⟨Nat.le_of_ble_eq_true rfl, Nat.le_of_ble_eq_true rfl⟩)) (fun σ_14 H locs hP hS hE => ?_)
  exact z_vret hx hb hr hlk hP hS dX3_goBy_72 hE
theorem kX3_goBy_52 (l : Launch) (E : EN) (hD : ∀ σ, va_D (eA E) (xW E σ)) (x2 : Int32) (σ : ST) (F : ST) (hE : fX3_goBy_52 x2 σ = some F) : Met l yX3_goBy wu_X3_goBy r_X3_goBy (zPc E xW [.ref (ea E 1), .ref (ea E 52), .int x2] σ) (zQv E xW F) 0 0 (eA E) := by
  refine Met.ofW (cc := cX3_goBy) (maxL := 4) (ret := none) (by decide) rfl ?_
  intro p e s m args below meth c s₁ B hml hv
  obtain ⟨rfl, hP, hK⟩ := hv
  have hl := lv_entry ([.ref (ea E 1), .ref (ea E 52), .int x2]) (n := 4) (Nat.le_of_ble_eq_true rfl)
  rw [lg_entry_eq]
  generalize (lg_sl ([.ref (ea E 1), .ref (ea E 52), .int x2]) ++ List.replicate (4 - (lg_sl ([.ref (ea E 1), .ref (ea E 52), .int x2])).length) Slot.unset).toArray = ls at hl ⊢
  exact wX3_goBy_52 ⟨B.exec, B.bytes, hml, findClass_of_methodNamed B.named, fun w h => atoms_spec (ws := wu_X3_goBy) B.pre w (List.mem_cons_of_mem _ h), B.returns, B.notSynchronized, hK, hD⟩ x2 σ s.heap [] ls hl hP va_S.rf hE
def fX4_goByBest_L10 (ke : Int32 → Int32 → ST → Option (ST)) : Nat → Int32 → Int32 → Int32 → ST → Option (ST)
  | 0, _, _, _, _ => none
  | n + 1, x1, x2, x3, σ => (if x2 ≤ x3 then ke x1 x2 σ else ast σ 44 5 x3 x3 (fun σ_3 => bnd (x3 + 1) (fun x3_4 => fX4_goByBest_L10 ke n x1 x2 x3_4 σ_3)))
set_option maxHeartbeats 4000000 in
set_option maxRecDepth 100000 in
theorem wX4_goByBest_L10 {p : Program} {l : Launch} {e : Env} {s : State} {m : MethodId} {args : Array Value} {below : List Frame} {meth : Method} {c : Code} {E : EN} (C : zC E xW p s m args meth c cX4_goByBest 9 RX4 none wsL_law) {F : ST} {ke : Int32 → Int32 → ST → Option (ST)} (hke : ∀ (x1 : Int32) (x2 : Int32) (σ : ST) (H : Heap) (locs : List Loc) (ls : Array Slot), lv_has ls 9 [(0, .ref (ea E 0)), (1, .int x1), (2, .int x2)] → va_P (eD E) vwCl (xW E σ) H → va_S (eA E) s.heap H locs → ke x1 x2 σ = some F → zWv E xW p l e r_X4_goByBest s m args below meth c F H locs (F0 m 28 ls [])) : ∀ (n : Nat) (x1 : Int32) (x2 : Int32) (x3 : Int32) (σ : ST) (H : Heap) (locs : List Loc) (ls : Array Slot), lv_has ls 9 [(0, .ref (ea E 0)), (1, .int x1), (2, .int x2), (3, .int x3)] → va_P (eD E) vwCl (xW E σ) H → va_S (eA E) s.heap H locs → fX4_goByBest_L10 ke n x1 x2 x3 σ = some F → zWv E xW p l e r_X4_goByBest s m args below meth c F H locs (F0 m 10 ls []) := by
  obtain ⟨hx, hb, hml, hown, hts, hr, hlk, hK, hD⟩ := id C
  have hwX4 : ∀ w ∈ wsX40, w.before args s = true := fun w h => hts w (inlX4 w h)
  intro n
  induction n with
  | zero => intro x1 x2 x3 σ H locs ls hl hP hS hE; rw [fX4_goByBest_L10] at hE; cases hE
  | succ n ih =>
    intro x1 x2 x3 σ H locs ls hl hP hS hE
    rw [fX4_goByBest_L10] at hE
    refine lv_iload_n hx hb dX4_goByBest_10 rfl (lv_at hl 3 rfl) ?_
    refine lv_iload_n hx hb dX4_goByBest_11 rfl (lv_at hl 2 rfl) ?_
    refine z_icmp_ge (tgt := 28) hx hb dX4_goByBest_12 (by decide) hE (fun hE => ?_) (fun hE => ?_)
    · exact hke x1 x2 σ _ _ _ (lv_sub hl [0, 1, 2] rfl) hP hS hE
    refine lv_aload_n hx hb dX4_goByBest_15 rfl (lv_at hl 0 rfl) ?_
    refine xg_0_7 hx hb hown hwX4 (hts _ u_31) hK hP dX4_goByBest_16 ?_
    refine lv_iload_n hx hb dX4_goByBest_19 rfl (lv_at hl 3 rfl) ?_
    refine lv_iload_n hx hb dX4_goByBest_20 rfl (lv_at hl 3 rfl) ?_
    refine xs_51 hx hb hK hD hP hS dX4_goByBest_21 hE (fun σ_3 H locs hP hS hE => ?_)
    refine z_iinc hx hb (v := (x3 + 1)) (k := 3) (fun x3_4 => [(3, .int x3_4), (0, .ref (ea E 0)), (1, .int x1), (2, .int x2)]) dX4_goByBest_22 hl rfl (by rfl) (by decide) rfl hE (fun x3_4 ls hl hE => ?_)
    refine lv_goto (tgt := 10) hx hb dX4_goByBest_25 (by decide) ?_
    exact ih x1 x2 x3_4 σ_3 _ _ _ (lv_sub hl [1, 2, 3, 0] rfl) hP hS hE
def fX4_goByBest_J86 (kb : Int32 → Int32 → Int64 → Int32 → Int32 → ST → Option (ST)) (x1 : Int32) (x2 : Int32) (x6 : Int32) (x7 : Int64) (σ : ST) : Option (ST) :=
  bnd (x7 : Int64) (fun x3_16 => cpy σ 44 5 0 45 5 0 x2 (fun σ_17 => cali (fX4_turnToNextOrder x2 σ_17) (fun r_19 σ_18 => bnd (r_19 : Int32) (fun x5_20 => bnd (x6 + 1) (fun x6_21 => kb x1 x2 x3_16 x5_20 x6_21 σ_18)))))
set_option maxHeartbeats 4000000 in
set_option maxRecDepth 100000 in
theorem wX4_goByBest_J86 {p : Program} {l : Launch} {e : Env} {s : State} {m : MethodId} {args : Array Value} {below : List Frame} {meth : Method} {c : Code} {E : EN} (C : zC E xW p s m args meth c cX4_goByBest 9 RX4 none wsL_law) {F : ST} {kb : Int32 → Int32 → Int64 → Int32 → Int32 → ST → Option (ST)} (hkb : ∀ (x1 : Int32) (x2 : Int32) (x3 : Int64) (x5 : Int32) (x6 : Int32) (σ : ST) (H : Heap) (locs : List Loc) (ls : Array Slot), lv_has ls 9 [(0, .ref (ea E 0)), (1, .int x1), (2, .int x2), (3, .long x3), (5, .int x5), (6, .int x6)] → va_P (eD E) vwCl (xW E σ) H → va_S (eA E) s.heap H locs → kb x1 x2 x3 x5 x6 σ = some F → zWv E xW p l e r_X4_goByBest s m args below meth c F H locs (F0 m 43 ls [])) (x1 : Int32) (x2 : Int32) (x6 : Int32) (x7 : Int64) (σ : ST) (H : Heap) (locs : List Loc) (ls : Array Slot) (hl : lv_has ls 9 [(0, .ref (ea E 0)), (1, .int x1), (2, .int x2), (6, .int x6), (7, .long x7)]) (hP : va_P (eD E) vwCl (xW E σ) H) (hS : va_S (eA E) s.heap H locs) (hE : fX4_goByBest_J86 kb x1 x2 x6 x7 σ = some F) : zWv E xW p l e r_X4_goByBest s m args below meth c F H locs (F0 m 86 ls []) := by
  obtain ⟨hx, hb, hml, hown, hts, hr, hlk, hK, hD⟩ := id C
  have hwX4 : ∀ w ∈ wsX40, w.before args s = true := fun w h => hts w (inlX4 w h)
  unfold fX4_goByBest_J86 at hE
  refine lv_lload hx hb dX4_goByBest_86 (lv_at hl 4 rfl) ?_
  refine z_lstore_n hx hb (fun x3_16 => [(3, .long x3_16), (0, .ref (ea E 0)), (1, .int x1), (2, .int x2), (6, .int x6), (7, .long x7)]) dX4_goByBest_88 rfl hl (by decide) rfl hE (fun x3_16 ls hl hE => ?_)
  refine lv_aload_n hx hb dX4_goByBest_89 rfl (lv_at hl 1 rfl) ?_
  refine xg_0_7 hx hb hown hwX4 (hts _ u_31) hK hP dX4_goByBest_90 ?_
  refine lv_iconst (v := 0) hx hb dX4_goByBest_93 (by decide) ?_
  refine lv_aload_n hx hb dX4_goByBest_94 rfl (lv_at hl 1 rfl) ?_
  refine xg_0_8 hx hb hown hwX4 (hts _ u_32) hK hP dX4_goByBest_95 ?_
  refine lv_iconst (v := 0) hx hb dX4_goByBest_98 (by decide) ?_
  refine lv_iload_n hx hb dX4_goByBest_99 rfl (lv_at hl 3 rfl) ?_
  refine xc_51_52 hx hb (hml.trans hl.1.symm) hown (hts _ u_697) (hts _ u_272) (hts _ u_273) (hts _ u_274) hK hD hP hS (Nat.le_of_ble_eq_true rfl) (Nat.le_of_ble_eq_true rfl) dX4_goByBest_100 hE (fun σ_17 H locs hP hS hE => ?_)
  refine lv_aload_n hx hb dX4_goByBest_103 rfl (lv_at hl 1 rfl) ?_
  refine lv_iload_n hx hb dX4_goByBest_104 rfl (lv_at hl 3 rfl) ?_
  refine z_goi (wf := xW) hS hE (fun F1 h1 => (va_runV (As := [.int x2]) (rest := []) ⟨hx, hb, hml, hown, hts⟩ (kX4_turnToNextOrder l E hD x2 σ_17 F1 h1) (cwV 1 hts (gU_V u_702 u_703 u_704 u_2 u_705) rfl rfl rfl q_X4_turnToNextOrder ⟨Nat.le_of_ble_eq_true rfl, Nat.le_of_ble_eq_true rfl⟩) (z_preV hK hP hS (ci := 4) (q0 := 0) rfl rfl rfl) rfl rfl hl.1 rfl (lv_room (Nat.le_of_ble_eq_true rfl)) dX4_goByBest_105 ⟨Nat.le_of_ble_eq_true rfl, Nat.le_of_ble_eq_true rfl⟩)) (fun r_19 σ_18 H locs hP hS hE => ?_)
  refine z_istore hx hb (fun x5_20 => [(5, .int x5_20), (3, .long x3_16), (0, .ref (ea E 0)), (1, .int x1), (2, .int x2), (6, .int x6), (7, .long x7)]) dX4_goByBest_108 hl (by decide) rfl hE (fun x5_20 ls hl hE => ?_)
  refine z_iinc hx hb (v := (x6 + 1)) (k := 5) (fun x6_21 => [(6, .int x6_21), (5, .int x5_20), (3, .long x3_16), (0, .ref (ea E 0)), (1, .int x1), (2, .int x2), (7, .long x7)]) dX4_goByBest_110 hl rfl (by rfl) (by decide) rfl hE (fun x6_21 ls hl hE => ?_)
  refine lv_goto (tgt := 43) hx hb dX4_goByBest_113 (by decide) ?_
  exact hkb x1 x2 x3_16 x5_20 x6_21 σ_18 _ _ _ (lv_sub hl [3, 4, 5, 2, 1, 0] rfl) hP hS hE
def fX4_goByBest_L43 (ke : Int32 → ST → Option (ST)) : Nat → Int32 → Int32 → Int64 → Int32 → Int32 → ST → Option (ST)
  | 0, _, _, _, _, _, _ => none
  | n + 1, x1, x2, x3, x5, x6, σ => (if 120 ≤ x6 then ke x2 σ else (if x5 = 0 then ke x2 σ else calv (fX3_goBy_51 x2 σ) (fun σ_12 => call (fX4_ratingBy x1 σ_12) (fun r_14 σ_13 => bnd (r_14 : Int64) (fun x7_15 => (if x6 = 0 then fX4_goByBest_J86 (fX4_goByBest_L43 ke n) x1 x2 x6 x7_15 σ_13 else (if (lg_cmp x7_15 x3) ≤ 0 then cali (fX4_turnToNextOrder x2 σ_13) (fun r_23 σ_22 => bnd (r_23 : Int32) (fun x5_24 => bnd (x6 + 1) (fun x6_25 => fX4_goByBest_L43 ke n x1 x2 x3 x5_24 x6_25 σ_22))) else fX4_goByBest_J86 (fX4_goByBest_L43 ke n) x1 x2 x6 x7_15 σ_13)))))))
set_option maxHeartbeats 4000000 in
set_option maxRecDepth 100000 in
theorem wX4_goByBest_L43 {p : Program} {l : Launch} {e : Env} {s : State} {m : MethodId} {args : Array Value} {below : List Frame} {meth : Method} {c : Code} {E : EN} (C : zC E xW p s m args meth c cX4_goByBest 9 RX4 none wsL_law) {F : ST} {ke : Int32 → ST → Option (ST)} (hke : ∀ (x2 : Int32) (σ : ST) (H : Heap) (locs : List Loc) (ls : Array Slot), lv_has ls 9 [(0, .ref (ea E 0)), (2, .int x2)] → va_P (eD E) vwCl (xW E σ) H → va_S (eA E) s.heap H locs → ke x2 σ = some F → zWv E xW p l e r_X4_goByBest s m args below meth c F H locs (F0 m 116 ls [])) : ∀ (n : Nat) (x1 : Int32) (x2 : Int32) (x3 : Int64) (x5 : Int32) (x6 : Int32) (σ : ST) (H : Heap) (locs : List Loc) (ls : Array Slot), lv_has ls 9 [(0, .ref (ea E 0)), (1, .int x1), (2, .int x2), (3, .long x3), (5, .int x5), (6, .int x6)] → va_P (eD E) vwCl (xW E σ) H → va_S (eA E) s.heap H locs → fX4_goByBest_L43 ke n x1 x2 x3 x5 x6 σ = some F → zWv E xW p l e r_X4_goByBest s m args below meth c F H locs (F0 m 43 ls []) := by
  obtain ⟨hx, hb, hml, hown, hts, hr, hlk, hK, hD⟩ := id C
  have hwX4 : ∀ w ∈ wsX40, w.before args s = true := fun w h => hts w (inlX4 w h)
  intro n
  induction n with
  | zero => intro x1 x2 x3 x5 x6 σ H locs ls hl hP hS hE; rw [fX4_goByBest_L43] at hE; cases hE
  | succ n ih =>
    intro x1 x2 x3 x5 x6 σ H locs ls hl hP hS hE
    rw [fX4_goByBest_L43] at hE
    refine lv_iload hx hb dX4_goByBest_43 (lv_at hl 5 rfl) ?_
    refine lv_bipush (v := 120) hx hb dX4_goByBest_45 (by decide) ?_
    refine z_icmp_ge (tgt := 116) hx hb dX4_goByBest_47 (by decide) hE (fun hE => ?_) (fun hE => ?_)
    · exact hke x2 σ _ _ _ (lv_sub hl [0, 2] rfl) hP hS hE
    refine lv_iload hx hb dX4_goByBest_50 (lv_at hl 4 rfl) ?_
    refine z_if_eq (tgt := 116) hx hb dX4_goByBest_52 (by decide) hE (fun hE => ?_) (fun hE => ?_)
    · exact hke x2 σ _ _ _ (lv_sub hl [0, 2] rfl) hP hS hE
    refine lv_aload_n hx hb dX4_goByBest_55 rfl (lv_at hl 0 rfl) ?_
    refine xg_0_0 hx hb hown hwX4 (hts _ u_15) hK hP dX4_goByBest_56 ?_
    refine lv_aload_n hx hb dX4_goByBest_59 rfl (lv_at hl 0 rfl) ?_
    refine xg_0_7 hx hb hown hwX4 (hts _ u_31) hK hP dX4_goByBest_60 ?_
    refine lv_iload_n hx hb dX4_goByBest_63 rfl (lv_at hl 2 rfl) ?_
    refine z_gov (wf := xW) hS hE (fun F1 h1 => (va_runV (As := [.ref (ea E 51), .int x2]) (rest := []) ⟨hx, hb, hml, hown, hts⟩ (kX3_goBy_51 l E hD x2 σ F1 h1) (cwV 2 hts (gU_V u_543 u_544 u_545 u_14 u_546) rfl rfl rfl q_X3_goBy ⟨Nat.le_of_ble_eq_true rfl, Nat.le_of_ble_eq_true rfl⟩) (z_preV hK hP hS (ci := 3) (q0 := 1) rfl rfl rfl) rfl rfl hl.1 rfl (lv_room (Nat.le_of_ble_eq_true rfl)) dX4_goByBest_64 ⟨Nat.le_of_ble_eq_true rfl, Nat.le_of_ble_eq_true rfl⟩)) (fun σ_12 H locs hP hS hE => ?_)
    refine lv_aload_n hx hb dX4_goByBest_67 rfl (lv_at hl 0 rfl) ?_
    refine lv_iload_n hx hb dX4_goByBest_68 rfl (lv_at hl 1 rfl) ?_
    refine z_gol (wf := xW) hS hE (fun F1 h1 => (va_runV (As := [.int x1]) (rest := []) ⟨hx, hb, hml, hown, hts⟩ (kX4_ratingBy l E hD x1 σ_12 F1 h1) (cwV 1 hts (gU_V u_698 u_699 u_700 u_2 u_701) rfl rfl rfl q_X4_ratingBy ⟨Nat.le_of_ble_eq_true rfl, Nat.le_of_ble_eq_true rfl⟩) (z_preV hK hP hS (ci := 4) (q0 := 0) rfl rfl rfl) rfl rfl hl.1 rfl (lv_room (Nat.le_of_ble_eq_true rfl)) dX4_goByBest_69 ⟨Nat.le_of_ble_eq_true rfl, Nat.le_of_ble_eq_true rfl⟩)) (fun r_14 σ_13 H locs hP hS hE => ?_)
    refine z_lstore hx hb (fun x7_15 => [(7, .long x7_15), (0, .ref (ea E 0)), (1, .int x1), (2, .int x2), (3, .long x3), (5, .int x5), (6, .int x6)]) dX4_goByBest_72 hl (by decide) rfl hE (fun x7_15 ls hl hE => ?_)
    refine lv_iload hx hb dX4_goByBest_74 (lv_at hl 6 rfl) ?_
    refine z_if_eq (tgt := 86) hx hb dX4_goByBest_76 (by decide) hE (fun hE => ?_) (fun hE => ?_)
    · exact wX4_goByBest_J86 C ih x1 x2 x6 x7_15 σ_13 _ _ _ (lv_sub hl [1, 2, 3, 6, 0] rfl) hP hS hE
    refine lv_lload hx hb dX4_goByBest_79 (lv_at hl 0 rfl) ?_
    refine lv_lload_n hx hb dX4_goByBest_81 rfl (lv_at hl 4 rfl) ?_
    refine W.lcmp hx hb dX4_goByBest_82 ?_
    refine z_if_le (tgt := 103) hx hb dX4_goByBest_83 (by decide) hE (fun hE => ?_) (fun hE => ?_)
    · refine lv_aload_n hx hb dX4_goByBest_103 rfl (lv_at hl 1 rfl) ?_
      refine lv_iload_n hx hb dX4_goByBest_104 rfl (lv_at hl 3 rfl) ?_
      refine z_goi (wf := xW) hS hE (fun F1 h1 => (va_runV (As := [.int x2]) (rest := []) ⟨hx, hb, hml, hown, hts⟩ (kX4_turnToNextOrder l E hD x2 σ_13 F1 h1) (cwV 1 hts (gU_V u_702 u_703 u_704 u_2 u_705) rfl rfl rfl q_X4_turnToNextOrder ⟨Nat.le_of_ble_eq_true rfl, Nat.le_of_ble_eq_true rfl⟩) (z_preV hK hP hS (ci := 4) (q0 := 0) rfl rfl rfl) rfl rfl hl.1 rfl (lv_room (Nat.le_of_ble_eq_true rfl)) dX4_goByBest_105 ⟨Nat.le_of_ble_eq_true rfl, Nat.le_of_ble_eq_true rfl⟩)) (fun r_23 σ_22 H locs hP hS hE => ?_)
      refine z_istore hx hb (fun x5_24 => [(5, .int x5_24), (7, .long x7_15), (0, .ref (ea E 0)), (1, .int x1), (2, .int x2), (3, .long x3), (6, .int x6)]) dX4_goByBest_108 hl (by decide) rfl hE (fun x5_24 ls hl hE => ?_)
      refine z_iinc hx hb (v := (x6 + 1)) (k := 6) (fun x6_25 => [(6, .int x6_25), (5, .int x5_24), (7, .long x7_15), (0, .ref (ea E 0)), (1, .int x1), (2, .int x2), (3, .long x3)]) dX4_goByBest_110 hl rfl (by rfl) (by decide) rfl hE (fun x6_25 ls hl hE => ?_)
      refine lv_goto (tgt := 43) hx hb dX4_goByBest_113 (by decide) ?_
      exact ih x1 x2 x3 x5_24 x6_25 σ_22 _ _ _ (lv_sub hl [3, 4, 5, 6, 1, 0] rfl) hP hS hE
    exact wX4_goByBest_J86 C ih x1 x2 x6 x7_15 σ_13 _ _ _ (lv_sub hl [1, 2, 3, 6, 0] rfl) hP hS hE
def fX4_goByBest  (x1 : Int32) (σ : ST) : Option (ST) :=
  bnd ((gI σ 5) : Int32) (fun x2_1 => bnd (0 : Int32) (fun x3_2 => fX4_goByBest_L10 (fun x1_5 x2_6 σ_7 => calv (fX3_supposeAsItIs σ_7) (fun σ_8 => bnd (0 : Int64) (fun x3_9 => bnd (1 : Int32) (fun x5_10 => bnd (0 : Int32) (fun x6_11 => fX4_goByBest_L43 (fun x2_26 σ_27 => calv (fX3_goBy_52 x2_26 σ_27) (fun σ_28 => some σ_28)) FU x1_5 x2_6 x3_9 x5_10 x6_11 σ_8))))) FU x1 x2_1 x3_2 σ))
set_option maxHeartbeats 4000000 in
set_option maxRecDepth 100000 in
theorem wX4_goByBest {p : Program} {l : Launch} {e : Env} {s : State} {m : MethodId} {args : Array Value} {below : List Frame} {meth : Method} {c : Code} {E : EN} (C : zC E xW p s m args meth c cX4_goByBest 9 RX4 none wsL_law) {F : ST}   (x1 : Int32) (σ : ST) (H : Heap) (locs : List Loc) (ls : Array Slot) (hl : lv_has ls 9 [(0, .ref (ea E 0)), (1, .int x1)]) (hP : va_P (eD E) vwCl (xW E σ) H) (hS : va_S (eA E) s.heap H locs) (hE : fX4_goByBest  x1 σ = some F) : zWv E xW p l e r_X4_goByBest s m args below meth c F H locs (F0 m 0 ls []) := by
  obtain ⟨hx, hb, hml, hown, hts, hr, hlk, hK, hD⟩ := id C
  have hwX2 : ∀ w ∈ wsX20, w.before args s = true := fun w h => hts w (inlX2 w h)
  have hwX4 : ∀ w ∈ wsX40, w.before args s = true := fun w h => hts w (inlX4 w h)
  unfold fX4_goByBest at hE
  refine lv_aload_n hx hb dX4_goByBest_0 rfl (lv_at hl 0 rfl) ?_
  refine xg_0_1 hx hb hown hwX4 (hts _ u_17) hK hP dX4_goByBest_1 ?_
  refine xg_4_13 hx hb hown hwX2 (hts _ u_446) hK hP dX4_goByBest_4 ?_
  refine z_istore_n hx hb (fun x2_1 => [(2, .int x2_1), (0, .ref (ea E 0)), (1, .int x1)]) dX4_goByBest_7 rfl hl (by decide) rfl hE (fun x2_1 ls hl hE => ?_)
  refine lv_iconst (v := 0) hx hb dX4_goByBest_8 (by decide) ?_
  refine z_istore_n hx hb (fun x3_2 => [(3, .int x3_2), (2, .int x2_1), (0, .ref (ea E 0)), (1, .int x1)]) dX4_goByBest_9 rfl hl (by decide) rfl hE (fun x3_2 ls hl hE => ?_)
  refine wX4_goByBest_L10 C ?_ FU x1 x2_1 x3_2 σ _ _ _ (lv_sub hl [2, 3, 1, 0] rfl) hP hS hE
  intro x1_5 x2_6 σ_7 H locs ls hl hP hS hE
  refine lv_aload_n hx hb dX4_goByBest_28 rfl (lv_at hl 0 rfl) ?_
  refine xg_0_0 hx hb hown hwX4 (hts _ u_15) hK hP dX4_goByBest_29 ?_
  refine z_gov (wf := xW) hS hE (fun F1 h1 => (va_runV (As := []) (rest := []) ⟨hx, hb, hml, hown, hts⟩ (kX3_supposeAsItIs l E hD  σ_7 F1 h1) (cwV 0 hts (gU_V u_525 u_526 u_527 u_14 u_528) rfl rfl rfl q_X3_supposeAsItIs ⟨Nat.le_of_ble_eq_true rfl, Nat.le_of_ble_eq_true rfl⟩) (z_preV hK hP hS (ci := 3) (q0 := 1) rfl rfl rfl) rfl rfl hl.1 rfl (lv_room (Nat.le_of_ble_eq_true rfl)) dX4_goByBest_32 ⟨Nat.le_of_ble_eq_true rfl, Nat.le_of_ble_eq_true rfl⟩)) (fun σ_8 H locs hP hS hE => ?_)
  refine lv_lconst (v := 0) hx hb dX4_goByBest_35 (by decide) ?_
  refine z_lstore_n hx hb (fun x3_9 => [(3, .long x3_9), (0, .ref (ea E 0)), (1, .int x1_5), (2, .int x2_6)]) dX4_goByBest_36 rfl hl (by decide) rfl hE (fun x3_9 ls hl hE => ?_)
  refine lv_iconst (v := 1) hx hb dX4_goByBest_37 (by decide) ?_
  refine z_istore hx hb (fun x5_10 => [(5, .int x5_10), (3, .long x3_9), (0, .ref (ea E 0)), (1, .int x1_5), (2, .int x2_6)]) dX4_goByBest_38 hl (by decide) rfl hE (fun x5_10 ls hl hE => ?_)
  refine lv_iconst (v := 0) hx hb dX4_goByBest_40 (by decide) ?_
  refine z_istore hx hb (fun x6_11 => [(6, .int x6_11), (5, .int x5_10), (3, .long x3_9), (0, .ref (ea E 0)), (1, .int x1_5), (2, .int x2_6)]) dX4_goByBest_41 hl (by decide) rfl hE (fun x6_11 ls hl hE => ?_)
  refine wX4_goByBest_L43 C ?_ FU x1_5 x2_6 x3_9 x5_10 x6_11 σ_8 _ _ _ (lv_sub hl [3, 4, 5, 2, 1, 0] rfl) hP hS hE
  intro x2_26 σ_27 H locs ls hl hP hS hE
  refine lv_aload_n hx hb dX4_goByBest_116 rfl (lv_at hl 0 rfl) ?_
  refine xg_0_0 hx hb hown hwX4 (hts _ u_15) hK hP dX4_goByBest_117 ?_
  refine lv_aload_n hx hb dX4_goByBest_120 rfl (lv_at hl 0 rfl) ?_
  refine xg_0_8 hx hb hown hwX4 (hts _ u_32) hK hP dX4_goByBest_121 ?_
  refine lv_iload_n hx hb dX4_goByBest_124 rfl (lv_at hl 1 rfl) ?_
  refine z_gov (wf := xW) hS hE (fun F1 h1 => (va_runV (As := [.ref (ea E 52), .int x2_26]) (rest := []) ⟨hx, hb, hml, hown, hts⟩ (kX3_goBy_52 l E hD x2_26 σ_27 F1 h1) (cwV 2 hts (gU_V u_543 u_544 u_545 u_14 u_546) rfl rfl rfl q_X3_goBy ⟨Nat.le_of_ble_eq_true rfl, Nat.le_of_ble_eq_true rfl⟩) (z_preV hK hP hS (ci := 3) (q0 := 1) rfl rfl rfl) rfl rfl hl.1 rfl (lv_room (Nat.le_of_ble_eq_true rfl)) dX4_goByBest_125 ⟨Nat.le_of_ble_eq_true rfl, Nat.le_of_ble_eq_true rfl⟩)) (fun σ_28 H locs hP hS hE => ?_)
  exact z_vret hx hb hr hlk hP hS dX4_goByBest_128 hE
theorem kX4_goByBest (l : Launch) (E : EN) (hD : ∀ σ, va_D (eA E) (xW E σ)) (x1 : Int32) (σ : ST) (F : ST) (hE : fX4_goByBest x1 σ = some F) : Met l yX4_goByBest wu_X4_goByBest r_X4_goByBest (zPc E xW [.ref (ea E 0), .int x1] σ) (zQv E xW F) 0 0 (eA E) := by
  refine Met.ofW (cc := cX4_goByBest) (maxL := 9) (ret := none) (by decide) rfl ?_
  intro p e s m args below meth c s₁ B hml hv
  obtain ⟨rfl, hP, hK⟩ := hv
  have hl := lv_entry ([.ref (ea E 0), .int x1]) (n := 9) (Nat.le_of_ble_eq_true rfl)
  rw [lg_entry_eq]
  generalize (lg_sl ([.ref (ea E 0), .int x1]) ++ List.replicate (9 - (lg_sl ([.ref (ea E 0), .int x1])).length) Slot.unset).toArray = ls at hl ⊢
  exact wX4_goByBest ⟨B.exec, B.bytes, hml, findClass_of_methodNamed B.named, fun w h => atoms_spec (ws := wu_X4_goByBest) B.pre w (List.mem_cons_of_mem _ h), B.returns, B.notSynchronized, hK, hD⟩ x1 σ s.heap [] ls hl hP va_S.rf hE
def fX4_best  (x1 : Int32) (x2 : Int32) (σ : ST) : Option (Int32 × ST) :=
  cali (fX4_refusalOfBest x1 σ) (fun r_2 σ_1 => bnd (r_2 : Int32) (fun x3_3 => (if 0 ≤ x3_3 then (if x2 < 0 then cali (fX4_refuse (-1) σ_1) (fun r_5 σ_4 => some (r_5, σ_4)) else (if x2 < (gI σ_1 5) then calv (fX4_goByBest x1 σ_1) (fun σ_6 => ald (gA σ_6 45) 5 x2 (fun v_7 => some (v_7, σ_6))) else cali (fX4_refuse (-1) σ_1) (fun r_9 σ_8 => some (r_9, σ_8)))) else cali (fX4_refuse x3_3 σ_1) (fun r_11 σ_10 => some (r_11, σ_10)))))
set_option maxHeartbeats 4000000 in
set_option maxRecDepth 100000 in
theorem wX4_best {p : Program} {l : Launch} {e : Env} {s : State} {m : MethodId} {args : Array Value} {below : List Frame} {meth : Method} {c : Code} {E : EN} (C : zC E xW p s m args meth c cX4_best 4 RX4 (some .int) wsL_law) {F : Int32 × ST}   (x1 : Int32) (x2 : Int32) (σ : ST) (H : Heap) (locs : List Loc) (ls : Array Slot) (hl : lv_has ls 4 [(0, .ref (ea E 0)), (1, .int x1), (2, .int x2)]) (hP : va_P (eD E) vwCl (xW E σ) H) (hS : va_S (eA E) s.heap H locs) (hE : fX4_best  x1 x2 σ = some F) : zWi E xW p l e r_X4_best s m args below meth c F H locs (F0 m 0 ls []) := by
  obtain ⟨hx, hb, hml, hown, hts, hr, hlk, hK, hD⟩ := id C
  have hwX2 : ∀ w ∈ wsX20, w.before args s = true := fun w h => hts w (inlX2 w h)
  have hwX4 : ∀ w ∈ wsX40, w.before args s = true := fun w h => hts w (inlX4 w h)
  unfold fX4_best at hE
  refine lv_aload_n hx hb dX4_best_0 rfl (lv_at hl 0 rfl) ?_
  refine lv_iload_n hx hb dX4_best_1 rfl (lv_at hl 1 rfl) ?_
  refine z_goi (wf := xW) hS hE (fun F1 h1 => (va_runV (As := [.int x1]) (rest := []) ⟨hx, hb, hml, hown, hts⟩ (kX4_refusalOfBest l E hD x1 σ F1 h1) (cwV 1 hts (gU_V u_689 u_690 u_691 u_2 u_692) rfl rfl rfl q_X4_refusalOfBest ⟨Nat.le_of_ble_eq_true rfl, Nat.le_of_ble_eq_true rfl⟩) (z_preV hK hP hS (ci := 4) (q0 := 0) rfl rfl rfl) rfl rfl hl.1 rfl (lv_room (Nat.le_of_ble_eq_true rfl)) dX4_best_2 ⟨Nat.le_of_ble_eq_true rfl, Nat.le_of_ble_eq_true rfl⟩)) (fun r_2 σ_1 H locs hP hS hE => ?_)
  refine z_istore_n hx hb (fun x3_3 => [(3, .int x3_3), (0, .ref (ea E 0)), (1, .int x1), (2, .int x2)]) dX4_best_5 rfl hl (by decide) rfl hE (fun x3_3 ls hl hE => ?_)
  refine lv_iload_n hx hb dX4_best_6 rfl (lv_at hl 0 rfl) ?_
  refine z_if_ge (tgt := 16) hx hb dX4_best_7 (by decide) hE (fun hE => ?_) (fun hE => ?_)
  · refine lv_iload_n hx hb dX4_best_16 rfl (lv_at hl 3 rfl) ?_
    refine z_if_lt (tgt := 31) hx hb dX4_best_17 (by decide) hE (fun hE => ?_) (fun hE => ?_)
    · refine lv_aload_n hx hb dX4_best_31 rfl (lv_at hl 1 rfl) ?_
      refine lv_iconst (v := -1) hx hb dX4_best_32 (by decide) ?_
      refine z_goi (wf := xW) hS hE (fun F1 h1 => (va_runV (As := [.int (-1)]) (rest := []) ⟨hx, hb, hml, hown, hts⟩ (kX4_refuse l E hD (-1) σ_1 F1 h1) (cwV 1 hts (gU_V u_118 u_119 u_120 u_2 u_121) rfl rfl rfl q_X4_refuse ⟨Nat.le_of_ble_eq_true rfl, Nat.le_of_ble_eq_true rfl⟩) (z_preV hK hP hS (ci := 4) (q0 := 0) rfl rfl rfl) rfl rfl hl.1 rfl (lv_room (Nat.le_of_ble_eq_true rfl)) dX4_best_33 ⟨Nat.le_of_ble_eq_true rfl, Nat.le_of_ble_eq_true rfl⟩)) (fun r_5 σ_4 H locs hP hS hE => ?_)
      exact z_iret hx hb hr hlk hP hS dX4_best_36 hE
    refine lv_iload_n hx hb dX4_best_20 rfl (lv_at hl 3 rfl) ?_
    refine lv_aload_n hx hb dX4_best_21 rfl (lv_at hl 1 rfl) ?_
    refine xg_0_1 hx hb hown hwX4 (hts _ u_17) hK hP dX4_best_22 ?_
    refine xg_4_13 hx hb hown hwX2 (hts _ u_446) hK hP dX4_best_25 ?_
    refine z_icmp_lt (tgt := 37) hx hb dX4_best_28 (by decide) hE (fun hE => ?_) (fun hE => ?_)
    · refine lv_aload_n hx hb dX4_best_37 rfl (lv_at hl 1 rfl) ?_
      refine lv_iload_n hx hb dX4_best_38 rfl (lv_at hl 2 rfl) ?_
      refine z_gov (wf := xW) hS hE (fun F1 h1 => (va_runV (As := [.int x1]) (rest := []) ⟨hx, hb, hml, hown, hts⟩ (kX4_goByBest l E hD x1 σ_1 F1 h1) (cwV 1 hts (gU_V u_693 u_694 u_695 u_2 u_696) rfl rfl rfl q_X4_goByBest ⟨Nat.le_of_ble_eq_true rfl, Nat.le_of_ble_eq_true rfl⟩) (z_preV hK hP hS (ci := 4) (q0 := 0) rfl rfl rfl) rfl rfl hl.1 rfl (lv_room (Nat.le_of_ble_eq_true rfl)) dX4_best_39 ⟨Nat.le_of_ble_eq_true rfl, Nat.le_of_ble_eq_true rfl⟩)) (fun σ_6 H locs hP hS hE => ?_)
      refine lv_aload_n hx hb dX4_best_42 rfl (lv_at hl 1 rfl) ?_
      refine xg_0_8 hx hb hown hwX4 (hts _ u_32) hK hP dX4_best_43 ?_
      refine lv_iload_n hx hb dX4_best_46 rfl (lv_at hl 3 rfl) ?_
      refine xa_52 hx hb hK hP dX4_best_47 hE (fun v_7 hE => ?_)
      exact z_iret hx hb hr hlk hP hS dX4_best_48 hE
    refine lv_aload_n hx hb dX4_best_31 rfl (lv_at hl 1 rfl) ?_
    refine lv_iconst (v := -1) hx hb dX4_best_32 (by decide) ?_
    refine z_goi (wf := xW) hS hE (fun F1 h1 => (va_runV (As := [.int (-1)]) (rest := []) ⟨hx, hb, hml, hown, hts⟩ (kX4_refuse l E hD (-1) σ_1 F1 h1) (cwV 1 hts (gU_V u_118 u_119 u_120 u_2 u_121) rfl rfl rfl q_X4_refuse ⟨Nat.le_of_ble_eq_true rfl, Nat.le_of_ble_eq_true rfl⟩) (z_preV hK hP hS (ci := 4) (q0 := 0) rfl rfl rfl) rfl rfl hl.1 rfl (lv_room (Nat.le_of_ble_eq_true rfl)) dX4_best_33 ⟨Nat.le_of_ble_eq_true rfl, Nat.le_of_ble_eq_true rfl⟩)) (fun r_9 σ_8 H locs hP hS hE => ?_)
    exact z_iret hx hb hr hlk hP hS dX4_best_36 hE
  refine lv_aload_n hx hb dX4_best_10 rfl (lv_at hl 1 rfl) ?_
  refine lv_iload_n hx hb dX4_best_11 rfl (lv_at hl 0 rfl) ?_
  refine z_goi (wf := xW) hS hE (fun F1 h1 => (va_runV (As := [.int x3_3]) (rest := []) ⟨hx, hb, hml, hown, hts⟩ (kX4_refuse l E hD x3_3 σ_1 F1 h1) (cwV 1 hts (gU_V u_118 u_119 u_120 u_2 u_121) rfl rfl rfl q_X4_refuse ⟨Nat.le_of_ble_eq_true rfl, Nat.le_of_ble_eq_true rfl⟩) (z_preV hK hP hS (ci := 4) (q0 := 0) rfl rfl rfl) rfl rfl hl.1 rfl (lv_room (Nat.le_of_ble_eq_true rfl)) dX4_best_12 ⟨Nat.le_of_ble_eq_true rfl, Nat.le_of_ble_eq_true rfl⟩)) (fun r_11 σ_10 H locs hP hS hE => ?_)
  exact z_iret hx hb hr hlk hP hS dX4_best_15 hE
theorem kX4_best (l : Launch) (E : EN) (hD : ∀ σ, va_D (eA E) (xW E σ)) (x1 : Int32) (x2 : Int32) (σ : ST) (F : Int32 × ST) (hE : fX4_best x1 x2 σ = some F) : Met l yX4_best wu_X4_best r_X4_best (zPc E xW [.ref (ea E 0), .int x1, .int x2] σ) (zQi E xW F) 0 0 (eA E) := by
  refine Met.ofW (cc := cX4_best) (maxL := 4) (ret := (some .int)) (by decide) rfl ?_
  intro p e s m args below meth c s₁ B hml hv
  obtain ⟨rfl, hP, hK⟩ := hv
  have hl := lv_entry ([.ref (ea E 0), .int x1, .int x2]) (n := 4) (Nat.le_of_ble_eq_true rfl)
  rw [lg_entry_eq]
  generalize (lg_sl ([.ref (ea E 0), .int x1, .int x2]) ++ List.replicate (4 - (lg_sl ([.ref (ea E 0), .int x1, .int x2])).length) Slot.unset).toArray = ls at hl ⊢
  exact wX4_best ⟨B.exec, B.bytes, hml, findClass_of_methodNamed B.named, fun w h => atoms_spec (ws := wu_X4_best) B.pre w (List.mem_cons_of_mem _ h), B.returns, B.notSynchronized, hK, hD⟩ x1 x2 σ s.heap [] ls hl hP va_S.rf hE
