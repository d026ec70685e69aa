def fX4_bestMinutes  (x1 : Int32) (σ : ST) : Option (Int32 × ST) :=
  cali (fX4_refusalOfBest x1 σ) (fun r_2 σ_1 => bnd (r_2 : Int32) (fun x2_3 => (if 0 ≤ x2_3 then calv (fX4_goByBest x1 σ_1) (fun σ_4 => some ((gI σ_4 25), σ_4)) else cali (fX4_refuse x2_3 σ_1) (fun r_6 σ_5 => some (r_6, σ_5)))))
set_option maxHeartbeats 4000000 in
set_option maxRecDepth 100000 in
theorem wX4_bestMinutes {p : Program} {l : Launch} {e : Env} {s : State} {m : MethodId} {args : Array Value} {below : List Frame} {meth : Method} {c : Code} {E : EN} (C : zC E xW p s m args meth c cX4_bestMinutes 3 RX4 (some .int) wsL_law) {F : Int32 × ST}   (x1 : Int32) (σ : ST) (H : Heap) (locs : List Loc) (ls : Array Slot) (hl : lv_has ls 3 [(0, .ref (ea E 0)), (1, .int x1)]) (hP : va_P (eD E) vwCl (xW E σ) H) (hS : va_S (eA E) s.heap H locs) (hE : fX4_bestMinutes  x1 σ = some F) : zWi E xW p l e r_X4_bestMinutes s m args below meth c F H locs (F0 m 0 ls []) := by
  obtain ⟨hx, hb, hml, hown, hts, hr, hlk, hK, hD⟩ := id C
  have hwX3 : ∀ w ∈ wsX30, w.before args s = true := fun w h => hts w (inlX3 w h)
  have hwX4 : ∀ w ∈ wsX40, w.before args s = true := fun w h => hts w (inlX4 w h)
  unfold fX4_bestMinutes at hE
  refine lv_aload_n hx hb dX4_bestMinutes_0 rfl (lv_at hl 0 rfl) ?_
  refine lv_iload_n hx hb dX4_bestMinutes_1 rfl (lv_at hl 1 rfl) ?_
  refine z_goi (wf := xW) hS hE (fun F1 h1 => (va_runV (As := [.int x1]) (rest := []) ⟨hx, hb, hml, hown, hts⟩ (kX4_refusalOfBest l E hD x1 σ F1 h1) (cwV 1 hts (gU_V u_689 u_690 u_691 u_2 u_692) rfl rfl rfl q_X4_refusalOfBest ⟨Nat.le_of_ble_eq_true rfl, Nat.le_of_ble_eq_true rfl⟩) (z_preV hK hP hS (ci := 4) (q0 := 0) rfl rfl rfl) rfl rfl hl.1 rfl (lv_room (Nat.le_of_ble_eq_true rfl)) dX4_bestMinutes_2 ⟨Nat.le_of_ble_eq_true rfl, Nat.le_of_ble_eq_true rfl⟩)) (fun r_2 σ_1 H locs hP hS hE => ?_)
  refine z_istore_n hx hb (fun x2_3 => [(2, .int x2_3), (0, .ref (ea E 0)), (1, .int x1)]) dX4_bestMinutes_5 rfl hl (by decide) rfl hE (fun x2_3 ls hl hE => ?_)
  refine lv_iload_n hx hb dX4_bestMinutes_6 rfl (lv_at hl 0 rfl) ?_
  refine z_if_ge (tgt := 16) hx hb dX4_bestMinutes_7 (by decide) hE (fun hE => ?_) (fun hE => ?_)
  · refine lv_aload_n hx hb dX4_bestMinutes_16 rfl (lv_at hl 1 rfl) ?_
    refine lv_iload_n hx hb dX4_bestMinutes_17 rfl (lv_at hl 2 rfl) ?_
    refine z_gov (wf := xW) hS hE (fun F1 h1 => (va_runV (As := [.int x1]) (rest := []) ⟨hx, hb, hml, hown, hts⟩ (kX4_goByBest l E hD x1 σ_1 F1 h1) (cwV 1 hts (gU_V u_693 u_694 u_695 u_2 u_696) rfl rfl rfl q_X4_goByBest ⟨Nat.le_of_ble_eq_true rfl, Nat.le_of_ble_eq_true rfl⟩) (z_preV hK hP hS (ci := 4) (q0 := 0) rfl rfl rfl) rfl rfl hl.1 rfl (lv_room (Nat.le_of_ble_eq_true rfl)) dX4_bestMinutes_18 ⟨Nat.le_of_ble_eq_true rfl, Nat.le_of_ble_eq_true rfl⟩)) (fun σ_4 H locs hP hS hE => ?_)
    refine lv_aload_n hx hb dX4_bestMinutes_21 rfl (lv_at hl 1 rfl) ?_
    refine xg_0_0 hx hb hown hwX4 (hts _ u_15) hK hP dX4_bestMinutes_22 ?_
    refine xg_1_10 hx hb hown hwX3 (hts _ u_518) hK hP dX4_bestMinutes_25 ?_
    exact z_iret hx hb hr hlk hP hS dX4_bestMinutes_28 hE
  refine lv_aload_n hx hb dX4_bestMinutes_10 rfl (lv_at hl 1 rfl) ?_
  refine lv_iload_n hx hb dX4_bestMinutes_11 rfl (lv_at hl 0 rfl) ?_
  refine z_goi (wf := xW) hS hE (fun F1 h1 => (va_runV (As := [.int x2_3]) (rest := []) ⟨hx, hb, hml, hown, hts⟩ (kX4_refuse l E hD x2_3 σ_1 F1 h1) (cwV 1 hts (gU_V u_118 u_119 u_120 u_2 u_121) rfl rfl rfl q_X4_refuse ⟨Nat.le_of_ble_eq_true rfl, Nat.le_of_ble_eq_true rfl⟩) (z_preV hK hP hS (ci := 4) (q0 := 0) rfl rfl rfl) rfl rfl hl.1 rfl (lv_room (Nat.le_of_ble_eq_true rfl)) dX4_bestMinutes_12 ⟨Nat.le_of_ble_eq_true rfl, Nat.le_of_ble_eq_true rfl⟩)) (fun r_6 σ_5 H locs hP hS hE => ?_)
  exact z_iret hx hb hr hlk hP hS dX4_bestMinutes_15 hE
theorem kX4_bestMinutes (l : Launch) (E : EN) (hD : ∀ σ, va_D (eA E) (xW E σ)) (x1 : Int32) (σ : ST) (F : Int32 × ST) (hE : fX4_bestMinutes x1 σ = some F) : Met l yX4_bestMinutes wu_X4_bestMinutes r_X4_bestMinutes (zPc E xW [.ref (ea E 0), .int x1] σ) (zQi E xW F) 0 0 (eA E) := by
  refine Met.ofW (cc := cX4_bestMinutes) (maxL := 3) (ret := (some .int)) (by decide) rfl ?_
  intro p e s m args below meth c s₁ B hml hv
  obtain ⟨rfl, hP, hK⟩ := hv
  have hl := lv_entry ([.ref (ea E 0), .int x1]) (n := 3) (Nat.le_of_ble_eq_true rfl)
  rw [lg_entry_eq]
  generalize (lg_sl ([.ref (ea E 0), .int x1]) ++ List.replicate (3 - (lg_sl ([.ref (ea E 0), .int x1])).length) Slot.unset).toArray = ls at hl ⊢
  exact wX4_bestMinutes ⟨B.exec, B.bytes, hml, findClass_of_methodNamed B.named, fun w h => atoms_spec (ws := wu_X4_bestMinutes) B.pre w (List.mem_cons_of_mem _ h), B.returns, B.notSynchronized, hK, hD⟩ x1 σ s.heap [] ls hl hP va_S.rf hE
def fX4_refusalOfBestPart  (x1 : Int32) (x2 : Int32) (σ : ST) : Option (Int32 × ST) :=
  (if x1 < 0 then some ((-2), σ) else (if x1 ≤ 2 then cali (fX4_refusalOfPart x2 σ) (fun r_2 σ_1 => some (r_2, σ_1)) else some ((-2), σ)))
set_option maxHeartbeats 4000000 in
set_option maxRecDepth 100000 in
theorem wX4_refusalOfBestPart {p : Program} {l : Launch} {e : Env} {s : State} {m : MethodId} {args : Array Value} {below : List Frame} {meth : Method} {c : Code} {E : EN} (C : zC E xW p s m args meth c cX4_refusalOfBestPart 3 RX4 (some .int) wsL_law) {F : Int32 × ST}   (x1 : Int32) (x2 : Int32) (σ : ST) (H : Heap) (locs : List Loc) (ls : Array Slot) (hl : lv_has ls 3 [(0, .ref (ea E 0)), (1, .int x1), (2, .int x2)]) (hP : va_P (eD E) vwCl (xW E σ) H) (hS : va_S (eA E) s.heap H locs) (hE : fX4_refusalOfBestPart  x1 x2 σ = some F) : zWi E xW p l e r_X4_refusalOfBestPart s m args below meth c F H locs (F0 m 0 ls []) := by
  obtain ⟨hx, hb, hml, hown, hts, hr, hlk, hK, hD⟩ := id C
  unfold fX4_refusalOfBestPart at hE
  refine lv_iload_n hx hb dX4_refusalOfBestPart_0 rfl (lv_at hl 1 rfl) ?_
  refine z_if_lt (tgt := 9) hx hb dX4_refusalOfBestPart_1 (by decide) hE (fun hE => ?_) (fun hE => ?_)
  · refine lv_bipush (v := -2) hx hb dX4_refusalOfBestPart_9 (by decide) ?_
    exact z_iret hx hb hr hlk hP hS dX4_refusalOfBestPart_11 hE
  refine lv_iload_n hx hb dX4_refusalOfBestPart_4 rfl (lv_at hl 1 rfl) ?_
  refine lv_iconst (v := 2) hx hb dX4_refusalOfBestPart_5 (by decide) ?_
  refine z_icmp_le (tgt := 12) hx hb dX4_refusalOfBestPart_6 (by decide) hE (fun hE => ?_) (fun hE => ?_)
  · refine lv_aload_n hx hb dX4_refusalOfBestPart_12 rfl (lv_at hl 0 rfl) ?_
    refine lv_iload_n hx hb dX4_refusalOfBestPart_13 rfl (lv_at hl 2 rfl) ?_
    refine z_goi (wf := xW) hS hE (fun F1 h1 => (va_runV (As := [.int x2]) (rest := []) ⟨hx, hb, hml, hown, hts⟩ (kX4_refusalOfPart l E hD x2 σ F1 h1) (cwV 1 hts (gU_V u_643 u_644 u_645 u_2 u_646) rfl rfl rfl q_X4_refusalOfPart ⟨Nat.le_of_ble_eq_true rfl, Nat.le_of_ble_eq_true rfl⟩) (z_preV hK hP hS (ci := 4) (q0 := 0) rfl rfl rfl) rfl rfl hl.1 rfl (lv_room (Nat.le_of_ble_eq_true rfl)) dX4_refusalOfBestPart_14 ⟨Nat.le_of_ble_eq_true rfl, Nat.le_of_ble_eq_true rfl⟩)) (fun r_2 σ_1 H locs hP hS hE => ?_)
    exact z_iret hx hb hr hlk hP hS dX4_refusalOfBestPart_17 hE
  refine lv_bipush (v := -2) hx hb dX4_refusalOfBestPart_9 (by decide) ?_
  exact z_iret hx hb hr hlk hP hS dX4_refusalOfBestPart_11 hE
theorem kX4_refusalOfBestPart (l : Launch) (E : EN) (hD : ∀ σ, va_D (eA E) (xW E σ)) (x1 : Int32) (x2 : Int32) (σ : ST) (F : Int32 × ST) (hE : fX4_refusalOfBestPart x1 x2 σ = some F) : Met l yX4_refusalOfBestPart wu_X4_refusalOfBestPart r_X4_refusalOfBestPart (zPc E xW [.ref (ea E 0), .int x1, .int x2] σ) (zQi E xW F) 0 0 (eA E) := by
  refine Met.ofW (cc := cX4_refusalOfBestPart) (maxL := 3) (ret := (some .int)) (by decide) rfl ?_
  intro p e s m args below meth c s₁ B hml hv
  obtain ⟨rfl, hP, hK⟩ := hv
  have hl := lv_entry ([.ref (ea E 0), .int x1, .int x2]) (n := 3) (Nat.le_of_ble_eq_true rfl)
  rw [lg_entry_eq]
  generalize (lg_sl ([.ref (ea E 0), .int x1, .int x2]) ++ List.replicate (3 - (lg_sl ([.ref (ea E 0), .int x1, .int x2])).length) Slot.unset).toArray = ls at hl ⊢
  exact wX4_refusalOfBestPart ⟨B.exec, B.bytes, hml, findClass_of_methodNamed B.named, fun w h => atoms_spec (ws := wu_X4_refusalOfBestPart) B.pre w (List.mem_cons_of_mem _ h), B.returns, B.notSynchronized, hK, hD⟩ x1 x2 σ s.heap [] ls hl hP va_S.rf hE
def fX4_bestLikely  (x1 : Int32) (x2 : Int32) (σ : ST) : Option (Int64 × ST) :=
  cali (fX4_refusalOfBestPart x1 x2 σ) (fun r_2 σ_1 => bnd (r_2 : Int32) (fun x3_3 => (if 0 ≤ x3_3 then calv (fX4_goByBest x1 σ_1) (fun σ_4 => call (fX4_partOf (gL σ_4 0) x2 σ_4) (fun r_6 σ_5 => some (r_6, σ_5))) else call (fX4_refuseLong x3_3 σ_1) (fun r_8 σ_7 => some (r_8, σ_7)))))
set_option maxHeartbeats 4000000 in
set_option maxRecDepth 100000 in
theorem wX4_bestLikely {p : Program} {l : Launch} {e : Env} {s : State} {m : MethodId} {args : Array Value} {below : List Frame} {meth : Method} {c : Code} {E : EN} (C : zC E xW p s m args meth c cX4_bestLikely 4 RX4 (some .long) wsL_law) {F : Int64 × ST}   (x1 : Int32) (x2 : Int32) (σ : ST) (H : Heap) (locs : List Loc) (ls : Array Slot) (hl : lv_has ls 4 [(0, .ref (ea E 0)), (1, .int x1), (2, .int x2)]) (hP : va_P (eD E) vwCl (xW E σ) H) (hS : va_S (eA E) s.heap H locs) (hE : fX4_bestLikely  x1 x2 σ = some F) : zWl E xW p l e r_X4_bestLikely s m args below meth c F H locs (F0 m 0 ls []) := by
  obtain ⟨hx, hb, hml, hown, hts, hr, hlk, hK, hD⟩ := id C
  have hwX3 : ∀ w ∈ wsX30, w.before args s = true := fun w h => hts w (inlX3 w h)
  have hwX4 : ∀ w ∈ wsX40, w.before args s = true := fun w h => hts w (inlX4 w h)
  unfold fX4_bestLikely at hE
  refine lv_aload_n hx hb dX4_bestLikely_0 rfl (lv_at hl 0 rfl) ?_
  refine lv_iload_n hx hb dX4_bestLikely_1 rfl (lv_at hl 1 rfl) ?_
  refine lv_iload_n hx hb dX4_bestLikely_2 rfl (lv_at hl 2 rfl) ?_
  refine z_goi (wf := xW) hS hE (fun F1 h1 => (va_runV (As := [.int x1, .int x2]) (rest := []) ⟨hx, hb, hml, hown, hts⟩ (kX4_refusalOfBestPart l E hD x1 x2 σ F1 h1) (cwV 2 hts (gU_V u_744 u_745 u_746 u_2 u_747) rfl rfl rfl q_X4_refusalOfBestPart ⟨Nat.le_of_ble_eq_true rfl, Nat.le_of_ble_eq_true rfl⟩) (z_preV hK hP hS (ci := 4) (q0 := 0) rfl rfl rfl) rfl rfl hl.1 rfl (lv_room (Nat.le_of_ble_eq_true rfl)) dX4_bestLikely_3 ⟨Nat.le_of_ble_eq_true rfl, Nat.le_of_ble_eq_true rfl⟩)) (fun r_2 σ_1 H locs hP hS hE => ?_)
  refine z_istore_n hx hb (fun x3_3 => [(3, .int x3_3), (0, .ref (ea E 0)), (1, .int x1), (2, .int x2)]) dX4_bestLikely_6 rfl hl (by decide) rfl hE (fun x3_3 ls hl hE => ?_)
  refine lv_iload_n hx hb dX4_bestLikely_7 rfl (lv_at hl 0 rfl) ?_
  refine z_if_ge (tgt := 17) hx hb dX4_bestLikely_8 (by decide) hE (fun hE => ?_) (fun hE => ?_)
  · refine lv_aload_n hx hb dX4_bestLikely_17 rfl (lv_at hl 1 rfl) ?_
    refine lv_iload_n hx hb dX4_bestLikely_18 rfl (lv_at hl 2 rfl) ?_
    refine z_gov (wf := xW) hS hE (fun F1 h1 => (va_runV (As := [.int x1]) (rest := []) ⟨hx, hb, hml, hown, hts⟩ (kX4_goByBest l E hD x1 σ_1 F1 h1) (cwV 1 hts (gU_V u_693 u_694 u_695 u_2 u_696) rfl rfl rfl q_X4_goByBest ⟨Nat.le_of_ble_eq_true rfl, Nat.le_of_ble_eq_true rfl⟩) (z_preV hK hP hS (ci := 4) (q0 := 0) rfl rfl rfl) rfl rfl hl.1 rfl (lv_room (Nat.le_of_ble_eq_true rfl)) dX4_bestLikely_19 ⟨Nat.le_of_ble_eq_true rfl, Nat.le_of_ble_eq_true rfl⟩)) (fun σ_4 H locs hP hS hE => ?_)
    refine lv_aload_n hx hb dX4_bestLikely_22 rfl (lv_at hl 1 rfl) ?_
    refine xg_0_0 hx hb hown hwX4 (hts _ u_15) hK hP dX4_bestLikely_23 ?_
    refine xg_1_13 hx hb hown hwX3 (hts _ u_642) hK hP dX4_bestLikely_26 ?_
    refine lv_iload_n hx hb dX4_bestLikely_29 rfl (lv_at hl 3 rfl) ?_
    refine z_gol (wf := xW) hS hE (fun F1 h1 => (va_runS (As := [.long (gL σ_4 0), .int x2]) (rest := []) ⟨hx, hb, hml, hown, hts⟩ (kX4_partOf l E hD (gL σ_4 0) x2 σ_4 F1 h1) (va_cwS 2 hts (gU_S u_652 u_653 u_2 u_654) rfl rfl rfl q_X4_partOf ⟨Nat.le_of_ble_eq_true rfl, Nat.le_of_ble_eq_true rfl⟩) (z_preS hK hP hS) rfl rfl hl.1 rfl (lv_room (Nat.le_of_ble_eq_true rfl)) dX4_bestLikely_30 ⟨Nat.le_of_ble_eq_true rfl, Nat.le_of_ble_eq_true rfl⟩)) (fun r_6 σ_5 H locs hP hS hE => ?_)
    exact z_lret hx hb hr hlk hP hS dX4_bestLikely_33 hE
  refine lv_aload_n hx hb dX4_bestLikely_11 rfl (lv_at hl 1 rfl) ?_
  refine lv_iload_n hx hb dX4_bestLikely_12 rfl (lv_at hl 0 rfl) ?_
  refine z_gol (wf := xW) hS hE (fun F1 h1 => (va_runV (As := [.int x3_3]) (rest := []) ⟨hx, hb, hml, hown, hts⟩ (kX4_refuseLong l E hD x3_3 σ_1 F1 h1) (cwV 1 hts (gU_V u_647 u_648 u_649 u_2 u_650) rfl rfl rfl q_X4_refuseLong ⟨Nat.le_of_ble_eq_true rfl, Nat.le_of_ble_eq_true rfl⟩) (z_preV hK hP hS (ci := 4) (q0 := 0) rfl rfl rfl) rfl rfl hl.1 rfl (lv_room (Nat.le_of_ble_eq_true rfl)) dX4_bestLikely_13 ⟨Nat.le_of_ble_eq_true rfl, Nat.le_of_ble_eq_true rfl⟩)) (fun r_8 σ_7 H locs hP hS hE => ?_)
  exact z_lret hx hb hr hlk hP hS dX4_bestLikely_16 hE
theorem kX4_bestLikely (l : Launch) (E : EN) (hD : ∀ σ, va_D (eA E) (xW E σ)) (x1 : Int32) (x2 : Int32) (σ : ST) (F : Int64 × ST) (hE : fX4_bestLikely x1 x2 σ = some F) : Met l yX4_bestLikely wu_X4_bestLikely r_X4_bestLikely (zPc E xW [.ref (ea E 0), .int x1, .int x2] σ) (zQl E xW F) 0 0 (eA E) := by
  refine Met.ofW (cc := cX4_bestLikely) (maxL := 4) (ret := (some .long)) (by decide) rfl ?_
  intro p e s m args below meth c s₁ B hml hv
  obtain ⟨rfl, hP, hK⟩ := hv
  have hl := lv_entry ([.ref (ea E 0), .int x1, .int x2]) (n := 4) (Nat.le_of_ble_eq_true rfl)
  rw [lg_entry_eq]
  generalize (lg_sl ([.ref (ea E 0), .int x1, .int x2]) ++ List.replicate (4 - (lg_sl ([.ref (ea E 0), .int x1, .int x2])).length) Slot.unset).toArray = ls at hl ⊢
  exact wX4_bestLikely ⟨B.exec, B.bytes, hml, findClass_of_methodNamed B.named, fun w h => atoms_spec (ws := wu_X4_bestLikely) B.pre w (List.mem_cons_of_mem _ h), B.returns, B.notSynchronized, hK, hD⟩ x1 x2 σ s.heap [] ls hl hP va_S.rf hE
def fX4_bestWorth  (x1 : Int32) (x2 : Int32) (σ : ST) : Option (Int64 × ST) :=
  cali (fX4_refusalOfBestPart x1 x2 σ) (fun r_2 σ_1 => bnd (r_2 : Int32) (fun x3_3 => (if 0 ≤ x3_3 then calv (fX4_goByBest x1 σ_1) (fun σ_4 => call (fX4_partOf (gL σ_4 1) x2 σ_4) (fun r_6 σ_5 => some (r_6, σ_5))) else call (fX4_refuseLong x3_3 σ_1) (fun r_8 σ_7 => some (r_8, σ_7)))))
set_option maxHeartbeats 4000000 in
set_option maxRecDepth 100000 in
theorem wX4_bestWorth {p : Program} {l : Launch} {e : Env} {s : State} {m : MethodId} {args : Array Value} {below : List Frame} {meth : Method} {c : Code} {E : EN} (C : zC E xW p s m args meth c cX4_bestWorth 4 RX4 (some .long) wsL_law) {F : Int64 × ST}   (x1 : Int32) (x2 : Int32) (σ : ST) (H : Heap) (locs : List Loc) (ls : Array Slot) (hl : lv_has ls 4 [(0, .ref (ea E 0)), (1, .int x1), (2, .int x2)]) (hP : va_P (eD E) vwCl (xW E σ) H) (hS : va_S (eA E) s.heap H locs) (hE : fX4_bestWorth  x1 x2 σ = some F) : zWl E xW p l e r_X4_bestWorth s m args below meth c F H locs (F0 m 0 ls []) := by
  obtain ⟨hx, hb, hml, hown, hts, hr, hlk, hK, hD⟩ := id C
  have hwX3 : ∀ w ∈ wsX30, w.before args s = true := fun w h => hts w (inlX3 w h)
  have hwX4 : ∀ w ∈ wsX40, w.before args s = true := fun w h => hts w (inlX4 w h)
  unfold fX4_bestWorth at hE
  refine lv_aload_n hx hb dX4_bestWorth_0 rfl (lv_at hl 0 rfl) ?_
  refine lv_iload_n hx hb dX4_bestWorth_1 rfl (lv_at hl 1 rfl) ?_
  refine lv_iload_n hx hb dX4_bestWorth_2 rfl (lv_at hl 2 rfl) ?_
  refine z_goi (wf := xW) hS hE (fun F1 h1 => (va_runV (As := [.int x1, .int x2]) (rest := []) ⟨hx, hb, hml, hown, hts⟩ (kX4_refusalOfBestPart l E hD x1 x2 σ F1 h1) (cwV 2 hts (gU_V u_744 u_745 u_746 u_2 u_747) rfl rfl rfl q_X4_refusalOfBestPart ⟨Nat.le_of_ble_eq_true rfl, Nat.le_of_ble_eq_true rfl⟩) (z_preV hK hP hS (ci := 4) (q0 := 0) rfl rfl rfl) rfl rfl hl.1 rfl (lv_room (Nat.le_of_ble_eq_true rfl)) dX4_bestWorth_3 ⟨Nat.le_of_ble_eq_true rfl, Nat.le_of_ble_eq_true rfl⟩)) (fun r_2 σ_1 H locs hP hS hE => ?_)
  refine z_istore_n hx hb (fun x3_3 => [(3, .int x3_3), (0, .ref (ea E 0)), (1, .int x1), (2, .int x2)]) dX4_bestWorth_6 rfl hl (by decide) rfl hE (fun x3_3 ls hl hE => ?_)
  refine lv_iload_n hx hb dX4_bestWorth_7 rfl (lv_at hl 0 rfl) ?_
  refine z_if_ge (tgt := 17) hx hb dX4_bestWorth_8 (by decide) hE (fun hE => ?_) (fun hE => ?_)
  · refine lv_aload_n hx hb dX4_bestWorth_17 rfl (lv_at hl 1 rfl) ?_
    refine lv_iload_n hx hb dX4_bestWorth_18 rfl (lv_at hl 2 rfl) ?_
    refine z_gov (wf := xW) hS hE (fun F1 h1 => (va_runV (As := [.int x1]) (rest := []) ⟨hx, hb, hml, hown, hts⟩ (kX4_goByBest l E hD x1 σ_1 F1 h1) (cwV 1 hts (gU_V u_693 u_694 u_695 u_2 u_696) rfl rfl rfl q_X4_goByBest ⟨Nat.le_of_ble_eq_true rfl, Nat.le_of_ble_eq_true rfl⟩) (z_preV hK hP hS (ci := 4) (q0 := 0) rfl rfl rfl) rfl rfl hl.1 rfl (lv_room (Nat.le_of_ble_eq_true rfl)) dX4_bestWorth_19 ⟨Nat.le_of_ble_eq_true rfl, Nat.le_of_ble_eq_true rfl⟩)) (fun σ_4 H locs hP hS hE => ?_)
    refine lv_aload_n hx hb dX4_bestWorth_22 rfl (lv_at hl 1 rfl) ?_
    refine xg_0_0 hx hb hown hwX4 (hts _ u_15) hK hP dX4_bestWorth_23 ?_
    refine xg_1_14 hx hb hown hwX3 (hts _ u_680) hK hP dX4_bestWorth_26 ?_
    refine lv_iload_n hx hb dX4_bestWorth_29 rfl (lv_at hl 3 rfl) ?_
    refine z_gol (wf := xW) hS hE (fun F1 h1 => (va_runS (As := [.long (gL σ_4 1), .int x2]) (rest := []) ⟨hx, hb, hml, hown, hts⟩ (kX4_partOf l E hD (gL σ_4 1) x2 σ_4 F1 h1) (va_cwS 2 hts (gU_S u_652 u_653 u_2 u_654) rfl rfl rfl q_X4_partOf ⟨Nat.le_of_ble_eq_true rfl, Nat.le_of_ble_eq_true rfl⟩) (z_preS hK hP hS) rfl rfl hl.1 rfl (lv_room (Nat.le_of_ble_eq_true rfl)) dX4_bestWorth_30 ⟨Nat.le_of_ble_eq_true rfl, Nat.le_of_ble_eq_true rfl⟩)) (fun r_6 σ_5 H locs hP hS hE => ?_)
    exact z_lret hx hb hr hlk hP hS dX4_bestWorth_33 hE
  refine lv_aload_n hx hb dX4_bestWorth_11 rfl (lv_at hl 1 rfl) ?_
  refine lv_iload_n hx hb dX4_bestWorth_12 rfl (lv_at hl 0 rfl) ?_
  refine z_gol (wf := xW) hS hE (fun F1 h1 => (va_runV (As := [.int x3_3]) (rest := []) ⟨hx, hb, hml, hown, hts⟩ (kX4_refuseLong l E hD x3_3 σ_1 F1 h1) (cwV 1 hts (gU_V u_647 u_648 u_649 u_2 u_650) rfl rfl rfl q_X4_refuseLong ⟨Nat.le_of_ble_eq_true rfl, Nat.le_of_ble_eq_true rfl⟩) (z_preV hK hP hS (ci := 4) (q0 := 0) rfl rfl rfl) rfl rfl hl.1 rfl (lv_room (Nat.le_of_ble_eq_true rfl)) dX4_bestWorth_13 ⟨Nat.le_of_ble_eq_true rfl, Nat.le_of_ble_eq_true rfl⟩)) (fun r_8 σ_7 H locs hP hS hE => ?_)
  exact z_lret hx hb hr hlk hP hS dX4_bestWorth_16 hE
theorem kX4_bestWorth (l : Launch) (E : EN) (hD : ∀ σ, va_D (eA E) (xW E σ)) (x1 : Int32) (x2 : Int32) (σ : ST) (F : Int64 × ST) (hE : fX4_bestWorth x1 x2 σ = some F) : Met l yX4_bestWorth wu_X4_bestWorth r_X4_bestWorth (zPc E xW [.ref (ea E 0), .int x1, .int x2] σ) (zQl E xW F) 0 0 (eA E) := by
  refine Met.ofW (cc := cX4_bestWorth) (maxL := 4) (ret := (some .long)) (by decide) rfl ?_
  intro p e s m args below meth c s₁ B hml hv
  obtain ⟨rfl, hP, hK⟩ := hv
  have hl := lv_entry ([.ref (ea E 0), .int x1, .int x2]) (n := 4) (Nat.le_of_ble_eq_true rfl)
  rw [lg_entry_eq]
  generalize (lg_sl ([.ref (ea E 0), .int x1, .int x2]) ++ List.replicate (4 - (lg_sl ([.ref (ea E 0), .int x1, .int x2])).length) Slot.unset).toArray = ls at hl ⊢
  exact wX4_bestWorth ⟨B.exec, B.bytes, hml, findClass_of_methodNamed B.named, fun w h => atoms_spec (ws := wu_X4_bestWorth) B.pre w (List.mem_cons_of_mem _ h), B.returns, B.notSynchronized, hK, hD⟩ x1 x2 σ s.heap [] ls hl hP va_S.rf hE
def fX4_sure_L28 (ke : Int32 → ST → Option (Int32 × ST)) : Nat → Int32 → Int32 → ST → Option (Int32 × ST)
  | 0, _, _, _ => none
  | n + 1, x1, x2, σ => (if (gI σ 5) ≤ x2 then ke x1 σ else ast σ 44 5 0 x2 (fun σ_4 => calv (fX3_goBy_51 1 σ_4) (fun σ_5 => (if (lg_cmp (gL σ_5 0) 1000000000000) = 0 then bnd ((x1 ||| (gI σ_5 26)) : Int32) (fun x1_7 => bnd (x2 + 1) (fun x2_8 => fX4_sure_L28 ke n x1_7 x2_8 σ_5)) else bnd (x2 + 1) (fun x2_6 => fX4_sure_L28 ke n x1 x2_6 σ_5)))))
set_option maxHeartbeats 4000000 in
set_option maxRecDepth 100000 in
theorem wX4_sure_L28 {p : Program} {l : Launch} {e : Env} {s : State} {m : MethodId} {args : Array Value} {below : List Frame} {meth : Method} {c : Code} {E : EN} (C : zC E xW p s m args meth c cX4_sure 3 RX4 (some .int) wsL_law) {F : Int32 × ST} {ke : Int32 → ST → Option (Int32 × ST)} (hke : ∀ (x1 : Int32) (σ : ST) (H : Heap) (locs : List Loc) (ls : Array Slot), lv_has ls 3 [(1, .int x1)] → va_P (eD E) vwCl (xW E σ) H → va_S (eA E) s.heap H locs → ke x1 σ = some F → zWi E xW p l e r_X4_sure s m args below meth c F H locs (F0 m 88 ls [])) : ∀ (n : Nat) (x1 : Int32) (x2 : Int32) (σ : ST) (H : Heap) (locs : List Loc) (ls : Array Slot), lv_has ls 3 [(0, .ref (ea E 0)), (1, .int x1), (2, .int x2)] → va_P (eD E) vwCl (xW E σ) H → va_S (eA E) s.heap H locs → fX4_sure_L28 ke n x1 x2 σ = some F → zWi E xW p l e r_X4_sure s m args below meth c F H locs (F0 m 28 ls []) := by
  obtain ⟨hx, hb, hml, hown, hts, hr, hlk, hK, hD⟩ := id C
  have hwX2 : ∀ w ∈ wsX20, w.before args s = true := fun w h => hts w (inlX2 w h)
  have hwX3 : ∀ w ∈ wsX30, w.before args s = true := fun w h => hts w (inlX3 w h)
  have hwX4 : ∀ w ∈ wsX40, w.before args s = true := fun w h => hts w (inlX4 w h)
  intro n
  induction n with
  | zero => intro x1 x2 σ H locs ls hl hP hS hE; rw [fX4_sure_L28] at hE; cases hE
  | succ n ih =>
    intro x1 x2 σ H locs ls hl hP hS hE
    rw [fX4_sure_L28] at hE
    refine lv_iload_n hx hb dX4_sure_28 rfl (lv_at hl 2 rfl) ?_
    refine lv_aload_n hx hb dX4_sure_29 rfl (lv_at hl 0 rfl) ?_
    refine xg_0_1 hx hb hown hwX4 (hts _ u_17) hK hP dX4_sure_30 ?_
    refine xg_4_13 hx hb hown hwX2 (hts _ u_446) hK hP dX4_sure_33 ?_
    refine z_icmp_ge (tgt := 88) hx hb dX4_sure_36 (by decide) hE (fun hE => ?_) (fun hE => ?_)
    · exact hke x1 σ _ _ _ (lv_sub hl [1] rfl) hP hS hE
    refine lv_aload_n hx hb dX4_sure_39 rfl (lv_at hl 0 rfl) ?_
    refine xg_0_7 hx hb hown hwX4 (hts _ u_31) hK hP dX4_sure_40 ?_
    refine lv_iconst (v := 0) hx hb dX4_sure_43 (by decide) ?_
    refine lv_iload_n hx hb dX4_sure_44 rfl (lv_at hl 2 rfl) ?_
    refine xs_51 hx hb hK hD hP hS dX4_sure_45 hE (fun σ_4 H locs hP hS hE => ?_)
    refine lv_aload_n hx hb dX4_sure_46 rfl (lv_at hl 0 rfl) ?_
    refine xg_0_0 hx hb hown hwX4 (hts _ u_15) hK hP dX4_sure_47 ?_
    refine lv_aload_n hx hb dX4_sure_50 rfl (lv_at hl 0 rfl) ?_
    refine xg_0_7 hx hb hown hwX4 (hts _ u_31) hK hP dX4_sure_51 ?_
    refine lv_iconst (v := 1) hx hb dX4_sure_54 (by decide) ?_
    refine z_gov (wf := xW) hS hE (fun F1 h1 => (va_runV (As := [.ref (ea E 51), .int 1]) (rest := []) ⟨hx, hb, hml, hown, hts⟩ (kX3_goBy_51 l E hD 1 σ_4 F1 h1) (cwV 2 hts (gU_V u_543 u_544 u_545 u_14 u_546) rfl rfl rfl q_X3_goBy ⟨Nat.le_of_ble_eq_true rfl, Nat.le_of_ble_eq_true rfl⟩) (z_preV hK hP hS (ci := 3) (q0 := 1) rfl rfl rfl) rfl rfl hl.1 rfl (lv_room (Nat.le_of_ble_eq_true rfl)) dX4_sure_55 ⟨Nat.le_of_ble_eq_true rfl, Nat.le_of_ble_eq_true rfl⟩)) (fun σ_5 H locs hP hS hE => ?_)
    refine lv_aload_n hx hb dX4_sure_58 rfl (lv_at hl 0 rfl) ?_
    refine xg_0_0 hx hb hown hwX4 (hts _ u_15) hK hP dX4_sure_59 ?_
    refine xg_1_13 hx hb hown hwX3 (hts _ u_642) hK hP dX4_sure_62 ?_
    refine lv_ldc2 (v := 1000000000000) hx hb hown (hts _ u_655) dX4_sure_65 ?_
    refine W.lcmp hx hb dX4_sure_68 ?_
    refine z_if_ne (tgt := 82) hx hb dX4_sure_69 (by decide) hE (fun hE => ?_) (fun hE => ?_)
    · refine z_iinc hx hb (v := (x2 + 1)) (k := 2) (fun x2_6 => [(2, .int x2_6), (0, .ref (ea E 0)), (1, .int x1)]) dX4_sure_82 hl rfl (by rfl) (by decide) rfl hE (fun x2_6 ls hl hE => ?_)
      refine lv_goto (tgt := 28) hx hb dX4_sure_85 (by decide) ?_
      exact ih x1 x2_6 σ_5 _ _ _ (lv_sub hl [1, 2, 0] rfl) hP hS hE
    refine lv_iload_n hx hb dX4_sure_72 rfl (lv_at hl 1 rfl) ?_
    refine lv_aload_n hx hb dX4_sure_73 rfl (lv_at hl 0 rfl) ?_
    refine xg_0_0 hx hb hown hwX4 (hts _ u_15) hK hP dX4_sure_74 ?_
    refine xg_1_11 hx hb hown hwX3 (hts _ u_519) hK hP dX4_sure_77 ?_
    refine lv_ior hx hb dX4_sure_80 ?_
    refine z_istore_n hx hb (fun x1_7 => [(1, .int x1_7), (0, .ref (ea E 0)), (2, .int x2)]) dX4_sure_81 rfl hl (by decide) rfl hE (fun x1_7 ls hl hE => ?_)
    refine z_iinc hx hb (v := (x2 + 1)) (k := 2) (fun x2_8 => [(2, .int x2_8), (1, .int x1_7), (0, .ref (ea E 0))]) dX4_sure_82 hl rfl (by rfl) (by decide) rfl hE (fun x2_8 ls hl hE => ?_)
    refine lv_goto (tgt := 28) hx hb dX4_sure_85 (by decide) ?_
    exact ih x1_7 x2_8 σ_5 _ _ _ (lv_sub hl [2, 1, 0] rfl) hP hS hE
def fX4_sure   (σ : ST) : Option (Int32 × ST) :=
  (if (gI σ 3) = 0 then cali (fX4_refuse (-3) σ) (fun r_12 σ_11 => some (r_12, σ_11)) else calv (fX3_supposeAsItIs σ) (fun σ_1 => bnd (0 : Int32) (fun x1_2 => bnd (0 : Int32) (fun x2_3 => fX4_sure_L28 (fun x1_9 σ_10 => some (x1_9, σ_10)) FU x1_2 x2_3 σ_1))))
set_option maxHeartbeats 4000000 in
set_option maxRecDepth 100000 in
theorem wX4_sure {p : Program} {l : Launch} {e : Env} {s : State} {m : MethodId} {args : Array Value} {below : List Frame} {meth : Method} {c : Code} {E : EN} (C : zC E xW p s m args meth c cX4_sure 3 RX4 (some .int) wsL_law) {F : Int32 × ST}    (σ : ST) (H : Heap) (locs : List Loc) (ls : Array Slot) (hl : lv_has ls 3 [(0, .ref (ea E 0))]) (hP : va_P (eD E) vwCl (xW E σ) H) (hS : va_S (eA E) s.heap H locs) (hE : fX4_sure   σ = some F) : zWi E xW p l e r_X4_sure s m args below meth c F H locs (F0 m 0 ls []) := by
  obtain ⟨hx, hb, hml, hown, hts, hr, hlk, hK, hD⟩ := id C
  have hwX2 : ∀ w ∈ wsX20, w.before args s = true := fun w h => hts w (inlX2 w h)
  have hwX4 : ∀ w ∈ wsX40, w.before args s = true := fun w h => hts w (inlX4 w h)
  unfold fX4_sure at hE
  refine lv_aload_n hx hb dX4_sure_0 rfl (lv_at hl 0 rfl) ?_
  refine xg_0_1 hx hb hown hwX4 (hts _ u_17) hK hP dX4_sure_1 ?_
  refine xg_4_11 hx hb hown hwX2 (hts _ u_387) hK hP dX4_sure_4 ?_
  refine z_if_ne (tgt := 17) hx hb dX4_sure_7 (by decide) hE (fun hE => ?_) (fun hE => ?_)
  · refine lv_aload_n hx hb dX4_sure_17 rfl (lv_at hl 0 rfl) ?_
    refine xg_0_0 hx hb hown hwX4 (hts _ u_15) hK hP dX4_sure_18 ?_
    refine z_gov (wf := xW) hS hE (fun F1 h1 => (va_runV (As := []) (rest := []) ⟨hx, hb, hml, hown, hts⟩ (kX3_supposeAsItIs l E hD  σ F1 h1) (cwV 0 hts (gU_V u_525 u_526 u_527 u_14 u_528) rfl rfl rfl q_X3_supposeAsItIs ⟨Nat.le_of_ble_eq_true rfl, Nat.le_of_ble_eq_true rfl⟩) (z_preV hK hP hS (ci := 3) (q0 := 1) rfl rfl rfl) rfl rfl hl.1 rfl (lv_room (Nat.le_of_ble_eq_true rfl)) dX4_sure_21 ⟨Nat.le_of_ble_eq_true rfl, Nat.le_of_ble_eq_true rfl⟩)) (fun σ_1 H locs hP hS hE => ?_)
    refine lv_iconst (v := 0) hx hb dX4_sure_24 (by decide) ?_
    refine z_istore_n hx hb (fun x1_2 => [(1, .int x1_2), (0, .ref (ea E 0))]) dX4_sure_25 rfl hl (by decide) rfl hE (fun x1_2 ls hl hE => ?_)
    refine lv_iconst (v := 0) hx hb dX4_sure_26 (by decide) ?_
    refine z_istore_n hx hb (fun x2_3 => [(2, .int x2_3), (1, .int x1_2), (0, .ref (ea E 0))]) dX4_sure_27 rfl hl (by decide) rfl hE (fun x2_3 ls hl hE => ?_)
    refine wX4_sure_L28 C ?_ FU x1_2 x2_3 σ_1 _ _ _ (lv_sub hl [2, 1, 0] rfl) hP hS hE
    intro x1_9 σ_10 H locs ls hl hP hS hE
    refine lv_iload_n hx hb dX4_sure_88 rfl (lv_at hl 0 rfl) ?_
    exact z_iret hx hb hr hlk hP hS dX4_sure_89 hE
  refine lv_aload_n hx hb dX4_sure_10 rfl (lv_at hl 0 rfl) ?_
  refine lv_bipush (v := -3) hx hb dX4_sure_11 (by decide) ?_
  refine z_goi (wf := xW) hS hE (fun F1 h1 => (va_runV (As := [.int (-3)]) (rest := []) ⟨hx, hb, hml, hown, hts⟩ (kX4_refuse l E hD (-3) σ F1 h1) (cwV 1 hts (gU_V u_118 u_119 u_120 u_2 u_121) rfl rfl rfl q_X4_refuse ⟨Nat.le_of_ble_eq_true rfl, Nat.le_of_ble_eq_true rfl⟩) (z_preV hK hP hS (ci := 4) (q0 := 0) rfl rfl rfl) rfl rfl hl.1 rfl (lv_room (Nat.le_of_ble_eq_true rfl)) dX4_sure_13 ⟨Nat.le_of_ble_eq_true rfl, Nat.le_of_ble_eq_true rfl⟩)) (fun r_12 σ_11 H locs hP hS hE => ?_)
  exact z_iret hx hb hr hlk hP hS dX4_sure_16 hE
theorem kX4_sure (l : Launch) (E : EN) (hD : ∀ σ, va_D (eA E) (xW E σ))  (σ : ST) (F : Int32 × ST) (hE : fX4_sure  σ = some F) : Met l yX4_sure wu_X4_sure r_X4_sure (zPc E xW [.ref (ea E 0)] σ) (zQi E xW F) 0 0 (eA E) := by
  refine Met.ofW (cc := cX4_sure) (maxL := 3) (ret := (some .int)) (by decide) rfl ?_
  intro p e s m args below meth c s₁ B hml hv
  obtain ⟨rfl, hP, hK⟩ := hv
  have hl := lv_entry ([.ref (ea E 0)]) (n := 3) (Nat.le_of_ble_eq_true rfl)
  rw [lg_entry_eq]
  generalize (lg_sl ([.ref (ea E 0)]) ++ List.replicate (3 - (lg_sl ([.ref (ea E 0)])).length) Slot.unset).toArray = ls at hl ⊢
  exact wX4_sure ⟨B.exec, B.bytes, hml, findClass_of_methodNamed B.named, fun w h => atoms_spec (ws := wu_X4_sure) B.pre w (List.mem_cons_of_mem _ h), B.returns, B.notSynchronized, hK, hD⟩  σ s.heap [] ls hl hP va_S.rf hE
def fX4_bestDriver_L38 (ke : Int32 → ST → Option (Int32 × ST)) : Nat → Int32 → Int32 → Int64 → Int32 → ST → Option (Int32 × ST)
  | 0, _, _, _, _, _ => none
  | n + 1, x1, x2, x3, x5, σ => (if 5 < x5 then ke x2 σ else bnd (sI σ 23 x5) (fun σ_8 => calv (fX3_goBy_51 x1 σ_8) (fun σ_9 => (if x5 = 0 then bnd (x5 : Int32) (fun x2_10 => bnd ((gL σ_9 1) : Int64) (fun x3_11 => bnd (x5 + 1) (fun x5_12 => fX4_bestDriver_L38 ke n x1 x2_10 x3_11 x5_12 σ_9))) else (if (lg_cmp (gL σ_9 1) x3) ≤ 0 then bnd (x5 + 1) (fun x5_13 => fX4_bestDriver_L38 ke n x1 x2 x3 x5_13 σ_9) else bnd (x5 : Int32) (fun x2_14 => bnd ((gL σ_9 1) : Int64) (fun x3_15 => bnd (x5 + 1) (fun x5_16 => fX4_bestDriver_L38 ke n x1 x2_14 x3_15 x5_16 σ_9))))))))
set_option maxHeartbeats 4000000 in
set_option maxRecDepth 100000 in
theorem wX4_bestDriver_L38 {p : Program} {l : Launch} {e : Env} {s : State} {m : MethodId} {args : Array Value} {below : List Frame} {meth : Method} {c : Code} {E : EN} (C : zC E xW p s m args meth c cX4_bestDriver 6 RX4 (some .int) wsL_law) {F : Int32 × ST} {ke : Int32 → ST → Option (Int32 × ST)} (hke : ∀ (x2 : Int32) (σ : ST) (H : Heap) (locs : List Loc) (ls : Array Slot), lv_has ls 6 [(2, .int x2)] → va_P (eD E) vwCl (xW E σ) H → va_S (eA E) s.heap H locs → ke x2 σ = some F → zWi E xW p l e r_X4_bestDriver s m args below meth c F H locs (F0 m 99 ls [])) : ∀ (n : Nat) (x1 : Int32) (x2 : Int32) (x3 : Int64) (x5 : Int32) (σ : ST) (H : Heap) (locs : List Loc) (ls : Array Slot), lv_has ls 6 [(0, .ref (ea E 0)), (1, .int x1), (2, .int x2), (3, .long x3), (5, .int x5)] → va_P (eD E) vwCl (xW E σ) H → va_S (eA E) s.heap H locs → fX4_bestDriver_L38 ke n x1 x2 x3 x5 σ = some F → zWi E xW p l e r_X4_bestDriver s m args below meth c F H locs (F0 m 38 ls []) := by
  obtain ⟨hx, hb, hml, hown, hts, hr, hlk, hK, hD⟩ := id C
  have hwX3 : ∀ w ∈ wsX30, w.before args s = true := fun w h => hts w (inlX3 w h)
  have hwX4 : ∀ w ∈ wsX40, w.before args s = true := fun w h => hts w (inlX4 w h)
  intro n
  induction n with
  | zero => intro x1 x2 x3 x5 σ H locs ls hl hP hS hE; rw [fX4_bestDriver_L38] at hE; cases hE
  | succ n ih =>
    intro x1 x2 x3 x5 σ H locs ls hl hP hS hE
    rw [fX4_bestDriver_L38] at hE
    refine lv_iload hx hb dX4_bestDriver_38 (lv_at hl 4 rfl) ?_
    refine lv_iconst (v := 5) hx hb dX4_bestDriver_40 (by decide) ?_
    refine z_icmp_gt (tgt := 99) hx hb dX4_bestDriver_41 (by decide) hE (fun hE => ?_) (fun hE => ?_)
    · exact hke x2 σ _ _ _ (lv_sub hl [2] rfl) hP hS hE
    refine lv_aload_n hx hb dX4_bestDriver_44 rfl (lv_at hl 0 rfl) ?_
    refine xg_0_0 hx hb hown hwX4 (hts _ u_15) hK hP dX4_bestDriver_45 ?_
    refine lv_iload hx hb dX4_bestDriver_48 (lv_at hl 4 rfl) ?_
    refine xp_1_8 hx hb hown hwX3 (hts _ u_772) hK hD hP hS dX4_bestDriver_50 hE (fun σ_8 H locs hP hS hE => ?_)
    refine lv_aload_n hx hb dX4_bestDriver_53 rfl (lv_at hl 0 rfl) ?_
    refine xg_0_0 hx hb hown hwX4 (hts _ u_15) hK hP dX4_bestDriver_54 ?_
    refine lv_aload_n hx hb dX4_bestDriver_57 rfl (lv_at hl 0 rfl) ?_
    refine xg_0_7 hx hb hown hwX4 (hts _ u_31) hK hP dX4_bestDriver_58 ?_
    refine lv_iload_n hx hb dX4_bestDriver_61 rfl (lv_at hl 1 rfl) ?_
    refine z_gov (wf := xW) hS hE (fun F1 h1 => (va_runV (As := [.ref (ea E 51), .int x1]) (rest := []) ⟨hx, hb, hml, hown, hts⟩ (kX3_goBy_51 l E hD x1 σ_8 F1 h1) (cwV 2 hts (gU_V u_543 u_544 u_545 u_14 u_546) rfl rfl rfl q_X3_goBy ⟨Nat.le_of_ble_eq_true rfl, Nat.le_of_ble_eq_true rfl⟩) (z_preV hK hP hS (ci := 3) (q0 := 1) rfl rfl rfl) rfl rfl hl.1 rfl (lv_room (Nat.le_of_ble_eq_true rfl)) dX4_bestDriver_62 ⟨Nat.le_of_ble_eq_true rfl, Nat.le_of_ble_eq_true rfl⟩)) (fun σ_9 H locs hP hS hE => ?_)
    refine lv_iload hx hb dX4_bestDriver_65 (lv_at hl 4 rfl) ?_
    refine z_if_eq (tgt := 82) hx hb dX4_bestDriver_67 (by decide) hE (fun hE => ?_) (fun hE => ?_)
    · refine lv_iload hx hb dX4_bestDriver_82 (lv_at hl 4 rfl) ?_
      refine z_istore_n hx hb (fun x2_10 => [(2, .int x2_10), (0, .ref (ea E 0)), (1, .int x1), (3, .long x3), (5, .int x5)]) dX4_bestDriver_84 rfl hl (by decide) rfl hE (fun x2_10 ls hl hE => ?_)
      refine lv_aload_n hx hb dX4_bestDriver_85 rfl (lv_at hl 1 rfl) ?_
      refine xg_0_0 hx hb hown hwX4 (hts _ u_15) hK hP dX4_bestDriver_86 ?_
      refine xg_1_14 hx hb hown hwX3 (hts _ u_680) hK hP dX4_bestDriver_89 ?_
      refine z_lstore_n hx hb (fun x3_11 => [(3, .long x3_11), (2, .int x2_10), (0, .ref (ea E 0)), (1, .int x1), (5, .int x5)]) dX4_bestDriver_92 rfl hl (by decide) rfl hE (fun x3_11 ls hl hE => ?_)
      refine z_iinc hx hb (v := (x5 + 1)) (k := 4) (fun x5_12 => [(5, .int x5_12), (3, .long x3_11), (2, .int x2_10), (0, .ref (ea E 0)), (1, .int x1)]) dX4_bestDriver_93 hl rfl (by rfl) (by decide) rfl hE (fun x5_12 ls hl hE => ?_)
      refine lv_goto (tgt := 38) hx hb dX4_bestDriver_96 (by decide) ?_
      exact ih x1 x2_10 x3_11 x5_12 σ_9 _ _ _ (lv_sub hl [3, 4, 2, 1, 0] rfl) hP hS hE
    refine lv_aload_n hx hb dX4_bestDriver_70 rfl (lv_at hl 0 rfl) ?_
    refine xg_0_0 hx hb hown hwX4 (hts _ u_15) hK hP dX4_bestDriver_71 ?_
    refine xg_1_14 hx hb hown hwX3 (hts _ u_680) hK hP dX4_bestDriver_74 ?_
    refine lv_lload_n hx hb dX4_bestDriver_77 rfl (lv_at hl 3 rfl) ?_
    refine W.lcmp hx hb dX4_bestDriver_78 ?_
    refine z_if_le (tgt := 93) hx hb dX4_bestDriver_79 (by decide) hE (fun hE => ?_) (fun hE => ?_)
    · refine z_iinc hx hb (v := (x5 + 1)) (k := 4) (fun x5_13 => [(5, .int x5_13), (0, .ref (ea E 0)), (1, .int x1), (2, .int x2), (3, .long x3)]) dX4_bestDriver_93 hl rfl (by rfl) (by decide) rfl hE (fun x5_13 ls hl hE => ?_)
      refine lv_goto (tgt := 38) hx hb dX4_bestDriver_96 (by decide) ?_
      exact ih x1 x2 x3 x5_13 σ_9 _ _ _ (lv_sub hl [1, 2, 3, 4, 0] rfl) hP hS hE
    refine lv_iload hx hb dX4_bestDriver_82 (lv_at hl 4 rfl) ?_
    refine z_istore_n hx hb (fun x2_14 => [(2, .int x2_14), (0, .ref (ea E 0)), (1, .int x1), (3, .long x3), (5, .int x5)]) dX4_bestDriver_84 rfl hl (by decide) rfl hE (fun x2_14 ls hl hE => ?_)
    refine lv_aload_n hx hb dX4_bestDriver_85 rfl (lv_at hl 1 rfl) ?_
    refine xg_0_0 hx hb hown hwX4 (hts _ u_15) hK hP dX4_bestDriver_86 ?_
    refine xg_1_14 hx hb hown hwX3 (hts _ u_680) hK hP dX4_bestDriver_89 ?_
    refine z_lstore_n hx hb (fun x3_15 => [(3, .long x3_15), (2, .int x2_14), (0, .ref (ea E 0)), (1, .int x1), (5, .int x5)]) dX4_bestDriver_92 rfl hl (by decide) rfl hE (fun x3_15 ls hl hE => ?_)
    refine z_iinc hx hb (v := (x5 + 1)) (k := 4) (fun x5_16 => [(5, .int x5_16), (3, .long x3_15), (2, .int x2_14), (0, .ref (ea E 0)), (1, .int x1)]) dX4_bestDriver_93 hl rfl (by rfl) (by decide) rfl hE (fun x5_16 ls hl hE => ?_)
    refine lv_goto (tgt := 38) hx hb dX4_bestDriver_96 (by decide) ?_
    exact ih x1 x2_14 x3_15 x5_16 σ_9 _ _ _ (lv_sub hl [3, 4, 2, 1, 0] rfl) hP hS hE
def fX4_bestDriver   (σ : ST) : Option (Int32 × ST) :=
  (if (gI σ 3) = 0 then cali (fX4_refuse (-3) σ) (fun r_20 σ_19 => some (r_20, σ_19)) else cali (fX4_orderOfRow (-9) σ) (fun r_2 σ_1 => bnd (r_2 : Int32) (fun x1_3 => bnd (0 : Int32) (fun x2_4 => bnd (0 : Int64) (fun x3_5 => calv (fX3_supposeAsItIs σ_1) (fun σ_6 => bnd (0 : Int32) (fun x5_7 => fX4_bestDriver_L38 (fun x2_17 σ_18 => some (x2_17, σ_18)) FU x1_3 x2_4 x3_5 x5_7 σ_6)))))))
set_option maxHeartbeats 4000000 in
set_option maxRecDepth 100000 in
theorem wX4_bestDriver {p : Program} {l : Launch} {e : Env} {s : State} {m : MethodId} {args : Array Value} {below : List Frame} {meth : Method} {c : Code} {E : EN} (C : zC E xW p s m args meth c cX4_bestDriver 6 RX4 (some .int) wsL_law) {F : Int32 × ST}    (σ : ST) (H : Heap) (locs : List Loc) (ls : Array Slot) (hl : lv_has ls 6 [(0, .ref (ea E 0))]) (hP : va_P (eD E) vwCl (xW E σ) H) (hS : va_S (eA E) s.heap H locs) (hE : fX4_bestDriver   σ = some F) : zWi E xW p l e r_X4_bestDriver s m args below meth c F H locs (F0 m 0 ls []) := by
  obtain ⟨hx, hb, hml, hown, hts, hr, hlk, hK, hD⟩ := id C
  have hwX2 : ∀ w ∈ wsX20, w.before args s = true := fun w h => hts w (inlX2 w h)
  have hwX4 : ∀ w ∈ wsX40, w.before args s = true := fun w h => hts w (inlX4 w h)
  unfold fX4_bestDriver at hE
  refine lv_aload_n hx hb dX4_bestDriver_0 rfl (lv_at hl 0 rfl) ?_
  refine xg_0_1 hx hb hown hwX4 (hts _ u_17) hK hP dX4_bestDriver_1 ?_
  refine xg_4_11 hx hb hown hwX2 (hts _ u_387) hK hP dX4_bestDriver_4 ?_
  refine z_if_ne (tgt := 17) hx hb dX4_bestDriver_7 (by decide) hE (fun hE => ?_) (fun hE => ?_)
  · refine lv_aload_n hx hb dX4_bestDriver_17 rfl (lv_at hl 0 rfl) ?_
    refine lv_bipush (v := -9) hx hb dX4_bestDriver_18 (by decide) ?_
    refine z_goi (wf := xW) hS hE (fun F1 h1 => (va_runV (As := [.int (-9)]) (rest := []) ⟨hx, hb, hml, hown, hts⟩ (kX4_orderOfRow l E hD (-9) σ F1 h1) (cwV 1 hts (gU_V u_539 u_540 u_541 u_2 u_542) rfl rfl rfl q_X4_orderOfRow ⟨Nat.le_of_ble_eq_true rfl, Nat.le_of_ble_eq_true rfl⟩) (z_preV hK hP hS (ci := 4) (q0 := 0) rfl rfl rfl) rfl rfl hl.1 rfl (lv_room (Nat.le_of_ble_eq_true rfl)) dX4_bestDriver_20 ⟨Nat.le_of_ble_eq_true rfl, Nat.le_of_ble_eq_true rfl⟩)) (fun r_2 σ_1 H locs hP hS hE => ?_)
    refine z_istore_n hx hb (fun x1_3 => [(1, .int x1_3), (0, .ref (ea E 0))]) dX4_bestDriver_23 rfl hl (by decide) rfl hE (fun x1_3 ls hl hE => ?_)
    refine lv_iconst (v := 0) hx hb dX4_bestDriver_24 (by decide) ?_
    refine z_istore_n hx hb (fun x2_4 => [(2, .int x2_4), (1, .int x1_3), (0, .ref (ea E 0))]) dX4_bestDriver_25 rfl hl (by decide) rfl hE (fun x2_4 ls hl hE => ?_)
    refine lv_lconst (v := 0) hx hb dX4_bestDriver_26 (by decide) ?_
    refine z_lstore_n hx hb (fun x3_5 => [(3, .long x3_5), (2, .int x2_4), (1, .int x1_3), (0, .ref (ea E 0))]) dX4_bestDriver_27 rfl hl (by decide) rfl hE (fun x3_5 ls hl hE => ?_)
    refine lv_aload_n hx hb dX4_bestDriver_28 rfl (lv_at hl 3 rfl) ?_
    refine xg_0_0 hx hb hown hwX4 (hts _ u_15) hK hP dX4_bestDriver_29 ?_
    refine z_gov (wf := xW) hS hE (fun F1 h1 => (va_runV (As := []) (rest := []) ⟨hx, hb, hml, hown, hts⟩ (kX3_supposeAsItIs l E hD  σ_1 F1 h1) (cwV 0 hts (gU_V u_525 u_526 u_527 u_14 u_528) rfl rfl rfl q_X3_supposeAsItIs ⟨Nat.le_of_ble_eq_true rfl, Nat.le_of_ble_eq_true rfl⟩) (z_preV hK hP hS (ci := 3) (q0 := 1) rfl rfl rfl) rfl rfl hl.1 rfl (lv_room (Nat.le_of_ble_eq_true rfl)) dX4_bestDriver_32 ⟨Nat.le_of_ble_eq_true rfl, Nat.le_of_ble_eq_true rfl⟩)) (fun σ_6 H locs hP hS hE => ?_)
    refine lv_iconst (v := 0) hx hb dX4_bestDriver_35 (by decide) ?_
    refine z_istore hx hb (fun x5_7 => [(5, .int x5_7), (3, .long x3_5), (2, .int x2_4), (1, .int x1_3), (0, .ref (ea E 0))]) dX4_bestDriver_36 hl (by decide) rfl hE (fun x5_7 ls hl hE => ?_)
    refine wX4_bestDriver_L38 C ?_ FU x1_3 x2_4 x3_5 x5_7 σ_6 _ _ _ (lv_sub hl [4, 3, 2, 1, 0] rfl) hP hS hE
    intro x2_17 σ_18 H locs ls hl hP hS hE
    refine lv_iload_n hx hb dX4_bestDriver_99 rfl (lv_at hl 0 rfl) ?_
    exact z_iret hx hb hr hlk hP hS dX4_bestDriver_100 hE
  refine lv_aload_n hx hb dX4_bestDriver_10 rfl (lv_at hl 0 rfl) ?_
  refine lv_bipush (v := -3) hx hb dX4_bestDriver_11 (by decide) ?_
  refine z_goi (wf := xW) hS hE (fun F1 h1 => (va_runV (As := [.int (-3)]) (rest := []) ⟨hx, hb, hml, hown, hts⟩ (kX4_refuse l E hD (-3) σ F1 h1) (cwV 1 hts (gU_V u_118 u_119 u_120 u_2 u_121) rfl rfl rfl q_X4_refuse ⟨Nat.le_of_ble_eq_true rfl, Nat.le_of_ble_eq_true rfl⟩) (z_preV hK hP hS (ci := 4) (q0 := 0) rfl rfl rfl) rfl rfl hl.1 rfl (lv_room (Nat.le_of_ble_eq_true rfl)) dX4_bestDriver_13 ⟨Nat.le_of_ble_eq_true rfl, Nat.le_of_ble_eq_true rfl⟩)) (fun r_20 σ_19 H locs hP hS hE => ?_)
  exact z_iret hx hb hr hlk hP hS dX4_bestDriver_16 hE
theorem kX4_bestDriver (l : Launch) (E : EN) (hD : ∀ σ, va_D (eA E) (xW E σ))  (σ : ST) (F : Int32 × ST) (hE : fX4_bestDriver  σ = some F) : Met l yX4_bestDriver wu_X4_bestDriver r_X4_bestDriver (zPc E xW [.ref (ea E 0)] σ) (zQi E xW F) 0 0 (eA E) := by
  refine Met.ofW (cc := cX4_bestDriver) (maxL := 6) (ret := (some .int)) (by decide) rfl ?_
  intro p e s m args below meth c s₁ B hml hv
  obtain ⟨rfl, hP, hK⟩ := hv
  have hl := lv_entry ([.ref (ea E 0)]) (n := 6) (Nat.le_of_ble_eq_true rfl)
  rw [lg_entry_eq]
  generalize (lg_sl ([.ref (ea E 0)]) ++ List.replicate (6 - (lg_sl ([.ref (ea E 0)])).length) Slot.unset).toArray = ls at hl ⊢
  exact wX4_bestDriver ⟨B.exec, B.bytes, hml, findClass_of_methodNamed B.named, fun w h => atoms_spec (ws := wu_X4_bestDriver) B.pre w (List.mem_cons_of_mem _ h), B.returns, B.notSynchronized, hK, hD⟩  σ s.heap [] ls hl hP va_S.rf hE
def fX4_leftOut_L35 (ke : Int32 → ST → Option (Int32 × ST)) : Nat → Int32 → Int64 → Int32 → ST → Option (Int32 × ST)
  | 0, _, _, _, _ => none
  | n + 1, x1, x2, x4, σ => (if (gI σ 0) ≤ x4 then ke x1 σ else ald (gA σ 43) 10 x4 (fun v_5 => cali (fX4_orderOfRow v_5 σ) (fun r_7 σ_6 => calv (fX3_goBy_51 r_7 σ_6) (fun σ_8 => (if (lg_cmp (gL σ_8 1) x2) ≤ 0 then bnd (x4 + 1) (fun x4_9 => fX4_leftOut_L35 ke n x1 x2 x4_9 σ_8) else ald (gA σ_8 43) 10 x4 (fun v_10 => bnd (v_10 : Int32) (fun x1_11 => bnd ((gL σ_8 1) : Int64) (fun x2_12 => bnd (x4 + 1) (fun x4_13 => fX4_leftOut_L35 ke n x1_11 x2_12 x4_13 σ_8)))))))))
set_option maxHeartbeats 4000000 in
set_option maxRecDepth 100000 in
theorem wX4_leftOut_L35 {p : Program} {l : Launch} {e : Env} {s : State} {m : MethodId} {args : Array Value} {below : List Frame} {meth : Method} {c : Code} {E : EN} (C : zC E xW p s m args meth c cX4_leftOut 5 RX4 (some .int) wsL_law) {F : Int32 × ST} {ke : Int32 → ST → Option (Int32 × ST)} (hke : ∀ (x1 : Int32) (σ : ST) (H : Heap) (locs : List Loc) (ls : Array Slot), lv_has ls 5 [(1, .int x1)] → va_P (eD E) vwCl (xW E σ) H → va_S (eA E) s.heap H locs → ke x1 σ = some F → zWi E xW p l e r_X4_leftOut s m args below meth c F H locs (F0 m 100 ls [])) : ∀ (n : Nat) (x1 : Int32) (x2 : Int64) (x4 : Int32) (σ : ST) (H : Heap) (locs : List Loc) (ls : Array Slot), lv_has ls 5 [(0, .ref (ea E 0)), (1, .int x1), (2, .long x2), (4, .int x4)] → va_P (eD E) vwCl (xW E σ) H → va_S (eA E) s.heap H locs → fX4_leftOut_L35 ke n x1 x2 x4 σ = some F → zWi E xW p l e r_X4_leftOut s m args below meth c F H locs (F0 m 35 ls []) := by
  obtain ⟨hx, hb, hml, hown, hts, hr, hlk, hK, hD⟩ := id C
  have hwX3 : ∀ w ∈ wsX30, w.before args s = true := fun w h => hts w (inlX3 w h)
  have hwX4 : ∀ w ∈ wsX40, w.before args s = true := fun w h => hts w (inlX4 w h)
  intro n
  induction n with
  | zero => intro x1 x2 x4 σ H locs ls hl hP hS hE; rw [fX4_leftOut_L35] at hE; cases hE
  | succ n ih =>
    intro x1 x2 x4 σ H locs ls hl hP hS hE
    rw [fX4_leftOut_L35] at hE
    refine lv_iload hx hb dX4_leftOut_35 (lv_at hl 3 rfl) ?_
    refine lv_aload_n hx hb dX4_leftOut_37 rfl (lv_at hl 0 rfl) ?_
    refine xg_0_10 hx hb hown hwX4 (hts _ u_34) hK hP dX4_leftOut_38 ?_
    refine z_icmp_ge (tgt := 100) hx hb dX4_leftOut_41 (by decide) hE (fun hE => ?_) (fun hE => ?_)
    · exact hke x1 σ _ _ _ (lv_sub hl [1] rfl) hP hS hE
    refine lv_aload_n hx hb dX4_leftOut_44 rfl (lv_at hl 0 rfl) ?_
    refine xg_0_0 hx hb hown hwX4 (hts _ u_15) hK hP dX4_leftOut_45 ?_
    refine lv_aload_n hx hb dX4_leftOut_48 rfl (lv_at hl 0 rfl) ?_
    refine xg_0_7 hx hb hown hwX4 (hts _ u_31) hK hP dX4_leftOut_49 ?_
    refine lv_aload_n hx hb dX4_leftOut_52 rfl (lv_at hl 0 rfl) ?_
    refine lv_aload_n hx hb dX4_leftOut_53 rfl (lv_at hl 0 rfl) ?_
    refine xg_0_6 hx hb hown hwX4 (hts _ u_30) hK hP dX4_leftOut_54 ?_
    refine lv_iload hx hb dX4_leftOut_57 (lv_at hl 3 rfl) ?_
    refine xa_50 hx hb hK hP dX4_leftOut_59 hE (fun v_5 hE => ?_)
    refine z_goi (wf := xW) hS hE (fun F1 h1 => (va_runV (As := [.int v_5]) (rest := [.ref (ea E 51), .ref (ea E 1)]) ⟨hx, hb, hml, hown, hts⟩ (kX4_orderOfRow l E hD v_5 σ F1 h1) (cwV 1 hts (gU_V u_539 u_540 u_541 u_2 u_542) rfl rfl rfl q_X4_orderOfRow ⟨Nat.le_of_ble_eq_true rfl, Nat.le_of_ble_eq_true rfl⟩) (z_preV hK hP hS (ci := 4) (q0 := 0) rfl rfl rfl) rfl rfl hl.1 rfl (lv_room (Nat.le_of_ble_eq_true rfl)) dX4_leftOut_60 ⟨Nat.le_of_ble_eq_true rfl, Nat.le_of_ble_eq_true rfl⟩)) (fun r_7 σ_6 H locs hP hS hE => ?_)
    refine z_gov (wf := xW) hS hE (fun F1 h1 => (va_runV (As := [.ref (ea E 51), .int r_7]) (rest := []) ⟨hx, hb, hml, hown, hts⟩ (kX3_goBy_51 l E hD r_7 σ_6 F1 h1) (cwV 2 hts (gU_V u_543 u_544 u_545 u_14 u_546) rfl rfl rfl q_X3_goBy ⟨Nat.le_of_ble_eq_true rfl, Nat.le_of_ble_eq_true rfl⟩) (z_preV hK hP hS (ci := 3) (q0 := 1) rfl rfl rfl) rfl rfl hl.1 rfl (lv_room (Nat.le_of_ble_eq_true rfl)) dX4_leftOut_63 ⟨Nat.le_of_ble_eq_true rfl, Nat.le_of_ble_eq_true rfl⟩)) (fun σ_8 H locs hP hS hE => ?_)
    refine lv_aload_n hx hb dX4_leftOut_66 rfl (lv_at hl 0 rfl) ?_
    refine xg_0_0 hx hb hown hwX4 (hts _ u_15) hK hP dX4_leftOut_67 ?_
    refine xg_1_14 hx hb hown hwX3 (hts _ u_680) hK hP dX4_leftOut_70 ?_
    refine lv_lload_n hx hb dX4_leftOut_73 rfl (lv_at hl 2 rfl) ?_
    refine W.lcmp hx hb dX4_leftOut_74 ?_
    refine z_if_le (tgt := 94) hx hb dX4_leftOut_75 (by decide) hE (fun hE => ?_) (fun hE => ?_)
    · refine z_iinc hx hb (v := (x4 + 1)) (k := 3) (fun x4_9 => [(4, .int x4_9), (0, .ref (ea E 0)), (1, .int x1), (2, .long x2)]) dX4_leftOut_94 hl rfl (by rfl) (by decide) rfl hE (fun x4_9 ls hl hE => ?_)
      refine lv_goto (tgt := 35) hx hb dX4_leftOut_97 (by decide) ?_
      exact ih x1 x2 x4_9 σ_8 _ _ _ (lv_sub hl [1, 2, 3, 0] rfl) hP hS hE
    refine lv_aload_n hx hb dX4_leftOut_78 rfl (lv_at hl 0 rfl) ?_
    refine xg_0_6 hx hb hown hwX4 (hts _ u_30) hK hP dX4_leftOut_79 ?_
    refine lv_iload hx hb dX4_leftOut_82 (lv_at hl 3 rfl) ?_
    refine xa_50 hx hb hK hP dX4_leftOut_84 hE (fun v_10 hE => ?_)
    refine z_istore_n hx hb (fun x1_11 => [(1, .int x1_11), (0, .ref (ea E 0)), (2, .long x2), (4, .int x4)]) dX4_leftOut_85 rfl hl (by decide) rfl hE (fun x1_11 ls hl hE => ?_)
    refine lv_aload_n hx hb dX4_leftOut_86 rfl (lv_at hl 1 rfl) ?_
    refine xg_0_0 hx hb hown hwX4 (hts _ u_15) hK hP dX4_leftOut_87 ?_
    refine xg_1_14 hx hb hown hwX3 (hts _ u_680) hK hP dX4_leftOut_90 ?_
    refine z_lstore_n hx hb (fun x2_12 => [(2, .long x2_12), (1, .int x1_11), (0, .ref (ea E 0)), (4, .int x4)]) dX4_leftOut_93 rfl hl (by decide) rfl hE (fun x2_12 ls hl hE => ?_)
    refine z_iinc hx hb (v := (x4 + 1)) (k := 3) (fun x4_13 => [(4, .int x4_13), (2, .long x2_12), (1, .int x1_11), (0, .ref (ea E 0))]) dX4_leftOut_94 hl rfl (by rfl) (by decide) rfl hE (fun x4_13 ls hl hE => ?_)
    refine lv_goto (tgt := 35) hx hb dX4_leftOut_97 (by decide) ?_
    exact ih x1_11 x2_12 x4_13 σ_8 _ _ _ (lv_sub hl [3, 2, 1, 0] rfl) hP hS hE
def fX4_leftOut   (σ : ST) : Option (Int32 × ST) :=
  (if (gI σ 3) = 0 then cali (fX4_refuse (-3) σ) (fun r_17 σ_16 => some (r_17, σ_16)) else calv (fX4_goByRow σ) (fun σ_1 => bnd ((-9) : Int32) (fun x1_2 => bnd ((gL σ_1 1) : Int64) (fun x2_3 => bnd (0 : Int32) (fun x4_4 => fX4_leftOut_L35 (fun x1_14 σ_15 => some (x1_14, σ_15)) FU x1_2 x2_3 x4_4 σ_1)))))
set_option maxHeartbeats 4000000 in
set_option maxRecDepth 100000 in
theorem wX4_leftOut {p : Program} {l : Launch} {e : Env} {s : State} {m : MethodId} {args : Array Value} {below : List Frame} {meth : Method} {c : Code} {E : EN} (C : zC E xW p s m args meth c cX4_leftOut 5 RX4 (some .int) wsL_law) {F : Int32 × ST}    (σ : ST) (H : Heap) (locs : List Loc) (ls : Array Slot) (hl : lv_has ls 5 [(0, .ref (ea E 0))]) (hP : va_P (eD E) vwCl (xW E σ) H) (hS : va_S (eA E) s.heap H locs) (hE : fX4_leftOut   σ = some F) : zWi E xW p l e r_X4_leftOut s m args below meth c F H locs (F0 m 0 ls []) := by
  obtain ⟨hx, hb, hml, hown, hts, hr, hlk, hK, hD⟩ := id C
  have hwX2 : ∀ w ∈ wsX20, w.before args s = true := fun w h => hts w (inlX2 w h)
  have hwX3 : ∀ w ∈ wsX30, w.before args s = true := fun w h => hts w (inlX3 w h)
  have hwX4 : ∀ w ∈ wsX40, w.before args s = true := fun w h => hts w (inlX4 w h)
  unfold fX4_leftOut at hE
  refine lv_aload_n hx hb dX4_leftOut_0 rfl (lv_at hl 0 rfl) ?_
  refine xg_0_1 hx hb hown hwX4 (hts _ u_17) hK hP dX4_leftOut_1 ?_
  refine xg_4_11 hx hb hown hwX2 (hts _ u_387) hK hP dX4_leftOut_4 ?_
  refine z_if_ne (tgt := 17) hx hb dX4_leftOut_7 (by decide) hE (fun hE => ?_) (fun hE => ?_)
  · refine lv_aload_n hx hb dX4_leftOut_17 rfl (lv_at hl 0 rfl) ?_
    refine z_gov (wf := xW) hS hE (fun F1 h1 => (va_runV (As := []) (rest := []) ⟨hx, hb, hml, hown, hts⟩ (kX4_goByRow l E hD  σ F1 h1) (cwV 0 hts (gU_V u_521 u_522 u_523 u_2 u_524) rfl rfl rfl q_X4_goByRow ⟨Nat.le_of_ble_eq_true rfl, Nat.le_of_ble_eq_true rfl⟩) (z_preV hK hP hS (ci := 4) (q0 := 0) rfl rfl rfl) rfl rfl hl.1 rfl (lv_room (Nat.le_of_ble_eq_true rfl)) dX4_leftOut_18 ⟨Nat.le_of_ble_eq_true rfl, Nat.le_of_ble_eq_true rfl⟩)) (fun σ_1 H locs hP hS hE => ?_)
    refine lv_bipush (v := -9) hx hb dX4_leftOut_21 (by decide) ?_
    refine z_istore_n hx hb (fun x1_2 => [(1, .int x1_2), (0, .ref (ea E 0))]) dX4_leftOut_23 rfl hl (by decide) rfl hE (fun x1_2 ls hl hE => ?_)
    refine lv_aload_n hx hb dX4_leftOut_24 rfl (lv_at hl 1 rfl) ?_
    refine xg_0_0 hx hb hown hwX4 (hts _ u_15) hK hP dX4_leftOut_25 ?_
    refine xg_1_14 hx hb hown hwX3 (hts _ u_680) hK hP dX4_leftOut_28 ?_
    refine z_lstore_n hx hb (fun x2_3 => [(2, .long x2_3), (1, .int x1_2), (0, .ref (ea E 0))]) dX4_leftOut_31 rfl hl (by decide) rfl hE (fun x2_3 ls hl hE => ?_)
    refine lv_iconst (v := 0) hx hb dX4_leftOut_32 (by decide) ?_
    refine z_istore hx hb (fun x4_4 => [(4, .int x4_4), (2, .long x2_3), (1, .int x1_2), (0, .ref (ea E 0))]) dX4_leftOut_33 hl (by decide) rfl hE (fun x4_4 ls hl hE => ?_)
    refine wX4_leftOut_L35 C ?_ FU x1_2 x2_3 x4_4 σ_1 _ _ _ (lv_sub hl [3, 2, 1, 0] rfl) hP hS hE
    intro x1_14 σ_15 H locs ls hl hP hS hE
    refine lv_iload_n hx hb dX4_leftOut_100 rfl (lv_at hl 0 rfl) ?_
    exact z_iret hx hb hr hlk hP hS dX4_leftOut_101 hE
  refine lv_aload_n hx hb dX4_leftOut_10 rfl (lv_at hl 0 rfl) ?_
  refine lv_bipush (v := -3) hx hb dX4_leftOut_11 (by decide) ?_
  refine z_goi (wf := xW) hS hE (fun F1 h1 => (va_runV (As := [.int (-3)]) (rest := []) ⟨hx, hb, hml, hown, hts⟩ (kX4_refuse l E hD (-3) σ F1 h1) (cwV 1 hts (gU_V u_118 u_119 u_120 u_2 u_121) rfl rfl rfl q_X4_refuse ⟨Nat.le_of_ble_eq_true rfl, Nat.le_of_ble_eq_true rfl⟩) (z_preV hK hP hS (ci := 4) (q0 := 0) rfl rfl rfl) rfl rfl hl.1 rfl (lv_room (Nat.le_of_ble_eq_true rfl)) dX4_leftOut_13 ⟨Nat.le_of_ble_eq_true rfl, Nat.le_of_ble_eq_true rfl⟩)) (fun r_17 σ_16 H locs hP hS hE => ?_)
  exact z_iret hx hb hr hlk hP hS dX4_leftOut_16 hE
theorem kX4_leftOut (l : Launch) (E : EN) (hD : ∀ σ, va_D (eA E) (xW E σ))  (σ : ST) (F : Int32 × ST) (hE : fX4_leftOut  σ = some F) : Met l yX4_leftOut wu_X4_leftOut r_X4_leftOut (zPc E xW [.ref (ea E 0)] σ) (zQi E xW F) 0 0 (eA E) := by
  refine Met.ofW (cc := cX4_leftOut) (maxL := 5) (ret := (some .int)) (by decide) rfl ?_
  intro p e s m args below meth c s₁ B hml hv
  obtain ⟨rfl, hP, hK⟩ := hv
  have hl := lv_entry ([.ref (ea E 0)]) (n := 5) (Nat.le_of_ble_eq_true rfl)
  rw [lg_entry_eq]
  generalize (lg_sl ([.ref (ea E 0)]) ++ List.replicate (5 - (lg_sl ([.ref (ea E 0)])).length) Slot.unset).toArray = ls at hl ⊢
  exact wX4_leftOut ⟨B.exec, B.bytes, hml, findClass_of_methodNamed B.named, fun w h => atoms_spec (ws := wu_X4_leftOut) B.pre w (List.mem_cons_of_mem _ h), B.returns, B.notSynchronized, hK, hD⟩  σ s.heap [] ls hl hP va_S.rf hE
def fX4_runOn_L46 (ke : Int32 → ST → Option (Int32 × ST)) : Nat → Int32 → Int32 → Int64 → Int32 → ST → Option (Int32 × ST)
  | 0, _, _, _, _, _ => none
  | n + 1, x1, x2, x3, x5, σ => (if 60 < x5 then ke x2 σ else bnd (sI σ 24 x5) (fun σ_9 => calv (fX3_goBy_51 x1 σ_9) (fun σ_10 => (if x5 = 0 then bnd (x5 : Int32) (fun x2_11 => bnd ((gL σ_10 1) : Int64) (fun x3_12 => bnd (x5 + 1) (fun x5_13 => fX4_runOn_L46 ke n x1 x2_11 x3_12 x5_13 σ_10))) else (if (lg_cmp (gL σ_10 1) x3) ≤ 0 then bnd (x5 + 1) (fun x5_14 => fX4_runOn_L46 ke n x1 x2 x3 x5_14 σ_10) else bnd (x5 : Int32) (fun x2_15 => bnd ((gL σ_10 1) : Int64) (fun x3_16 => bnd (x5 + 1) (fun x5_17 => fX4_runOn_L46 ke n x1 x2_15 x3_16 x5_17 σ_10))))))))
set_option maxHeartbeats 4000000 in
set_option maxRecDepth 100000 in
theorem wX4_runOn_L46 {p : Program} {l : Launch} {e : Env} {s : State} {m : MethodId} {args : Array Value} {below : List Frame} {meth : Method} {c : Code} {E : EN} (C : zC E xW p s m args meth c cX4_runOn 6 RX4 (some .int) wsL_law) {F : Int32 × ST} {ke : Int32 → ST → Option (Int32 × ST)} (hke : ∀ (x2 : Int32) (σ : ST) (H : Heap) (locs : List Loc) (ls : Array Slot), lv_has ls 6 [(2, .int x2)] → va_P (eD E) vwCl (xW E σ) H → va_S (eA E) s.heap H locs → ke x2 σ = some F → zWi E xW p l e r_X4_runOn s m args below meth c F H locs (F0 m 108 ls [])) : ∀ (n : Nat) (x1 : Int32) (x2 : Int32) (x3 : Int64) (x5 : Int32) (σ : ST) (H : Heap) (locs : List Loc) (ls : Array Slot), lv_has ls 6 [(0, .ref (ea E 0)), (1, .int x1), (2, .int x2), (3, .long x3), (5, .int x5)] → va_P (eD E) vwCl (xW E σ) H → va_S (eA E) s.heap H locs → fX4_runOn_L46 ke n x1 x2 x3 x5 σ = some F → zWi E xW p l e r_X4_runOn s m args below meth c F H locs (F0 m 46 ls []) := by
  obtain ⟨hx, hb, hml, hown, hts, hr, hlk, hK, hD⟩ := id C
  have hwX3 : ∀ w ∈ wsX30, w.before args s = true := fun w h => hts w (inlX3 w h)
  have hwX4 : ∀ w ∈ wsX40, w.before args s = true := fun w h => hts w (inlX4 w h)
  intro n
  induction n with
  | zero => intro x1 x2 x3 x5 σ H locs ls hl hP hS hE; rw [fX4_runOn_L46] at hE; cases hE
  | succ n ih =>
    intro x1 x2 x3 x5 σ H locs ls hl hP hS hE
    rw [fX4_runOn_L46] at hE
    refine lv_iload hx hb dX4_runOn_46 (lv_at hl 4 rfl) ?_
    refine lv_bipush (v := 60) hx hb dX4_runOn_48 (by decide) ?_
    refine z_icmp_gt (tgt := 108) hx hb dX4_runOn_50 (by decide) hE (fun hE => ?_) (fun hE => ?_)
    · exact hke x2 σ _ _ _ (lv_sub hl [2] rfl) hP hS hE
    refine lv_aload_n hx hb dX4_runOn_53 rfl (lv_at hl 0 rfl) ?_
    refine xg_0_0 hx hb hown hwX4 (hts _ u_15) hK hP dX4_runOn_54 ?_
    refine lv_iload hx hb dX4_runOn_57 (lv_at hl 4 rfl) ?_
    refine xp_1_9 hx hb hown hwX3 (hts _ u_796) hK hD hP hS dX4_runOn_59 hE (fun σ_9 H locs hP hS hE => ?_)
    refine lv_aload_n hx hb dX4_runOn_62 rfl (lv_at hl 0 rfl) ?_
    refine xg_0_0 hx hb hown hwX4 (hts _ u_15) hK hP dX4_runOn_63 ?_
    refine lv_aload_n hx hb dX4_runOn_66 rfl (lv_at hl 0 rfl) ?_
    refine xg_0_7 hx hb hown hwX4 (hts _ u_31) hK hP dX4_runOn_67 ?_
    refine lv_iload_n hx hb dX4_runOn_70 rfl (lv_at hl 1 rfl) ?_
    refine z_gov (wf := xW) hS hE (fun F1 h1 => (va_runV (As := [.ref (ea E 51), .int x1]) (rest := []) ⟨hx, hb, hml, hown, hts⟩ (kX3_goBy_51 l E hD x1 σ_9 F1 h1) (cwV 2 hts (gU_V u_543 u_544 u_545 u_14 u_546) rfl rfl rfl q_X3_goBy ⟨Nat.le_of_ble_eq_true rfl, Nat.le_of_ble_eq_true rfl⟩) (z_preV hK hP hS (ci := 3) (q0 := 1) rfl rfl rfl) rfl rfl hl.1 rfl (lv_room (Nat.le_of_ble_eq_true rfl)) dX4_runOn_71 ⟨Nat.le_of_ble_eq_true rfl, Nat.le_of_ble_eq_true rfl⟩)) (fun σ_10 H locs hP hS hE => ?_)
    refine lv_iload hx hb dX4_runOn_74 (lv_at hl 4 rfl) ?_
    refine z_if_eq (tgt := 91) hx hb dX4_runOn_76 (by decide) hE (fun hE => ?_) (fun hE => ?_)
    · refine lv_iload hx hb dX4_runOn_91 (lv_at hl 4 rfl) ?_
      refine z_istore_n hx hb (fun x2_11 => [(2, .int x2_11), (0, .ref (ea E 0)), (1, .int x1), (3, .long x3), (5, .int x5)]) dX4_runOn_93 rfl hl (by decide) rfl hE (fun x2_11 ls hl hE => ?_)
      refine lv_aload_n hx hb dX4_runOn_94 rfl (lv_at hl 1 rfl) ?_
      refine xg_0_0 hx hb hown hwX4 (hts _ u_15) hK hP dX4_runOn_95 ?_
      refine xg_1_14 hx hb hown hwX3 (hts _ u_680) hK hP dX4_runOn_98 ?_
      refine z_lstore_n hx hb (fun x3_12 => [(3, .long x3_12), (2, .int x2_11), (0, .ref (ea E 0)), (1, .int x1), (5, .int x5)]) dX4_runOn_101 rfl hl (by decide) rfl hE (fun x3_12 ls hl hE => ?_)
      refine z_iinc hx hb (v := (x5 + 1)) (k := 4) (fun x5_13 => [(5, .int x5_13), (3, .long x3_12), (2, .int x2_11), (0, .ref (ea E 0)), (1, .int x1)]) dX4_runOn_102 hl rfl (by rfl) (by decide) rfl hE (fun x5_13 ls hl hE => ?_)
      refine lv_goto (tgt := 46) hx hb dX4_runOn_105 (by decide) ?_
      exact ih x1 x2_11 x3_12 x5_13 σ_10 _ _ _ (lv_sub hl [3, 4, 2, 1, 0] rfl) hP hS hE
    refine lv_aload_n hx hb dX4_runOn_79 rfl (lv_at hl 0 rfl) ?_
    refine xg_0_0 hx hb hown hwX4 (hts _ u_15) hK hP dX4_runOn_80 ?_
    refine xg_1_14 hx hb hown hwX3 (hts _ u_680) hK hP dX4_runOn_83 ?_
    refine lv_lload_n hx hb dX4_runOn_86 rfl (lv_at hl 3 rfl) ?_
    refine W.lcmp hx hb dX4_runOn_87 ?_
    refine z_if_le (tgt := 102) hx hb dX4_runOn_88 (by decide) hE (fun hE => ?_) (fun hE => ?_)
    · refine z_iinc hx hb (v := (x5 + 1)) (k := 4) (fun x5_14 => [(5, .int x5_14), (0, .ref (ea E 0)), (1, .int x1), (2, .int x2), (3, .long x3)]) dX4_runOn_102 hl rfl (by rfl) (by decide) rfl hE (fun x5_14 ls hl hE => ?_)
      refine lv_goto (tgt := 46) hx hb dX4_runOn_105 (by decide) ?_
      exact ih x1 x2 x3 x5_14 σ_10 _ _ _ (lv_sub hl [1, 2, 3, 4, 0] rfl) hP hS hE
    refine lv_iload hx hb dX4_runOn_91 (lv_at hl 4 rfl) ?_
    refine z_istore_n hx hb (fun x2_15 => [(2, .int x2_15), (0, .ref (ea E 0)), (1, .int x1), (3, .long x3), (5, .int x5)]) dX4_runOn_93 rfl hl (by decide) rfl hE (fun x2_15 ls hl hE => ?_)
    refine lv_aload_n hx hb dX4_runOn_94 rfl (lv_at hl 1 rfl) ?_
    refine xg_0_0 hx hb hown hwX4 (hts _ u_15) hK hP dX4_runOn_95 ?_
    refine xg_1_14 hx hb hown hwX3 (hts _ u_680) hK hP dX4_runOn_98 ?_
    refine z_lstore_n hx hb (fun x3_16 => [(3, .long x3_16), (2, .int x2_15), (0, .ref (ea E 0)), (1, .int x1), (5, .int x5)]) dX4_runOn_101 rfl hl (by decide) rfl hE (fun x3_16 ls hl hE => ?_)
    refine z_iinc hx hb (v := (x5 + 1)) (k := 4) (fun x5_17 => [(5, .int x5_17), (3, .long x3_16), (2, .int x2_15), (0, .ref (ea E 0)), (1, .int x1)]) dX4_runOn_102 hl rfl (by rfl) (by decide) rfl hE (fun x5_17 ls hl hE => ?_)
    refine lv_goto (tgt := 46) hx hb dX4_runOn_105 (by decide) ?_
    exact ih x1 x2_15 x3_16 x5_17 σ_10 _ _ _ (lv_sub hl [3, 4, 2, 1, 0] rfl) hP hS hE
def fX4_runOn   (σ : ST) : Option (Int32 × ST) :=
  (if (gI σ 3) = 0 then cali (fX4_refuse (-3) σ) (fun r_21 σ_20 => some (r_21, σ_20)) else cali (fX4_orderOfRow (-9) σ) (fun r_2 σ_1 => bnd (r_2 : Int32) (fun x1_3 => bnd (0 : Int32) (fun x2_4 => bnd (0 : Int64) (fun x3_5 => calv (fX3_supposeAsItIs σ_1) (fun σ_6 => bnd (sI σ_6 23 1) (fun σ_7 => bnd (0 : Int32) (fun x5_8 => fX4_runOn_L46 (fun x2_18 σ_19 => some (x2_18, σ_19)) FU x1_3 x2_4 x3_5 x5_8 σ_7))))))))
set_option maxHeartbeats 4000000 in
set_option maxRecDepth 100000 in
theorem wX4_runOn {p : Program} {l : Launch} {e : Env} {s : State} {m : MethodId} {args : Array Value} {below : List Frame} {meth : Method} {c : Code} {E : EN} (C : zC E xW p s m args meth c cX4_runOn 6 RX4 (some .int) wsL_law) {F : Int32 × ST}    (σ : ST) (H : Heap) (locs : List Loc) (ls : Array Slot) (hl : lv_has ls 6 [(0, .ref (ea E 0))]) (hP : va_P (eD E) vwCl (xW E σ) H) (hS : va_S (eA E) s.heap H locs) (hE : fX4_runOn   σ = some F) : zWi E xW p l e r_X4_runOn s m args below meth c F H locs (F0 m 0 ls []) := by
  obtain ⟨hx, hb, hml, hown, hts, hr, hlk, hK, hD⟩ := id C
  have hwX2 : ∀ w ∈ wsX20, w.before args s = true := fun w h => hts w (inlX2 w h)
  have hwX3 : ∀ w ∈ wsX30, w.before args s = true := fun w h => hts w (inlX3 w h)
  have hwX4 : ∀ w ∈ wsX40, w.before args s = true := fun w h => hts w (inlX4 w h)
  unfold fX4_runOn at hE
  refine lv_aload_n hx hb dX4_runOn_0 rfl (lv_at hl 0 rfl) ?_
  refine xg_0_1 hx hb hown hwX4 (hts _ u_17) hK hP dX4_runOn_1 ?_
  refine xg_4_11 hx hb hown hwX2 (hts _ u_387) hK hP dX4_runOn_4 ?_
  refine z_if_ne (tgt := 17) hx hb dX4_runOn_7 (by decide) hE (fun hE => ?_) (fun hE => ?_)
  · refine lv_aload_n hx hb dX4_runOn_17 rfl (lv_at hl 0 rfl) ?_
    refine lv_bipush (v := -9) hx hb dX4_runOn_18 (by decide) ?_
    refine z_goi (wf := xW) hS hE (fun F1 h1 => (va_runV (As := [.int (-9)]) (rest := []) ⟨hx, hb, hml, hown, hts⟩ (kX4_orderOfRow l E hD (-9) σ F1 h1) (cwV 1 hts (gU_V u_539 u_540 u_541 u_2 u_542) rfl rfl rfl q_X4_orderOfRow ⟨Nat.le_of_ble_eq_true rfl, Nat.le_of_ble_eq_true rfl⟩) (z_preV hK hP hS (ci := 4) (q0 := 0) rfl rfl rfl) rfl rfl hl.1 rfl (lv_room (Nat.le_of_ble_eq_true rfl)) dX4_runOn_20 ⟨Nat.le_of_ble_eq_true rfl, Nat.le_of_ble_eq_true rfl⟩)) (fun r_2 σ_1 H locs hP hS hE => ?_)
    refine z_istore_n hx hb (fun x1_3 => [(1, .int x1_3), (0, .ref (ea E 0))]) dX4_runOn_23 rfl hl (by decide) rfl hE (fun x1_3 ls hl hE => ?_)
    refine lv_iconst (v := 0) hx hb dX4_runOn_24 (by decide) ?_
    refine z_istore_n hx hb (fun x2_4 => [(2, .int x2_4), (1, .int x1_3), (0, .ref (ea E 0))]) dX4_runOn_25 rfl hl (by decide) rfl hE (fun x2_4 ls hl hE => ?_)
    refine lv_lconst (v := 0) hx hb dX4_runOn_26 (by decide) ?_
    refine z_lstore_n hx hb (fun x3_5 => [(3, .long x3_5), (2, .int x2_4), (1, .int x1_3), (0, .ref (ea E 0))]) dX4_runOn_27 rfl hl (by decide) rfl hE (fun x3_5 ls hl hE => ?_)
    refine lv_aload_n hx hb dX4_runOn_28 rfl (lv_at hl 3 rfl) ?_
    refine xg_0_0 hx hb hown hwX4 (hts _ u_15) hK hP dX4_runOn_29 ?_
    refine z_gov (wf := xW) hS hE (fun F1 h1 => (va_runV (As := []) (rest := []) ⟨hx, hb, hml, hown, hts⟩ (kX3_supposeAsItIs l E hD  σ_1 F1 h1) (cwV 0 hts (gU_V u_525 u_526 u_527 u_14 u_528) rfl rfl rfl q_X3_supposeAsItIs ⟨Nat.le_of_ble_eq_true rfl, Nat.le_of_ble_eq_true rfl⟩) (z_preV hK hP hS (ci := 3) (q0 := 1) rfl rfl rfl) rfl rfl hl.1 rfl (lv_room (Nat.le_of_ble_eq_true rfl)) dX4_runOn_32 ⟨Nat.le_of_ble_eq_true rfl, Nat.le_of_ble_eq_true rfl⟩)) (fun σ_6 H locs hP hS hE => ?_)
    refine lv_aload_n hx hb dX4_runOn_35 rfl (lv_at hl 3 rfl) ?_
    refine xg_0_0 hx hb hown hwX4 (hts _ u_15) hK hP dX4_runOn_36 ?_
    refine lv_iconst (v := 1) hx hb dX4_runOn_39 (by decide) ?_
    refine xp_1_8 hx hb hown hwX3 (hts _ u_772) hK hD hP hS dX4_runOn_40 hE (fun σ_7 H locs hP hS hE => ?_)
    refine lv_iconst (v := 0) hx hb dX4_runOn_43 (by decide) ?_
    refine z_istore hx hb (fun x5_8 => [(5, .int x5_8), (3, .long x3_5), (2, .int x2_4), (1, .int x1_3), (0, .ref (ea E 0))]) dX4_runOn_44 hl (by decide) rfl hE (fun x5_8 ls hl hE => ?_)
    refine wX4_runOn_L46 C ?_ FU x1_3 x2_4 x3_5 x5_8 σ_7 _ _ _ (lv_sub hl [4, 3, 2, 1, 0] rfl) hP hS hE
    intro x2_18 σ_19 H locs ls hl hP hS hE
    refine lv_iload_n hx hb dX4_runOn_108 rfl (lv_at hl 0 rfl) ?_
    exact z_iret hx hb hr hlk hP hS dX4_runOn_109 hE
  refine lv_aload_n hx hb dX4_runOn_10 rfl (lv_at hl 0 rfl) ?_
  refine lv_bipush (v := -3) hx hb dX4_runOn_11 (by decide) ?_
  refine z_goi (wf := xW) hS hE (fun F1 h1 => (va_runV (As := [.int (-3)]) (rest := []) ⟨hx, hb, hml, hown, hts⟩ (kX4_refuse l E hD (-3) σ F1 h1) (cwV 1 hts (gU_V u_118 u_119 u_120 u_2 u_121) rfl rfl rfl q_X4_refuse ⟨Nat.le_of_ble_eq_true rfl, Nat.le_of_ble_eq_true rfl⟩) (z_preV hK hP hS (ci := 4) (q0 := 0) rfl rfl rfl) rfl rfl hl.1 rfl (lv_room (Nat.le_of_ble_eq_true rfl)) dX4_runOn_13 ⟨Nat.le_of_ble_eq_true rfl, Nat.le_of_ble_eq_true rfl⟩)) (fun r_21 σ_20 H locs hP hS hE => ?_)
  exact z_iret hx hb hr hlk hP hS dX4_runOn_16 hE
theorem kX4_runOn (l : Launch) (E : EN) (hD : ∀ σ, va_D (eA E) (xW E σ))  (σ : ST) (F : Int32 × ST) (hE : fX4_runOn  σ = some F) : Met l yX4_runOn wu_X4_runOn r_X4_runOn (zPc E xW [.ref (ea E 0)] σ) (zQi E xW F) 0 0 (eA E) := by
  refine Met.ofW (cc := cX4_runOn) (maxL := 6) (ret := (some .int)) (by decide) rfl ?_
  intro p e s m args below meth c s₁ B hml hv
  obtain ⟨rfl, hP, hK⟩ := hv
  have hl := lv_entry ([.ref (ea E 0)]) (n := 6) (Nat.le_of_ble_eq_true rfl)
  rw [lg_entry_eq]
  generalize (lg_sl ([.ref (ea E 0)]) ++ List.replicate (6 - (lg_sl ([.ref (ea E 0)])).length) Slot.unset).toArray = ls at hl ⊢
  exact wX4_runOn ⟨B.exec, B.bytes, hml, findClass_of_methodNamed B.named, fun w h => atoms_spec (ws := wu_X4_runOn) B.pre w (List.mem_cons_of_mem _ h), B.returns, B.notSynchronized, hK, hD⟩  σ s.heap [] ls hl hP va_S.rf hE
