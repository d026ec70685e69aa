def fX0_stallsOf  (x1 : Int32) (x2 : Int32) (x3 : Int32) (σ : ST) : Option (Int32 × ST) :=
  bnd (((x1 * 8) + x2) : Int32) (fun x4_1 => (if x4_1 < 0 then some ((-9), σ) else (if x4_1 < 64 then (if x3 = 0 then ald (gA σ 1) 64 x4_1 (fun v_2 => some (v_2, σ)) else ald (gA σ 3) 64 x4_1 (fun v_3 => some (v_3, σ))) else some ((-9), σ))))
set_option maxHeartbeats 4000000 in
set_option maxRecDepth 100000 in
theorem wX0_stallsOf {p : Program} {l : Launch} {e : Env} {s : State} {m : MethodId} {args : Array Value} {below : List Frame} {meth : Method} {c : Code} {E : EN} (C : zC E xW p s m args meth c cX0_stallsOf 5 RX0 (some .int) wsL_law) {F : Int32 × ST}   (x1 : Int32) (x2 : Int32) (x3 : Int32) (σ : ST) (H : Heap) (locs : List Loc) (ls : Array Slot) (hl : lv_has ls 5 [(0, .ref (ea E 2)), (1, .int x1), (2, .int x2), (3, .int x3)]) (hP : va_P (eD E) vwCl (xW E σ) H) (hS : va_S (eA E) s.heap H locs) (hE : fX0_stallsOf  x1 x2 x3 σ = some F) : zWi E xW p l e r_X0_stallsOf s m args below meth c F H locs (F0 m 0 ls []) := by
  obtain ⟨hx, hb, hml, hown, hts, hr, hlk, hK, hD⟩ := id C
  have hwX0 : ∀ w ∈ wsX00, w.before args s = true := fun w h => hts w (inlX0 w h)
  unfold fX0_stallsOf at hE
  refine lv_iload_n hx hb dX0_stallsOf_0 rfl (lv_at hl 1 rfl) ?_
  refine lv_bipush (v := 8) hx hb dX0_stallsOf_1 (by decide) ?_
  refine lv_imul hx hb dX0_stallsOf_3 ?_
  refine lv_iload_n hx hb dX0_stallsOf_4 rfl (lv_at hl 2 rfl) ?_
  refine lv_iadd hx hb dX0_stallsOf_5 ?_
  refine z_istore hx hb (fun x4_1 => [(4, .int x4_1), (0, .ref (ea E 2)), (1, .int x1), (2, .int x2), (3, .int x3)]) dX0_stallsOf_6 hl (by decide) rfl hE (fun x4_1 ls hl hE => ?_)
  refine lv_iload hx hb dX0_stallsOf_8 (lv_at hl 0 rfl) ?_
  refine z_if_lt (tgt := 20) hx hb dX0_stallsOf_10 (by decide) hE (fun hE => ?_) (fun hE => ?_)
  · refine lv_bipush (v := -9) hx hb dX0_stallsOf_20 (by decide) ?_
    exact z_iret hx hb hr hlk hP hS dX0_stallsOf_22 hE
  refine lv_iload hx hb dX0_stallsOf_13 (lv_at hl 0 rfl) ?_
  refine lv_bipush (v := 64) hx hb dX0_stallsOf_15 (by decide) ?_
  refine z_icmp_lt (tgt := 23) hx hb dX0_stallsOf_17 (by decide) hE (fun hE => ?_) (fun hE => ?_)
  · refine lv_iload_n hx hb dX0_stallsOf_23 rfl (lv_at hl 4 rfl) ?_
    refine z_if_eq (tgt := 37) hx hb dX0_stallsOf_24 (by decide) hE (fun hE => ?_) (fun hE => ?_)
    · refine lv_aload_n hx hb dX0_stallsOf_37 rfl (lv_at hl 1 rfl) ?_
      refine xg_2_1 hx hb hown hwX0 (hts _ u_83) hK hP dX0_stallsOf_38 ?_
      refine lv_iload hx hb dX0_stallsOf_41 (lv_at hl 0 rfl) ?_
      refine xa_8 hx hb hK hP dX0_stallsOf_43 hE (fun v_2 hE => ?_)
      exact z_iret hx hb hr hlk hP hS dX0_stallsOf_44 hE
    refine lv_aload_n hx hb dX0_stallsOf_27 rfl (lv_at hl 1 rfl) ?_
    refine xg_2_3 hx hb hown hwX0 (hts _ u_85) hK hP dX0_stallsOf_28 ?_
    refine lv_iload hx hb dX0_stallsOf_31 (lv_at hl 0 rfl) ?_
    refine xa_10 hx hb hK hP dX0_stallsOf_33 hE (fun v_3 hE => ?_)
    refine lv_goto (tgt := 44) hx hb dX0_stallsOf_34 (by decide) ?_
    exact z_iret hx hb hr hlk hP hS dX0_stallsOf_44 hE
  refine lv_bipush (v := -9) hx hb dX0_stallsOf_20 (by decide) ?_
  exact z_iret hx hb hr hlk hP hS dX0_stallsOf_22 hE
theorem kX0_stallsOf (l : Launch) (E : EN) (hD : ∀ σ, va_D (eA E) (xW E σ)) (x1 : Int32) (x2 : Int32) (x3 : Int32) (σ : ST) (F : Int32 × ST) (hE : fX0_stallsOf x1 x2 x3 σ = some F) : Met l yX0_stallsOf wu_X0_stallsOf r_X0_stallsOf (zPc E xW [.ref (ea E 2), .int x1, .int x2, .int x3] σ) (zQi E xW F) 0 0 (eA E) := by
  refine Met.ofW (cc := cX0_stallsOf) (maxL := 5) (ret := (some .int)) (by decide) rfl ?_
  intro p e s m args below meth c s₁ B hml hv
  obtain ⟨rfl, hP, hK⟩ := hv
  have hl := lv_entry ([.ref (ea E 2), .int x1, .int x2, .int x3]) (n := 5) (Nat.le_of_ble_eq_true rfl)
  rw [lg_entry_eq]
  generalize (lg_sl ([.ref (ea E 2), .int x1, .int x2, .int x3]) ++ List.replicate (5 - (lg_sl ([.ref (ea E 2), .int x1, .int x2, .int x3])).length) Slot.unset).toArray = ls at hl ⊢
  exact wX0_stallsOf ⟨B.exec, B.bytes, hml, findClass_of_methodNamed B.named, fun w h => atoms_spec (ws := wu_X0_stallsOf) B.pre w (List.mem_cons_of_mem _ h), B.returns, B.notSynchronized, hK, hD⟩ x1 x2 x3 σ s.heap [] ls hl hP va_S.rf hE
def fX0_minutesOf  (x1 : Int32) (x2 : Int32) (x3 : Int32) (σ : ST) : Option (Int32 × ST) :=
  bnd (((x1 * 8) + x2) : Int32) (fun x4_1 => (if x4_1 < 0 then some ((-9), σ) else (if x4_1 < 64 then (if x3 = 0 then ald (gA σ 0) 64 x4_1 (fun v_2 => some (v_2, σ)) else ald (gA σ 2) 64 x4_1 (fun v_3 => some (v_3, σ))) else some ((-9), σ))))
set_option maxHeartbeats 4000000 in
set_option maxRecDepth 100000 in
theorem wX0_minutesOf {p : Program} {l : Launch} {e : Env} {s : State} {m : MethodId} {args : Array Value} {below : List Frame} {meth : Method} {c : Code} {E : EN} (C : zC E xW p s m args meth c cX0_minutesOf 5 RX0 (some .int) wsL_law) {F : Int32 × ST}   (x1 : Int32) (x2 : Int32) (x3 : Int32) (σ : ST) (H : Heap) (locs : List Loc) (ls : Array Slot) (hl : lv_has ls 5 [(0, .ref (ea E 2)), (1, .int x1), (2, .int x2), (3, .int x3)]) (hP : va_P (eD E) vwCl (xW E σ) H) (hS : va_S (eA E) s.heap H locs) (hE : fX0_minutesOf  x1 x2 x3 σ = some F) : zWi E xW p l e r_X0_minutesOf s m args below meth c F H locs (F0 m 0 ls []) := by
  obtain ⟨hx, hb, hml, hown, hts, hr, hlk, hK, hD⟩ := id C
  have hwX0 : ∀ w ∈ wsX00, w.before args s = true := fun w h => hts w (inlX0 w h)
  unfold fX0_minutesOf at hE
  refine lv_iload_n hx hb dX0_minutesOf_0 rfl (lv_at hl 1 rfl) ?_
  refine lv_bipush (v := 8) hx hb dX0_minutesOf_1 (by decide) ?_
  refine lv_imul hx hb dX0_minutesOf_3 ?_
  refine lv_iload_n hx hb dX0_minutesOf_4 rfl (lv_at hl 2 rfl) ?_
  refine lv_iadd hx hb dX0_minutesOf_5 ?_
  refine z_istore hx hb (fun x4_1 => [(4, .int x4_1), (0, .ref (ea E 2)), (1, .int x1), (2, .int x2), (3, .int x3)]) dX0_minutesOf_6 hl (by decide) rfl hE (fun x4_1 ls hl hE => ?_)
  refine lv_iload hx hb dX0_minutesOf_8 (lv_at hl 0 rfl) ?_
  refine z_if_lt (tgt := 20) hx hb dX0_minutesOf_10 (by decide) hE (fun hE => ?_) (fun hE => ?_)
  · refine lv_bipush (v := -9) hx hb dX0_minutesOf_20 (by decide) ?_
    exact z_iret hx hb hr hlk hP hS dX0_minutesOf_22 hE
  refine lv_iload hx hb dX0_minutesOf_13 (lv_at hl 0 rfl) ?_
  refine lv_bipush (v := 64) hx hb dX0_minutesOf_15 (by decide) ?_
  refine z_icmp_lt (tgt := 23) hx hb dX0_minutesOf_17 (by decide) hE (fun hE => ?_) (fun hE => ?_)
  · refine lv_iload_n hx hb dX0_minutesOf_23 rfl (lv_at hl 4 rfl) ?_
    refine z_if_eq (tgt := 37) hx hb dX0_minutesOf_24 (by decide) hE (fun hE => ?_) (fun hE => ?_)
    · refine lv_aload_n hx hb dX0_minutesOf_37 rfl (lv_at hl 1 rfl) ?_
      refine xg_2_0 hx hb hown hwX0 (hts _ u_82) hK hP dX0_minutesOf_38 ?_
      refine lv_iload hx hb dX0_minutesOf_41 (lv_at hl 0 rfl) ?_
      refine xa_7 hx hb hK hP dX0_minutesOf_43 hE (fun v_2 hE => ?_)
      exact z_iret hx hb hr hlk hP hS dX0_minutesOf_44 hE
    refine lv_aload_n hx hb dX0_minutesOf_27 rfl (lv_at hl 1 rfl) ?_
    refine xg_2_2 hx hb hown hwX0 (hts _ u_84) hK hP dX0_minutesOf_28 ?_
    refine lv_iload hx hb dX0_minutesOf_31 (lv_at hl 0 rfl) ?_
    refine xa_9 hx hb hK hP dX0_minutesOf_33 hE (fun v_3 hE => ?_)
    refine lv_goto (tgt := 44) hx hb dX0_minutesOf_34 (by decide) ?_
    exact z_iret hx hb hr hlk hP hS dX0_minutesOf_44 hE
  refine lv_bipush (v := -9) hx hb dX0_minutesOf_20 (by decide) ?_
  exact z_iret hx hb hr hlk hP hS dX0_minutesOf_22 hE
theorem kX0_minutesOf (l : Launch) (E : EN) (hD : ∀ σ, va_D (eA E) (xW E σ)) (x1 : Int32) (x2 : Int32) (x3 : Int32) (σ : ST) (F : Int32 × ST) (hE : fX0_minutesOf x1 x2 x3 σ = some F) : Met l yX0_minutesOf wu_X0_minutesOf r_X0_minutesOf (zPc E xW [.ref (ea E 2), .int x1, .int x2, .int x3] σ) (zQi E xW F) 0 0 (eA E) := by
  refine Met.ofW (cc := cX0_minutesOf) (maxL := 5) (ret := (some .int)) (by decide) rfl ?_
  intro p e s m args below meth c s₁ B hml hv
  obtain ⟨rfl, hP, hK⟩ := hv
  have hl := lv_entry ([.ref (ea E 2), .int x1, .int x2, .int x3]) (n := 5) (Nat.le_of_ble_eq_true rfl)
  rw [lg_entry_eq]
  generalize (lg_sl ([.ref (ea E 2), .int x1, .int x2, .int x3]) ++ List.replicate (5 - (lg_sl ([.ref (ea E 2), .int x1, .int x2, .int x3])).length) Slot.unset).toArray = ls at hl ⊢
  exact wX0_minutesOf ⟨B.exec, B.bytes, hml, findClass_of_methodNamed B.named, fun w h => atoms_spec (ws := wu_X0_minutesOf) B.pre w (List.mem_cons_of_mem _ h), B.returns, B.notSynchronized, hK, hD⟩ x1 x2 x3 σ s.heap [] ls hl hP va_S.rf hE
def fX4_between  (x1 : Int32) (x2 : Int32) (x3 : Int32) (x4 : Int32) (σ : ST) : Option (Int32 × ST) :=
  cali (fX4_isPlace x1 σ) (fun r_2 σ_1 => (if r_2 = 0 then cali (fX4_refuse (-1) σ_1) (fun r_4 σ_3 => some (r_4, σ_3)) else cali (fX4_isPlace x2 σ_1) (fun r_6 σ_5 => (if r_6 = 0 then cali (fX4_refuse (-1) σ_5) (fun r_16 σ_15 => some (r_16, σ_15)) else (if x3 < 0 then cali (fX4_refuse (-2) σ_5) (fun r_8 σ_7 => some (r_8, σ_7)) else (if x3 ≤ 1 then (if x3 = 0 then cali (fX0_minutesOf x1 x2 x4 σ_5) (fun r_12 σ_11 => some (r_12, σ_11)) else cali (fX0_stallsOf x1 x2 x4 σ_5) (fun r_10 σ_9 => some (r_10, σ_9))) else cali (fX4_refuse (-2) σ_5) (fun r_14 σ_13 => some (r_14, σ_13))))))))
set_option maxHeartbeats 4000000 in
set_option maxRecDepth 100000 in
theorem wX4_between {p : Program} {l : Launch} {e : Env} {s : State} {m : MethodId} {args : Array Value} {below : List Frame} {meth : Method} {c : Code} {E : EN} (C : zC E xW p s m args meth c cX4_between 5 RX4 (some .int) wsL_law) {F : Int32 × ST}   (x1 : Int32) (x2 : Int32) (x3 : Int32) (x4 : Int32) (σ : ST) (H : Heap) (locs : List Loc) (ls : Array Slot) (hl : lv_has ls 5 [(0, .ref (ea E 0)), (1, .int x1), (2, .int x2), (3, .int x3), (4, .int x4)]) (hP : va_P (eD E) vwCl (xW E σ) H) (hS : va_S (eA E) s.heap H locs) (hE : fX4_between  x1 x2 x3 x4 σ = some F) : zWi E xW p l e r_X4_between s m args below meth c F H locs (F0 m 0 ls []) := by
  obtain ⟨hx, hb, hml, hown, hts, hr, hlk, hK, hD⟩ := id C
  have hwX4 : ∀ w ∈ wsX40, w.before args s = true := fun w h => hts w (inlX4 w h)
  unfold fX4_between at hE
  refine lv_aload_n hx hb dX4_between_0 rfl (lv_at hl 0 rfl) ?_
  refine lv_iload_n hx hb dX4_between_1 rfl (lv_at hl 1 rfl) ?_
  refine z_goi (wf := xW) hS hE (fun F1 h1 => (va_runV (As := [.int x1]) (rest := []) ⟨hx, hb, hml, hown, hts⟩ (kX4_isPlace l E hD x1 σ F1 h1) (cwV 1 hts (gU_V u_383 u_384 u_385 u_2 u_386) rfl rfl rfl q_X4_isPlace ⟨Nat.le_of_ble_eq_true rfl, Nat.le_of_ble_eq_true rfl⟩) (z_preV hK hP hS (ci := 4) (q0 := 0) rfl rfl rfl) rfl rfl hl.1 rfl (lv_room (Nat.le_of_ble_eq_true rfl)) dX4_between_2 ⟨Nat.le_of_ble_eq_true rfl, Nat.le_of_ble_eq_true rfl⟩)) (fun r_2 σ_1 H locs hP hS hE => ?_)
  refine z_if_eq (tgt := 16) hx hb dX4_between_5 (by decide) hE (fun hE => ?_) (fun hE => ?_)
  · refine lv_aload_n hx hb dX4_between_16 rfl (lv_at hl 0 rfl) ?_
    refine lv_iconst (v := -1) hx hb dX4_between_17 (by decide) ?_
    refine z_goi (wf := xW) hS hE (fun F1 h1 => (va_runV (As := [.int (-1)]) (rest := []) ⟨hx, hb, hml, hown, hts⟩ (kX4_refuse l E hD (-1) σ_1 F1 h1) (cwV 1 hts (gU_V u_118 u_119 u_120 u_2 u_121) rfl rfl rfl q_X4_refuse ⟨Nat.le_of_ble_eq_true rfl, Nat.le_of_ble_eq_true rfl⟩) (z_preV hK hP hS (ci := 4) (q0 := 0) rfl rfl rfl) rfl rfl hl.1 rfl (lv_room (Nat.le_of_ble_eq_true rfl)) dX4_between_18 ⟨Nat.le_of_ble_eq_true rfl, Nat.le_of_ble_eq_true rfl⟩)) (fun r_4 σ_3 H locs hP hS hE => ?_)
    exact z_iret hx hb hr hlk hP hS dX4_between_21 hE
  refine lv_aload_n hx hb dX4_between_8 rfl (lv_at hl 0 rfl) ?_
  refine lv_iload_n hx hb dX4_between_9 rfl (lv_at hl 2 rfl) ?_
  refine z_goi (wf := xW) hS hE (fun F1 h1 => (va_runV (As := [.int x2]) (rest := []) ⟨hx, hb, hml, hown, hts⟩ (kX4_isPlace l E hD x2 σ_1 F1 h1) (cwV 1 hts (gU_V u_383 u_384 u_385 u_2 u_386) rfl rfl rfl q_X4_isPlace ⟨Nat.le_of_ble_eq_true rfl, Nat.le_of_ble_eq_true rfl⟩) (z_preV hK hP hS (ci := 4) (q0 := 0) rfl rfl rfl) rfl rfl hl.1 rfl (lv_room (Nat.le_of_ble_eq_true rfl)) dX4_between_10 ⟨Nat.le_of_ble_eq_true rfl, Nat.le_of_ble_eq_true rfl⟩)) (fun r_6 σ_5 H locs hP hS hE => ?_)
  refine z_if_ne (tgt := 22) hx hb dX4_between_13 (by decide) hE (fun hE => ?_) (fun hE => ?_)
  · refine lv_iload_n hx hb dX4_between_22 rfl (lv_at hl 3 rfl) ?_
    refine z_if_lt (tgt := 31) hx hb dX4_between_23 (by decide) hE (fun hE => ?_) (fun hE => ?_)
    · refine lv_aload_n hx hb dX4_between_31 rfl (lv_at hl 0 rfl) ?_
      refine lv_bipush (v := -2) hx hb dX4_between_32 (by decide) ?_
      refine z_goi (wf := xW) hS hE (fun F1 h1 => (va_runV (As := [.int (-2)]) (rest := []) ⟨hx, hb, hml, hown, hts⟩ (kX4_refuse l E hD (-2) σ_5 F1 h1) (cwV 1 hts (gU_V u_118 u_119 u_120 u_2 u_121) rfl rfl rfl q_X4_refuse ⟨Nat.le_of_ble_eq_true rfl, Nat.le_of_ble_eq_true rfl⟩) (z_preV hK hP hS (ci := 4) (q0 := 0) rfl rfl rfl) rfl rfl hl.1 rfl (lv_room (Nat.le_of_ble_eq_true rfl)) dX4_between_34 ⟨Nat.le_of_ble_eq_true rfl, Nat.le_of_ble_eq_true rfl⟩)) (fun r_8 σ_7 H locs hP hS hE => ?_)
      exact z_iret hx hb hr hlk hP hS dX4_between_37 hE
    refine lv_iload_n hx hb dX4_between_26 rfl (lv_at hl 3 rfl) ?_
    refine lv_iconst (v := 1) hx hb dX4_between_27 (by decide) ?_
    refine z_icmp_le (tgt := 38) hx hb dX4_between_28 (by decide) hE (fun hE => ?_) (fun hE => ?_)
    · refine lv_iload_n hx hb dX4_between_38 rfl (lv_at hl 3 rfl) ?_
      refine z_if_ne (tgt := 56) hx hb dX4_between_39 (by decide) hE (fun hE => ?_) (fun hE => ?_)
      · refine lv_aload_n hx hb dX4_between_56 rfl (lv_at hl 0 rfl) ?_
        refine xg_0_2 hx hb hown hwX4 (hts _ u_19) hK hP dX4_between_57 ?_
        refine lv_iload_n hx hb dX4_between_60 rfl (lv_at hl 1 rfl) ?_
        refine lv_iload_n hx hb dX4_between_61 rfl (lv_at hl 2 rfl) ?_
        refine lv_iload hx hb dX4_between_62 (lv_at hl 4 rfl) ?_
        refine z_goi (wf := xW) hS hE (fun F1 h1 => (va_runV (As := [.int x1, .int x2, .int x4]) (rest := []) ⟨hx, hb, hml, hown, hts⟩ (kX0_stallsOf l E hD x1 x2 x4 σ_5 F1 h1) (cwV 3 hts (gU_V u_485 u_486 u_487 u_43 u_488) rfl rfl rfl q_X0_stallsOf ⟨Nat.le_of_ble_eq_true rfl, Nat.le_of_ble_eq_true rfl⟩) (z_preV hK hP hS (ci := 0) (q0 := 2) rfl rfl rfl) rfl rfl hl.1 rfl (lv_room (Nat.le_of_ble_eq_true rfl)) dX4_between_64 ⟨Nat.le_of_ble_eq_true rfl, Nat.le_of_ble_eq_true rfl⟩)) (fun r_10 σ_9 H locs hP hS hE => ?_)
        exact z_iret hx hb hr hlk hP hS dX4_between_67 hE
      refine lv_aload_n hx hb dX4_between_42 rfl (lv_at hl 0 rfl) ?_
      refine xg_0_2 hx hb hown hwX4 (hts _ u_19) hK hP dX4_between_43 ?_
      refine lv_iload_n hx hb dX4_between_46 rfl (lv_at hl 1 rfl) ?_
      refine lv_iload_n hx hb dX4_between_47 rfl (lv_at hl 2 rfl) ?_
      refine lv_iload hx hb dX4_between_48 (lv_at hl 4 rfl) ?_
      refine z_goi (wf := xW) hS hE (fun F1 h1 => (va_runV (As := [.int x1, .int x2, .int x4]) (rest := []) ⟨hx, hb, hml, hown, hts⟩ (kX0_minutesOf l E hD x1 x2 x4 σ_5 F1 h1) (cwV 3 hts (gU_V u_481 u_482 u_483 u_43 u_484) rfl rfl rfl q_X0_minutesOf ⟨Nat.le_of_ble_eq_true rfl, Nat.le_of_ble_eq_true rfl⟩) (z_preV hK hP hS (ci := 0) (q0 := 2) rfl rfl rfl) rfl rfl hl.1 rfl (lv_room (Nat.le_of_ble_eq_true rfl)) dX4_between_50 ⟨Nat.le_of_ble_eq_true rfl, Nat.le_of_ble_eq_true rfl⟩)) (fun r_12 σ_11 H locs hP hS hE => ?_)
      refine lv_goto (tgt := 67) hx hb dX4_between_53 (by decide) ?_
      exact z_iret hx hb hr hlk hP hS dX4_between_67 hE
    refine lv_aload_n hx hb dX4_between_31 rfl (lv_at hl 0 rfl) ?_
    refine lv_bipush (v := -2) hx hb dX4_between_32 (by decide) ?_
    refine z_goi (wf := xW) hS hE (fun F1 h1 => (va_runV (As := [.int (-2)]) (rest := []) ⟨hx, hb, hml, hown, hts⟩ (kX4_refuse l E hD (-2) σ_5 F1 h1) (cwV 1 hts (gU_V u_118 u_119 u_120 u_2 u_121) rfl rfl rfl q_X4_refuse ⟨Nat.le_of_ble_eq_true rfl, Nat.le_of_ble_eq_true rfl⟩) (z_preV hK hP hS (ci := 4) (q0 := 0) rfl rfl rfl) rfl rfl hl.1 rfl (lv_room (Nat.le_of_ble_eq_true rfl)) dX4_between_34 ⟨Nat.le_of_ble_eq_true rfl, Nat.le_of_ble_eq_true rfl⟩)) (fun r_14 σ_13 H locs hP hS hE => ?_)
    exact z_iret hx hb hr hlk hP hS dX4_between_37 hE
  refine lv_aload_n hx hb dX4_between_16 rfl (lv_at hl 0 rfl) ?_
  refine lv_iconst (v := -1) hx hb dX4_between_17 (by decide) ?_
  refine z_goi (wf := xW) hS hE (fun F1 h1 => (va_runV (As := [.int (-1)]) (rest := []) ⟨hx, hb, hml, hown, hts⟩ (kX4_refuse l E hD (-1) σ_5 F1 h1) (cwV 1 hts (gU_V u_118 u_119 u_120 u_2 u_121) rfl rfl rfl q_X4_refuse ⟨Nat.le_of_ble_eq_true rfl, Nat.le_of_ble_eq_true rfl⟩) (z_preV hK hP hS (ci := 4) (q0 := 0) rfl rfl rfl) rfl rfl hl.1 rfl (lv_room (Nat.le_of_ble_eq_true rfl)) dX4_between_18 ⟨Nat.le_of_ble_eq_true rfl, Nat.le_of_ble_eq_true rfl⟩)) (fun r_16 σ_15 H locs hP hS hE => ?_)
  exact z_iret hx hb hr hlk hP hS dX4_between_21 hE
theorem kX4_between (l : Launch) (E : EN) (hD : ∀ σ, va_D (eA E) (xW E σ)) (x1 : Int32) (x2 : Int32) (x3 : Int32) (x4 : Int32) (σ : ST) (F : Int32 × ST) (hE : fX4_between x1 x2 x3 x4 σ = some F) : Met l yX4_between wu_X4_between r_X4_between (zPc E xW [.ref (ea E 0), .int x1, .int x2, .int x3, .int x4] σ) (zQi E xW F) 0 0 (eA E) := by
  refine Met.ofW (cc := cX4_between) (maxL := 5) (ret := (some .int)) (by decide) rfl ?_
  intro p e s m args below meth c s₁ B hml hv
  obtain ⟨rfl, hP, hK⟩ := hv
  have hl := lv_entry ([.ref (ea E 0), .int x1, .int x2, .int x3, .int x4]) (n := 5) (Nat.le_of_ble_eq_true rfl)
  rw [lg_entry_eq]
  generalize (lg_sl ([.ref (ea E 0), .int x1, .int x2, .int x3, .int x4]) ++ List.replicate (5 - (lg_sl ([.ref (ea E 0), .int x1, .int x2, .int x3, .int x4])).length) Slot.unset).toArray = ls at hl ⊢
  exact wX4_between ⟨B.exec, B.bytes, hml, findClass_of_methodNamed B.named, fun w h => atoms_spec (ws := wu_X4_between) B.pre w (List.mem_cons_of_mem _ h), B.returns, B.notSynchronized, hK, hD⟩ x1 x2 x3 x4 σ s.heap [] ls hl hP va_S.rf hE
def fX4_leg  (x1 : Int32) (x2 : Int32) (x3 : Int32) (σ : ST) : Option (Int32 × ST) :=
  cali (fX4_between x1 x2 x3 0 σ) (fun r_2 σ_1 => some (r_2, σ_1))
set_option maxHeartbeats 4000000 in
set_option maxRecDepth 100000 in
theorem wX4_leg {p : Program} {l : Launch} {e : Env} {s : State} {m : MethodId} {args : Array Value} {below : List Frame} {meth : Method} {c : Code} {E : EN} (C : zC E xW p s m args meth c cX4_leg 4 RX4 (some .int) wsL_law) {F : Int32 × ST}   (x1 : Int32) (x2 : Int32) (x3 : Int32) (σ : ST) (H : Heap) (locs : List Loc) (ls : Array Slot) (hl : lv_has ls 4 [(0, .ref (ea E 0)), (1, .int x1), (2, .int x2), (3, .int x3)]) (hP : va_P (eD E) vwCl (xW E σ) H) (hS : va_S (eA E) s.heap H locs) (hE : fX4_leg  x1 x2 x3 σ = some F) : zWi E xW p l e r_X4_leg s m args below meth c F H locs (F0 m 0 ls []) := by
  obtain ⟨hx, hb, hml, hown, hts, hr, hlk, hK, hD⟩ := id C
  unfold fX4_leg at hE
  refine lv_aload_n hx hb dX4_leg_0 rfl (lv_at hl 0 rfl) ?_
  refine lv_iload_n hx hb dX4_leg_1 rfl (lv_at hl 1 rfl) ?_
  refine lv_iload_n hx hb dX4_leg_2 rfl (lv_at hl 2 rfl) ?_
  refine lv_iload_n hx hb dX4_leg_3 rfl (lv_at hl 3 rfl) ?_
  refine lv_iconst (v := 0) hx hb dX4_leg_4 (by decide) ?_
  refine z_goi (wf := xW) hS hE (fun F1 h1 => (va_runV (As := [.int x1, .int x2, .int x3, .int 0]) (rest := []) ⟨hx, hb, hml, hown, hts⟩ (kX4_between l E hD x1 x2 x3 0 σ F1 h1) (cwV 4 hts (gU_V u_477 u_478 u_479 u_2 u_480) rfl rfl rfl q_X4_between ⟨Nat.le_of_ble_eq_true rfl, Nat.le_of_ble_eq_true rfl⟩) (z_preV hK hP hS (ci := 4) (q0 := 0) rfl rfl rfl) rfl rfl hl.1 rfl (lv_room (Nat.le_of_ble_eq_true rfl)) dX4_leg_5 ⟨Nat.le_of_ble_eq_true rfl, Nat.le_of_ble_eq_true rfl⟩)) (fun r_2 σ_1 H locs hP hS hE => ?_)
  exact z_iret hx hb hr hlk hP hS dX4_leg_8 hE
theorem kX4_leg (l : Launch) (E : EN) (hD : ∀ σ, va_D (eA E) (xW E σ)) (x1 : Int32) (x2 : Int32) (x3 : Int32) (σ : ST) (F : Int32 × ST) (hE : fX4_leg x1 x2 x3 σ = some F) : Met l yX4_leg wu_X4_leg r_X4_leg (zPc E xW [.ref (ea E 0), .int x1, .int x2, .int x3] σ) (zQi E xW F) 0 0 (eA E) := by
  refine Met.ofW (cc := cX4_leg) (maxL := 4) (ret := (some .int)) (by decide) rfl ?_
  intro p e s m args below meth c s₁ B hml hv
  obtain ⟨rfl, hP, hK⟩ := hv
  have hl := lv_entry ([.ref (ea E 0), .int x1, .int x2, .int x3]) (n := 4) (Nat.le_of_ble_eq_true rfl)
  rw [lg_entry_eq]
  generalize (lg_sl ([.ref (ea E 0), .int x1, .int x2, .int x3]) ++ List.replicate (4 - (lg_sl ([.ref (ea E 0), .int x1, .int x2, .int x3])).length) Slot.unset).toArray = ls at hl ⊢
  exact wX4_leg ⟨B.exec, B.bytes, hml, findClass_of_methodNamed B.named, fun w h => atoms_spec (ws := wu_X4_leg) B.pre w (List.mem_cons_of_mem _ h), B.returns, B.notSynchronized, hK, hD⟩ x1 x2 x3 σ s.heap [] ls hl hP va_S.rf hE
def fX4_safe  (x1 : Int32) (x2 : Int32) (x3 : Int32) (σ : ST) : Option (Int32 × ST) :=
  cali (fX4_between x1 x2 x3 1 σ) (fun r_2 σ_1 => some (r_2, σ_1))
set_option maxHeartbeats 4000000 in
set_option maxRecDepth 100000 in
theorem wX4_safe {p : Program} {l : Launch} {e : Env} {s : State} {m : MethodId} {args : Array Value} {below : List Frame} {meth : Method} {c : Code} {E : EN} (C : zC E xW p s m args meth c cX4_safe 4 RX4 (some .int) wsL_law) {F : Int32 × ST}   (x1 : Int32) (x2 : Int32) (x3 : Int32) (σ : ST) (H : Heap) (locs : List Loc) (ls : Array Slot) (hl : lv_has ls 4 [(0, .ref (ea E 0)), (1, .int x1), (2, .int x2), (3, .int x3)]) (hP : va_P (eD E) vwCl (xW E σ) H) (hS : va_S (eA E) s.heap H locs) (hE : fX4_safe  x1 x2 x3 σ = some F) : zWi E xW p l e r_X4_safe s m args below meth c F H locs (F0 m 0 ls []) := by
  obtain ⟨hx, hb, hml, hown, hts, hr, hlk, hK, hD⟩ := id C
  unfold fX4_safe at hE
  refine lv_aload_n hx hb dX4_safe_0 rfl (lv_at hl 0 rfl) ?_
  refine lv_iload_n hx hb dX4_safe_1 rfl (lv_at hl 1 rfl) ?_
  refine lv_iload_n hx hb dX4_safe_2 rfl (lv_at hl 2 rfl) ?_
  refine lv_iload_n hx hb dX4_safe_3 rfl (lv_at hl 3 rfl) ?_
  refine lv_iconst (v := 1) hx hb dX4_safe_4 (by decide) ?_
  refine z_goi (wf := xW) hS hE (fun F1 h1 => (va_runV (As := [.int x1, .int x2, .int x3, .int 1]) (rest := []) ⟨hx, hb, hml, hown, hts⟩ (kX4_between l E hD x1 x2 x3 1 σ F1 h1) (cwV 4 hts (gU_V u_477 u_478 u_479 u_2 u_480) rfl rfl rfl q_X4_between ⟨Nat.le_of_ble_eq_true rfl, Nat.le_of_ble_eq_true rfl⟩) (z_preV hK hP hS (ci := 4) (q0 := 0) rfl rfl rfl) rfl rfl hl.1 rfl (lv_room (Nat.le_of_ble_eq_true rfl)) dX4_safe_5 ⟨Nat.le_of_ble_eq_true rfl, Nat.le_of_ble_eq_true rfl⟩)) (fun r_2 σ_1 H locs hP hS hE => ?_)
  exact z_iret hx hb hr hlk hP hS dX4_safe_8 hE
theorem kX4_safe (l : Launch) (E : EN) (hD : ∀ σ, va_D (eA E) (xW E σ)) (x1 : Int32) (x2 : Int32) (x3 : Int32) (σ : ST) (F : Int32 × ST) (hE : fX4_safe x1 x2 x3 σ = some F) : Met l yX4_safe wu_X4_safe r_X4_safe (zPc E xW [.ref (ea E 0), .int x1, .int x2, .int x3] σ) (zQi E xW F) 0 0 (eA E) := by
  refine Met.ofW (cc := cX4_safe) (maxL := 4) (ret := (some .int)) (by decide) rfl ?_
  intro p e s m args below meth c s₁ B hml hv
  obtain ⟨rfl, hP, hK⟩ := hv
  have hl := lv_entry ([.ref (ea E 0), .int x1, .int x2, .int x3]) (n := 4) (Nat.le_of_ble_eq_true rfl)
  rw [lg_entry_eq]
  generalize (lg_sl ([.ref (ea E 0), .int x1, .int x2, .int x3]) ++ List.replicate (4 - (lg_sl ([.ref (ea E 0), .int x1, .int x2, .int x3])).length) Slot.unset).toArray = ls at hl ⊢
  exact wX4_safe ⟨B.exec, B.bytes, hml, findClass_of_methodNamed B.named, fun w h => atoms_spec (ws := wu_X4_safe) B.pre w (List.mem_cons_of_mem _ h), B.returns, B.notSynchronized, hK, hD⟩ x1 x2 x3 σ s.heap [] ls hl hP va_S.rf hE
def fX3_supposePushers  (x1 : Int32) (x2 : Int32) (σ : ST) : Option (ST) :=
  cali (fX2_startsWith_4 x1 x2 σ) (fun r_2 σ_1 => ast σ_1 39 8 x1 r_2 (fun σ_3 => ald (gA σ_3 39) 8 x1 (fun v_4 => cali (fX2_pushedFrom v_4 x2 σ_3) (fun r_6 σ_5 => ast σ_5 40 8 x1 r_6 (fun σ_7 => some σ_7)))))
set_option maxHeartbeats 4000000 in
set_option maxRecDepth 100000 in
theorem wX3_supposePushers {p : Program} {l : Launch} {e : Env} {s : State} {m : MethodId} {args : Array Value} {below : List Frame} {meth : Method} {c : Code} {E : EN} (C : zC E xW p s m args meth c cX3_supposePushers 3 RX3 none wsL_law) {F : ST}   (x1 : Int32) (x2 : Int32) (σ : ST) (H : Heap) (locs : List Loc) (ls : Array Slot) (hl : lv_has ls 3 [(0, .ref (ea E 1)), (1, .int x1), (2, .int x2)]) (hP : va_P (eD E) vwCl (xW E σ) H) (hS : va_S (eA E) s.heap H locs) (hE : fX3_supposePushers  x1 x2 σ = some F) : zWv E xW p l e r_X3_supposePushers s m args below meth c F H locs (F0 m 0 ls []) := by
  obtain ⟨hx, hb, hml, hown, hts, hr, hlk, hK, hD⟩ := id C
  have hwX3 : ∀ w ∈ wsX30, w.before args s = true := fun w h => hts w (inlX3 w h)
  unfold fX3_supposePushers at hE
  refine lv_aload_n hx hb dX3_supposePushers_0 rfl (lv_at hl 0 rfl) ?_
  refine xg_1_2 hx hb hown hwX3 (hts _ u_45) hK hP dX3_supposePushers_1 ?_
  refine lv_iload_n hx hb dX3_supposePushers_4 rfl (lv_at hl 1 rfl) ?_
  refine lv_aload_n hx hb dX3_supposePushers_5 rfl (lv_at hl 0 rfl) ?_
  refine xg_1_0 hx hb hown hwX3 (hts _ u_40) hK hP dX3_supposePushers_6 ?_
  refine lv_iload_n hx hb dX3_supposePushers_9 rfl (lv_at hl 1 rfl) ?_
  refine lv_iload_n hx hb dX3_supposePushers_10 rfl (lv_at hl 2 rfl) ?_
  refine z_goi (wf := xW) hS hE (fun F1 h1 => (va_runV (As := [.int x1, .int x2]) (rest := [.int x1, .ref (ea E 46)]) ⟨hx, hb, hml, hown, hts⟩ (kX2_startsWith_4 l E hD x1 x2 σ F1 h1) (cwV 2 hts (gU_V u_537 u_393 u_394 u_22 u_395) rfl rfl rfl q_X2_startsWith ⟨Nat.le_of_ble_eq_true rfl, Nat.le_of_ble_eq_true rfl⟩) (z_preV hK hP hS (ci := 2) (q0 := 4) rfl rfl rfl) rfl rfl hl.1 rfl (lv_room (Nat.le_of_ble_eq_true rfl)) dX3_supposePushers_11 ⟨Nat.le_of_ble_eq_true rfl, Nat.le_of_ble_eq_true rfl⟩)) (fun r_2 σ_1 H locs hP hS hE => ?_)
  refine xs_46 hx hb hK hD hP hS dX3_supposePushers_14 hE (fun σ_3 H locs hP hS hE => ?_)
  refine lv_aload_n hx hb dX3_supposePushers_15 rfl (lv_at hl 0 rfl) ?_
  refine xg_1_3 hx hb hown hwX3 (hts _ u_46) hK hP dX3_supposePushers_16 ?_
  refine lv_iload_n hx hb dX3_supposePushers_19 rfl (lv_at hl 1 rfl) ?_
  refine lv_aload_n hx hb dX3_supposePushers_20 rfl (lv_at hl 0 rfl) ?_
  refine xg_1_2 hx hb hown hwX3 (hts _ u_45) hK hP dX3_supposePushers_21 ?_
  refine lv_iload_n hx hb dX3_supposePushers_24 rfl (lv_at hl 1 rfl) ?_
  refine xa_46 hx hb hK hP dX3_supposePushers_25 hE (fun v_4 hE => ?_)
  refine lv_iload_n hx hb dX3_supposePushers_26 rfl (lv_at hl 2 rfl) ?_
  refine z_goi (wf := xW) hS hE (fun F1 h1 => (va_runS (As := [.int v_4, .int x2]) (rest := [.int x1, .ref (ea E 47)]) ⟨hx, hb, hml, hown, hts⟩ (kX2_pushedFrom l E hD v_4 x2 σ_3 F1 h1) (va_cwS 2 hts (gU_S u_538 u_404 u_22 u_405) rfl rfl rfl q_X2_pushedFrom ⟨Nat.le_of_ble_eq_true rfl, Nat.le_of_ble_eq_true rfl⟩) (z_preS hK hP hS) rfl rfl hl.1 rfl (lv_room (Nat.le_of_ble_eq_true rfl)) dX3_supposePushers_27 ⟨Nat.le_of_ble_eq_true rfl, Nat.le_of_ble_eq_true rfl⟩)) (fun r_6 σ_5 H locs hP hS hE => ?_)
  refine xs_47 hx hb hK hD hP hS dX3_supposePushers_30 hE (fun σ_7 H locs hP hS hE => ?_)
  exact z_vret hx hb hr hlk hP hS dX3_supposePushers_31 hE
theorem kX3_supposePushers (l : Launch) (E : EN) (hD : ∀ σ, va_D (eA E) (xW E σ)) (x1 : Int32) (x2 : Int32) (σ : ST) (F : ST) (hE : fX3_supposePushers x1 x2 σ = some F) : Met l yX3_supposePushers wu_X3_supposePushers r_X3_supposePushers (zPc E xW [.ref (ea E 1), .int x1, .int x2] σ) (zQv E xW F) 0 0 (eA E) := by
  refine Met.ofW (cc := cX3_supposePushers) (maxL := 3) (ret := none) (by decide) rfl ?_
  intro p e s m args below meth c s₁ B hml hv
  obtain ⟨rfl, hP, hK⟩ := hv
  have hl := lv_entry ([.ref (ea E 1), .int x1, .int x2]) (n := 3) (Nat.le_of_ble_eq_true rfl)
  rw [lg_entry_eq]
  generalize (lg_sl ([.ref (ea E 1), .int x1, .int x2]) ++ List.replicate (3 - (lg_sl ([.ref (ea E 1), .int x1, .int x2])).length) Slot.unset).toArray = ls at hl ⊢
  exact wX3_supposePushers ⟨B.exec, B.bytes, hml, findClass_of_methodNamed B.named, fun w h => atoms_spec (ws := wu_X3_supposePushers) B.pre w (List.mem_cons_of_mem _ h), B.returns, B.notSynchronized, hK, hD⟩ x1 x2 σ s.heap [] ls hl hP va_S.rf hE
def fX3_supposeAsItIs_L24 (ke : ST → Option (ST)) : Nat → Int32 → ST → Option (ST)
  | 0, _, _ => none
  | n + 1, x1, σ => (if (gI σ 3) ≤ x1 then ke  σ else ald (gA σ 8) 8 x1 (fun v_4 => calv (fX3_supposePushers x1 v_4 σ) (fun σ_5 => bnd (x1 + 1) (fun x1_6 => fX3_supposeAsItIs_L24 ke n x1_6 σ_5))))
set_option maxHeartbeats 4000000 in
set_option maxRecDepth 100000 in
theorem wX3_supposeAsItIs_L24 {p : Program} {l : Launch} {e : Env} {s : State} {m : MethodId} {args : Array Value} {below : List Frame} {meth : Method} {c : Code} {E : EN} (C : zC E xW p s m args meth c cX3_supposeAsItIs 2 RX3 none wsL_law) {F : ST} {ke : ST → Option (ST)} (hke : ∀  (σ : ST) (H : Heap) (locs : List Loc) (ls : Array Slot), lv_has ls 2 [] → va_P (eD E) vwCl (xW E σ) H → va_S (eA E) s.heap H locs → ke  σ = some F → zWv E xW p l e r_X3_supposeAsItIs s m args below meth c F H locs (F0 m 55 ls [])) : ∀ (n : Nat) (x1 : Int32) (σ : ST) (H : Heap) (locs : List Loc) (ls : Array Slot), lv_has ls 2 [(0, .ref (ea E 1)), (1, .int x1)] → va_P (eD E) vwCl (xW E σ) H → va_S (eA E) s.heap H locs → fX3_supposeAsItIs_L24 ke n x1 σ = some F → zWv E xW p l e r_X3_supposeAsItIs s m args below meth c F H locs (F0 m 24 ls []) := by
  obtain ⟨hx, hb, hml, hown, hts, hr, hlk, hK, hD⟩ := id C
  have hwX2 : ∀ w ∈ wsX20, w.before args s = true := fun w h => hts w (inlX2 w h)
  have hwX3 : ∀ w ∈ wsX30, w.before args s = true := fun w h => hts w (inlX3 w h)
  intro n
  induction n with
  | zero => intro x1 σ H locs ls hl hP hS hE; rw [fX3_supposeAsItIs_L24] at hE; cases hE
  | succ n ih =>
    intro x1 σ H locs ls hl hP hS hE
    rw [fX3_supposeAsItIs_L24] at hE
    refine lv_iload_n hx hb dX3_supposeAsItIs_24 rfl (lv_at hl 1 rfl) ?_
    refine lv_aload_n hx hb dX3_supposeAsItIs_25 rfl (lv_at hl 0 rfl) ?_
    refine xg_1_0 hx hb hown hwX3 (hts _ u_40) hK hP dX3_supposeAsItIs_26 ?_
    refine xg_4_11 hx hb hown hwX2 (hts _ u_531) hK hP dX3_supposeAsItIs_29 ?_
    refine z_icmp_ge (tgt := 55) hx hb dX3_supposeAsItIs_32 (by decide) hE (fun hE => ?_) (fun hE => ?_)
    · exact hke  σ _ _ _ (lv_sub hl [] rfl) hP hS hE
    refine lv_aload_n hx hb dX3_supposeAsItIs_35 rfl (lv_at hl 0 rfl) ?_
    refine lv_iload_n hx hb dX3_supposeAsItIs_36 rfl (lv_at hl 1 rfl) ?_
    refine lv_aload_n hx hb dX3_supposeAsItIs_37 rfl (lv_at hl 0 rfl) ?_
    refine xg_1_0 hx hb hown hwX3 (hts _ u_40) hK hP dX3_supposeAsItIs_38 ?_
    refine xg_4_2 hx hb hown hwX2 (hts _ u_532) hK hP dX3_supposeAsItIs_41 ?_
    refine lv_iload_n hx hb dX3_supposeAsItIs_44 rfl (lv_at hl 1 rfl) ?_
    refine xa_15 hx hb hK hP dX3_supposeAsItIs_45 hE (fun v_4 hE => ?_)
    refine z_gov (wf := xW) hS hE (fun F1 h1 => (va_runV (As := [.int x1, .int v_4]) (rest := []) ⟨hx, hb, hml, hown, hts⟩ (kX3_supposePushers l E hD x1 v_4 σ F1 h1) (cwV 2 hts (gU_V u_533 u_534 u_535 u_14 u_536) rfl rfl rfl q_X3_supposePushers ⟨Nat.le_of_ble_eq_true rfl, Nat.le_of_ble_eq_true rfl⟩) (z_preV hK hP hS (ci := 3) (q0 := 1) rfl rfl rfl) rfl rfl hl.1 rfl (lv_room (Nat.le_of_ble_eq_true rfl)) dX3_supposeAsItIs_46 ⟨Nat.le_of_ble_eq_true rfl, Nat.le_of_ble_eq_true rfl⟩)) (fun σ_5 H locs hP hS hE => ?_)
    refine z_iinc hx hb (v := (x1 + 1)) (k := 1) (fun x1_6 => [(1, .int x1_6), (0, .ref (ea E 1))]) dX3_supposeAsItIs_49 hl rfl (by rfl) (by decide) rfl hE (fun x1_6 ls hl hE => ?_)
    refine lv_goto (tgt := 24) hx hb dX3_supposeAsItIs_52 (by decide) ?_
    exact ih x1_6 σ_5 _ _ _ (lv_sub hl [1, 0] rfl) hP hS hE
def fX3_supposeAsItIs   (σ : ST) : Option (ST) :=
  bnd (sI σ 23 (gI σ 8)) (fun σ_1 => bnd (sI σ_1 24 (gI σ_1 7)) (fun σ_2 => bnd (0 : Int32) (fun x1_3 => fX3_supposeAsItIs_L24 (fun σ_7 => some σ_7) FU x1_3 σ_2)))
set_option maxHeartbeats 4000000 in
set_option maxRecDepth 100000 in
theorem wX3_supposeAsItIs {p : Program} {l : Launch} {e : Env} {s : State} {m : MethodId} {args : Array Value} {below : List Frame} {meth : Method} {c : Code} {E : EN} (C : zC E xW p s m args meth c cX3_supposeAsItIs 2 RX3 none wsL_law) {F : ST}    (σ : ST) (H : Heap) (locs : List Loc) (ls : Array Slot) (hl : lv_has ls 2 [(0, .ref (ea E 1))]) (hP : va_P (eD E) vwCl (xW E σ) H) (hS : va_S (eA E) s.heap H locs) (hE : fX3_supposeAsItIs   σ = some F) : zWv E xW p l e r_X3_supposeAsItIs s m args below meth c F H locs (F0 m 0 ls []) := by
  obtain ⟨hx, hb, hml, hown, hts, hr, hlk, hK, hD⟩ := id C
  have hwX2 : ∀ w ∈ wsX20, w.before args s = true := fun w h => hts w (inlX2 w h)
  have hwX3 : ∀ w ∈ wsX30, w.before args s = true := fun w h => hts w (inlX3 w h)
  unfold fX3_supposeAsItIs at hE
  refine lv_aload_n hx hb dX3_supposeAsItIs_0 rfl (lv_at hl 0 rfl) ?_
  refine lv_aload_n hx hb dX3_supposeAsItIs_1 rfl (lv_at hl 0 rfl) ?_
  refine xg_1_0 hx hb hown hwX3 (hts _ u_40) hK hP dX3_supposeAsItIs_2 ?_
  refine xg_4_16 hx hb hown hwX2 (hts _ u_529) hK hP dX3_supposeAsItIs_5 ?_
  refine xp_1_8 hx hb hown hwX3 (hts _ u_52) hK hD hP hS dX3_supposeAsItIs_8 hE (fun σ_1 H locs hP hS hE => ?_)
  refine lv_aload_n hx hb dX3_supposeAsItIs_11 rfl (lv_at hl 0 rfl) ?_
  refine lv_aload_n hx hb dX3_supposeAsItIs_12 rfl (lv_at hl 0 rfl) ?_
  refine xg_1_0 hx hb hown hwX3 (hts _ u_40) hK hP dX3_supposeAsItIs_13 ?_
  refine xg_4_15 hx hb hown hwX2 (hts _ u_530) hK hP dX3_supposeAsItIs_16 ?_
  refine xp_1_9 hx hb hown hwX3 (hts _ u_53) hK hD hP hS dX3_supposeAsItIs_19 hE (fun σ_2 H locs hP hS hE => ?_)
  refine lv_iconst (v := 0) hx hb dX3_supposeAsItIs_22 (by decide) ?_
  refine z_istore_n hx hb (fun x1_3 => [(1, .int x1_3), (0, .ref (ea E 1))]) dX3_supposeAsItIs_23 rfl hl (by decide) rfl hE (fun x1_3 ls hl hE => ?_)
  refine wX3_supposeAsItIs_L24 C ?_ FU x1_3 σ_2 _ _ _ (lv_sub hl [1, 0] rfl) hP hS hE
  intro σ_7 H locs ls hl hP hS hE
  exact z_vret hx hb hr hlk hP hS dX3_supposeAsItIs_55 hE
theorem kX3_supposeAsItIs (l : Launch) (E : EN) (hD : ∀ σ, va_D (eA E) (xW E σ))  (σ : ST) (F : ST) (hE : fX3_supposeAsItIs  σ = some F) : Met l yX3_supposeAsItIs wu_X3_supposeAsItIs r_X3_supposeAsItIs (zPc E xW [.ref (ea E 1)] σ) (zQv E xW F) 0 0 (eA E) := by
  refine Met.ofW (cc := cX3_supposeAsItIs) (maxL := 2) (ret := none) (by decide) rfl ?_
  intro p e s m args below meth c s₁ B hml hv
  obtain ⟨rfl, hP, hK⟩ := hv
  have hl := lv_entry ([.ref (ea E 1)]) (n := 2) (Nat.le_of_ble_eq_true rfl)
  rw [lg_entry_eq]
  generalize (lg_sl ([.ref (ea E 1)]) ++ List.replicate (2 - (lg_sl ([.ref (ea E 1)])).length) Slot.unset).toArray = ls at hl ⊢
  exact wX3_supposeAsItIs ⟨B.exec, B.bytes, hml, findClass_of_methodNamed B.named, fun w h => atoms_spec (ws := wu_X3_supposeAsItIs) B.pre w (List.mem_cons_of_mem _ h), B.returns, B.notSynchronized, hK, hD⟩  σ s.heap [] ls hl hP va_S.rf hE
def fX4_orderOfRow_L7 (ke : Int32 → ST → Option (Int32 × ST)) : Nat → Int32 → Int32 → Int32 → Int32 → ST → Option (Int32 × ST)
  | 0, _, _, _, _, _ => none
  | n + 1, x1, x2, x3, x4, σ => (if (gI σ 0) ≤ x4 then ke x2 σ else ald (gA σ 43) 10 x4 (fun v_4 => bnd (v_4 : Int32) (fun x5_5 => bnd ((1 <<< (x5_5 &&& 31)) : Int32) (fun x6_6 => (if (gI σ 5) ≤ x5_5 then bnd (x4 + 1) (fun x4_7 => fX4_orderOfRow_L7 ke n x1 x2 x3 x4_7 σ) else (if x5_5 = x1 then bnd (x4 + 1) (fun x4_8 => fX4_orderOfRow_L7 ke n x1 x2 x3 x4_8 σ) else (if (x3 &&& x6_6) = 0 then (if 5 ≤ x2 then bnd (x4 + 1) (fun x4_10 => fX4_orderOfRow_L7 ke n x1 x2 x3 x4_10 σ) else bnd ((x3 ||| x6_6) : Int32) (fun x3_11 => ast σ 44 5 x2 x5_5 (fun σ_12 => bnd (x2 + 1) (fun x2_13 => bnd (x4 + 1) (fun x4_14 => fX4_orderOfRow_L7 ke n x1 x2_13 x3_11 x4_14 σ_12))))) else bnd (x4 + 1) (fun x4_9 => fX4_orderOfRow_L7 ke n x1 x2 x3 x4_9 σ))))))))
set_option maxHeartbeats 4000000 in
set_option maxRecDepth 100000 in
theorem wX4_orderOfRow_L7 {p : Program} {l : Launch} {e : Env} {s : State} {m : MethodId} {args : Array Value} {below : List Frame} {meth : Method} {c : Code} {E : EN} (C : zC E xW p s m args meth c cX4_orderOfRow 7 RX4 (some .int) wsL_law) {F : Int32 × ST} {ke : Int32 → ST → Option (Int32 × ST)} (hke : ∀ (x2 : Int32) (σ : ST) (H : Heap) (locs : List Loc) (ls : Array Slot), lv_has ls 7 [(2, .int x2)] → va_P (eD E) vwCl (xW E σ) H → va_S (eA E) s.heap H locs → ke x2 σ = some F → zWi E xW p l e r_X4_orderOfRow s m args below meth c F H locs (F0 m 87 ls [])) : ∀ (n : Nat) (x1 : Int32) (x2 : Int32) (x3 : Int32) (x4 : Int32) (σ : ST) (H : Heap) (locs : List Loc) (ls : Array Slot), lv_has ls 7 [(0, .ref (ea E 0)), (1, .int x1), (2, .int x2), (3, .int x3), (4, .int x4)] → va_P (eD E) vwCl (xW E σ) H → va_S (eA E) s.heap H locs → fX4_orderOfRow_L7 ke n x1 x2 x3 x4 σ = some F → zWi E xW p l e r_X4_orderOfRow s m args below meth c F H locs (F0 m 7 ls []) := by
  obtain ⟨hx, hb, hml, hown, hts, hr, hlk, hK, hD⟩ := id C
  have hwX2 : ∀ w ∈ wsX20, w.before args s = true := fun w h => hts w (inlX2 w h)
  have hwX4 : ∀ w ∈ wsX40, w.before args s = true := fun w h => hts w (inlX4 w h)
  intro n
  induction n with
  | zero => intro x1 x2 x3 x4 σ H locs ls hl hP hS hE; rw [fX4_orderOfRow_L7] at hE; cases hE
  | succ n ih =>
    intro x1 x2 x3 x4 σ H locs ls hl hP hS hE
    rw [fX4_orderOfRow_L7] at hE
    refine lv_iload hx hb dX4_orderOfRow_7 (lv_at hl 4 rfl) ?_
    refine lv_aload_n hx hb dX4_orderOfRow_9 rfl (lv_at hl 0 rfl) ?_
    refine xg_0_10 hx hb hown hwX4 (hts _ u_34) hK hP dX4_orderOfRow_10 ?_
    refine z_icmp_ge (tgt := 87) hx hb dX4_orderOfRow_13 (by decide) hE (fun hE => ?_) (fun hE => ?_)
    · exact hke x2 σ _ _ _ (lv_sub hl [2] rfl) hP hS hE
    refine lv_aload_n hx hb dX4_orderOfRow_16 rfl (lv_at hl 0 rfl) ?_
    refine xg_0_6 hx hb hown hwX4 (hts _ u_30) hK hP dX4_orderOfRow_17 ?_
    refine lv_iload hx hb dX4_orderOfRow_20 (lv_at hl 4 rfl) ?_
    refine xa_50 hx hb hK hP dX4_orderOfRow_22 hE (fun v_4 hE => ?_)
    refine z_istore hx hb (fun x5_5 => [(5, .int x5_5), (0, .ref (ea E 0)), (1, .int x1), (2, .int x2), (3, .int x3), (4, .int x4)]) dX4_orderOfRow_23 hl (by decide) rfl hE (fun x5_5 ls hl hE => ?_)
    refine lv_iconst (v := 1) hx hb dX4_orderOfRow_25 (by decide) ?_
    refine lv_iload hx hb dX4_orderOfRow_26 (lv_at hl 0 rfl) ?_
    refine lv_ishl hx hb dX4_orderOfRow_28 ?_
    refine z_istore hx hb (fun x6_6 => [(6, .int x6_6), (5, .int x5_5), (0, .ref (ea E 0)), (1, .int x1), (2, .int x2), (3, .int x3), (4, .int x4)]) dX4_orderOfRow_29 hl (by decide) rfl hE (fun x6_6 ls hl hE => ?_)
    refine lv_iload hx hb dX4_orderOfRow_31 (lv_at hl 1 rfl) ?_
    refine lv_aload_n hx hb dX4_orderOfRow_33 rfl (lv_at hl 2 rfl) ?_
    refine xg_0_1 hx hb hown hwX4 (hts _ u_17) hK hP dX4_orderOfRow_34 ?_
    refine xg_4_13 hx hb hown hwX2 (hts _ u_446) hK hP dX4_orderOfRow_37 ?_
    refine z_icmp_ge (tgt := 81) hx hb dX4_orderOfRow_40 (by decide) hE (fun hE => ?_) (fun hE => ?_)
    · refine z_iinc hx hb (v := (x4 + 1)) (k := 6) (fun x4_7 => [(4, .int x4_7), (6, .int x6_6), (5, .int x5_5), (0, .ref (ea E 0)), (1, .int x1), (2, .int x2), (3, .int x3)]) dX4_orderOfRow_81 hl rfl (by rfl) (by decide) rfl hE (fun x4_7 ls hl hE => ?_)
      refine lv_goto (tgt := 7) hx hb dX4_orderOfRow_84 (by decide) ?_
      exact ih x1 x2 x3 x4_7 σ _ _ _ (lv_sub hl [3, 4, 5, 6, 0] rfl) hP hS hE
    refine lv_iload hx hb dX4_orderOfRow_43 (lv_at hl 1 rfl) ?_
    refine lv_iload_n hx hb dX4_orderOfRow_45 rfl (lv_at hl 3 rfl) ?_
    refine z_icmp_eq (tgt := 81) hx hb dX4_orderOfRow_46 (by decide) hE (fun hE => ?_) (fun hE => ?_)
    · refine z_iinc hx hb (v := (x4 + 1)) (k := 6) (fun x4_8 => [(4, .int x4_8), (6, .int x6_6), (5, .int x5_5), (0, .ref (ea E 0)), (1, .int x1), (2, .int x2), (3, .int x3)]) dX4_orderOfRow_81 hl rfl (by rfl) (by decide) rfl hE (fun x4_8 ls hl hE => ?_)
      refine lv_goto (tgt := 7) hx hb dX4_orderOfRow_84 (by decide) ?_
      exact ih x1 x2 x3 x4_8 σ _ _ _ (lv_sub hl [3, 4, 5, 6, 0] rfl) hP hS hE
    refine lv_iload_n hx hb dX4_orderOfRow_49 rfl (lv_at hl 5 rfl) ?_
    refine lv_iload hx hb dX4_orderOfRow_50 (lv_at hl 0 rfl) ?_
    refine lv_iand hx hb dX4_orderOfRow_52 ?_
    refine z_if_ne (tgt := 81) hx hb dX4_orderOfRow_53 (by decide) hE (fun hE => ?_) (fun hE => ?_)
    · refine z_iinc hx hb (v := (x4 + 1)) (k := 6) (fun x4_9 => [(4, .int x4_9), (6, .int x6_6), (5, .int x5_5), (0, .ref (ea E 0)), (1, .int x1), (2, .int x2), (3, .int x3)]) dX4_orderOfRow_81 hl rfl (by rfl) (by decide) rfl hE (fun x4_9 ls hl hE => ?_)
      refine lv_goto (tgt := 7) hx hb dX4_orderOfRow_84 (by decide) ?_
      exact ih x1 x2 x3 x4_9 σ _ _ _ (lv_sub hl [3, 4, 5, 6, 0] rfl) hP hS hE
    refine lv_iload_n hx hb dX4_orderOfRow_56 rfl (lv_at hl 4 rfl) ?_
    refine lv_aload_n hx hb dX4_orderOfRow_57 rfl (lv_at hl 2 rfl) ?_
    refine xg_0_7 hx hb hown hwX4 (hts _ u_31) hK hP dX4_orderOfRow_58 ?_
    refine xn_51 hx hb hK hP dX4_orderOfRow_61 ?_
    refine z_icmp_ge (tgt := 81) hx hb dX4_orderOfRow_62 (by decide) hE (fun hE => ?_) (fun hE => ?_)
    · refine z_iinc hx hb (v := (x4 + 1)) (k := 6) (fun x4_10 => [(4, .int x4_10), (6, .int x6_6), (5, .int x5_5), (0, .ref (ea E 0)), (1, .int x1), (2, .int x2), (3, .int x3)]) dX4_orderOfRow_81 hl rfl (by rfl) (by decide) rfl hE (fun x4_10 ls hl hE => ?_)
      refine lv_goto (tgt := 7) hx hb dX4_orderOfRow_84 (by decide) ?_
      exact ih x1 x2 x3 x4_10 σ _ _ _ (lv_sub hl [3, 4, 5, 6, 0] rfl) hP hS hE
    refine lv_iload_n hx hb dX4_orderOfRow_65 rfl (lv_at hl 5 rfl) ?_
    refine lv_iload hx hb dX4_orderOfRow_66 (lv_at hl 0 rfl) ?_
    refine lv_ior hx hb dX4_orderOfRow_68 ?_
    refine z_istore_n hx hb (fun x3_11 => [(3, .int x3_11), (6, .int x6_6), (5, .int x5_5), (0, .ref (ea E 0)), (1, .int x1), (2, .int x2), (4, .int x4)]) dX4_orderOfRow_69 rfl hl (by decide) rfl hE (fun x3_11 ls hl hE => ?_)
    refine lv_aload_n hx hb dX4_orderOfRow_70 rfl (lv_at hl 3 rfl) ?_
    refine xg_0_7 hx hb hown hwX4 (hts _ u_31) hK hP dX4_orderOfRow_71 ?_
    refine lv_iload_n hx hb dX4_orderOfRow_74 rfl (lv_at hl 5 rfl) ?_
    refine lv_iload hx hb dX4_orderOfRow_75 (lv_at hl 2 rfl) ?_
    refine xs_51 hx hb hK hD hP hS dX4_orderOfRow_77 hE (fun σ_12 H locs hP hS hE => ?_)
    refine z_iinc hx hb (v := (x2 + 1)) (k := 5) (fun x2_13 => [(2, .int x2_13), (3, .int x3_11), (6, .int x6_6), (5, .int x5_5), (0, .ref (ea E 0)), (1, .int x1), (4, .int x4)]) dX4_orderOfRow_78 hl rfl (by rfl) (by decide) rfl hE (fun x2_13 ls hl hE => ?_)
    refine z_iinc hx hb (v := (x4 + 1)) (k := 6) (fun x4_14 => [(4, .int x4_14), (2, .int x2_13), (3, .int x3_11), (6, .int x6_6), (5, .int x5_5), (0, .ref (ea E 0)), (1, .int x1)]) dX4_orderOfRow_81 hl rfl (by rfl) (by decide) rfl hE (fun x4_14 ls hl hE => ?_)
    refine lv_goto (tgt := 7) hx hb dX4_orderOfRow_84 (by decide) ?_
    exact ih x1 x2_13 x3_11 x4_14 σ_12 _ _ _ (lv_sub hl [5, 6, 1, 2, 0] rfl) hP hS hE
def fX4_orderOfRow  (x1 : Int32) (σ : ST) : Option (Int32 × ST) :=
  bnd (0 : Int32) (fun x2_1 => bnd (0 : Int32) (fun x3_2 => bnd (0 : Int32) (fun x4_3 => fX4_orderOfRow_L7 (fun x2_15 σ_16 => some (x2_15, σ_16)) FU x1 x2_1 x3_2 x4_3 σ)))
set_option maxHeartbeats 4000000 in
set_option maxRecDepth 100000 in
theorem wX4_orderOfRow {p : Program} {l : Launch} {e : Env} {s : State} {m : MethodId} {args : Array Value} {below : List Frame} {meth : Method} {c : Code} {E : EN} (C : zC E xW p s m args meth c cX4_orderOfRow 7 RX4 (some .int) wsL_law) {F : Int32 × ST}   (x1 : Int32) (σ : ST) (H : Heap) (locs : List Loc) (ls : Array Slot) (hl : lv_has ls 7 [(0, .ref (ea E 0)), (1, .int x1)]) (hP : va_P (eD E) vwCl (xW E σ) H) (hS : va_S (eA E) s.heap H locs) (hE : fX4_orderOfRow  x1 σ = some F) : zWi E xW p l e r_X4_orderOfRow s m args below meth c F H locs (F0 m 0 ls []) := by
  obtain ⟨hx, hb, hml, hown, hts, hr, hlk, hK, hD⟩ := id C
  unfold fX4_orderOfRow at hE
  refine lv_iconst (v := 0) hx hb dX4_orderOfRow_0 (by decide) ?_
  refine z_istore_n hx hb (fun x2_1 => [(2, .int x2_1), (0, .ref (ea E 0)), (1, .int x1)]) dX4_orderOfRow_1 rfl hl (by decide) rfl hE (fun x2_1 ls hl hE => ?_)
  refine lv_iconst (v := 0) hx hb dX4_orderOfRow_2 (by decide) ?_
  refine z_istore_n hx hb (fun x3_2 => [(3, .int x3_2), (2, .int x2_1), (0, .ref (ea E 0)), (1, .int x1)]) dX4_orderOfRow_3 rfl hl (by decide) rfl hE (fun x3_2 ls hl hE => ?_)
  refine lv_iconst (v := 0) hx hb dX4_orderOfRow_4 (by decide) ?_
  refine z_istore hx hb (fun x4_3 => [(4, .int x4_3), (3, .int x3_2), (2, .int x2_1), (0, .ref (ea E 0)), (1, .int x1)]) dX4_orderOfRow_5 hl (by decide) rfl hE (fun x4_3 ls hl hE => ?_)
  refine wX4_orderOfRow_L7 C ?_ FU x1 x2_1 x3_2 x4_3 σ _ _ _ (lv_sub hl [3, 4, 2, 1, 0] rfl) hP hS hE
  intro x2_15 σ_16 H locs ls hl hP hS hE
  refine lv_iload_n hx hb dX4_orderOfRow_87 rfl (lv_at hl 0 rfl) ?_
  exact z_iret hx hb hr hlk hP hS dX4_orderOfRow_88 hE
theorem kX4_orderOfRow (l : Launch) (E : EN) (hD : ∀ σ, va_D (eA E) (xW E σ)) (x1 : Int32) (σ : ST) (F : Int32 × ST) (hE : fX4_orderOfRow x1 σ = some F) : Met l yX4_orderOfRow wu_X4_orderOfRow r_X4_orderOfRow (zPc E xW [.ref (ea E 0), .int x1] σ) (zQi E xW F) 0 0 (eA E) := by
  refine Met.ofW (cc := cX4_orderOfRow) (maxL := 7) (ret := (some .int)) (by decide) rfl ?_
  intro p e s m args below meth c s₁ B hml hv
  obtain ⟨rfl, hP, hK⟩ := hv
  have hl := lv_entry ([.ref (ea E 0), .int x1]) (n := 7) (Nat.le_of_ble_eq_true rfl)
  rw [lg_entry_eq]
  generalize (lg_sl ([.ref (ea E 0), .int x1]) ++ List.replicate (7 - (lg_sl ([.ref (ea E 0), .int x1])).length) Slot.unset).toArray = ls at hl ⊢
  exact wX4_orderOfRow ⟨B.exec, B.bytes, hml, findClass_of_methodNamed B.named, fun w h => atoms_spec (ws := wu_X4_orderOfRow) B.pre w (List.mem_cons_of_mem _ h), B.returns, B.notSynchronized, hK, hD⟩ x1 σ s.heap [] ls hl hP va_S.rf hE
def fX3_noteChance  (x1 : Int32) (x2 : Int32) (σ : ST) : Option (ST) :=
  (if 12 ≤ (gI σ 21) then some σ else ast σ 41 12 (gI σ 21) x1 (fun σ_1 => ast σ_1 42 12 (gI σ_1 21) (vp_nar .boolean x2) (fun σ_2 => bnd (sI σ_2 21 ((gI σ_2 21) + 1)) (fun σ_3 => some σ_3))))
set_option maxHeartbeats 4000000 in
set_option maxRecDepth 100000 in
theorem wX3_noteChance {p : Program} {l : Launch} {e : Env} {s : State} {m : MethodId} {args : Array Value} {below : List Frame} {meth : Method} {c : Code} {E : EN} (C : zC E xW p s m args meth c cX3_noteChance 3 RX3 none wsL_law) {F : ST}   (x1 : Int32) (x2 : Int32) (σ : ST) (H : Heap) (locs : List Loc) (ls : Array Slot) (hl : lv_has ls 3 [(0, .ref (ea E 1)), (1, .int x1), (2, .int x2)]) (hP : va_P (eD E) vwCl (xW E σ) H) (hS : va_S (eA E) s.heap H locs) (hE : fX3_noteChance  x1 x2 σ = some F) : zWv E xW p l e r_X3_noteChance s m args below meth c F H locs (F0 m 0 ls []) := by
  obtain ⟨hx, hb, hml, hown, hts, hr, hlk, hK, hD⟩ := id C
  have hwX3 : ∀ w ∈ wsX30, w.before args s = true := fun w h => hts w (inlX3 w h)
  unfold fX3_noteChance at hE
  refine lv_aload_n hx hb dX3_noteChance_0 rfl (lv_at hl 0 rfl) ?_
  refine xg_1_6 hx hb hown hwX3 (hts _ u_50) hK hP dX3_noteChance_1 ?_
  refine lv_bipush (v := 12) hx hb dX3_noteChance_4 (by decide) ?_
  refine z_icmp_ge (tgt := 39) hx hb dX3_noteChance_6 (by decide) hE (fun hE => ?_) (fun hE => ?_)
  · exact z_vret hx hb hr hlk hP hS dX3_noteChance_39 hE
  refine lv_aload_n hx hb dX3_noteChance_9 rfl (lv_at hl 0 rfl) ?_
  refine xg_1_4 hx hb hown hwX3 (hts _ u_47) hK hP dX3_noteChance_10 ?_
  refine lv_aload_n hx hb dX3_noteChance_13 rfl (lv_at hl 0 rfl) ?_
  refine xg_1_6 hx hb hown hwX3 (hts _ u_50) hK hP dX3_noteChance_14 ?_
  refine lv_iload_n hx hb dX3_noteChance_17 rfl (lv_at hl 1 rfl) ?_
  refine xs_48 hx hb hK hD hP hS dX3_noteChance_18 hE (fun σ_1 H locs hP hS hE => ?_)
  refine lv_aload_n hx hb dX3_noteChance_19 rfl (lv_at hl 0 rfl) ?_
  refine xg_1_5 hx hb hown hwX3 (hts _ u_49) hK hP dX3_noteChance_20 ?_
  refine lv_aload_n hx hb dX3_noteChance_23 rfl (lv_at hl 0 rfl) ?_
  refine xg_1_6 hx hb hown hwX3 (hts _ u_50) hK hP dX3_noteChance_24 ?_
  refine lv_iload_n hx hb dX3_noteChance_27 rfl (lv_at hl 2 rfl) ?_
  refine xs_49 hx hb hK hD hP hS dX3_noteChance_28 hE (fun σ_2 H locs hP hS hE => ?_)
  refine lv_aload_n hx hb dX3_noteChance_29 rfl (lv_at hl 0 rfl) ?_
  refine lv_dup hx hb dX3_noteChance_30 rfl ?_
  refine xg_1_6 hx hb hown hwX3 (hts _ u_50) hK hP dX3_noteChance_31 ?_
  refine lv_iconst (v := 1) hx hb dX3_noteChance_34 (by decide) ?_
  refine lv_iadd hx hb dX3_noteChance_35 ?_
  refine xp_1_6 hx hb hown hwX3 (hts _ u_50) hK hD hP hS dX3_noteChance_36 hE (fun σ_3 H locs hP hS hE => ?_)
  exact z_vret hx hb hr hlk hP hS dX3_noteChance_39 hE
theorem kX3_noteChance (l : Launch) (E : EN) (hD : ∀ σ, va_D (eA E) (xW E σ)) (x1 : Int32) (x2 : Int32) (σ : ST) (F : ST) (hE : fX3_noteChance x1 x2 σ = some F) : Met l yX3_noteChance wu_X3_noteChance r_X3_noteChance (zPc E xW [.ref (ea E 1), .int x1, .int x2] σ) (zQv E xW F) 0 0 (eA E) := by
  refine Met.ofW (cc := cX3_noteChance) (maxL := 3) (ret := none) (by decide) rfl ?_
  intro p e s m args below meth c s₁ B hml hv
  obtain ⟨rfl, hP, hK⟩ := hv
  have hl := lv_entry ([.ref (ea E 1), .int x1, .int x2]) (n := 3) (Nat.le_of_ble_eq_true rfl)
  rw [lg_entry_eq]
  generalize (lg_sl ([.ref (ea E 1), .int x1, .int x2]) ++ List.replicate (3 - (lg_sl ([.ref (ea E 1), .int x1, .int x2])).length) Slot.unset).toArray = ls at hl ⊢
  exact wX3_noteChance ⟨B.exec, B.bytes, hml, findClass_of_methodNamed B.named, fun w h => atoms_spec (ws := wu_X3_noteChance) B.pre w (List.mem_cons_of_mem _ h), B.returns, B.notSynchronized, hK, hD⟩ x1 x2 σ s.heap [] ls hl hP va_S.rf hE
def fX3_startHere_J29  (t0 : Int32) (σ : ST) : Option (ST) :=
  bnd (t0 : Int32) (fun x1_2 => dvl (gL σ 0) 10 (fun v_3 => bnd (sL σ 0 (v_3 * (Int32.toInt64 x1_2))) (fun σ_4 => calv (fX3_noteChance x1_2 0 σ_4) (fun σ_5 => some σ_5))))
set_option maxHeartbeats 4000000 in
set_option maxRecDepth 100000 in
theorem wX3_startHere_J29 {p : Program} {l : Launch} {e : Env} {s : State} {m : MethodId} {args : Array Value} {below : List Frame} {meth : Method} {c : Code} {E : EN} (C : zC E xW p s m args meth c cX3_startHere 2 RX3 none wsL_law) {F : ST}   (t0 : Int32) (σ : ST) (H : Heap) (locs : List Loc) (ls : Array Slot) (hl : lv_has ls 2 [(0, .ref (ea E 1))]) (hP : va_P (eD E) vwCl (xW E σ) H) (hS : va_S (eA E) s.heap H locs) (hE : fX3_startHere_J29  t0 σ = some F) : zWv E xW p l e r_X3_startHere s m args below meth c F H locs (F0 m 29 ls [.int t0]) := by
  obtain ⟨hx, hb, hml, hown, hts, hr, hlk, hK, hD⟩ := id C
  have hwX3 : ∀ w ∈ wsX30, w.before args s = true := fun w h => hts w (inlX3 w h)
  unfold fX3_startHere_J29 at hE
  refine z_istore_n hx hb (fun x1_2 => [(1, .int x1_2), (0, .ref (ea E 1))]) dX3_startHere_29 rfl hl (by decide) rfl hE (fun x1_2 ls hl hE => ?_)
  refine lv_aload_n hx hb dX3_startHere_30 rfl (lv_at hl 1 rfl) ?_
  refine lv_aload_n hx hb dX3_startHere_31 rfl (lv_at hl 1 rfl) ?_
  refine xg_1_13 hx hb hown hwX3 (hts _ u_57) hK hP dX3_startHere_32 ?_
  refine lv_ldc2 (v := 10) hx hb hown (hts _ u_552) dX3_startHere_35 ?_
  refine z_ldiv hx hb dX3_startHere_38 hE (fun v_3 hE => ?_)
  refine lv_iload_n hx hb dX3_startHere_39 rfl (lv_at hl 0 rfl) ?_
  refine lv_i2l (v := (Int32.toInt64 x1_2)) hx hb dX3_startHere_40 rfl ?_
  refine lv_lmul hx hb dX3_startHere_41 ?_
  refine xp_1_13 hx hb hown hwX3 (hts _ u_57) hK hD hP hS dX3_startHere_42 hE (fun σ_4 H locs hP hS hE => ?_)
  refine lv_aload_n hx hb dX3_startHere_45 rfl (lv_at hl 1 rfl) ?_
  refine lv_iload_n hx hb dX3_startHere_46 rfl (lv_at hl 0 rfl) ?_
  refine lv_iconst (v := 0) hx hb dX3_startHere_47 (by decide) ?_
  refine z_gov (wf := xW) hS hE (fun F1 h1 => (va_runV (As := [.int x1_2, .int 0]) (rest := []) ⟨hx, hb, hml, hown, hts⟩ (kX3_noteChance l E hD x1_2 0 σ_4 F1 h1) (cwV 2 hts (gU_V u_553 u_554 u_555 u_14 u_556) rfl rfl rfl q_X3_noteChance ⟨Nat.le_of_ble_eq_true rfl, Nat.le_of_ble_eq_true rfl⟩) (z_preV hK hP hS (ci := 3) (q0 := 1) rfl rfl rfl) rfl rfl hl.1 rfl (lv_room (Nat.le_of_ble_eq_true rfl)) dX3_startHere_48 ⟨Nat.le_of_ble_eq_true rfl, Nat.le_of_ble_eq_true rfl⟩)) (fun σ_5 H locs hP hS hE => ?_)
  exact z_vret hx hb hr hlk hP hS dX3_startHere_51 hE
def fX3_startHere   (σ : ST) : Option (ST) :=
  (if (gI σ 23) = 3 then ald (gA σ 40) 8 (gI σ 22) (fun v_6 => fX3_startHere_J29  v_6 σ) else ald (gA σ 39) 8 (gI σ 22) (fun v_1 => fX3_startHere_J29  v_1 σ))
set_option maxHeartbeats 4000000 in
set_option maxRecDepth 100000 in
theorem wX3_startHere {p : Program} {l : Launch} {e : Env} {s : State} {m : MethodId} {args : Array Value} {below : List Frame} {meth : Method} {c : Code} {E : EN} (C : zC E xW p s m args meth c cX3_startHere 2 RX3 none wsL_law) {F : ST}    (σ : ST) (H : Heap) (locs : List Loc) (ls : Array Slot) (hl : lv_has ls 2 [(0, .ref (ea E 1))]) (hP : va_P (eD E) vwCl (xW E σ) H) (hS : va_S (eA E) s.heap H locs) (hE : fX3_startHere   σ = some F) : zWv E xW p l e r_X3_startHere s m args below meth c F H locs (F0 m 0 ls []) := by
  obtain ⟨hx, hb, hml, hown, hts, hr, hlk, hK, hD⟩ := id C
  have hwX3 : ∀ w ∈ wsX30, w.before args s = true := fun w h => hts w (inlX3 w h)
  unfold fX3_startHere at hE
  refine lv_aload_n hx hb dX3_startHere_0 rfl (lv_at hl 0 rfl) ?_
  refine xg_1_8 hx hb hown hwX3 (hts _ u_52) hK hP dX3_startHere_1 ?_
  refine lv_iconst (v := 3) hx hb dX3_startHere_4 (by decide) ?_
  refine z_icmp_ne (tgt := 20) hx hb dX3_startHere_5 (by decide) hE (fun hE => ?_) (fun hE => ?_)
  · refine lv_aload_n hx hb dX3_startHere_20 rfl (lv_at hl 0 rfl) ?_
    refine xg_1_2 hx hb hown hwX3 (hts _ u_45) hK hP dX3_startHere_21 ?_
    refine lv_aload_n hx hb dX3_startHere_24 rfl (lv_at hl 0 rfl) ?_
    refine xg_1_7 hx hb hown hwX3 (hts _ u_51) hK hP dX3_startHere_25 ?_
    refine xa_46 hx hb hK hP dX3_startHere_28 hE (fun v_1 hE => ?_)
    exact wX3_startHere_J29 C  v_1 σ _ _ _ (lv_sub hl [0] rfl) hP hS hE
  refine lv_aload_n hx hb dX3_startHere_8 rfl (lv_at hl 0 rfl) ?_
  refine xg_1_3 hx hb hown hwX3 (hts _ u_46) hK hP dX3_startHere_9 ?_
  refine lv_aload_n hx hb dX3_startHere_12 rfl (lv_at hl 0 rfl) ?_
  refine xg_1_7 hx hb hown hwX3 (hts _ u_51) hK hP dX3_startHere_13 ?_
  refine xa_47 hx hb hK hP dX3_startHere_16 hE (fun v_6 hE => ?_)
  refine lv_goto (tgt := 29) hx hb dX3_startHere_17 (by decide) ?_
  exact wX3_startHere_J29 C  v_6 σ _ _ _ (lv_sub hl [0] rfl) hP hS hE
theorem kX3_startHere (l : Launch) (E : EN) (hD : ∀ σ, va_D (eA E) (xW E σ))  (σ : ST) (F : ST) (hE : fX3_startHere  σ = some F) : Met l yX3_startHere wu_X3_startHere r_X3_startHere (zPc E xW [.ref (ea E 1)] σ) (zQv E xW F) 0 0 (eA E) := by
  refine Met.ofW (cc := cX3_startHere) (maxL := 2) (ret := none) (by decide) rfl ?_
  intro p e s m args below meth c s₁ B hml hv
  obtain ⟨rfl, hP, hK⟩ := hv
  have hl := lv_entry ([.ref (ea E 1)]) (n := 2) (Nat.le_of_ble_eq_true rfl)
  rw [lg_entry_eq]
  generalize (lg_sl ([.ref (ea E 1)]) ++ List.replicate (2 - (lg_sl ([.ref (ea E 1)])).length) Slot.unset).toArray = ls at hl ⊢
  exact wX3_startHere ⟨B.exec, B.bytes, hml, findClass_of_methodNamed B.named, fun w h => atoms_spec (ws := wu_X3_startHere) B.pre w (List.mem_cons_of_mem _ h), B.returns, B.notSynchronized, hK, hD⟩  σ s.heap [] ls hl hP va_S.rf hE
def fX3_leavesOut_J32  (x1 : Int32) (t0 : Int32) (σ : ST) : Option (Int32 × ST) :=
  bnd (t0 : Int32) (fun x2_2 => (if x2_2 = 0 then (if (gI σ 23) = 5 then cali (fX0_minutesOf (gI σ 22) x1 1 σ) (fun r_6 σ_5 => (if 0 ≤ r_6 then some (0, σ_5) else some (1, σ_5))) else cali (fX0_minutesOf (gI σ 22) x1 0 σ) (fun r_4 σ_3 => (if 0 ≤ r_4 then some (0, σ_3) else some (1, σ_3)))) else some (1, σ)))
set_option maxHeartbeats 4000000 in
set_option maxRecDepth 100000 in
theorem wX3_leavesOut_J32 {p : Program} {l : Launch} {e : Env} {s : State} {m : MethodId} {args : Array Value} {below : List Frame} {meth : Method} {c : Code} {E : EN} (C : zC E xW p s m args meth c cX3_leavesOut 3 RX3 (some .boolean) wsL_law) {F : Int32 × ST}   (x1 : Int32) (t0 : Int32) (σ : ST) (H : Heap) (locs : List Loc) (ls : Array Slot) (hl : lv_has ls 3 [(0, .ref (ea E 1)), (1, .int x1)]) (hP : va_P (eD E) vwCl (xW E σ) H) (hS : va_S (eA E) s.heap H locs) (hE : fX3_leavesOut_J32  x1 t0 σ = some F) : zWi E xW p l e r_X3_leavesOut s m args below meth c F H locs (F0 m 32 ls [.int t0]) := by
  obtain ⟨hx, hb, hml, hown, hts, hr, hlk, hK, hD⟩ := id C
  have hwX3 : ∀ w ∈ wsX30, w.before args s = true := fun w h => hts w (inlX3 w h)
  unfold fX3_leavesOut_J32 at hE
  refine z_istore_n hx hb (fun x2_2 => [(2, .int x2_2), (0, .ref (ea E 1)), (1, .int x1)]) dX3_leavesOut_32 rfl hl (by decide) rfl hE (fun x2_2 ls hl hE => ?_)
  refine lv_iload_n hx hb dX3_leavesOut_33 rfl (lv_at hl 0 rfl) ?_
  refine z_if_ne (tgt := 65) hx hb dX3_leavesOut_34 (by decide) hE (fun hE => ?_) (fun hE => ?_)
  · refine lv_iconst (v := 1) hx hb dX3_leavesOut_65 (by decide) ?_
    refine lv_goto (tgt := 70) hx hb dX3_leavesOut_66 (by decide) ?_
    exact z_zret hx hb hr hlk rfl hP hS dX3_leavesOut_70 hE
  refine lv_aload_n hx hb dX3_leavesOut_37 rfl (lv_at hl 1 rfl) ?_
  refine xg_1_1 hx hb hown hwX3 (hts _ u_44) hK hP dX3_leavesOut_38 ?_
  refine lv_aload_n hx hb dX3_leavesOut_41 rfl (lv_at hl 1 rfl) ?_
  refine xg_1_7 hx hb hown hwX3 (hts _ u_51) hK hP dX3_leavesOut_42 ?_
  refine lv_iload_n hx hb dX3_leavesOut_45 rfl (lv_at hl 2 rfl) ?_
  refine lv_aload_n hx hb dX3_leavesOut_46 rfl (lv_at hl 1 rfl) ?_
  refine xg_1_8 hx hb hown hwX3 (hts _ u_52) hK hP dX3_leavesOut_47 ?_
  refine lv_iconst (v := 5) hx hb dX3_leavesOut_50 (by decide) ?_
  refine z_icmp_ne (tgt := 58) hx hb dX3_leavesOut_51 (by decide) hE (fun hE => ?_) (fun hE => ?_)
  · refine lv_iconst (v := 0) hx hb dX3_leavesOut_58 (by decide) ?_
    refine z_goi (wf := xW) hS hE (fun F1 h1 => (va_runV (As := [.int (gI σ 22), .int x1, .int 0]) (rest := []) ⟨hx, hb, hml, hown, hts⟩ (kX0_minutesOf l E hD (gI σ 22) x1 0 σ F1 h1) (cwV 3 hts (gU_V u_571 u_482 u_483 u_43 u_484) rfl rfl rfl q_X0_minutesOf ⟨Nat.le_of_ble_eq_true rfl, Nat.le_of_ble_eq_true rfl⟩) (z_preV hK hP hS (ci := 0) (q0 := 2) rfl rfl rfl) rfl rfl hl.1 rfl (lv_room (Nat.le_of_ble_eq_true rfl)) dX3_leavesOut_59 ⟨Nat.le_of_ble_eq_true rfl, Nat.le_of_ble_eq_true rfl⟩)) (fun r_4 σ_3 H locs hP hS hE => ?_)
    refine z_if_ge (tgt := 69) hx hb dX3_leavesOut_62 (by decide) hE (fun hE => ?_) (fun hE => ?_)
    · refine lv_iconst (v := 0) hx hb dX3_leavesOut_69 (by decide) ?_
      exact z_zret hx hb hr hlk rfl hP hS dX3_leavesOut_70 hE
    refine lv_iconst (v := 1) hx hb dX3_leavesOut_65 (by decide) ?_
    refine lv_goto (tgt := 70) hx hb dX3_leavesOut_66 (by decide) ?_
    exact z_zret hx hb hr hlk rfl hP hS dX3_leavesOut_70 hE
  refine lv_iconst (v := 1) hx hb dX3_leavesOut_54 (by decide) ?_
  refine lv_goto (tgt := 59) hx hb dX3_leavesOut_55 (by decide) ?_
  refine z_goi (wf := xW) hS hE (fun F1 h1 => (va_runV (As := [.int (gI σ 22), .int x1, .int 1]) (rest := []) ⟨hx, hb, hml, hown, hts⟩ (kX0_minutesOf l E hD (gI σ 22) x1 1 σ F1 h1) (cwV 3 hts (gU_V u_571 u_482 u_483 u_43 u_484) rfl rfl rfl q_X0_minutesOf ⟨Nat.le_of_ble_eq_true rfl, Nat.le_of_ble_eq_true rfl⟩) (z_preV hK hP hS (ci := 0) (q0 := 2) rfl rfl rfl) rfl rfl hl.1 rfl (lv_room (Nat.le_of_ble_eq_true rfl)) dX3_leavesOut_59 ⟨Nat.le_of_ble_eq_true rfl, Nat.le_of_ble_eq_true rfl⟩)) (fun r_6 σ_5 H locs hP hS hE => ?_)
  refine z_if_ge (tgt := 69) hx hb dX3_leavesOut_62 (by decide) hE (fun hE => ?_) (fun hE => ?_)
  · refine lv_iconst (v := 0) hx hb dX3_leavesOut_69 (by decide) ?_
    exact z_zret hx hb hr hlk rfl hP hS dX3_leavesOut_70 hE
  refine lv_iconst (v := 1) hx hb dX3_leavesOut_65 (by decide) ?_
  refine lv_goto (tgt := 70) hx hb dX3_leavesOut_66 (by decide) ?_
  exact z_zret hx hb hr hlk rfl hP hS dX3_leavesOut_70 hE
def fX3_leavesOut_J31  (x1 : Int32) (σ : ST) : Option (Int32 × ST) :=
  fX3_leavesOut_J32  x1 0 σ
set_option maxHeartbeats 4000000 in
set_option maxRecDepth 100000 in
theorem wX3_leavesOut_J31 {p : Program} {l : Launch} {e : Env} {s : State} {m : MethodId} {args : Array Value} {below : List Frame} {meth : Method} {c : Code} {E : EN} (C : zC E xW p s m args meth c cX3_leavesOut 3 RX3 (some .boolean) wsL_law) {F : Int32 × ST}   (x1 : Int32) (σ : ST) (H : Heap) (locs : List Loc) (ls : Array Slot) (hl : lv_has ls 3 [(0, .ref (ea E 1)), (1, .int x1)]) (hP : va_P (eD E) vwCl (xW E σ) H) (hS : va_S (eA E) s.heap H locs) (hE : fX3_leavesOut_J31  x1 σ = some F) : zWi E xW p l e r_X3_leavesOut s m args below meth c F H locs (F0 m 31 ls []) := by
  obtain ⟨hx, hb, hml, hown, hts, hr, hlk, hK, hD⟩ := id C
  unfold fX3_leavesOut_J31 at hE
  refine lv_iconst (v := 0) hx hb dX3_leavesOut_31 (by decide) ?_
  exact wX3_leavesOut_J32 C  x1 0 σ _ _ _ (lv_sub hl [0, 1] rfl) hP hS hE
def fX3_leavesOut_J16  (x1 : Int32) (σ : ST) : Option (Int32 × ST) :=
  ald (gA σ 39) 8 x1 (fun v_1 => (if 10 ≤ v_1 then fX3_leavesOut_J31  x1 σ else fX3_leavesOut_J32  x1 1 σ))
set_option maxHeartbeats 4000000 in
set_option maxRecDepth 100000 in
theorem wX3_leavesOut_J16 {p : Program} {l : Launch} {e : Env} {s : State} {m : MethodId} {args : Array Value} {below : List Frame} {meth : Method} {c : Code} {E : EN} (C : zC E xW p s m args meth c cX3_leavesOut 3 RX3 (some .boolean) wsL_law) {F : Int32 × ST}   (x1 : Int32) (σ : ST) (H : Heap) (locs : List Loc) (ls : Array Slot) (hl : lv_has ls 3 [(0, .ref (ea E 1)), (1, .int x1)]) (hP : va_P (eD E) vwCl (xW E σ) H) (hS : va_S (eA E) s.heap H locs) (hE : fX3_leavesOut_J16  x1 σ = some F) : zWi E xW p l e r_X3_leavesOut s m args below meth c F H locs (F0 m 16 ls []) := by
  obtain ⟨hx, hb, hml, hown, hts, hr, hlk, hK, hD⟩ := id C
  have hwX3 : ∀ w ∈ wsX30, w.before args s = true := fun w h => hts w (inlX3 w h)
  unfold fX3_leavesOut_J16 at hE
  refine lv_aload_n hx hb dX3_leavesOut_16 rfl (lv_at hl 0 rfl) ?_
  refine xg_1_2 hx hb hown hwX3 (hts _ u_45) hK hP dX3_leavesOut_17 ?_
  refine lv_iload_n hx hb dX3_leavesOut_20 rfl (lv_at hl 1 rfl) ?_
  refine xa_46 hx hb hK hP dX3_leavesOut_21 hE (fun v_1 hE => ?_)
  refine lv_bipush (v := 10) hx hb dX3_leavesOut_22 (by decide) ?_
  refine z_icmp_ge (tgt := 31) hx hb dX3_leavesOut_24 (by decide) hE (fun hE => ?_) (fun hE => ?_)
  · exact wX3_leavesOut_J31 C  x1 σ _ _ _ (lv_sub hl [0, 1] rfl) hP hS hE
  refine lv_iconst (v := 1) hx hb dX3_leavesOut_27 (by decide) ?_
  refine lv_goto (tgt := 32) hx hb dX3_leavesOut_28 (by decide) ?_
  exact wX3_leavesOut_J32 C  x1 1 σ _ _ _ (lv_sub hl [0, 1] rfl) hP hS hE
def fX3_leavesOut  (x1 : Int32) (σ : ST) : Option (Int32 × ST) :=
  (if (gI σ 23) = 4 then fX3_leavesOut_J16  x1 σ else (if (gI σ 23) = 5 then fX3_leavesOut_J16  x1 σ else fX3_leavesOut_J31  x1 σ))
set_option maxHeartbeats 4000000 in
set_option maxRecDepth 100000 in
theorem wX3_leavesOut {p : Program} {l : Launch} {e : Env} {s : State} {m : MethodId} {args : Array Value} {below : List Frame} {meth : Method} {c : Code} {E : EN} (C : zC E xW p s m args meth c cX3_leavesOut 3 RX3 (some .boolean) wsL_law) {F : Int32 × ST}   (x1 : Int32) (σ : ST) (H : Heap) (locs : List Loc) (ls : Array Slot) (hl : lv_has ls 3 [(0, .ref (ea E 1)), (1, .int x1)]) (hP : va_P (eD E) vwCl (xW E σ) H) (hS : va_S (eA E) s.heap H locs) (hE : fX3_leavesOut  x1 σ = some F) : zWi E xW p l e r_X3_leavesOut s m args below meth c F H locs (F0 m 0 ls []) := by
  obtain ⟨hx, hb, hml, hown, hts, hr, hlk, hK, hD⟩ := id C
  have hwX3 : ∀ w ∈ wsX30, w.before args s = true := fun w h => hts w (inlX3 w h)
  unfold fX3_leavesOut at hE
  refine lv_aload_n hx hb dX3_leavesOut_0 rfl (lv_at hl 0 rfl) ?_
  refine xg_1_8 hx hb hown hwX3 (hts _ u_52) hK hP dX3_leavesOut_1 ?_
  refine lv_iconst (v := 4) hx hb dX3_leavesOut_4 (by decide) ?_
  refine z_icmp_eq (tgt := 16) hx hb dX3_leavesOut_5 (by decide) hE (fun hE => ?_) (fun hE => ?_)
  · exact wX3_leavesOut_J16 C  x1 σ _ _ _ (lv_sub hl [0, 1] rfl) hP hS hE
  refine lv_aload_n hx hb dX3_leavesOut_8 rfl (lv_at hl 0 rfl) ?_
  refine xg_1_8 hx hb hown hwX3 (hts _ u_52) hK hP dX3_leavesOut_9 ?_
  refine lv_iconst (v := 5) hx hb dX3_leavesOut_12 (by decide) ?_
  refine z_icmp_ne (tgt := 31) hx hb dX3_leavesOut_13 (by decide) hE (fun hE => ?_) (fun hE => ?_)
  · exact wX3_leavesOut_J31 C  x1 σ _ _ _ (lv_sub hl [0, 1] rfl) hP hS hE
  exact wX3_leavesOut_J16 C  x1 σ _ _ _ (lv_sub hl [0, 1] rfl) hP hS hE
theorem kX3_leavesOut (l : Launch) (E : EN) (hD : ∀ σ, va_D (eA E) (xW E σ)) (x1 : Int32) (σ : ST) (F : Int32 × ST) (hE : fX3_leavesOut x1 σ = some F) : Met l yX3_leavesOut wu_X3_leavesOut r_X3_leavesOut (zPc E xW [.ref (ea E 1), .int x1] σ) (zQi E xW F) 0 0 (eA E) := by
  refine Met.ofW (cc := cX3_leavesOut) (maxL := 3) (ret := (some .boolean)) (by decide) rfl ?_
  intro p e s m args below meth c s₁ B hml hv
  obtain ⟨rfl, hP, hK⟩ := hv
  have hl := lv_entry ([.ref (ea E 1), .int x1]) (n := 3) (Nat.le_of_ble_eq_true rfl)
  rw [lg_entry_eq]
  generalize (lg_sl ([.ref (ea E 1), .int x1]) ++ List.replicate (3 - (lg_sl ([.ref (ea E 1), .int x1])).length) Slot.unset).toArray = ls at hl ⊢
  exact wX3_leavesOut ⟨B.exec, B.bytes, hml, findClass_of_methodNamed B.named, fun w h => atoms_spec (ws := wu_X3_leavesOut) B.pre w (List.mem_cons_of_mem _ h), B.returns, B.notSynchronized, hK, hD⟩ x1 σ s.heap [] ls hl hP va_S.rf hE
