def fX3_driveTo_J13  (x1 : Int32) (t0 : Int32) (σ : ST) : Option (ST) :=
  bnd (t0 : Int32) (fun x2_1 => cali (fX0_stallsOf (gI σ 22) x1 x2_1 σ) (fun r_3 σ_2 => bnd (r_3 : Int32) (fun x3_4 => cali (fX0_minutesOf (gI σ_2 22) x1 x2_1 σ_2) (fun r_6 σ_5 => bnd (sI σ_5 25 ((gI σ_2 25) + r_6)) (fun σ_7 => bnd (sI σ_7 22 x1) (fun σ_8 => dvl (gL σ_8 0) 10 (fun v_9 => bnd (sL σ_8 0 (v_9 * (Int32.toInt64 (10 - x3_4)))) (fun σ_10 => calv (fX3_noteChance x3_4 1 σ_10) (fun σ_11 => some σ_11)))))))))
set_option maxHeartbeats 4000000 in
set_option maxRecDepth 100000 in
theorem wX3_driveTo_J13 {p : Program} {l : Launch} {e : Env} {s : State} {m : MethodId} {args : Array Value} {below : List Frame} {meth : Method} {c : Code} {E : EN} (C : zC E xW p s m args meth c cX3_driveTo 4 RX3 none wsL_law) {F : ST}   (x1 : Int32) (t0 : Int32) (σ : ST) (H : Heap) (locs : List Loc) (ls : Array Slot) (hl : lv_has ls 4 [(0, .ref (ea E 1)), (1, .int x1)]) (hP : va_P (eD E) vwCl (xW E σ) H) (hS : va_S (eA E) s.heap H locs) (hE : fX3_driveTo_J13  x1 t0 σ = some F) : zWv E xW p l e r_X3_driveTo s m args below meth c F H locs (F0 m 13 ls [.int t0]) := by
  obtain ⟨hx, hb, hml, hown, hts, hr, hlk, hK, hD⟩ := id C
  have hwX3 : ∀ w ∈ wsX30, w.before args s = true := fun w h => hts w (inlX3 w h)
  unfold fX3_driveTo_J13 at hE
  refine z_istore_n hx hb (fun x2_1 => [(2, .int x2_1), (0, .ref (ea E 1)), (1, .int x1)]) dX3_driveTo_13 rfl hl (by decide) rfl hE (fun x2_1 ls hl hE => ?_)
  refine lv_aload_n hx hb dX3_driveTo_14 rfl (lv_at hl 1 rfl) ?_
  refine xg_1_1 hx hb hown hwX3 (hts _ u_44) hK hP dX3_driveTo_15 ?_
  refine lv_aload_n hx hb dX3_driveTo_18 rfl (lv_at hl 1 rfl) ?_
  refine xg_1_7 hx hb hown hwX3 (hts _ u_51) hK hP dX3_driveTo_19 ?_
  refine lv_iload_n hx hb dX3_driveTo_22 rfl (lv_at hl 2 rfl) ?_
  refine lv_iload_n hx hb dX3_driveTo_23 rfl (lv_at hl 0 rfl) ?_
  refine z_goi (wf := xW) hS hE (fun F1 h1 => (va_runV (As := [.int (gI σ 22), .int x1, .int x2_1]) (rest := []) ⟨hx, hb, hml, hown, hts⟩ (kX0_stallsOf l E hD (gI σ 22) x1 x2_1 σ F1 h1) (cwV 3 hts (gU_V u_576 u_486 u_487 u_43 u_488) rfl rfl rfl q_X0_stallsOf ⟨Nat.le_of_ble_eq_true rfl, Nat.le_of_ble_eq_true rfl⟩) (z_preV hK hP hS (ci := 0) (q0 := 2) rfl rfl rfl) rfl rfl hl.1 rfl (lv_room (Nat.le_of_ble_eq_true rfl)) dX3_driveTo_24 ⟨Nat.le_of_ble_eq_true rfl, Nat.le_of_ble_eq_true rfl⟩)) (fun r_3 σ_2 H locs hP hS hE => ?_)
  refine z_istore_n hx hb (fun x3_4 => [(3, .int x3_4), (2, .int x2_1), (0, .ref (ea E 1)), (1, .int x1)]) dX3_driveTo_27 rfl hl (by decide) rfl hE (fun x3_4 ls hl hE => ?_)
  refine lv_aload_n hx hb dX3_driveTo_28 rfl (lv_at hl 2 rfl) ?_
  refine lv_dup hx hb dX3_driveTo_29 rfl ?_
  refine xg_1_10 hx hb hown hwX3 (hts _ u_54) hK hP dX3_driveTo_30 ?_
  refine lv_aload_n hx hb dX3_driveTo_33 rfl (lv_at hl 2 rfl) ?_
  refine xg_1_1 hx hb hown hwX3 (hts _ u_44) hK hP dX3_driveTo_34 ?_
  refine lv_aload_n hx hb dX3_driveTo_37 rfl (lv_at hl 2 rfl) ?_
  refine xg_1_7 hx hb hown hwX3 (hts _ u_51) hK hP dX3_driveTo_38 ?_
  refine lv_iload_n hx hb dX3_driveTo_41 rfl (lv_at hl 3 rfl) ?_
  refine lv_iload_n hx hb dX3_driveTo_42 rfl (lv_at hl 1 rfl) ?_
  refine z_goi (wf := xW) hS hE (fun F1 h1 => (va_runV (As := [.int (gI σ_2 22), .int x1, .int x2_1]) (rest := [.int (gI σ_2 25), .ref (ea E 1)]) ⟨hx, hb, hml, hown, hts⟩ (kX0_minutesOf l E hD (gI σ_2 22) x1 x2_1 σ_2 F1 h1) (cwV 3 hts (gU_V u_571 u_482 u_483 u_43 u_484) rfl rfl rfl q_X0_minutesOf ⟨Nat.le_of_ble_eq_true rfl, Nat.le_of_ble_eq_true rfl⟩) (z_preV hK hP hS (ci := 0) (q0 := 2) rfl rfl rfl) rfl rfl hl.1 rfl (lv_room (Nat.le_of_ble_eq_true rfl)) dX3_driveTo_43 ⟨Nat.le_of_ble_eq_true rfl, Nat.le_of_ble_eq_true rfl⟩)) (fun r_6 σ_5 H locs hP hS hE => ?_)
  refine lv_iadd hx hb dX3_driveTo_46 ?_
  refine xp_1_10 hx hb hown hwX3 (hts _ u_54) hK hD hP hS dX3_driveTo_47 hE (fun σ_7 H locs hP hS hE => ?_)
  refine lv_aload_n hx hb dX3_driveTo_50 rfl (lv_at hl 2 rfl) ?_
  refine lv_iload_n hx hb dX3_driveTo_51 rfl (lv_at hl 3 rfl) ?_
  refine xp_1_7 hx hb hown hwX3 (hts _ u_51) hK hD hP hS dX3_driveTo_52 hE (fun σ_8 H locs hP hS hE => ?_)
  refine lv_aload_n hx hb dX3_driveTo_55 rfl (lv_at hl 2 rfl) ?_
  refine lv_aload_n hx hb dX3_driveTo_56 rfl (lv_at hl 2 rfl) ?_
  refine xg_1_13 hx hb hown hwX3 (hts _ u_57) hK hP dX3_driveTo_57 ?_
  refine lv_ldc2 (v := 10) hx hb hown (hts _ u_552) dX3_driveTo_60 ?_
  refine z_ldiv hx hb dX3_driveTo_63 hE (fun v_9 hE => ?_)
  refine lv_bipush (v := 10) hx hb dX3_driveTo_64 (by decide) ?_
  refine lv_iload_n hx hb dX3_driveTo_66 rfl (lv_at hl 0 rfl) ?_
  refine lv_isub hx hb dX3_driveTo_67 ?_
  refine lv_i2l (v := (Int32.toInt64 (10 - x3_4))) hx hb dX3_driveTo_68 rfl ?_
  refine lv_lmul hx hb dX3_driveTo_69 ?_
  refine xp_1_13 hx hb hown hwX3 (hts _ u_57) hK hD hP hS dX3_driveTo_70 hE (fun σ_10 H locs hP hS hE => ?_)
  refine lv_aload_n hx hb dX3_driveTo_73 rfl (lv_at hl 2 rfl) ?_
  refine lv_iload_n hx hb dX3_driveTo_74 rfl (lv_at hl 0 rfl) ?_
  refine lv_iconst (v := 1) hx hb dX3_driveTo_75 (by decide) ?_
  refine z_gov (wf := xW) hS hE (fun F1 h1 => (va_runV (As := [.int x3_4, .int 1]) (rest := []) ⟨hx, hb, hml, hown, hts⟩ (kX3_noteChance l E hD x3_4 1 σ_10 F1 h1) (cwV 2 hts (gU_V u_553 u_554 u_555 u_14 u_556) rfl rfl rfl q_X3_noteChance ⟨Nat.le_of_ble_eq_true rfl, Nat.le_of_ble_eq_true rfl⟩) (z_preV hK hP hS (ci := 3) (q0 := 1) rfl rfl rfl) rfl rfl hl.1 rfl (lv_room (Nat.le_of_ble_eq_true rfl)) dX3_driveTo_76 ⟨Nat.le_of_ble_eq_true rfl, Nat.le_of_ble_eq_true rfl⟩)) (fun σ_11 H locs hP hS hE => ?_)
  exact z_vret hx hb hr hlk hP hS dX3_driveTo_79 hE
def fX3_driveTo  (x1 : Int32) (σ : ST) : Option (ST) :=
  (if (gI σ 23) = 5 then fX3_driveTo_J13  x1 1 σ else fX3_driveTo_J13  x1 0 σ)
set_option maxHeartbeats 4000000 in
set_option maxRecDepth 100000 in
theorem wX3_driveTo {p : Program} {l : Launch} {e : Env} {s : State} {m : MethodId} {args : Array Value} {below : List Frame} {meth : Method} {c : Code} {E : EN} (C : zC E xW p s m args meth c cX3_driveTo 4 RX3 none wsL_law) {F : ST}   (x1 : Int32) (σ : ST) (H : Heap) (locs : List Loc) (ls : Array Slot) (hl : lv_has ls 4 [(0, .ref (ea E 1)), (1, .int x1)]) (hP : va_P (eD E) vwCl (xW E σ) H) (hS : va_S (eA E) s.heap H locs) (hE : fX3_driveTo  x1 σ = some F) : zWv E xW p l e r_X3_driveTo s m args below meth c F H locs (F0 m 0 ls []) := by
  obtain ⟨hx, hb, hml, hown, hts, hr, hlk, hK, hD⟩ := id C
  have hwX3 : ∀ w ∈ wsX30, w.before args s = true := fun w h => hts w (inlX3 w h)
  unfold fX3_driveTo at hE
  refine lv_aload_n hx hb dX3_driveTo_0 rfl (lv_at hl 0 rfl) ?_
  refine xg_1_8 hx hb hown hwX3 (hts _ u_52) hK hP dX3_driveTo_1 ?_
  refine lv_iconst (v := 5) hx hb dX3_driveTo_4 (by decide) ?_
  refine z_icmp_ne (tgt := 12) hx hb dX3_driveTo_5 (by decide) hE (fun hE => ?_) (fun hE => ?_)
  · refine lv_iconst (v := 0) hx hb dX3_driveTo_12 (by decide) ?_
    exact wX3_driveTo_J13 C  x1 0 σ _ _ _ (lv_sub hl [0, 1] rfl) hP hS hE
  refine lv_iconst (v := 1) hx hb dX3_driveTo_8 (by decide) ?_
  refine lv_goto (tgt := 13) hx hb dX3_driveTo_9 (by decide) ?_
  exact wX3_driveTo_J13 C  x1 1 σ _ _ _ (lv_sub hl [0, 1] rfl) hP hS hE
theorem kX3_driveTo (l : Launch) (E : EN) (hD : ∀ σ, va_D (eA E) (xW E σ)) (x1 : Int32) (σ : ST) (F : ST) (hE : fX3_driveTo x1 σ = some F) : Met l yX3_driveTo wu_X3_driveTo r_X3_driveTo (zPc E xW [.ref (ea E 1), .int x1] σ) (zQv E xW F) 0 0 (eA E) := by
  refine Met.ofW (cc := cX3_driveTo) (maxL := 4) (ret := none) (by decide) rfl ?_
  intro p e s m args below meth c s₁ B hml hv
  obtain ⟨rfl, hP, hK⟩ := hv
  have hl := lv_entry ([.ref (ea E 1), .int x1]) (n := 4) (Nat.le_of_ble_eq_true rfl)
  rw [lg_entry_eq]
  generalize (lg_sl ([.ref (ea E 1), .int x1]) ++ List.replicate (4 - (lg_sl ([.ref (ea E 1), .int x1])).length) Slot.unset).toArray = ls at hl ⊢
  exact wX3_driveTo ⟨B.exec, B.bytes, hml, findClass_of_methodNamed B.named, fun w h => atoms_spec (ws := wu_X3_driveTo) B.pre w (List.mem_cons_of_mem _ h), B.returns, B.notSynchronized, hK, hD⟩ x1 σ s.heap [] ls hl hP va_S.rf hE
def fX3_runsOn  (x1 : Int32) (σ : ST) : Option (Int32 × ST) :=
  ald (gA σ 14) 5 x1 (fun v_1 => (if v_1 ≤ (gI σ 24) then (if (gI σ 23) = 1 then some (1, σ) else (if (gI σ 23) = 2 then ald (gA σ 39) 8 (gI σ 22) (fun v_2 => (if 10 ≤ v_2 then some (0, σ) else some (1, σ))) else some (0, σ))) else some (0, σ)))
set_option maxHeartbeats 4000000 in
set_option maxRecDepth 100000 in
theorem wX3_runsOn {p : Program} {l : Launch} {e : Env} {s : State} {m : MethodId} {args : Array Value} {below : List Frame} {meth : Method} {c : Code} {E : EN} (C : zC E xW p s m args meth c cX3_runsOn 2 RX3 (some .boolean) wsL_law) {F : Int32 × ST}   (x1 : Int32) (σ : ST) (H : Heap) (locs : List Loc) (ls : Array Slot) (hl : lv_has ls 2 [(0, .ref (ea E 1)), (1, .int x1)]) (hP : va_P (eD E) vwCl (xW E σ) H) (hS : va_S (eA E) s.heap H locs) (hE : fX3_runsOn  x1 σ = some F) : zWi E xW p l e r_X3_runsOn s m args below meth c F H locs (F0 m 0 ls []) := by
  obtain ⟨hx, hb, hml, hown, hts, hr, hlk, hK, hD⟩ := id C
  have hwX2 : ∀ w ∈ wsX20, w.before args s = true := fun w h => hts w (inlX2 w h)
  have hwX3 : ∀ w ∈ wsX30, w.before args s = true := fun w h => hts w (inlX3 w h)
  unfold fX3_runsOn at hE
  refine lv_aload_n hx hb dX3_runsOn_0 rfl (lv_at hl 0 rfl) ?_
  refine xg_1_0 hx hb hown hwX3 (hts _ u_40) hK hP dX3_runsOn_1 ?_
  refine xg_4_8 hx hb hown hwX2 (hts _ u_565) hK hP dX3_runsOn_4 ?_
  refine lv_iload_n hx hb dX3_runsOn_7 rfl (lv_at hl 1 rfl) ?_
  refine xa_21 hx hb hK hP dX3_runsOn_8 hE (fun v_1 hE => ?_)
  refine lv_aload_n hx hb dX3_runsOn_9 rfl (lv_at hl 0 rfl) ?_
  refine xg_1_9 hx hb hown hwX3 (hts _ u_53) hK hP dX3_runsOn_10 ?_
  refine z_icmp_le (tgt := 18) hx hb dX3_runsOn_13 (by decide) hE (fun hE => ?_) (fun hE => ?_)
  · refine lv_aload_n hx hb dX3_runsOn_18 rfl (lv_at hl 0 rfl) ?_
    refine xg_1_8 hx hb hown hwX3 (hts _ u_52) hK hP dX3_runsOn_19 ?_
    refine lv_iconst (v := 1) hx hb dX3_runsOn_22 (by decide) ?_
    refine z_icmp_eq (tgt := 48) hx hb dX3_runsOn_23 (by decide) hE (fun hE => ?_) (fun hE => ?_)
    · refine lv_iconst (v := 1) hx hb dX3_runsOn_48 (by decide) ?_
      refine lv_goto (tgt := 53) hx hb dX3_runsOn_49 (by decide) ?_
      exact z_zret hx hb hr hlk rfl hP hS dX3_runsOn_53 hE
    refine lv_aload_n hx hb dX3_runsOn_26 rfl (lv_at hl 0 rfl) ?_
    refine xg_1_8 hx hb hown hwX3 (hts _ u_52) hK hP dX3_runsOn_27 ?_
    refine lv_iconst (v := 2) hx hb dX3_runsOn_30 (by decide) ?_
    refine z_icmp_ne (tgt := 52) hx hb dX3_runsOn_31 (by decide) hE (fun hE => ?_) (fun hE => ?_)
    · refine lv_iconst (v := 0) hx hb dX3_runsOn_52 (by decide) ?_
      exact z_zret hx hb hr hlk rfl hP hS dX3_runsOn_53 hE
    refine lv_aload_n hx hb dX3_runsOn_34 rfl (lv_at hl 0 rfl) ?_
    refine xg_1_2 hx hb hown hwX3 (hts _ u_45) hK hP dX3_runsOn_35 ?_
    refine lv_aload_n hx hb dX3_runsOn_38 rfl (lv_at hl 0 rfl) ?_
    refine xg_1_7 hx hb hown hwX3 (hts _ u_51) hK hP dX3_runsOn_39 ?_
    refine xa_46 hx hb hK hP dX3_runsOn_42 hE (fun v_2 hE => ?_)
    refine lv_bipush (v := 10) hx hb dX3_runsOn_43 (by decide) ?_
    refine z_icmp_ge (tgt := 52) hx hb dX3_runsOn_45 (by decide) hE (fun hE => ?_) (fun hE => ?_)
    · refine lv_iconst (v := 0) hx hb dX3_runsOn_52 (by decide) ?_
      exact z_zret hx hb hr hlk rfl hP hS dX3_runsOn_53 hE
    refine lv_iconst (v := 1) hx hb dX3_runsOn_48 (by decide) ?_
    refine lv_goto (tgt := 53) hx hb dX3_runsOn_49 (by decide) ?_
    exact z_zret hx hb hr hlk rfl hP hS dX3_runsOn_53 hE
  refine lv_iconst (v := 0) hx hb dX3_runsOn_16 (by decide) ?_
  exact z_zret hx hb hr hlk rfl hP hS dX3_runsOn_17 hE
theorem kX3_runsOn (l : Launch) (E : EN) (hD : ∀ σ, va_D (eA E) (xW E σ)) (x1 : Int32) (σ : ST) (F : Int32 × ST) (hE : fX3_runsOn x1 σ = some F) : Met l yX3_runsOn wu_X3_runsOn r_X3_runsOn (zPc E xW [.ref (ea E 1), .int x1] σ) (zQi E xW F) 0 0 (eA E) := by
  refine Met.ofW (cc := cX3_runsOn) (maxL := 2) (ret := (some .boolean)) (by decide) rfl ?_
  intro p e s m args below meth c s₁ B hml hv
  obtain ⟨rfl, hP, hK⟩ := hv
  have hl := lv_entry ([.ref (ea E 1), .int x1]) (n := 2) (Nat.le_of_ble_eq_true rfl)
  rw [lg_entry_eq]
  generalize (lg_sl ([.ref (ea E 1), .int x1]) ++ List.replicate (2 - (lg_sl ([.ref (ea E 1), .int x1])).length) Slot.unset).toArray = ls at hl ⊢
  exact wX3_runsOn ⟨B.exec, B.bytes, hml, findClass_of_methodNamed B.named, fun w h => atoms_spec (ws := wu_X3_runsOn) B.pre w (List.mem_cons_of_mem _ h), B.returns, B.notSynchronized, hK, hD⟩ x1 σ s.heap [] ls hl hP va_S.rf hE
def fX3_visit  (x1 : Int32) (σ : ST) : Option (ST) :=
  (if x1 < 0 then some σ else (if x1 < (gI σ 5) then ald (gA σ 13) 5 x1 (fun v_1 => bnd (v_1 : Int32) (fun x2_2 => cali (fX3_leavesOut x2_2 σ) (fun r_4 σ_3 => (if r_4 = 0 then calv (fX3_driveTo x2_2 σ_3) (fun σ_5 => ald (gA σ_5 16) 5 x1 (fun v_6 => (if (gI σ_5 25) ≤ v_6 then bnd (sI σ_5 26 ((gI σ_5 26) ||| (1 <<< (x1 &&& 31)))) (fun σ_7 => ald (gA σ_7 15) 5 x1 (fun v_8 => bnd (sL σ_7 1 ((gL σ_7 1) + ((gL σ_7 0) * (Int32.toInt64 v_8)))) (fun σ_9 => ald (gA σ_9 14) 5 x1 (fun v_10 => bnd (sI σ_9 25 ((gI σ_9 25) + v_10)) (fun σ_11 => cali (fX3_runsOn x1 σ_11) (fun r_13 σ_12 => (if r_13 = 0 then calv (fX3_startHere σ_12) (fun σ_14 => some σ_14) else ald (gA σ_12 14) 5 x1 (fun v_15 => bnd (((gI σ_12 6) * v_15) : Int32) (fun x3_16 => bnd (sI σ_12 27 ((gI σ_12 27) + x3_16)) (fun σ_17 => bnd (sL σ_17 1 ((gL σ_17 1) - ((gL σ_17 0) * (Int32.toInt64 x3_16)))) (fun σ_18 => some σ_18))))))))))) else some σ_5))) else some σ_3)))) else some σ))
set_option maxHeartbeats 4000000 in
set_option maxRecDepth 100000 in
theorem wX3_visit {p : Program} {l : Launch} {e : Env} {s : State} {m : MethodId} {args : Array Value} {below : List Frame} {meth : Method} {c : Code} {E : EN} (C : zC E xW p s m args meth c cX3_visit 4 RX3 none wsL_law) {F : ST}   (x1 : Int32) (σ : ST) (H : Heap) (locs : List Loc) (ls : Array Slot) (hl : lv_has ls 4 [(0, .ref (ea E 1)), (1, .int x1)]) (hP : va_P (eD E) vwCl (xW E σ) H) (hS : va_S (eA E) s.heap H locs) (hE : fX3_visit  x1 σ = some F) : zWv E xW p l e r_X3_visit s m args below meth c F H locs (F0 m 0 ls []) := by
  obtain ⟨hx, hb, hml, hown, hts, hr, hlk, hK, hD⟩ := id C
  have hwX2 : ∀ w ∈ wsX20, w.before args s = true := fun w h => hts w (inlX2 w h)
  have hwX3 : ∀ w ∈ wsX30, w.before args s = true := fun w h => hts w (inlX3 w h)
  unfold fX3_visit at hE
  refine lv_iload_n hx hb dX3_visit_0 rfl (lv_at hl 1 rfl) ?_
  refine z_if_lt (tgt := 15) hx hb dX3_visit_1 (by decide) hE (fun hE => ?_) (fun hE => ?_)
  · exact z_vret hx hb hr hlk hP hS dX3_visit_15 hE
  refine lv_iload_n hx hb dX3_visit_4 rfl (lv_at hl 1 rfl) ?_
  refine lv_aload_n hx hb dX3_visit_5 rfl (lv_at hl 0 rfl) ?_
  refine xg_1_0 hx hb hown hwX3 (hts _ u_40) hK hP dX3_visit_6 ?_
  refine xg_4_13 hx hb hown hwX2 (hts _ u_561) hK hP dX3_visit_9 ?_
  refine z_icmp_lt (tgt := 16) hx hb dX3_visit_12 (by decide) hE (fun hE => ?_) (fun hE => ?_)
  · refine lv_aload_n hx hb dX3_visit_16 rfl (lv_at hl 0 rfl) ?_
    refine xg_1_0 hx hb hown hwX3 (hts _ u_40) hK hP dX3_visit_17 ?_
    refine xg_4_7 hx hb hown hwX2 (hts _ u_562) hK hP dX3_visit_20 ?_
    refine lv_iload_n hx hb dX3_visit_23 rfl (lv_at hl 1 rfl) ?_
    refine xa_20 hx hb hK hP dX3_visit_24 hE (fun v_1 hE => ?_)
    refine z_istore_n hx hb (fun x2_2 => [(2, .int x2_2), (0, .ref (ea E 1)), (1, .int x1)]) dX3_visit_25 rfl hl (by decide) rfl hE (fun x2_2 ls hl hE => ?_)
    refine lv_aload_n hx hb dX3_visit_26 rfl (lv_at hl 1 rfl) ?_
    refine lv_iload_n hx hb dX3_visit_27 rfl (lv_at hl 0 rfl) ?_
    refine z_goi (wf := xW) hS hE (fun F1 h1 => (va_runV (As := [.int x2_2]) (rest := []) ⟨hx, hb, hml, hown, hts⟩ (kX3_leavesOut l E hD x2_2 σ F1 h1) (cwV 1 hts (gU_V u_567 u_568 u_569 u_14 u_570) rfl rfl rfl q_X3_leavesOut ⟨Nat.le_of_ble_eq_true rfl, Nat.le_of_ble_eq_true rfl⟩) (z_preV hK hP hS (ci := 3) (q0 := 1) rfl rfl rfl) rfl rfl hl.1 rfl (lv_room (Nat.le_of_ble_eq_true rfl)) dX3_visit_28 ⟨Nat.le_of_ble_eq_true rfl, Nat.le_of_ble_eq_true rfl⟩)) (fun r_4 σ_3 H locs hP hS hE => ?_)
    refine z_if_eq (tgt := 35) hx hb dX3_visit_31 (by decide) hE (fun hE => ?_) (fun hE => ?_)
    · refine lv_aload_n hx hb dX3_visit_35 rfl (lv_at hl 1 rfl) ?_
      refine lv_iload_n hx hb dX3_visit_36 rfl (lv_at hl 0 rfl) ?_
      refine z_gov (wf := xW) hS hE (fun F1 h1 => (va_runV (As := [.int x2_2]) (rest := []) ⟨hx, hb, hml, hown, hts⟩ (kX3_driveTo l E hD x2_2 σ_3 F1 h1) (cwV 1 hts (gU_V u_572 u_573 u_574 u_14 u_575) rfl rfl rfl q_X3_driveTo ⟨Nat.le_of_ble_eq_true rfl, Nat.le_of_ble_eq_true rfl⟩) (z_preV hK hP hS (ci := 3) (q0 := 1) rfl rfl rfl) rfl rfl hl.1 rfl (lv_room (Nat.le_of_ble_eq_true rfl)) dX3_visit_37 ⟨Nat.le_of_ble_eq_true rfl, Nat.le_of_ble_eq_true rfl⟩)) (fun σ_5 H locs hP hS hE => ?_)
      refine lv_aload_n hx hb dX3_visit_40 rfl (lv_at hl 1 rfl) ?_
      refine xg_1_10 hx hb hown hwX3 (hts _ u_54) hK hP dX3_visit_41 ?_
      refine lv_aload_n hx hb dX3_visit_44 rfl (lv_at hl 1 rfl) ?_
      refine xg_1_0 hx hb hown hwX3 (hts _ u_40) hK hP dX3_visit_45 ?_
      refine xg_4_10 hx hb hown hwX2 (hts _ u_563) hK hP dX3_visit_48 ?_
      refine lv_iload_n hx hb dX3_visit_51 rfl (lv_at hl 2 rfl) ?_
      refine xa_23 hx hb hK hP dX3_visit_52 hE (fun v_6 hE => ?_)
      refine z_icmp_le (tgt := 57) hx hb dX3_visit_53 (by decide) hE (fun hE => ?_) (fun hE => ?_)
      · refine lv_aload_n hx hb dX3_visit_57 rfl (lv_at hl 1 rfl) ?_
        refine lv_dup hx hb dX3_visit_58 rfl ?_
        refine xg_1_11 hx hb hown hwX3 (hts _ u_55) hK hP dX3_visit_59 ?_
        refine lv_iconst (v := 1) hx hb dX3_visit_62 (by decide) ?_
        refine lv_iload_n hx hb dX3_visit_63 rfl (lv_at hl 2 rfl) ?_
        refine lv_ishl hx hb dX3_visit_64 ?_
        refine lv_ior hx hb dX3_visit_65 ?_
        refine xp_1_11 hx hb hown hwX3 (hts _ u_55) hK hD hP hS dX3_visit_66 hE (fun σ_7 H locs hP hS hE => ?_)
        refine lv_aload_n hx hb dX3_visit_69 rfl (lv_at hl 1 rfl) ?_
        refine lv_dup hx hb dX3_visit_70 rfl ?_
        refine xg_1_14 hx hb hown hwX3 (hts _ u_58) hK hP dX3_visit_71 ?_
        refine lv_aload_n hx hb dX3_visit_74 rfl (lv_at hl 1 rfl) ?_
        refine xg_1_13 hx hb hown hwX3 (hts _ u_57) hK hP dX3_visit_75 ?_
        refine lv_aload_n hx hb dX3_visit_78 rfl (lv_at hl 1 rfl) ?_
        refine xg_1_0 hx hb hown hwX3 (hts _ u_40) hK hP dX3_visit_79 ?_
        refine xg_4_9 hx hb hown hwX2 (hts _ u_564) hK hP dX3_visit_82 ?_
        refine lv_iload_n hx hb dX3_visit_85 rfl (lv_at hl 2 rfl) ?_
        refine xa_22 hx hb hK hP dX3_visit_86 hE (fun v_8 hE => ?_)
        refine lv_i2l (v := (Int32.toInt64 v_8)) hx hb dX3_visit_87 rfl ?_
        refine lv_lmul hx hb dX3_visit_88 ?_
        refine lv_ladd hx hb dX3_visit_89 ?_
        refine xp_1_14 hx hb hown hwX3 (hts _ u_58) hK hD hP hS dX3_visit_90 hE (fun σ_9 H locs hP hS hE => ?_)
        refine lv_aload_n hx hb dX3_visit_93 rfl (lv_at hl 1 rfl) ?_
        refine lv_dup hx hb dX3_visit_94 rfl ?_
        refine xg_1_10 hx hb hown hwX3 (hts _ u_54) hK hP dX3_visit_95 ?_
        refine lv_aload_n hx hb dX3_visit_98 rfl (lv_at hl 1 rfl) ?_
        refine xg_1_0 hx hb hown hwX3 (hts _ u_40) hK hP dX3_visit_99 ?_
        refine xg_4_8 hx hb hown hwX2 (hts _ u_565) hK hP dX3_visit_102 ?_
        refine lv_iload_n hx hb dX3_visit_105 rfl (lv_at hl 2 rfl) ?_
        refine xa_21 hx hb hK hP dX3_visit_106 hE (fun v_10 hE => ?_)
        refine lv_iadd hx hb dX3_visit_107 ?_
        refine xp_1_10 hx hb hown hwX3 (hts _ u_54) hK hD hP hS dX3_visit_108 hE (fun σ_11 H locs hP hS hE => ?_)
        refine lv_aload_n hx hb dX3_visit_111 rfl (lv_at hl 1 rfl) ?_
        refine lv_iload_n hx hb dX3_visit_112 rfl (lv_at hl 2 rfl) ?_
        refine z_goi (wf := xW) hS hE (fun F1 h1 => (va_runV (As := [.int x1]) (rest := []) ⟨hx, hb, hml, hown, hts⟩ (kX3_runsOn l E hD x1 σ_11 F1 h1) (cwV 1 hts (gU_V u_577 u_578 u_579 u_14 u_580) rfl rfl rfl q_X3_runsOn ⟨Nat.le_of_ble_eq_true rfl, Nat.le_of_ble_eq_true rfl⟩) (z_preV hK hP hS (ci := 3) (q0 := 1) rfl rfl rfl) rfl rfl hl.1 rfl (lv_room (Nat.le_of_ble_eq_true rfl)) dX3_visit_113 ⟨Nat.le_of_ble_eq_true rfl, Nat.le_of_ble_eq_true rfl⟩)) (fun r_13 σ_12 H locs hP hS hE => ?_)
        refine z_if_eq (tgt := 166) hx hb dX3_visit_116 (by decide) hE (fun hE => ?_) (fun hE => ?_)
        · refine lv_aload_n hx hb dX3_visit_166 rfl (lv_at hl 1 rfl) ?_
          refine z_gov (wf := xW) hS hE (fun F1 h1 => (va_runV (As := []) (rest := []) ⟨hx, hb, hml, hown, hts⟩ (kX3_startHere l E hD  σ_12 F1 h1) (cwV 0 hts (gU_V u_548 u_549 u_550 u_14 u_551) rfl rfl rfl q_X3_startHere ⟨Nat.le_of_ble_eq_true rfl, Nat.le_of_ble_eq_true rfl⟩) (z_preV hK hP hS (ci := 3) (q0 := 1) rfl rfl rfl) rfl rfl hl.1 rfl (lv_room (Nat.le_of_ble_eq_true rfl)) dX3_visit_167 ⟨Nat.le_of_ble_eq_true rfl, Nat.le_of_ble_eq_true rfl⟩)) (fun σ_14 H locs hP hS hE => ?_)
          exact z_vret hx hb hr hlk hP hS dX3_visit_170 hE
        refine lv_aload_n hx hb dX3_visit_119 rfl (lv_at hl 1 rfl) ?_
        refine xg_1_0 hx hb hown hwX3 (hts _ u_40) hK hP dX3_visit_120 ?_
        refine xg_4_14 hx hb hown hwX2 (hts _ u_566) hK hP dX3_visit_123 ?_
        refine lv_aload_n hx hb dX3_visit_126 rfl (lv_at hl 1 rfl) ?_
        refine xg_1_0 hx hb hown hwX3 (hts _ u_40) hK hP dX3_visit_127 ?_
        refine xg_4_8 hx hb hown hwX2 (hts _ u_565) hK hP dX3_visit_130 ?_
        refine lv_iload_n hx hb dX3_visit_133 rfl (lv_at hl 2 rfl) ?_
        refine xa_21 hx hb hK hP dX3_visit_134 hE (fun v_15 hE => ?_)
        refine lv_imul hx hb dX3_visit_135 ?_
        refine z_istore_n hx hb (fun x3_16 => [(3, .int x3_16), (2, .int x2_2), (0, .ref (ea E 1)), (1, .int x1)]) dX3_visit_136 rfl hl (by decide) rfl hE (fun x3_16 ls hl hE => ?_)
        refine lv_aload_n hx hb dX3_visit_137 rfl (lv_at hl 2 rfl) ?_
        refine lv_dup hx hb dX3_visit_138 rfl ?_
        refine xg_1_12 hx hb hown hwX3 (hts _ u_56) hK hP dX3_visit_139 ?_
        refine lv_iload_n hx hb dX3_visit_142 rfl (lv_at hl 0 rfl) ?_
        refine lv_iadd hx hb dX3_visit_143 ?_
        refine xp_1_12 hx hb hown hwX3 (hts _ u_56) hK hD hP hS dX3_visit_144 hE (fun σ_17 H locs hP hS hE => ?_)
        refine lv_aload_n hx hb dX3_visit_147 rfl (lv_at hl 2 rfl) ?_
        refine lv_dup hx hb dX3_visit_148 rfl ?_
        refine xg_1_14 hx hb hown hwX3 (hts _ u_58) hK hP dX3_visit_149 ?_
        refine lv_aload_n hx hb dX3_visit_152 rfl (lv_at hl 2 rfl) ?_
        refine xg_1_13 hx hb hown hwX3 (hts _ u_57) hK hP dX3_visit_153 ?_
        refine lv_iload_n hx hb dX3_visit_156 rfl (lv_at hl 0 rfl) ?_
        refine lv_i2l (v := (Int32.toInt64 x3_16)) hx hb dX3_visit_157 rfl ?_
        refine lv_lmul hx hb dX3_visit_158 ?_
        refine lv_lsub hx hb dX3_visit_159 ?_
        refine xp_1_14 hx hb hown hwX3 (hts _ u_58) hK hD hP hS dX3_visit_160 hE (fun σ_18 H locs hP hS hE => ?_)
        refine lv_goto (tgt := 170) hx hb dX3_visit_163 (by decide) ?_
        exact z_vret hx hb hr hlk hP hS dX3_visit_170 hE
      exact z_vret hx hb hr hlk hP hS dX3_visit_56 hE
    exact z_vret hx hb hr hlk hP hS dX3_visit_34 hE
  exact z_vret hx hb hr hlk hP hS dX3_visit_15 hE
theorem kX3_visit (l : Launch) (E : EN) (hD : ∀ σ, va_D (eA E) (xW E σ)) (x1 : Int32) (σ : ST) (F : ST) (hE : fX3_visit x1 σ = some F) : Met l yX3_visit wu_X3_visit r_X3_visit (zPc E xW [.ref (ea E 1), .int x1] σ) (zQv E xW F) 0 0 (eA E) := by
  refine Met.ofW (cc := cX3_visit) (maxL := 4) (ret := none) (by decide) rfl ?_
  intro p e s m args below meth c s₁ B hml hv
  obtain ⟨rfl, hP, hK⟩ := hv
  have hl := lv_entry ([.ref (ea E 1), .int x1]) (n := 4) (Nat.le_of_ble_eq_true rfl)
  rw [lg_entry_eq]
  generalize (lg_sl ([.ref (ea E 1), .int x1]) ++ List.replicate (4 - (lg_sl ([.ref (ea E 1), .int x1])).length) Slot.unset).toArray = ls at hl ⊢
  exact wX3_visit ⟨B.exec, B.bytes, hml, findClass_of_methodNamed B.named, fun w h => atoms_spec (ws := wu_X3_visit) B.pre w (List.mem_cons_of_mem _ h), B.returns, B.notSynchronized, hK, hD⟩ x1 σ s.heap [] ls hl hP va_S.rf hE
def fX3_goBy_51_L43 (ke : ST → Option (ST)) : Nat → Int32 → Int32 → ST → Option (ST)
  | 0, _, _, _ => none
  | n + 1, x2, x3, σ => (if x2 ≤ x3 then ke  σ else (if 5 ≤ x3 then ke  σ else ald (gA σ 44) 5 x3 (fun v_10 => calv (fX3_visit v_10 σ) (fun σ_11 => bnd (x3 + 1) (fun x3_12 => fX3_goBy_51_L43 ke n x2 x3_12 σ_11)))))
set_option maxHeartbeats 4000000 in
set_option maxRecDepth 100000 in
theorem wX3_goBy_51_L43 {p : Program} {l : Launch} {e : Env} {s : State} {m : MethodId} {args : Array Value} {below : List Frame} {meth : Method} {c : Code} {E : EN} (C : zC E xW p s m args meth c cX3_goBy 4 RX3 none wsL_law) {F : ST} {ke : ST → Option (ST)} (hke : ∀  (σ : ST) (H : Heap) (locs : List Loc) (ls : Array Slot), lv_has ls 4 [(0, .ref (ea E 1))] → va_P (eD E) vwCl (xW E σ) H → va_S (eA E) s.heap H locs → ke  σ = some F → zWv E xW p l e r_X3_goBy s m args below meth c F H locs (F0 m 67 ls [])) : ∀ (n : Nat) (x2 : Int32) (x3 : Int32) (σ : ST) (H : Heap) (locs : List Loc) (ls : Array Slot), lv_has ls 4 [(0, .ref (ea E 1)), (1, .ref (ea E 51)), (2, .int x2), (3, .int x3)] → va_P (eD E) vwCl (xW E σ) H → va_S (eA E) s.heap H locs → fX3_goBy_51_L43 ke n x2 x3 σ = some F → zWv E xW p l e r_X3_goBy s m args below meth c F H locs (F0 m 43 ls []) := by
  obtain ⟨hx, hb, hml, hown, hts, hr, hlk, hK, hD⟩ := id C
  intro n
  induction n with
  | zero => intro x2 x3 σ H locs ls hl hP hS hE; rw [fX3_goBy_51_L43] at hE; cases hE
  | succ n ih =>
    intro x2 x3 σ H locs ls hl hP hS hE
    rw [fX3_goBy_51_L43] at hE
    refine lv_iload_n hx hb dX3_goBy_43 rfl (lv_at hl 3 rfl) ?_
    refine lv_iload_n hx hb dX3_goBy_44 rfl (lv_at hl 2 rfl) ?_
    refine z_icmp_ge (tgt := 67) hx hb dX3_goBy_45 (by decide) hE (fun hE => ?_) (fun hE => ?_)
    · exact hke  σ _ _ _ (lv_sub hl [0] rfl) hP hS hE
    refine lv_iload_n hx hb dX3_goBy_48 rfl (lv_at hl 3 rfl) ?_
    refine lv_aload_n hx hb dX3_goBy_49 rfl (lv_at hl 1 rfl) ?_
    refine xn_51 hx hb hK hP dX3_goBy_50 ?_
    refine z_icmp_ge (tgt := 67) hx hb dX3_goBy_51 (by decide) hE (fun hE => ?_) (fun hE => ?_)
    · exact hke  σ _ _ _ (lv_sub hl [0] rfl) hP hS hE
    refine lv_aload_n hx hb dX3_goBy_54 rfl (lv_at hl 0 rfl) ?_
    refine lv_aload_n hx hb dX3_goBy_55 rfl (lv_at hl 1 rfl) ?_
    refine lv_iload_n hx hb dX3_goBy_56 rfl (lv_at hl 3 rfl) ?_
    refine xa_51 hx hb hK hP dX3_goBy_57 hE (fun v_10 hE => ?_)
    refine z_gov (wf := xW) hS hE (fun F1 h1 => (va_runV (As := [.int v_10]) (rest := []) ⟨hx, hb, hml, hown, hts⟩ (kX3_visit l E hD v_10 σ F1 h1) (cwV 1 hts (gU_V u_557 u_558 u_559 u_14 u_560) rfl rfl rfl q_X3_visit ⟨Nat.le_of_ble_eq_true rfl, Nat.le_of_ble_eq_true rfl⟩) (z_preV hK hP hS (ci := 3) (q0 := 1) rfl rfl rfl) rfl rfl hl.1 rfl (lv_room (Nat.le_of_ble_eq_true rfl)) dX3_goBy_58 ⟨Nat.le_of_ble_eq_true rfl, Nat.le_of_ble_eq_true rfl⟩)) (fun σ_11 H locs hP hS hE => ?_)
    refine z_iinc hx hb (v := (x3 + 1)) (k := 3) (fun x3_12 => [(3, .int x3_12), (0, .ref (ea E 1)), (1, .ref (ea E 51)), (2, .int x2)]) dX3_goBy_61 hl rfl (by rfl) (by decide) rfl hE (fun x3_12 ls hl hE => ?_)
    refine lv_goto (tgt := 43) hx hb dX3_goBy_64 (by decide) ?_
    exact ih x2 x3_12 σ_11 _ _ _ (lv_sub hl [1, 2, 3, 0] rfl) hP hS hE
def fX3_goBy_51  (x2 : Int32) (σ : ST) : Option (ST) :=
  bnd (sI σ 21 0) (fun σ_1 => bnd (sI σ_1 22 0) (fun σ_2 => bnd (sI σ_2 25 0) (fun σ_3 => bnd (sI σ_3 26 0) (fun σ_4 => bnd (sI σ_4 27 0) (fun σ_5 => bnd (sL σ_5 0 1000000000000) (fun σ_6 => bnd (sL σ_6 1 0) (fun σ_7 => calv (fX3_startHere σ_7) (fun σ_8 => bnd (0 : Int32) (fun x3_9 => fX3_goBy_51_L43 (fun σ_13 => calv (fX3_driveTo 0 σ_13) (fun σ_14 => some σ_14)) FU x2 x3_9 σ_8)))))))))
set_option maxHeartbeats 4000000 in
set_option maxRecDepth 100000 in
theorem wX3_goBy_51 {p : Program} {l : Launch} {e : Env} {s : State} {m : MethodId} {args : Array Value} {below : List Frame} {meth : Method} {c : Code} {E : EN} (C : zC E xW p s m args meth c cX3_goBy 4 RX3 none wsL_law) {F : ST}   (x2 : Int32) (σ : ST) (H : Heap) (locs : List Loc) (ls : Array Slot) (hl : lv_has ls 4 [(0, .ref (ea E 1)), (1, .ref (ea E 51)), (2, .int x2)]) (hP : va_P (eD E) vwCl (xW E σ) H) (hS : va_S (eA E) s.heap H locs) (hE : fX3_goBy_51  x2 σ = some F) : zWv E xW p l e r_X3_goBy s m args below meth c F H locs (F0 m 0 ls []) := by
  obtain ⟨hx, hb, hml, hown, hts, hr, hlk, hK, hD⟩ := id C
  have hwX3 : ∀ w ∈ wsX30, w.before args s = true := fun w h => hts w (inlX3 w h)
  unfold fX3_goBy_51 at hE
  refine lv_aload_n hx hb dX3_goBy_0 rfl (lv_at hl 0 rfl) ?_
  refine lv_iconst (v := 0) hx hb dX3_goBy_1 (by decide) ?_
  refine xp_1_6 hx hb hown hwX3 (hts _ u_50) hK hD hP hS dX3_goBy_2 hE (fun σ_1 H locs hP hS hE => ?_)
  refine lv_aload_n hx hb dX3_goBy_5 rfl (lv_at hl 0 rfl) ?_
  refine lv_iconst (v := 0) hx hb dX3_goBy_6 (by decide) ?_
  refine xp_1_7 hx hb hown hwX3 (hts _ u_51) hK hD hP hS dX3_goBy_7 hE (fun σ_2 H locs hP hS hE => ?_)
  refine lv_aload_n hx hb dX3_goBy_10 rfl (lv_at hl 0 rfl) ?_
  refine lv_iconst (v := 0) hx hb dX3_goBy_11 (by decide) ?_
  refine xp_1_10 hx hb hown hwX3 (hts _ u_54) hK hD hP hS dX3_goBy_12 hE (fun σ_3 H locs hP hS hE => ?_)
  refine lv_aload_n hx hb dX3_goBy_15 rfl (lv_at hl 0 rfl) ?_
  refine lv_iconst (v := 0) hx hb dX3_goBy_16 (by decide) ?_
  refine xp_1_11 hx hb hown hwX3 (hts _ u_55) hK hD hP hS dX3_goBy_17 hE (fun σ_4 H locs hP hS hE => ?_)
  refine lv_aload_n hx hb dX3_goBy_20 rfl (lv_at hl 0 rfl) ?_
  refine lv_iconst (v := 0) hx hb dX3_goBy_21 (by decide) ?_
  refine xp_1_12 hx hb hown hwX3 (hts _ u_56) hK hD hP hS dX3_goBy_22 hE (fun σ_5 H locs hP hS hE => ?_)
  refine lv_aload_n hx hb dX3_goBy_25 rfl (lv_at hl 0 rfl) ?_
  refine lv_ldc2 (v := 1000000000000) hx hb hown (hts _ u_547) dX3_goBy_26 ?_
  refine xp_1_13 hx hb hown hwX3 (hts _ u_57) hK hD hP hS dX3_goBy_29 hE (fun σ_6 H locs hP hS hE => ?_)
  refine lv_aload_n hx hb dX3_goBy_32 rfl (lv_at hl 0 rfl) ?_
  refine lv_lconst (v := 0) hx hb dX3_goBy_33 (by decide) ?_
  refine xp_1_14 hx hb hown hwX3 (hts _ u_58) hK hD hP hS dX3_goBy_34 hE (fun σ_7 H locs hP hS hE => ?_)
  refine lv_aload_n hx hb dX3_goBy_37 rfl (lv_at hl 0 rfl) ?_
  refine z_gov (wf := xW) hS hE (fun F1 h1 => (va_runV (As := []) (rest := []) ⟨hx, hb, hml, hown, hts⟩ (kX3_startHere l E hD  σ_7 F1 h1) (cwV 0 hts (gU_V u_548 u_549 u_550 u_14 u_551) rfl rfl rfl q_X3_startHere ⟨Nat.le_of_ble_eq_true rfl, Nat.le_of_ble_eq_true rfl⟩) (z_preV hK hP hS (ci := 3) (q0 := 1) rfl rfl rfl) rfl rfl hl.1 rfl (lv_room (Nat.le_of_ble_eq_true rfl)) dX3_goBy_38 ⟨Nat.le_of_ble_eq_true rfl, Nat.le_of_ble_eq_true rfl⟩)) (fun σ_8 H locs hP hS hE => ?_)
  refine lv_iconst (v := 0) hx hb dX3_goBy_41 (by decide) ?_
  refine z_istore_n hx hb (fun x3_9 => [(3, .int x3_9), (0, .ref (ea E 1)), (1, .ref (ea E 51)), (2, .int x2)]) dX3_goBy_42 rfl hl (by decide) rfl hE (fun x3_9 ls hl hE => ?_)
  refine wX3_goBy_51_L43 C ?_ FU x2 x3_9 σ_8 _ _ _ (lv_sub hl [1, 2, 3, 0] rfl) hP hS hE
  intro σ_13 H locs ls hl hP hS hE
  refine lv_aload_n hx hb dX3_goBy_67 rfl (lv_at hl 0 rfl) ?_
  refine lv_iconst (v := 0) hx hb dX3_goBy_68 (by decide) ?_
  refine z_gov (wf := xW) hS hE (fun F1 h1 => (va_runV (As := [.int 0]) (rest := []) ⟨hx, hb, hml, hown, hts⟩ (kX3_driveTo l E hD 0 σ_13 F1 h1) (cwV 1 hts (gU_V u_572 u_573 u_574 u_14 u_575) rfl rfl rfl q_X3_driveTo ⟨Nat.le_of_ble_eq_true rfl, Nat.le_of_ble_eq_true rfl⟩) (z_preV hK hP hS (ci := 3) (q0 := 1) rfl rfl rfl) rfl rfl hl.1 rfl (lv_room (Nat.le_of_ble_eq_true rfl)) dX3_goBy_69 ⟨Nat.le_of_ble_eq_true rfl, Nat.le_of_ble_eq_true rfl⟩)) (fun σ_14 H locs hP hS hE => ?_)
  exact z_vret hx hb hr hlk hP hS dX3_goBy_72 hE
theorem kX3_goBy_51 (l : Launch) (E : EN) (hD : ∀ σ, va_D (eA E) (xW E σ)) (x2 : Int32) (σ : ST) (F : ST) (hE : fX3_goBy_51 x2 σ = some F) : Met l yX3_goBy wu_X3_goBy r_X3_goBy (zPc E xW [.ref (ea E 1), .ref (ea E 51), .int x2] σ) (zQv E xW F) 0 0 (eA E) := by
  refine Met.ofW (cc := cX3_goBy) (maxL := 4) (ret := none) (by decide) rfl ?_
  intro p e s m args below meth c s₁ B hml hv
  obtain ⟨rfl, hP, hK⟩ := hv
  have hl := lv_entry ([.ref (ea E 1), .ref (ea E 51), .int x2]) (n := 4) (Nat.le_of_ble_eq_true rfl)
  rw [lg_entry_eq]
  generalize (lg_sl ([.ref (ea E 1), .ref (ea E 51), .int x2]) ++ List.replicate (4 - (lg_sl ([.ref (ea E 1), .ref (ea E 51), .int x2])).length) Slot.unset).toArray = ls at hl ⊢
  exact wX3_goBy_51 ⟨B.exec, B.bytes, hml, findClass_of_methodNamed B.named, fun w h => atoms_spec (ws := wu_X3_goBy) B.pre w (List.mem_cons_of_mem _ h), B.returns, B.notSynchronized, hK, hD⟩ x2 σ s.heap [] ls hl hP va_S.rf hE
def fX4_goByRow   (σ : ST) : Option (ST) :=
  calv (fX3_supposeAsItIs σ) (fun σ_1 => cali (fX4_orderOfRow (-9) σ_1) (fun r_3 σ_2 => calv (fX3_goBy_51 r_3 σ_2) (fun σ_4 => some σ_4)))
set_option maxHeartbeats 4000000 in
set_option maxRecDepth 100000 in
theorem wX4_goByRow {p : Program} {l : Launch} {e : Env} {s : State} {m : MethodId} {args : Array Value} {below : List Frame} {meth : Method} {c : Code} {E : EN} (C : zC E xW p s m args meth c cX4_goByRow 1 RX4 none wsL_law) {F : ST}    (σ : ST) (H : Heap) (locs : List Loc) (ls : Array Slot) (hl : lv_has ls 1 [(0, .ref (ea E 0))]) (hP : va_P (eD E) vwCl (xW E σ) H) (hS : va_S (eA E) s.heap H locs) (hE : fX4_goByRow   σ = some F) : zWv E xW p l e r_X4_goByRow s m args below meth c F H locs (F0 m 0 ls []) := by
  obtain ⟨hx, hb, hml, hown, hts, hr, hlk, hK, hD⟩ := id C
  have hwX4 : ∀ w ∈ wsX40, w.before args s = true := fun w h => hts w (inlX4 w h)
  unfold fX4_goByRow at hE
  refine lv_aload_n hx hb dX4_goByRow_0 rfl (lv_at hl 0 rfl) ?_
  refine xg_0_0 hx hb hown hwX4 (hts _ u_15) hK hP dX4_goByRow_1 ?_
  refine z_gov (wf := xW) hS hE (fun F1 h1 => (va_runV (As := []) (rest := []) ⟨hx, hb, hml, hown, hts⟩ (kX3_supposeAsItIs l E hD  σ F1 h1) (cwV 0 hts (gU_V u_525 u_526 u_527 u_14 u_528) rfl rfl rfl q_X3_supposeAsItIs ⟨Nat.le_of_ble_eq_true rfl, Nat.le_of_ble_eq_true rfl⟩) (z_preV hK hP hS (ci := 3) (q0 := 1) rfl rfl rfl) rfl rfl hl.1 rfl (lv_room (Nat.le_of_ble_eq_true rfl)) dX4_goByRow_4 ⟨Nat.le_of_ble_eq_true rfl, Nat.le_of_ble_eq_true rfl⟩)) (fun σ_1 H locs hP hS hE => ?_)
  refine lv_aload_n hx hb dX4_goByRow_7 rfl (lv_at hl 0 rfl) ?_
  refine xg_0_0 hx hb hown hwX4 (hts _ u_15) hK hP dX4_goByRow_8 ?_
  refine lv_aload_n hx hb dX4_goByRow_11 rfl (lv_at hl 0 rfl) ?_
  refine xg_0_7 hx hb hown hwX4 (hts _ u_31) hK hP dX4_goByRow_12 ?_
  refine lv_aload_n hx hb dX4_goByRow_15 rfl (lv_at hl 0 rfl) ?_
  refine lv_bipush (v := -9) hx hb dX4_goByRow_16 (by decide) ?_
  refine z_goi (wf := xW) hS hE (fun F1 h1 => (va_runV (As := [.int (-9)]) (rest := [.ref (ea E 51), .ref (ea E 1)]) ⟨hx, hb, hml, hown, hts⟩ (kX4_orderOfRow l E hD (-9) σ_1 F1 h1) (cwV 1 hts (gU_V u_539 u_540 u_541 u_2 u_542) rfl rfl rfl q_X4_orderOfRow ⟨Nat.le_of_ble_eq_true rfl, Nat.le_of_ble_eq_true rfl⟩) (z_preV hK hP hS (ci := 4) (q0 := 0) rfl rfl rfl) rfl rfl hl.1 rfl (lv_room (Nat.le_of_ble_eq_true rfl)) dX4_goByRow_18 ⟨Nat.le_of_ble_eq_true rfl, Nat.le_of_ble_eq_true rfl⟩)) (fun r_3 σ_2 H locs hP hS hE => ?_)
  refine z_gov (wf := xW) hS hE (fun F1 h1 => (va_runV (As := [.ref (ea E 51), .int r_3]) (rest := []) ⟨hx, hb, hml, hown, hts⟩ (kX3_goBy_51 l E hD r_3 σ_2 F1 h1) (cwV 2 hts (gU_V u_543 u_544 u_545 u_14 u_546) rfl rfl rfl q_X3_goBy ⟨Nat.le_of_ble_eq_true rfl, Nat.le_of_ble_eq_true rfl⟩) (z_preV hK hP hS (ci := 3) (q0 := 1) rfl rfl rfl) rfl rfl hl.1 rfl (lv_room (Nat.le_of_ble_eq_true rfl)) dX4_goByRow_21 ⟨Nat.le_of_ble_eq_true rfl, Nat.le_of_ble_eq_true rfl⟩)) (fun σ_4 H locs hP hS hE => ?_)
  exact z_vret hx hb hr hlk hP hS dX4_goByRow_24 hE
theorem kX4_goByRow (l : Launch) (E : EN) (hD : ∀ σ, va_D (eA E) (xW E σ))  (σ : ST) (F : ST) (hE : fX4_goByRow  σ = some F) : Met l yX4_goByRow wu_X4_goByRow r_X4_goByRow (zPc E xW [.ref (ea E 0)] σ) (zQv E xW F) 0 0 (eA E) := by
  refine Met.ofW (cc := cX4_goByRow) (maxL := 1) (ret := none) (by decide) rfl ?_
  intro p e s m args below meth c s₁ B hml hv
  obtain ⟨rfl, hP, hK⟩ := hv
  have hl := lv_entry ([.ref (ea E 0)]) (n := 1) (Nat.le_of_ble_eq_true rfl)
  rw [lg_entry_eq]
  generalize (lg_sl ([.ref (ea E 0)]) ++ List.replicate (1 - (lg_sl ([.ref (ea E 0)])).length) Slot.unset).toArray = ls at hl ⊢
  exact wX4_goByRow ⟨B.exec, B.bytes, hml, findClass_of_methodNamed B.named, fun w h => atoms_spec (ws := wu_X4_goByRow) B.pre w (List.mem_cons_of_mem _ h), B.returns, B.notSynchronized, hK, hD⟩  σ s.heap [] ls hl hP va_S.rf hE
def fX4_day  (x1 : Int32) (σ : ST) : Option (Int32 × ST) :=
  (if x1 < 0 then cali (fX4_refuse (-2) σ) (fun r_2 σ_1 => some (r_2, σ_1)) else (if x1 ≤ 2 then (if (gI σ 3) = 0 then cali (fX4_refuse (-3) σ) (fun r_5 σ_4 => some (r_5, σ_4)) else calv (fX4_goByRow σ) (fun σ_3 => (if x1 = 0 then some ((gI σ_3 25), σ_3) else (if x1 = 1 then some ((gI σ_3 26), σ_3) else some ((gI σ_3 27), σ_3))))) else cali (fX4_refuse (-2) σ) (fun r_7 σ_6 => some (r_7, σ_6))))
set_option maxHeartbeats 4000000 in
set_option maxRecDepth 100000 in
theorem wX4_day {p : Program} {l : Launch} {e : Env} {s : State} {m : MethodId} {args : Array Value} {below : List Frame} {meth : Method} {c : Code} {E : EN} (C : zC E xW p s m args meth c cX4_day 2 RX4 (some .int) wsL_law) {F : Int32 × ST}   (x1 : Int32) (σ : ST) (H : Heap) (locs : List Loc) (ls : Array Slot) (hl : lv_has ls 2 [(0, .ref (ea E 0)), (1, .int x1)]) (hP : va_P (eD E) vwCl (xW E σ) H) (hS : va_S (eA E) s.heap H locs) (hE : fX4_day  x1 σ = some F) : zWi E xW p l e r_X4_day s m args below meth c F H locs (F0 m 0 ls []) := by
  obtain ⟨hx, hb, hml, hown, hts, hr, hlk, hK, hD⟩ := id C
  have hwX2 : ∀ w ∈ wsX20, w.before args s = true := fun w h => hts w (inlX2 w h)
  have hwX3 : ∀ w ∈ wsX30, w.before args s = true := fun w h => hts w (inlX3 w h)
  have hwX4 : ∀ w ∈ wsX40, w.before args s = true := fun w h => hts w (inlX4 w h)
  unfold fX4_day at hE
  refine lv_iload_n hx hb dX4_day_0 rfl (lv_at hl 1 rfl) ?_
  refine z_if_lt (tgt := 9) hx hb dX4_day_1 (by decide) hE (fun hE => ?_) (fun hE => ?_)
  · refine lv_aload_n hx hb dX4_day_9 rfl (lv_at hl 0 rfl) ?_
    refine lv_bipush (v := -2) hx hb dX4_day_10 (by decide) ?_
    refine z_goi (wf := xW) hS hE (fun F1 h1 => (va_runV (As := [.int (-2)]) (rest := []) ⟨hx, hb, hml, hown, hts⟩ (kX4_refuse l E hD (-2) σ F1 h1) (cwV 1 hts (gU_V u_118 u_119 u_120 u_2 u_121) rfl rfl rfl q_X4_refuse ⟨Nat.le_of_ble_eq_true rfl, Nat.le_of_ble_eq_true rfl⟩) (z_preV hK hP hS (ci := 4) (q0 := 0) rfl rfl rfl) rfl rfl hl.1 rfl (lv_room (Nat.le_of_ble_eq_true rfl)) dX4_day_12 ⟨Nat.le_of_ble_eq_true rfl, Nat.le_of_ble_eq_true rfl⟩)) (fun r_2 σ_1 H locs hP hS hE => ?_)
    exact z_iret hx hb hr hlk hP hS dX4_day_15 hE
  refine lv_iload_n hx hb dX4_day_4 rfl (lv_at hl 1 rfl) ?_
  refine lv_iconst (v := 2) hx hb dX4_day_5 (by decide) ?_
  refine z_icmp_le (tgt := 16) hx hb dX4_day_6 (by decide) hE (fun hE => ?_) (fun hE => ?_)
  · refine lv_aload_n hx hb dX4_day_16 rfl (lv_at hl 0 rfl) ?_
    refine xg_0_1 hx hb hown hwX4 (hts _ u_17) hK hP dX4_day_17 ?_
    refine xg_4_11 hx hb hown hwX2 (hts _ u_387) hK hP dX4_day_20 ?_
    refine z_if_ne (tgt := 33) hx hb dX4_day_23 (by decide) hE (fun hE => ?_) (fun hE => ?_)
    · refine lv_aload_n hx hb dX4_day_33 rfl (lv_at hl 0 rfl) ?_
      refine z_gov (wf := xW) hS hE (fun F1 h1 => (va_runV (As := []) (rest := []) ⟨hx, hb, hml, hown, hts⟩ (kX4_goByRow l E hD  σ F1 h1) (cwV 0 hts (gU_V u_521 u_522 u_523 u_2 u_524) rfl rfl rfl q_X4_goByRow ⟨Nat.le_of_ble_eq_true rfl, Nat.le_of_ble_eq_true rfl⟩) (z_preV hK hP hS (ci := 4) (q0 := 0) rfl rfl rfl) rfl rfl hl.1 rfl (lv_room (Nat.le_of_ble_eq_true rfl)) dX4_day_34 ⟨Nat.le_of_ble_eq_true rfl, Nat.le_of_ble_eq_true rfl⟩)) (fun σ_3 H locs hP hS hE => ?_)
      refine lv_iload_n hx hb dX4_day_37 rfl (lv_at hl 1 rfl) ?_
      refine z_if_ne (tgt := 49) hx hb dX4_day_38 (by decide) hE (fun hE => ?_) (fun hE => ?_)
      · refine lv_iload_n hx hb dX4_day_49 rfl (lv_at hl 1 rfl) ?_
        refine lv_iconst (v := 1) hx hb dX4_day_50 (by decide) ?_
        refine z_icmp_ne (tgt := 64) hx hb dX4_day_51 (by decide) hE (fun hE => ?_) (fun hE => ?_)
        · refine lv_aload_n hx hb dX4_day_64 rfl (lv_at hl 0 rfl) ?_
          refine xg_0_0 hx hb hown hwX4 (hts _ u_15) hK hP dX4_day_65 ?_
          refine xg_1_12 hx hb hown hwX3 (hts _ u_520) hK hP dX4_day_68 ?_
          exact z_iret hx hb hr hlk hP hS dX4_day_71 hE
        refine lv_aload_n hx hb dX4_day_54 rfl (lv_at hl 0 rfl) ?_
        refine xg_0_0 hx hb hown hwX4 (hts _ u_15) hK hP dX4_day_55 ?_
        refine xg_1_11 hx hb hown hwX3 (hts _ u_519) hK hP dX4_day_58 ?_
        refine lv_goto (tgt := 71) hx hb dX4_day_61 (by decide) ?_
        exact z_iret hx hb hr hlk hP hS dX4_day_71 hE
      refine lv_aload_n hx hb dX4_day_41 rfl (lv_at hl 0 rfl) ?_
      refine xg_0_0 hx hb hown hwX4 (hts _ u_15) hK hP dX4_day_42 ?_
      refine xg_1_10 hx hb hown hwX3 (hts _ u_518) hK hP dX4_day_45 ?_
      exact z_iret hx hb hr hlk hP hS dX4_day_48 hE
    refine lv_aload_n hx hb dX4_day_26 rfl (lv_at hl 0 rfl) ?_
    refine lv_bipush (v := -3) hx hb dX4_day_27 (by decide) ?_
    refine z_goi (wf := xW) hS hE (fun F1 h1 => (va_runV (As := [.int (-3)]) (rest := []) ⟨hx, hb, hml, hown, hts⟩ (kX4_refuse l E hD (-3) σ F1 h1) (cwV 1 hts (gU_V u_118 u_119 u_120 u_2 u_121) rfl rfl rfl q_X4_refuse ⟨Nat.le_of_ble_eq_true rfl, Nat.le_of_ble_eq_true rfl⟩) (z_preV hK hP hS (ci := 4) (q0 := 0) rfl rfl rfl) rfl rfl hl.1 rfl (lv_room (Nat.le_of_ble_eq_true rfl)) dX4_day_29 ⟨Nat.le_of_ble_eq_true rfl, Nat.le_of_ble_eq_true rfl⟩)) (fun r_5 σ_4 H locs hP hS hE => ?_)
    exact z_iret hx hb hr hlk hP hS dX4_day_32 hE
  refine lv_aload_n hx hb dX4_day_9 rfl (lv_at hl 0 rfl) ?_
  refine lv_bipush (v := -2) hx hb dX4_day_10 (by decide) ?_
  refine z_goi (wf := xW) hS hE (fun F1 h1 => (va_runV (As := [.int (-2)]) (rest := []) ⟨hx, hb, hml, hown, hts⟩ (kX4_refuse l E hD (-2) σ F1 h1) (cwV 1 hts (gU_V u_118 u_119 u_120 u_2 u_121) rfl rfl rfl q_X4_refuse ⟨Nat.le_of_ble_eq_true rfl, Nat.le_of_ble_eq_true rfl⟩) (z_preV hK hP hS (ci := 4) (q0 := 0) rfl rfl rfl) rfl rfl hl.1 rfl (lv_room (Nat.le_of_ble_eq_true rfl)) dX4_day_12 ⟨Nat.le_of_ble_eq_true rfl, Nat.le_of_ble_eq_true rfl⟩)) (fun r_7 σ_6 H locs hP hS hE => ?_)
  exact z_iret hx hb hr hlk hP hS dX4_day_15 hE
theorem kX4_day (l : Launch) (E : EN) (hD : ∀ σ, va_D (eA E) (xW E σ)) (x1 : Int32) (σ : ST) (F : Int32 × ST) (hE : fX4_day x1 σ = some F) : Met l yX4_day wu_X4_day r_X4_day (zPc E xW [.ref (ea E 0), .int x1] σ) (zQi E xW F) 0 0 (eA E) := by
  refine Met.ofW (cc := cX4_day) (maxL := 2) (ret := (some .int)) (by decide) rfl ?_
  intro p e s m args below meth c s₁ B hml hv
  obtain ⟨rfl, hP, hK⟩ := hv
  have hl := lv_entry ([.ref (ea E 0), .int x1]) (n := 2) (Nat.le_of_ble_eq_true rfl)
  rw [lg_entry_eq]
  generalize (lg_sl ([.ref (ea E 0), .int x1]) ++ List.replicate (2 - (lg_sl ([.ref (ea E 0), .int x1])).length) Slot.unset).toArray = ls at hl ⊢
  exact wX4_day ⟨B.exec, B.bytes, hml, findClass_of_methodNamed B.named, fun w h => atoms_spec (ws := wu_X4_day) B.pre w (List.mem_cons_of_mem _ h), B.returns, B.notSynchronized, hK, hD⟩ x1 σ s.heap [] ls hl hP va_S.rf hE
def fX4_refusalOfPart  (x1 : Int32) (σ : ST) : Option (Int32 × ST) :=
  (if x1 < 0 then some ((-2), σ) else (if x1 ≤ 1 then (if (gI σ 3) = 0 then some ((-3), σ) else some (0, σ)) else some ((-2), σ)))
set_option maxHeartbeats 4000000 in
set_option maxRecDepth 100000 in
theorem wX4_refusalOfPart {p : Program} {l : Launch} {e : Env} {s : State} {m : MethodId} {args : Array Value} {below : List Frame} {meth : Method} {c : Code} {E : EN} (C : zC E xW p s m args meth c cX4_refusalOfPart 2 RX4 (some .int) wsL_law) {F : Int32 × ST}   (x1 : Int32) (σ : ST) (H : Heap) (locs : List Loc) (ls : Array Slot) (hl : lv_has ls 2 [(0, .ref (ea E 0)), (1, .int x1)]) (hP : va_P (eD E) vwCl (xW E σ) H) (hS : va_S (eA E) s.heap H locs) (hE : fX4_refusalOfPart  x1 σ = some F) : zWi E xW p l e r_X4_refusalOfPart s m args below meth c F H locs (F0 m 0 ls []) := by
  obtain ⟨hx, hb, hml, hown, hts, hr, hlk, hK, hD⟩ := id C
  have hwX2 : ∀ w ∈ wsX20, w.before args s = true := fun w h => hts w (inlX2 w h)
  have hwX4 : ∀ w ∈ wsX40, w.before args s = true := fun w h => hts w (inlX4 w h)
  unfold fX4_refusalOfPart at hE
  refine lv_iload_n hx hb dX4_refusalOfPart_0 rfl (lv_at hl 1 rfl) ?_
  refine z_if_lt (tgt := 9) hx hb dX4_refusalOfPart_1 (by decide) hE (fun hE => ?_) (fun hE => ?_)
  · refine lv_bipush (v := -2) hx hb dX4_refusalOfPart_9 (by decide) ?_
    exact z_iret hx hb hr hlk hP hS dX4_refusalOfPart_11 hE
  refine lv_iload_n hx hb dX4_refusalOfPart_4 rfl (lv_at hl 1 rfl) ?_
  refine lv_iconst (v := 1) hx hb dX4_refusalOfPart_5 (by decide) ?_
  refine z_icmp_le (tgt := 12) hx hb dX4_refusalOfPart_6 (by decide) hE (fun hE => ?_) (fun hE => ?_)
  · refine lv_aload_n hx hb dX4_refusalOfPart_12 rfl (lv_at hl 0 rfl) ?_
    refine xg_0_1 hx hb hown hwX4 (hts _ u_17) hK hP dX4_refusalOfPart_13 ?_
    refine xg_4_11 hx hb hown hwX2 (hts _ u_387) hK hP dX4_refusalOfPart_16 ?_
    refine z_if_ne (tgt := 27) hx hb dX4_refusalOfPart_19 (by decide) hE (fun hE => ?_) (fun hE => ?_)
    · refine lv_iconst (v := 0) hx hb dX4_refusalOfPart_27 (by decide) ?_
      exact z_iret hx hb hr hlk hP hS dX4_refusalOfPart_28 hE
    refine lv_bipush (v := -3) hx hb dX4_refusalOfPart_22 (by decide) ?_
    refine lv_goto (tgt := 28) hx hb dX4_refusalOfPart_24 (by decide) ?_
    exact z_iret hx hb hr hlk hP hS dX4_refusalOfPart_28 hE
  refine lv_bipush (v := -2) hx hb dX4_refusalOfPart_9 (by decide) ?_
  exact z_iret hx hb hr hlk hP hS dX4_refusalOfPart_11 hE
theorem kX4_refusalOfPart (l : Launch) (E : EN) (hD : ∀ σ, va_D (eA E) (xW E σ)) (x1 : Int32) (σ : ST) (F : Int32 × ST) (hE : fX4_refusalOfPart x1 σ = some F) : Met l yX4_refusalOfPart wu_X4_refusalOfPart r_X4_refusalOfPart (zPc E xW [.ref (ea E 0), .int x1] σ) (zQi E xW F) 0 0 (eA E) := by
  refine Met.ofW (cc := cX4_refusalOfPart) (maxL := 2) (ret := (some .int)) (by decide) rfl ?_
  intro p e s m args below meth c s₁ B hml hv
  obtain ⟨rfl, hP, hK⟩ := hv
  have hl := lv_entry ([.ref (ea E 0), .int x1]) (n := 2) (Nat.le_of_ble_eq_true rfl)
  rw [lg_entry_eq]
  generalize (lg_sl ([.ref (ea E 0), .int x1]) ++ List.replicate (2 - (lg_sl ([.ref (ea E 0), .int x1])).length) Slot.unset).toArray = ls at hl ⊢
  exact wX4_refusalOfPart ⟨B.exec, B.bytes, hml, findClass_of_methodNamed B.named, fun w h => atoms_spec (ws := wu_X4_refusalOfPart) B.pre w (List.mem_cons_of_mem _ h), B.returns, B.notSynchronized, hK, hD⟩ x1 σ s.heap [] ls hl hP va_S.rf hE
def fX4_partOf_J52 (kb : Int32 → Int64 → Int64 → Int32 → ST → Option (Int64 × ST)) (x2 : Int32) (x3 : Int64) (x5 : Int64) (x7 : Int32) (σ : ST) : Option (Int64 × ST) :=
  rml x3 5 (fun v_5 => (if (lg_cmp v_5 0) = 0 then rml x5 5 (fun v_7 => (if (lg_cmp v_7 0) = 0 then dvl x3 5 (fun v_9 => bnd (v_9 : Int64) (fun x3_10 => dvl x5 5 (fun v_11 => bnd (v_11 : Int64) (fun x5_12 => bnd (x7 + 1) (fun x7_13 => kb x2 x3_10 x5_12 x7_13 σ))))) else bnd (x7 + 1) (fun x7_8 => kb x2 x3 x5 x7_8 σ))) else bnd (x7 + 1) (fun x7_6 => kb x2 x3 x5 x7_6 σ)))
set_option maxHeartbeats 4000000 in
set_option maxRecDepth 100000 in
theorem wX4_partOf_J52 {p : Program} {l : Launch} {e : Env} {s : State} {m : MethodId} {args : Array Value} {below : List Frame} {meth : Method} {c : Code} {E : EN} (C : zC E xW p s m args meth c cX4_partOf 8 RX4 (some .long) wsL_law) {F : Int64 × ST} {kb : Int32 → Int64 → Int64 → Int32 → ST → Option (Int64 × ST)} (hkb : ∀ (x2 : Int32) (x3 : Int64) (x5 : Int64) (x7 : Int32) (σ : ST) (H : Heap) (locs : List Loc) (ls : Array Slot), lv_has ls 8 [(2, .int x2), (3, .long x3), (5, .long x5), (7, .int x7)] → va_P (eD E) vwCl (xW E σ) H → va_S (eA E) s.heap H locs → kb x2 x3 x5 x7 σ = some F → zWl E xW p l e r_X4_partOf s m args below meth c F H locs (F0 m 10 ls [])) (x2 : Int32) (x3 : Int64) (x5 : Int64) (x7 : Int32) (σ : ST) (H : Heap) (locs : List Loc) (ls : Array Slot) (hl : lv_has ls 8 [(2, .int x2), (3, .long x3), (5, .long x5), (7, .int x7)]) (hP : va_P (eD E) vwCl (xW E σ) H) (hS : va_S (eA E) s.heap H locs) (hE : fX4_partOf_J52 kb x2 x3 x5 x7 σ = some F) : zWl E xW p l e r_X4_partOf s m args below meth c F H locs (F0 m 52 ls []) := by
  obtain ⟨hx, hb, hml, hown, hts, hr, hlk, hK, hD⟩ := id C
  unfold fX4_partOf_J52 at hE
  refine lv_lload_n hx hb dX4_partOf_52 rfl (lv_at hl 1 rfl) ?_
  refine lv_ldc2 (v := 5) hx hb hown (hts _ u_657) dX4_partOf_53 ?_
  refine z_lrem hx hb dX4_partOf_56 hE (fun v_5 hE => ?_)
  refine lv_lconst (v := 0) hx hb dX4_partOf_57 (by decide) ?_
  refine W.lcmp hx hb dX4_partOf_58 ?_
  refine z_if_ne (tgt := 87) hx hb dX4_partOf_59 (by decide) hE (fun hE => ?_) (fun hE => ?_)
  · refine z_iinc hx hb (v := (x7 + 1)) (k := 3) (fun x7_6 => [(7, .int x7_6), (2, .int x2), (3, .long x3), (5, .long x5)]) dX4_partOf_87 hl rfl (by rfl) (by decide) rfl hE (fun x7_6 ls hl hE => ?_)
    refine lv_goto (tgt := 10) hx hb dX4_partOf_90 (by decide) ?_
    exact hkb x2 x3 x5 x7_6 σ _ _ _ (lv_sub hl [1, 2, 3, 0] rfl) hP hS hE
  refine lv_lload hx hb dX4_partOf_62 (lv_at hl 2 rfl) ?_
  refine lv_ldc2 (v := 5) hx hb hown (hts _ u_657) dX4_partOf_64 ?_
  refine z_lrem hx hb dX4_partOf_67 hE (fun v_7 hE => ?_)
  refine lv_lconst (v := 0) hx hb dX4_partOf_68 (by decide) ?_
  refine W.lcmp hx hb dX4_partOf_69 ?_
  refine z_if_ne (tgt := 87) hx hb dX4_partOf_70 (by decide) hE (fun hE => ?_) (fun hE => ?_)
  · refine z_iinc hx hb (v := (x7 + 1)) (k := 3) (fun x7_8 => [(7, .int x7_8), (2, .int x2), (3, .long x3), (5, .long x5)]) dX4_partOf_87 hl rfl (by rfl) (by decide) rfl hE (fun x7_8 ls hl hE => ?_)
    refine lv_goto (tgt := 10) hx hb dX4_partOf_90 (by decide) ?_
    exact hkb x2 x3 x5 x7_8 σ _ _ _ (lv_sub hl [1, 2, 3, 0] rfl) hP hS hE
  refine lv_lload_n hx hb dX4_partOf_73 rfl (lv_at hl 1 rfl) ?_
  refine lv_ldc2 (v := 5) hx hb hown (hts _ u_657) dX4_partOf_74 ?_
  refine z_ldiv hx hb dX4_partOf_77 hE (fun v_9 hE => ?_)
  refine z_lstore_n hx hb (fun x3_10 => [(3, .long x3_10), (2, .int x2), (5, .long x5), (7, .int x7)]) dX4_partOf_78 rfl hl (by decide) rfl hE (fun x3_10 ls hl hE => ?_)
  refine lv_lload hx hb dX4_partOf_79 (lv_at hl 2 rfl) ?_
  refine lv_ldc2 (v := 5) hx hb hown (hts _ u_657) dX4_partOf_81 ?_
  refine z_ldiv hx hb dX4_partOf_84 hE (fun v_11 hE => ?_)
  refine z_lstore hx hb (fun x5_12 => [(5, .long x5_12), (3, .long x3_10), (2, .int x2), (7, .int x7)]) dX4_partOf_85 hl (by decide) rfl hE (fun x5_12 ls hl hE => ?_)
  refine z_iinc hx hb (v := (x7 + 1)) (k := 3) (fun x7_13 => [(7, .int x7_13), (5, .long x5_12), (3, .long x3_10), (2, .int x2)]) dX4_partOf_87 hl rfl (by rfl) (by decide) rfl hE (fun x7_13 ls hl hE => ?_)
  refine lv_goto (tgt := 10) hx hb dX4_partOf_90 (by decide) ?_
  exact hkb x2 x3_10 x5_12 x7_13 σ _ _ _ (lv_sub hl [3, 2, 1, 0] rfl) hP hS hE
def fX4_partOf_L10 (ke : Int32 → Int64 → Int64 → ST → Option (Int64 × ST)) : Nat → Int32 → Int64 → Int64 → Int32 → ST → Option (Int64 × ST)
  | 0, _, _, _, _, _ => none
  | n + 1, x2, x3, x5, x7, σ => (if 12 ≤ x7 then ke x2 x3 x5 σ else rml x3 2 (fun v_4 => (if (lg_cmp v_4 0) = 0 then rml x5 2 (fun v_14 => (if (lg_cmp v_14 0) = 0 then dvl x3 2 (fun v_15 => bnd (v_15 : Int64) (fun x3_16 => dvl x5 2 (fun v_17 => bnd (v_17 : Int64) (fun x5_18 => fX4_partOf_J52 (fX4_partOf_L10 ke n) x2 x3_16 x5_18 x7 σ)))) else fX4_partOf_J52 (fX4_partOf_L10 ke n) x2 x3 x5 x7 σ)) else fX4_partOf_J52 (fX4_partOf_L10 ke n) x2 x3 x5 x7 σ)))
set_option maxHeartbeats 4000000 in
set_option maxRecDepth 100000 in
theorem wX4_partOf_L10 {p : Program} {l : Launch} {e : Env} {s : State} {m : MethodId} {args : Array Value} {below : List Frame} {meth : Method} {c : Code} {E : EN} (C : zC E xW p s m args meth c cX4_partOf 8 RX4 (some .long) wsL_law) {F : Int64 × ST} {ke : Int32 → Int64 → Int64 → ST → Option (Int64 × ST)} (hke : ∀ (x2 : Int32) (x3 : Int64) (x5 : Int64) (σ : ST) (H : Heap) (locs : List Loc) (ls : Array Slot), lv_has ls 8 [(2, .int x2), (3, .long x3), (5, .long x5)] → va_P (eD E) vwCl (xW E σ) H → va_S (eA E) s.heap H locs → ke x2 x3 x5 σ = some F → zWl E xW p l e r_X4_partOf s m args below meth c F H locs (F0 m 93 ls [])) : ∀ (n : Nat) (x2 : Int32) (x3 : Int64) (x5 : Int64) (x7 : Int32) (σ : ST) (H : Heap) (locs : List Loc) (ls : Array Slot), lv_has ls 8 [(2, .int x2), (3, .long x3), (5, .long x5), (7, .int x7)] → va_P (eD E) vwCl (xW E σ) H → va_S (eA E) s.heap H locs → fX4_partOf_L10 ke n x2 x3 x5 x7 σ = some F → zWl E xW p l e r_X4_partOf s m args below meth c F H locs (F0 m 10 ls []) := by
  obtain ⟨hx, hb, hml, hown, hts, hr, hlk, hK, hD⟩ := id C
  intro n
  induction n with
  | zero => intro x2 x3 x5 x7 σ H locs ls hl hP hS hE; rw [fX4_partOf_L10] at hE; cases hE
  | succ n ih =>
    intro x2 x3 x5 x7 σ H locs ls hl hP hS hE
    rw [fX4_partOf_L10] at hE
    refine lv_iload hx hb dX4_partOf_10 (lv_at hl 3 rfl) ?_
    refine lv_bipush (v := 12) hx hb dX4_partOf_12 (by decide) ?_
    refine z_icmp_ge (tgt := 93) hx hb dX4_partOf_14 (by decide) hE (fun hE => ?_) (fun hE => ?_)
    · exact hke x2 x3 x5 σ _ _ _ (lv_sub hl [0, 1, 2] rfl) hP hS hE
    refine lv_lload_n hx hb dX4_partOf_17 rfl (lv_at hl 1 rfl) ?_
    refine lv_ldc2 (v := 2) hx hb hown (hts _ u_656) dX4_partOf_18 ?_
    refine z_lrem hx hb dX4_partOf_21 hE (fun v_4 hE => ?_)
    refine lv_lconst (v := 0) hx hb dX4_partOf_22 (by decide) ?_
    refine W.lcmp hx hb dX4_partOf_23 ?_
    refine z_if_ne (tgt := 52) hx hb dX4_partOf_24 (by decide) hE (fun hE => ?_) (fun hE => ?_)
    · exact wX4_partOf_J52 C ih x2 x3 x5 x7 σ _ _ _ (lv_sub hl [0, 1, 2, 3] rfl) hP hS hE
    refine lv_lload hx hb dX4_partOf_27 (lv_at hl 2 rfl) ?_
    refine lv_ldc2 (v := 2) hx hb hown (hts _ u_656) dX4_partOf_29 ?_
    refine z_lrem hx hb dX4_partOf_32 hE (fun v_14 hE => ?_)
    refine lv_lconst (v := 0) hx hb dX4_partOf_33 (by decide) ?_
    refine W.lcmp hx hb dX4_partOf_34 ?_
    refine z_if_ne (tgt := 52) hx hb dX4_partOf_35 (by decide) hE (fun hE => ?_) (fun hE => ?_)
    · exact wX4_partOf_J52 C ih x2 x3 x5 x7 σ _ _ _ (lv_sub hl [0, 1, 2, 3] rfl) hP hS hE
    refine lv_lload_n hx hb dX4_partOf_38 rfl (lv_at hl 1 rfl) ?_
    refine lv_ldc2 (v := 2) hx hb hown (hts _ u_656) dX4_partOf_39 ?_
    refine z_ldiv hx hb dX4_partOf_42 hE (fun v_15 hE => ?_)
    refine z_lstore_n hx hb (fun x3_16 => [(3, .long x3_16), (2, .int x2), (5, .long x5), (7, .int x7)]) dX4_partOf_43 rfl hl (by decide) rfl hE (fun x3_16 ls hl hE => ?_)
    refine lv_lload hx hb dX4_partOf_44 (lv_at hl 2 rfl) ?_
    refine lv_ldc2 (v := 2) hx hb hown (hts _ u_656) dX4_partOf_46 ?_
    refine z_ldiv hx hb dX4_partOf_49 hE (fun v_17 hE => ?_)
    refine z_lstore hx hb (fun x5_18 => [(5, .long x5_18), (3, .long x3_16), (2, .int x2), (7, .int x7)]) dX4_partOf_50 hl (by decide) rfl hE (fun x5_18 ls hl hE => ?_)
    exact wX4_partOf_J52 C ih x2 x3_16 x5_18 x7 σ _ _ _ (lv_sub hl [2, 1, 0, 3] rfl) hP hS hE
def fX4_partOf  (x0 : Int64) (x2 : Int32) (σ : ST) : Option (Int64 × ST) :=
  bnd (x0 : Int64) (fun x3_1 => bnd (1000000000000 : Int64) (fun x5_2 => bnd (0 : Int32) (fun x7_3 => fX4_partOf_L10 (fun x2_19 x3_20 x5_21 σ_22 => (if x2_19 = 0 then some (x3_20, σ_22) else some (x5_21, σ_22))) FU x2 x3_1 x5_2 x7_3 σ)))
set_option maxHeartbeats 4000000 in
set_option maxRecDepth 100000 in
theorem wX4_partOf {p : Program} {l : Launch} {e : Env} {s : State} {m : MethodId} {args : Array Value} {below : List Frame} {meth : Method} {c : Code} {E : EN} (C : zC E xW p s m args meth c cX4_partOf 8 RX4 (some .long) wsL_law) {F : Int64 × ST}   (x0 : Int64) (x2 : Int32) (σ : ST) (H : Heap) (locs : List Loc) (ls : Array Slot) (hl : lv_has ls 8 [(0, .long x0), (2, .int x2)]) (hP : va_P (eD E) vwCl (xW E σ) H) (hS : va_S (eA E) s.heap H locs) (hE : fX4_partOf  x0 x2 σ = some F) : zWl E xW p l e r_X4_partOf s m args below meth c F H locs (F0 m 0 ls []) := by
  obtain ⟨hx, hb, hml, hown, hts, hr, hlk, hK, hD⟩ := id C
  unfold fX4_partOf at hE
  refine lv_lload_n hx hb dX4_partOf_0 rfl (lv_at hl 0 rfl) ?_
  refine z_lstore_n hx hb (fun x3_1 => [(3, .long x3_1), (0, .long x0), (2, .int x2)]) dX4_partOf_1 rfl hl (by decide) rfl hE (fun x3_1 ls hl hE => ?_)
  refine lv_ldc2 (v := 1000000000000) hx hb hown (hts _ u_655) dX4_partOf_2 ?_
  refine z_lstore hx hb (fun x5_2 => [(5, .long x5_2), (3, .long x3_1), (0, .long x0), (2, .int x2)]) dX4_partOf_5 hl (by decide) rfl hE (fun x5_2 ls hl hE => ?_)
  refine lv_iconst (v := 0) hx hb dX4_partOf_7 (by decide) ?_
  refine z_istore hx hb (fun x7_3 => [(7, .int x7_3), (5, .long x5_2), (3, .long x3_1), (0, .long x0), (2, .int x2)]) dX4_partOf_8 hl (by decide) rfl hE (fun x7_3 ls hl hE => ?_)
  refine wX4_partOf_L10 C ?_ FU x2 x3_1 x5_2 x7_3 σ _ _ _ (lv_sub hl [4, 2, 1, 0] rfl) hP hS hE
  intro x2_19 x3_20 x5_21 σ_22 H locs ls hl hP hS hE
  refine lv_iload_n hx hb dX4_partOf_93 rfl (lv_at hl 0 rfl) ?_
  refine z_if_ne (tgt := 101) hx hb dX4_partOf_94 (by decide) hE (fun hE => ?_) (fun hE => ?_)
  · refine lv_lload hx hb dX4_partOf_101 (lv_at hl 2 rfl) ?_
    exact z_lret hx hb hr hlk hP hS dX4_partOf_103 hE
  refine lv_lload_n hx hb dX4_partOf_97 rfl (lv_at hl 1 rfl) ?_
  refine lv_goto (tgt := 103) hx hb dX4_partOf_98 (by decide) ?_
  exact z_lret hx hb hr hlk hP hS dX4_partOf_103 hE
theorem kX4_partOf (l : Launch) (E : EN) (hD : ∀ σ, va_D (eA E) (xW E σ)) (x0 : Int64) (x2 : Int32) (σ : ST) (F : Int64 × ST) (hE : fX4_partOf x0 x2 σ = some F) : Met l yX4_partOf wu_X4_partOf r_X4_partOf (zPc E xW [.long x0, .int x2] σ) (zQl E xW F) 0 0 (eA E) := by
  refine Met.ofW (cc := cX4_partOf) (maxL := 8) (ret := (some .long)) (by decide) rfl ?_
  intro p e s m args below meth c s₁ B hml hv
  obtain ⟨rfl, hP, hK⟩ := hv
  have hl := lv_entry ([.long x0, .int x2]) (n := 8) (Nat.le_of_ble_eq_true rfl)
  rw [lg_entry_eq]
  generalize (lg_sl ([.long x0, .int x2]) ++ List.replicate (8 - (lg_sl ([.long x0, .int x2])).length) Slot.unset).toArray = ls at hl ⊢
  exact wX4_partOf ⟨B.exec, B.bytes, hml, findClass_of_methodNamed B.named, fun w h => atoms_spec (ws := wu_X4_partOf) B.pre w (List.mem_cons_of_mem _ h), B.returns, B.notSynchronized, hK, hD⟩ x0 x2 σ s.heap [] ls hl hP va_S.rf hE
def fX4_refuseLong  (x1 : Int32) (σ : ST) : Option (Int64 × ST) :=
  cali (fX4_refuse x1 σ) (fun r_2 σ_1 => some ((4000000000000000000 - (Int32.toInt64 r_2)), σ_1))
set_option maxHeartbeats 4000000 in
set_option maxRecDepth 100000 in
theorem wX4_refuseLong {p : Program} {l : Launch} {e : Env} {s : State} {m : MethodId} {args : Array Value} {below : List Frame} {meth : Method} {c : Code} {E : EN} (C : zC E xW p s m args meth c cX4_refuseLong 2 RX4 (some .long) wsL_law) {F : Int64 × ST}   (x1 : Int32) (σ : ST) (H : Heap) (locs : List Loc) (ls : Array Slot) (hl : lv_has ls 2 [(0, .ref (ea E 0)), (1, .int x1)]) (hP : va_P (eD E) vwCl (xW E σ) H) (hS : va_S (eA E) s.heap H locs) (hE : fX4_refuseLong  x1 σ = some F) : zWl E xW p l e r_X4_refuseLong s m args below meth c F H locs (F0 m 0 ls []) := by
  obtain ⟨hx, hb, hml, hown, hts, hr, hlk, hK, hD⟩ := id C
  unfold fX4_refuseLong at hE
  refine lv_ldc2 (v := 4000000000000000000) hx hb hown (hts _ u_651) dX4_refuseLong_0 ?_
  refine lv_aload_n hx hb dX4_refuseLong_3 rfl (lv_at hl 0 rfl) ?_
  refine lv_iload_n hx hb dX4_refuseLong_4 rfl (lv_at hl 1 rfl) ?_
  refine z_goi (wf := xW) hS hE (fun F1 h1 => (va_runV (As := [.int x1]) (rest := [.long 4000000000000000000]) ⟨hx, hb, hml, hown, hts⟩ (kX4_refuse l E hD x1 σ F1 h1) (cwV 1 hts (gU_V u_118 u_119 u_120 u_2 u_121) rfl rfl rfl q_X4_refuse ⟨Nat.le_of_ble_eq_true rfl, Nat.le_of_ble_eq_true rfl⟩) (z_preV hK hP hS (ci := 4) (q0 := 0) rfl rfl rfl) rfl rfl hl.1 rfl (lv_room (Nat.le_of_ble_eq_true rfl)) dX4_refuseLong_5 ⟨Nat.le_of_ble_eq_true rfl, Nat.le_of_ble_eq_true rfl⟩)) (fun r_2 σ_1 H locs hP hS hE => ?_)
  refine lv_i2l (v := (Int32.toInt64 r_2)) hx hb dX4_refuseLong_8 rfl ?_
  refine lv_lsub hx hb dX4_refuseLong_9 ?_
  exact z_lret hx hb hr hlk hP hS dX4_refuseLong_10 hE
theorem kX4_refuseLong (l : Launch) (E : EN) (hD : ∀ σ, va_D (eA E) (xW E σ)) (x1 : Int32) (σ : ST) (F : Int64 × ST) (hE : fX4_refuseLong x1 σ = some F) : Met l yX4_refuseLong wu_X4_refuseLong r_X4_refuseLong (zPc E xW [.ref (ea E 0), .int x1] σ) (zQl E xW F) 0 0 (eA E) := by
  refine Met.ofW (cc := cX4_refuseLong) (maxL := 2) (ret := (some .long)) (by decide) rfl ?_
  intro p e s m args below meth c s₁ B hml hv
  obtain ⟨rfl, hP, hK⟩ := hv
  have hl := lv_entry ([.ref (ea E 0), .int x1]) (n := 2) (Nat.le_of_ble_eq_true rfl)
  rw [lg_entry_eq]
  generalize (lg_sl ([.ref (ea E 0), .int x1]) ++ List.replicate (2 - (lg_sl ([.ref (ea E 0), .int x1])).length) Slot.unset).toArray = ls at hl ⊢
  exact wX4_refuseLong ⟨B.exec, B.bytes, hml, findClass_of_methodNamed B.named, fun w h => atoms_spec (ws := wu_X4_refuseLong) B.pre w (List.mem_cons_of_mem _ h), B.returns, B.notSynchronized, hK, hD⟩ x1 σ s.heap [] ls hl hP va_S.rf hE
def fX4_likely  (x1 : Int32) (σ : ST) : Option (Int64 × ST) :=
  cali (fX4_refusalOfPart x1 σ) (fun r_2 σ_1 => bnd (r_2 : Int32) (fun x2_3 => (if 0 ≤ x2_3 then calv (fX4_goByRow σ_1) (fun σ_4 => call (fX4_partOf (gL σ_4 0) x1 σ_4) (fun r_6 σ_5 => some (r_6, σ_5))) else call (fX4_refuseLong x2_3 σ_1) (fun r_8 σ_7 => some (r_8, σ_7)))))
set_option maxHeartbeats 4000000 in
set_option maxRecDepth 100000 in
theorem wX4_likely {p : Program} {l : Launch} {e : Env} {s : State} {m : MethodId} {args : Array Value} {below : List Frame} {meth : Method} {c : Code} {E : EN} (C : zC E xW p s m args meth c cX4_likely 3 RX4 (some .long) wsL_law) {F : Int64 × ST}   (x1 : Int32) (σ : ST) (H : Heap) (locs : List Loc) (ls : Array Slot) (hl : lv_has ls 3 [(0, .ref (ea E 0)), (1, .int x1)]) (hP : va_P (eD E) vwCl (xW E σ) H) (hS : va_S (eA E) s.heap H locs) (hE : fX4_likely  x1 σ = some F) : zWl E xW p l e r_X4_likely s m args below meth c F H locs (F0 m 0 ls []) := by
  obtain ⟨hx, hb, hml, hown, hts, hr, hlk, hK, hD⟩ := id C
  have hwX3 : ∀ w ∈ wsX30, w.before args s = true := fun w h => hts w (inlX3 w h)
  have hwX4 : ∀ w ∈ wsX40, w.before args s = true := fun w h => hts w (inlX4 w h)
  unfold fX4_likely at hE
  refine lv_aload_n hx hb dX4_likely_0 rfl (lv_at hl 0 rfl) ?_
  refine lv_iload_n hx hb dX4_likely_1 rfl (lv_at hl 1 rfl) ?_
  refine z_goi (wf := xW) hS hE (fun F1 h1 => (va_runV (As := [.int x1]) (rest := []) ⟨hx, hb, hml, hown, hts⟩ (kX4_refusalOfPart l E hD x1 σ F1 h1) (cwV 1 hts (gU_V u_643 u_644 u_645 u_2 u_646) rfl rfl rfl q_X4_refusalOfPart ⟨Nat.le_of_ble_eq_true rfl, Nat.le_of_ble_eq_true rfl⟩) (z_preV hK hP hS (ci := 4) (q0 := 0) rfl rfl rfl) rfl rfl hl.1 rfl (lv_room (Nat.le_of_ble_eq_true rfl)) dX4_likely_2 ⟨Nat.le_of_ble_eq_true rfl, Nat.le_of_ble_eq_true rfl⟩)) (fun r_2 σ_1 H locs hP hS hE => ?_)
  refine z_istore_n hx hb (fun x2_3 => [(2, .int x2_3), (0, .ref (ea E 0)), (1, .int x1)]) dX4_likely_5 rfl hl (by decide) rfl hE (fun x2_3 ls hl hE => ?_)
  refine lv_iload_n hx hb dX4_likely_6 rfl (lv_at hl 0 rfl) ?_
  refine z_if_ge (tgt := 16) hx hb dX4_likely_7 (by decide) hE (fun hE => ?_) (fun hE => ?_)
  · refine lv_aload_n hx hb dX4_likely_16 rfl (lv_at hl 1 rfl) ?_
    refine z_gov (wf := xW) hS hE (fun F1 h1 => (va_runV (As := []) (rest := []) ⟨hx, hb, hml, hown, hts⟩ (kX4_goByRow l E hD  σ_1 F1 h1) (cwV 0 hts (gU_V u_521 u_522 u_523 u_2 u_524) rfl rfl rfl q_X4_goByRow ⟨Nat.le_of_ble_eq_true rfl, Nat.le_of_ble_eq_true rfl⟩) (z_preV hK hP hS (ci := 4) (q0 := 0) rfl rfl rfl) rfl rfl hl.1 rfl (lv_room (Nat.le_of_ble_eq_true rfl)) dX4_likely_17 ⟨Nat.le_of_ble_eq_true rfl, Nat.le_of_ble_eq_true rfl⟩)) (fun σ_4 H locs hP hS hE => ?_)
    refine lv_aload_n hx hb dX4_likely_20 rfl (lv_at hl 1 rfl) ?_
    refine xg_0_0 hx hb hown hwX4 (hts _ u_15) hK hP dX4_likely_21 ?_
    refine xg_1_13 hx hb hown hwX3 (hts _ u_642) hK hP dX4_likely_24 ?_
    refine lv_iload_n hx hb dX4_likely_27 rfl (lv_at hl 2 rfl) ?_
    refine z_gol (wf := xW) hS hE (fun F1 h1 => (va_runS (As := [.long (gL σ_4 0), .int x1]) (rest := []) ⟨hx, hb, hml, hown, hts⟩ (kX4_partOf l E hD (gL σ_4 0) x1 σ_4 F1 h1) (va_cwS 2 hts (gU_S u_652 u_653 u_2 u_654) rfl rfl rfl q_X4_partOf ⟨Nat.le_of_ble_eq_true rfl, Nat.le_of_ble_eq_true rfl⟩) (z_preS hK hP hS) rfl rfl hl.1 rfl (lv_room (Nat.le_of_ble_eq_true rfl)) dX4_likely_28 ⟨Nat.le_of_ble_eq_true rfl, Nat.le_of_ble_eq_true rfl⟩)) (fun r_6 σ_5 H locs hP hS hE => ?_)
    exact z_lret hx hb hr hlk hP hS dX4_likely_31 hE
  refine lv_aload_n hx hb dX4_likely_10 rfl (lv_at hl 1 rfl) ?_
  refine lv_iload_n hx hb dX4_likely_11 rfl (lv_at hl 0 rfl) ?_
  refine z_gol (wf := xW) hS hE (fun F1 h1 => (va_runV (As := [.int x2_3]) (rest := []) ⟨hx, hb, hml, hown, hts⟩ (kX4_refuseLong l E hD x2_3 σ_1 F1 h1) (cwV 1 hts (gU_V u_647 u_648 u_649 u_2 u_650) rfl rfl rfl q_X4_refuseLong ⟨Nat.le_of_ble_eq_true rfl, Nat.le_of_ble_eq_true rfl⟩) (z_preV hK hP hS (ci := 4) (q0 := 0) rfl rfl rfl) rfl rfl hl.1 rfl (lv_room (Nat.le_of_ble_eq_true rfl)) dX4_likely_12 ⟨Nat.le_of_ble_eq_true rfl, Nat.le_of_ble_eq_true rfl⟩)) (fun r_8 σ_7 H locs hP hS hE => ?_)
  exact z_lret hx hb hr hlk hP hS dX4_likely_15 hE
theorem kX4_likely (l : Launch) (E : EN) (hD : ∀ σ, va_D (eA E) (xW E σ)) (x1 : Int32) (σ : ST) (F : Int64 × ST) (hE : fX4_likely x1 σ = some F) : Met l yX4_likely wu_X4_likely r_X4_likely (zPc E xW [.ref (ea E 0), .int x1] σ) (zQl E xW F) 0 0 (eA E) := by
  refine Met.ofW (cc := cX4_likely) (maxL := 3) (ret := (some .long)) (by decide) rfl ?_
  intro p e s m args below meth c s₁ B hml hv
  obtain ⟨rfl, hP, hK⟩ := hv
  have hl := lv_entry ([.ref (ea E 0), .int x1]) (n := 3) (Nat.le_of_ble_eq_true rfl)
  rw [lg_entry_eq]
  generalize (lg_sl ([.ref (ea E 0), .int x1]) ++ List.replicate (3 - (lg_sl ([.ref (ea E 0), .int x1])).length) Slot.unset).toArray = ls at hl ⊢
  exact wX4_likely ⟨B.exec, B.bytes, hml, findClass_of_methodNamed B.named, fun w h => atoms_spec (ws := wu_X4_likely) B.pre w (List.mem_cons_of_mem _ h), B.returns, B.notSynchronized, hK, hD⟩ x1 σ s.heap [] ls hl hP va_S.rf hE
