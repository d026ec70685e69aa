def fX5_statement_J217   (σ : ST) : Option (ST) :=
  (if (gI σ 3) = 0 then bnd (sI σ 3 0) (fun σ_13 => some σ_13) else (if (gI σ 1) ≤ (gI σ 2) then bnd (sI σ 3 0) (fun σ_14 => some σ_14) else ald (gA σ 3) 96 (gI σ 2) (fun v_15 => (if v_15 = 59 then bnd (sI σ 2 ((gI σ 2) + 1)) (fun σ_17 => some σ_17) else bnd (sI σ 3 0) (fun σ_16 => some σ_16)))))
set_option maxHeartbeats 4000000 in
set_option maxRecDepth 100000 in
theorem wX5_statement_J217 {p : Program} {l : Launch} {e : Env} {s : State} {m : MethodId} {args : Array Value} {below : List Frame} {meth : Method} {c : Code} {E : EN} (C : zC E mW p s m args meth c cX5_statement 1 RX5 none wsL_law) {F : ST}    (σ : ST) (H : Heap) (locs : List Loc) (ls : Array Slot) (hl : lv_has ls 1 [(0, .ref (ea E 0))]) (hP : va_P (eD E) vwCl (mW E σ) H) (hS : va_S (eA E) s.heap H locs) (hE : fX5_statement_J217   σ = some F) : zWv E mW p l e r_X5_statement s m args below meth c F H locs (F0 m 217 ls []) := by
  obtain ⟨hx, hb, hml, hown, hts, hr, hlk, hK, hD⟩ := id C
  have hwX5 : ∀ w ∈ wsX50, w.before args s = true := fun w h => hts w (inlX5 w h)
  unfold fX5_statement_J217 at hE
  refine lv_aload_n hx hb dX5_statement_217 rfl (lv_at hl 0 rfl) ?_
  refine mg_0_7 hx hb hown hwX5 (hts _ u_351) hK hP dX5_statement_218 ?_
  refine z_if_eq (tgt := 262) hx hb dX5_statement_221 (by decide) hE (fun hE => ?_) (fun hE => ?_)
  · refine lv_aload_n hx hb dX5_statement_262 rfl (lv_at hl 0 rfl) ?_
    refine lv_iconst (v := 0) hx hb dX5_statement_263 (by decide) ?_
    refine mp_0_7 hx hb hown hwX5 (hts _ u_351) hK hD hP hS rfl dX5_statement_264 hE (fun σ_13 H locs hP hS hE => ?_)
    exact z_vret hx hb hr hlk hP hS dX5_statement_267 hE
  refine lv_aload_n hx hb dX5_statement_224 rfl (lv_at hl 0 rfl) ?_
  refine mg_0_6 hx hb hown hwX5 (hts _ u_350) hK hP dX5_statement_225 ?_
  refine lv_aload_n hx hb dX5_statement_228 rfl (lv_at hl 0 rfl) ?_
  refine mg_0_5 hx hb hown hwX5 (hts _ u_130) hK hP dX5_statement_229 ?_
  refine z_icmp_ge (tgt := 262) hx hb dX5_statement_232 (by decide) hE (fun hE => ?_) (fun hE => ?_)
  · refine lv_aload_n hx hb dX5_statement_262 rfl (lv_at hl 0 rfl) ?_
    refine lv_iconst (v := 0) hx hb dX5_statement_263 (by decide) ?_
    refine mp_0_7 hx hb hown hwX5 (hts _ u_351) hK hD hP hS rfl dX5_statement_264 hE (fun σ_14 H locs hP hS hE => ?_)
    exact z_vret hx hb hr hlk hP hS dX5_statement_267 hE
  refine lv_aload_n hx hb dX5_statement_235 rfl (lv_at hl 0 rfl) ?_
  refine mg_0_4 hx hb hown hwX5 (hts _ u_99) hK hP dX5_statement_236 ?_
  refine lv_aload_n hx hb dX5_statement_239 rfl (lv_at hl 0 rfl) ?_
  refine mg_0_6 hx hb hown hwX5 (hts _ u_350) hK hP dX5_statement_240 ?_
  refine ma_4 hx hb hK hP dX5_statement_243 hE (fun v_15 hE => ?_)
  refine lv_bipush (v := 59) hx hb dX5_statement_244 (by decide) ?_
  refine z_icmp_ne (tgt := 262) hx hb dX5_statement_246 (by decide) hE (fun hE => ?_) (fun hE => ?_)
  · refine lv_aload_n hx hb dX5_statement_262 rfl (lv_at hl 0 rfl) ?_
    refine lv_iconst (v := 0) hx hb dX5_statement_263 (by decide) ?_
    refine mp_0_7 hx hb hown hwX5 (hts _ u_351) hK hD hP hS rfl dX5_statement_264 hE (fun σ_16 H locs hP hS hE => ?_)
    exact z_vret hx hb hr hlk hP hS dX5_statement_267 hE
  refine lv_aload_n hx hb dX5_statement_249 rfl (lv_at hl 0 rfl) ?_
  refine lv_dup hx hb dX5_statement_250 rfl ?_
  refine mg_0_6 hx hb hown hwX5 (hts _ u_350) hK hP dX5_statement_251 ?_
  refine lv_iconst (v := 1) hx hb dX5_statement_254 (by decide) ?_
  refine lv_iadd hx hb dX5_statement_255 ?_
  refine mp_0_6 hx hb hown hwX5 (hts _ u_350) hK hD hP hS dX5_statement_256 hE (fun σ_17 H locs hP hS hE => ?_)
  refine lv_goto (tgt := 267) hx hb dX5_statement_259 (by decide) ?_
  exact z_vret hx hb hr hlk hP hS dX5_statement_267 hE
def fX5_statement   (σ : ST) : Option (ST) :=
  cali (fX5_oneOf_5 σ) (fun r_2 σ_1 => bnd (sI σ_1 4 r_2) (fun σ_3 => (if (gI σ_3 4) = 0 then cali (fX5_oneOf_6 σ_3) (fun r_5 σ_4 => ast σ_4 6 4 0 r_5 (fun σ_6 => cali (fX5_figures 1 σ_6) (fun r_8 σ_7 => ast σ_7 6 4 1 r_8 (fun σ_9 => cali (fX5_figures 1 σ_9) (fun r_11 σ_10 => ast σ_10 6 4 2 r_11 (fun σ_12 => fX5_statement_J217   σ_12)))))) else (if (gI σ_3 4) = 1 then cali (fX5_figures 1 σ_3) (fun r_19 σ_18 => ast σ_18 6 4 0 r_19 (fun σ_20 => cali (fX5_figures 1 σ_20) (fun r_22 σ_21 => ast σ_21 6 4 1 r_22 (fun σ_23 => cali (fX5_figures 2 σ_23) (fun r_25 σ_24 => ast σ_24 6 4 2 r_25 (fun σ_26 => cali (fX5_figures 1 σ_26) (fun r_28 σ_27 => ast σ_27 6 4 3 r_28 (fun σ_29 => fX5_statement_J217   σ_29)))))))) else (if (gI σ_3 4) = 2 then cali (fX5_figures 1 σ_3) (fun r_31 σ_30 => ast σ_30 6 4 0 r_31 (fun σ_32 => cali (fX5_figures 2 σ_32) (fun r_34 σ_33 => ast σ_33 6 4 1 r_34 (fun σ_35 => cali (fX5_figures 2 σ_35) (fun r_37 σ_36 => ast σ_36 6 4 2 r_37 (fun σ_38 => cali (fX5_figures 3 σ_38) (fun r_40 σ_39 => ast σ_39 6 4 3 r_40 (fun σ_41 => fX5_statement_J217   σ_41)))))))) else (if (gI σ_3 4) = 3 then cali (fX5_figures 1 σ_3) (fun r_43 σ_42 => ast σ_42 6 4 0 r_43 (fun σ_44 => cali (fX5_figures 2 σ_44) (fun r_46 σ_45 => ast σ_45 6 4 1 r_46 (fun σ_47 => fX5_statement_J217   σ_47)))) else cali (fX5_figures 1 σ_3) (fun r_49 σ_48 => ast σ_48 6 4 0 r_49 (fun σ_50 => fX5_statement_J217   σ_50))))))))
set_option maxHeartbeats 4000000 in
set_option maxRecDepth 100000 in
theorem wX5_statement {p : Program} {l : Launch} {e : Env} {s : State} {m : MethodId} {args : Array Value} {below : List Frame} {meth : Method} {c : Code} {E : EN} (C : zC E mW p s m args meth c cX5_statement 1 RX5 none wsL_law) {F : ST}    (σ : ST) (H : Heap) (locs : List Loc) (ls : Array Slot) (hl : lv_has ls 1 [(0, .ref (ea E 0))]) (hP : va_P (eD E) vwCl (mW E σ) H) (hS : va_S (eA E) s.heap H locs) (hE : fX5_statement   σ = some F) : zWv E mW p l e r_X5_statement s m args below meth c F H locs (F0 m 0 ls []) := by
  obtain ⟨hx, hb, hml, hown, hts, hr, hlk, hK, hD⟩ := id C
  have hwX5 : ∀ w ∈ wsX50, w.before args s = true := fun w h => hts w (inlX5 w h)
  unfold fX5_statement at hE
  refine lv_aload_n hx hb dX5_statement_0 rfl (lv_at hl 0 rfl) ?_
  refine lv_aload_n hx hb dX5_statement_1 rfl (lv_at hl 0 rfl) ?_
  refine lv_aload_n hx hb dX5_statement_2 rfl (lv_at hl 0 rfl) ?_
  refine mg_0_8 hx hb hown hwX5 (hts _ u_101) hK hP dX5_statement_3 ?_
  refine z_goi (wf := mW) hS hE (fun F1 h1 => (va_runV (As := [.ref (ea E 5)]) (rest := [.ref (ea E 0)]) ⟨hx, hb, hml, hown, hts⟩ (kX5_oneOf_5 l E hD  σ F1 h1) (cwV 1 hts (gU_V u_357 u_358 u_359 u_5 u_360) rfl rfl rfl q_X5_oneOf ⟨Nat.le_of_ble_eq_true rfl, Nat.le_of_ble_eq_true rfl⟩) (z_preV hK hP hS (ci := 5) (q0 := 0) rfl rfl rfl) rfl rfl hl.1 rfl (lv_room (Nat.le_of_ble_eq_true rfl)) dX5_statement_6 ⟨Nat.le_of_ble_eq_true rfl, Nat.le_of_ble_eq_true rfl⟩)) (fun r_2 σ_1 H locs hP hS hE => ?_)
  refine mp_0_10 hx hb hown hwX5 (hts _ u_356) hK hD hP hS dX5_statement_9 hE (fun σ_3 H locs hP hS hE => ?_)
  refine lv_aload_n hx hb dX5_statement_12 rfl (lv_at hl 0 rfl) ?_
  refine mg_0_10 hx hb hown hwX5 (hts _ u_356) hK hP dX5_statement_13 ?_
  by_cases q0 : (gI σ_3 4) = 0
  · have hE := (if_pos q0).symm.trans hE
    refine z_tabIn (tgt := 48) hx hb q0 dX5_statement_16 (by decide) (by decide) rfl (by decide) ?_
    refine lv_aload_n hx hb dX5_statement_48 rfl (lv_at hl 0 rfl) ?_
    refine mg_0_11 hx hb hown hwX5 (hts _ u_103) hK hP dX5_statement_49 ?_
    refine lv_iconst (v := 0) hx hb dX5_statement_52 (by decide) ?_
    refine lv_aload_n hx hb dX5_statement_53 rfl (lv_at hl 0 rfl) ?_
    refine lv_aload_n hx hb dX5_statement_54 rfl (lv_at hl 0 rfl) ?_
    refine mg_0_9 hx hb hown hwX5 (hts _ u_102) hK hP dX5_statement_55 ?_
    refine z_goi (wf := mW) hS hE (fun F1 h1 => (va_runV (As := [.ref (ea E 6)]) (rest := [.int 0, .ref (ea E 7)]) ⟨hx, hb, hml, hown, hts⟩ (kX5_oneOf_6 l E hD  σ_3 F1 h1) (cwV 1 hts (gU_V u_357 u_358 u_359 u_5 u_360) rfl rfl rfl q_X5_oneOf ⟨Nat.le_of_ble_eq_true rfl, Nat.le_of_ble_eq_true rfl⟩) (z_preV hK hP hS (ci := 5) (q0 := 0) rfl rfl rfl) rfl rfl hl.1 rfl (lv_room (Nat.le_of_ble_eq_true rfl)) dX5_statement_58 ⟨Nat.le_of_ble_eq_true rfl, Nat.le_of_ble_eq_true rfl⟩)) (fun r_5 σ_4 H locs hP hS hE => ?_)
    refine ms_7 hx hb hK hD hP hS dX5_statement_61 hE (fun σ_6 H locs hP hS hE => ?_)
    refine lv_aload_n hx hb dX5_statement_62 rfl (lv_at hl 0 rfl) ?_
    refine mg_0_11 hx hb hown hwX5 (hts _ u_103) hK hP dX5_statement_63 ?_
    refine lv_iconst (v := 1) hx hb dX5_statement_66 (by decide) ?_
    refine lv_aload_n hx hb dX5_statement_67 rfl (lv_at hl 0 rfl) ?_
    refine lv_iconst (v := 1) hx hb dX5_statement_68 (by decide) ?_
    refine z_goi (wf := mW) hS hE (fun F1 h1 => (va_runV (As := [.int 1]) (rest := [.int 1, .ref (ea E 7)]) ⟨hx, hb, hml, hown, hts⟩ (kX5_figures l E hD 1 σ_6 F1 h1) (cwV 1 hts (gU_V u_361 u_362 u_363 u_5 u_364) rfl rfl rfl q_X5_figures ⟨Nat.le_of_ble_eq_true rfl, Nat.le_of_ble_eq_true rfl⟩) (z_preV hK hP hS (ci := 5) (q0 := 0) rfl rfl rfl) rfl rfl hl.1 rfl (lv_room (Nat.le_of_ble_eq_true rfl)) dX5_statement_69 ⟨Nat.le_of_ble_eq_true rfl, Nat.le_of_ble_eq_true rfl⟩)) (fun r_8 σ_7 H locs hP hS hE => ?_)
    refine ms_7 hx hb hK hD hP hS dX5_statement_72 hE (fun σ_9 H locs hP hS hE => ?_)
    refine lv_aload_n hx hb dX5_statement_73 rfl (lv_at hl 0 rfl) ?_
    refine mg_0_11 hx hb hown hwX5 (hts _ u_103) hK hP dX5_statement_74 ?_
    refine lv_iconst (v := 2) hx hb dX5_statement_77 (by decide) ?_
    refine lv_aload_n hx hb dX5_statement_78 rfl (lv_at hl 0 rfl) ?_
    refine lv_iconst (v := 1) hx hb dX5_statement_79 (by decide) ?_
    refine z_goi (wf := mW) hS hE (fun F1 h1 => (va_runV (As := [.int 1]) (rest := [.int 2, .ref (ea E 7)]) ⟨hx, hb, hml, hown, hts⟩ (kX5_figures l E hD 1 σ_9 F1 h1) (cwV 1 hts (gU_V u_361 u_362 u_363 u_5 u_364) rfl rfl rfl q_X5_figures ⟨Nat.le_of_ble_eq_true rfl, Nat.le_of_ble_eq_true rfl⟩) (z_preV hK hP hS (ci := 5) (q0 := 0) rfl rfl rfl) rfl rfl hl.1 rfl (lv_room (Nat.le_of_ble_eq_true rfl)) dX5_statement_80 ⟨Nat.le_of_ble_eq_true rfl, Nat.le_of_ble_eq_true rfl⟩)) (fun r_11 σ_10 H locs hP hS hE => ?_)
    refine ms_7 hx hb hK hD hP hS dX5_statement_83 hE (fun σ_12 H locs hP hS hE => ?_)
    refine lv_goto (tgt := 217) hx hb dX5_statement_84 (by decide) ?_
    exact wX5_statement_J217 C   σ_12 _ _ _ (lv_sub hl [0] rfl) hP hS hE
  replace hE := (if_neg q0).symm.trans hE
  by_cases q1 : (gI σ_3 4) = 1
  · have hE := (if_pos q1).symm.trans hE
    refine z_tabIn (tgt := 87) hx hb q1 dX5_statement_16 (by decide) (by decide) rfl (by decide) ?_
    refine lv_aload_n hx hb dX5_statement_87 rfl (lv_at hl 0 rfl) ?_
    refine mg_0_11 hx hb hown hwX5 (hts _ u_103) hK hP dX5_statement_88 ?_
    refine lv_iconst (v := 0) hx hb dX5_statement_91 (by decide) ?_
    refine lv_aload_n hx hb dX5_statement_92 rfl (lv_at hl 0 rfl) ?_
    refine lv_iconst (v := 1) hx hb dX5_statement_93 (by decide) ?_
    refine z_goi (wf := mW) hS hE (fun F1 h1 => (va_runV (As := [.int 1]) (rest := [.int 0, .ref (ea E 7)]) ⟨hx, hb, hml, hown, hts⟩ (kX5_figures l E hD 1 σ_3 F1 h1) (cwV 1 hts (gU_V u_361 u_362 u_363 u_5 u_364) rfl rfl rfl q_X5_figures ⟨Nat.le_of_ble_eq_true rfl, Nat.le_of_ble_eq_true rfl⟩) (z_preV hK hP hS (ci := 5) (q0 := 0) rfl rfl rfl) rfl rfl hl.1 rfl (lv_room (Nat.le_of_ble_eq_true rfl)) dX5_statement_94 ⟨Nat.le_of_ble_eq_true rfl, Nat.le_of_ble_eq_true rfl⟩)) (fun r_19 σ_18 H locs hP hS hE => ?_)
    refine ms_7 hx hb hK hD hP hS dX5_statement_97 hE (fun σ_20 H locs hP hS hE => ?_)
    refine lv_aload_n hx hb dX5_statement_98 rfl (lv_at hl 0 rfl) ?_
    refine mg_0_11 hx hb hown hwX5 (hts _ u_103) hK hP dX5_statement_99 ?_
    refine lv_iconst (v := 1) hx hb dX5_statement_102 (by decide) ?_
    refine lv_aload_n hx hb dX5_statement_103 rfl (lv_at hl 0 rfl) ?_
    refine lv_iconst (v := 1) hx hb dX5_statement_104 (by decide) ?_
    refine z_goi (wf := mW) hS hE (fun F1 h1 => (va_runV (As := [.int 1]) (rest := [.int 1, .ref (ea E 7)]) ⟨hx, hb, hml, hown, hts⟩ (kX5_figures l E hD 1 σ_20 F1 h1) (cwV 1 hts (gU_V u_361 u_362 u_363 u_5 u_364) rfl rfl rfl q_X5_figures ⟨Nat.le_of_ble_eq_true rfl, Nat.le_of_ble_eq_true rfl⟩) (z_preV hK hP hS (ci := 5) (q0 := 0) rfl rfl rfl) rfl rfl hl.1 rfl (lv_room (Nat.le_of_ble_eq_true rfl)) dX5_statement_105 ⟨Nat.le_of_ble_eq_true rfl, Nat.le_of_ble_eq_true rfl⟩)) (fun r_22 σ_21 H locs hP hS hE => ?_)
    refine ms_7 hx hb hK hD hP hS dX5_statement_108 hE (fun σ_23 H locs hP hS hE => ?_)
    refine lv_aload_n hx hb dX5_statement_109 rfl (lv_at hl 0 rfl) ?_
    refine mg_0_11 hx hb hown hwX5 (hts _ u_103) hK hP dX5_statement_110 ?_
    refine lv_iconst (v := 2) hx hb dX5_statement_113 (by decide) ?_
    refine lv_aload_n hx hb dX5_statement_114 rfl (lv_at hl 0 rfl) ?_
    refine lv_iconst (v := 2) hx hb dX5_statement_115 (by decide) ?_
    refine z_goi (wf := mW) hS hE (fun F1 h1 => (va_runV (As := [.int 2]) (rest := [.int 2, .ref (ea E 7)]) ⟨hx, hb, hml, hown, hts⟩ (kX5_figures l E hD 2 σ_23 F1 h1) (cwV 1 hts (gU_V u_361 u_362 u_363 u_5 u_364) rfl rfl rfl q_X5_figures ⟨Nat.le_of_ble_eq_true rfl, Nat.le_of_ble_eq_true rfl⟩) (z_preV hK hP hS (ci := 5) (q0 := 0) rfl rfl rfl) rfl rfl hl.1 rfl (lv_room (Nat.le_of_ble_eq_true rfl)) dX5_statement_116 ⟨Nat.le_of_ble_eq_true rfl, Nat.le_of_ble_eq_true rfl⟩)) (fun r_25 σ_24 H locs hP hS hE => ?_)
    refine ms_7 hx hb hK hD hP hS dX5_statement_119 hE (fun σ_26 H locs hP hS hE => ?_)
    refine lv_aload_n hx hb dX5_statement_120 rfl (lv_at hl 0 rfl) ?_
    refine mg_0_11 hx hb hown hwX5 (hts _ u_103) hK hP dX5_statement_121 ?_
    refine lv_iconst (v := 3) hx hb dX5_statement_124 (by decide) ?_
    refine lv_aload_n hx hb dX5_statement_125 rfl (lv_at hl 0 rfl) ?_
    refine lv_iconst (v := 1) hx hb dX5_statement_126 (by decide) ?_
    refine z_goi (wf := mW) hS hE (fun F1 h1 => (va_runV (As := [.int 1]) (rest := [.int 3, .ref (ea E 7)]) ⟨hx, hb, hml, hown, hts⟩ (kX5_figures l E hD 1 σ_26 F1 h1) (cwV 1 hts (gU_V u_361 u_362 u_363 u_5 u_364) rfl rfl rfl q_X5_figures ⟨Nat.le_of_ble_eq_true rfl, Nat.le_of_ble_eq_true rfl⟩) (z_preV hK hP hS (ci := 5) (q0 := 0) rfl rfl rfl) rfl rfl hl.1 rfl (lv_room (Nat.le_of_ble_eq_true rfl)) dX5_statement_127 ⟨Nat.le_of_ble_eq_true rfl, Nat.le_of_ble_eq_true rfl⟩)) (fun r_28 σ_27 H locs hP hS hE => ?_)
    refine ms_7 hx hb hK hD hP hS dX5_statement_130 hE (fun σ_29 H locs hP hS hE => ?_)
    refine lv_goto (tgt := 217) hx hb dX5_statement_131 (by decide) ?_
    exact wX5_statement_J217 C   σ_29 _ _ _ (lv_sub hl [0] rfl) hP hS hE
  replace hE := (if_neg q1).symm.trans hE
  by_cases q2 : (gI σ_3 4) = 2
  · have hE := (if_pos q2).symm.trans hE
    refine z_tabIn (tgt := 134) hx hb q2 dX5_statement_16 (by decide) (by decide) rfl (by decide) ?_
    refine lv_aload_n hx hb dX5_statement_134 rfl (lv_at hl 0 rfl) ?_
    refine mg_0_11 hx hb hown hwX5 (hts _ u_103) hK hP dX5_statement_135 ?_
    refine lv_iconst (v := 0) hx hb dX5_statement_138 (by decide) ?_
    refine lv_aload_n hx hb dX5_statement_139 rfl (lv_at hl 0 rfl) ?_
    refine lv_iconst (v := 1) hx hb dX5_statement_140 (by decide) ?_
    refine z_goi (wf := mW) hS hE (fun F1 h1 => (va_runV (As := [.int 1]) (rest := [.int 0, .ref (ea E 7)]) ⟨hx, hb, hml, hown, hts⟩ (kX5_figures l E hD 1 σ_3 F1 h1) (cwV 1 hts (gU_V u_361 u_362 u_363 u_5 u_364) rfl rfl rfl q_X5_figures ⟨Nat.le_of_ble_eq_true rfl, Nat.le_of_ble_eq_true rfl⟩) (z_preV hK hP hS (ci := 5) (q0 := 0) rfl rfl rfl) rfl rfl hl.1 rfl (lv_room (Nat.le_of_ble_eq_true rfl)) dX5_statement_141 ⟨Nat.le_of_ble_eq_true rfl, Nat.le_of_ble_eq_true rfl⟩)) (fun r_31 σ_30 H locs hP hS hE => ?_)
    refine ms_7 hx hb hK hD hP hS dX5_statement_144 hE (fun σ_32 H locs hP hS hE => ?_)
    refine lv_aload_n hx hb dX5_statement_145 rfl (lv_at hl 0 rfl) ?_
    refine mg_0_11 hx hb hown hwX5 (hts _ u_103) hK hP dX5_statement_146 ?_
    refine lv_iconst (v := 1) hx hb dX5_statement_149 (by decide) ?_
    refine lv_aload_n hx hb dX5_statement_150 rfl (lv_at hl 0 rfl) ?_
    refine lv_iconst (v := 2) hx hb dX5_statement_151 (by decide) ?_
    refine z_goi (wf := mW) hS hE (fun F1 h1 => (va_runV (As := [.int 2]) (rest := [.int 1, .ref (ea E 7)]) ⟨hx, hb, hml, hown, hts⟩ (kX5_figures l E hD 2 σ_32 F1 h1) (cwV 1 hts (gU_V u_361 u_362 u_363 u_5 u_364) rfl rfl rfl q_X5_figures ⟨Nat.le_of_ble_eq_true rfl, Nat.le_of_ble_eq_true rfl⟩) (z_preV hK hP hS (ci := 5) (q0 := 0) rfl rfl rfl) rfl rfl hl.1 rfl (lv_room (Nat.le_of_ble_eq_true rfl)) dX5_statement_152 ⟨Nat.le_of_ble_eq_true rfl, Nat.le_of_ble_eq_true rfl⟩)) (fun r_34 σ_33 H locs hP hS hE => ?_)
    refine ms_7 hx hb hK hD hP hS dX5_statement_155 hE (fun σ_35 H locs hP hS hE => ?_)
    refine lv_aload_n hx hb dX5_statement_156 rfl (lv_at hl 0 rfl) ?_
    refine mg_0_11 hx hb hown hwX5 (hts _ u_103) hK hP dX5_statement_157 ?_
    refine lv_iconst (v := 2) hx hb dX5_statement_160 (by decide) ?_
    refine lv_aload_n hx hb dX5_statement_161 rfl (lv_at hl 0 rfl) ?_
    refine lv_iconst (v := 2) hx hb dX5_statement_162 (by decide) ?_
    refine z_goi (wf := mW) hS hE (fun F1 h1 => (va_runV (As := [.int 2]) (rest := [.int 2, .ref (ea E 7)]) ⟨hx, hb, hml, hown, hts⟩ (kX5_figures l E hD 2 σ_35 F1 h1) (cwV 1 hts (gU_V u_361 u_362 u_363 u_5 u_364) rfl rfl rfl q_X5_figures ⟨Nat.le_of_ble_eq_true rfl, Nat.le_of_ble_eq_true rfl⟩) (z_preV hK hP hS (ci := 5) (q0 := 0) rfl rfl rfl) rfl rfl hl.1 rfl (lv_room (Nat.le_of_ble_eq_true rfl)) dX5_statement_163 ⟨Nat.le_of_ble_eq_true rfl, Nat.le_of_ble_eq_true rfl⟩)) (fun r_37 σ_36 H locs hP hS hE => ?_)
    refine ms_7 hx hb hK hD hP hS dX5_statement_166 hE (fun σ_38 H locs hP hS hE => ?_)
    refine lv_aload_n hx hb dX5_statement_167 rfl (lv_at hl 0 rfl) ?_
    refine mg_0_11 hx hb hown hwX5 (hts _ u_103) hK hP dX5_statement_168 ?_
    refine lv_iconst (v := 3) hx hb dX5_statement_171 (by decide) ?_
    refine lv_aload_n hx hb dX5_statement_172 rfl (lv_at hl 0 rfl) ?_
    refine lv_iconst (v := 3) hx hb dX5_statement_173 (by decide) ?_
    refine z_goi (wf := mW) hS hE (fun F1 h1 => (va_runV (As := [.int 3]) (rest := [.int 3, .ref (ea E 7)]) ⟨hx, hb, hml, hown, hts⟩ (kX5_figures l E hD 3 σ_38 F1 h1) (cwV 1 hts (gU_V u_361 u_362 u_363 u_5 u_364) rfl rfl rfl q_X5_figures ⟨Nat.le_of_ble_eq_true rfl, Nat.le_of_ble_eq_true rfl⟩) (z_preV hK hP hS (ci := 5) (q0 := 0) rfl rfl rfl) rfl rfl hl.1 rfl (lv_room (Nat.le_of_ble_eq_true rfl)) dX5_statement_174 ⟨Nat.le_of_ble_eq_true rfl, Nat.le_of_ble_eq_true rfl⟩)) (fun r_40 σ_39 H locs hP hS hE => ?_)
    refine ms_7 hx hb hK hD hP hS dX5_statement_177 hE (fun σ_41 H locs hP hS hE => ?_)
    refine lv_goto (tgt := 217) hx hb dX5_statement_178 (by decide) ?_
    exact wX5_statement_J217 C   σ_41 _ _ _ (lv_sub hl [0] rfl) hP hS hE
  replace hE := (if_neg q2).symm.trans hE
  by_cases q3 : (gI σ_3 4) = 3
  · have hE := (if_pos q3).symm.trans hE
    refine z_tabIn (tgt := 181) hx hb q3 dX5_statement_16 (by decide) (by decide) rfl (by decide) ?_
    refine lv_aload_n hx hb dX5_statement_181 rfl (lv_at hl 0 rfl) ?_
    refine mg_0_11 hx hb hown hwX5 (hts _ u_103) hK hP dX5_statement_182 ?_
    refine lv_iconst (v := 0) hx hb dX5_statement_185 (by decide) ?_
    refine lv_aload_n hx hb dX5_statement_186 rfl (lv_at hl 0 rfl) ?_
    refine lv_iconst (v := 1) hx hb dX5_statement_187 (by decide) ?_
    refine z_goi (wf := mW) hS hE (fun F1 h1 => (va_runV (As := [.int 1]) (rest := [.int 0, .ref (ea E 7)]) ⟨hx, hb, hml, hown, hts⟩ (kX5_figures l E hD 1 σ_3 F1 h1) (cwV 1 hts (gU_V u_361 u_362 u_363 u_5 u_364) rfl rfl rfl q_X5_figures ⟨Nat.le_of_ble_eq_true rfl, Nat.le_of_ble_eq_true rfl⟩) (z_preV hK hP hS (ci := 5) (q0 := 0) rfl rfl rfl) rfl rfl hl.1 rfl (lv_room (Nat.le_of_ble_eq_true rfl)) dX5_statement_188 ⟨Nat.le_of_ble_eq_true rfl, Nat.le_of_ble_eq_true rfl⟩)) (fun r_43 σ_42 H locs hP hS hE => ?_)
    refine ms_7 hx hb hK hD hP hS dX5_statement_191 hE (fun σ_44 H locs hP hS hE => ?_)
    refine lv_aload_n hx hb dX5_statement_192 rfl (lv_at hl 0 rfl) ?_
    refine mg_0_11 hx hb hown hwX5 (hts _ u_103) hK hP dX5_statement_193 ?_
    refine lv_iconst (v := 1) hx hb dX5_statement_196 (by decide) ?_
    refine lv_aload_n hx hb dX5_statement_197 rfl (lv_at hl 0 rfl) ?_
    refine lv_iconst (v := 2) hx hb dX5_statement_198 (by decide) ?_
    refine z_goi (wf := mW) hS hE (fun F1 h1 => (va_runV (As := [.int 2]) (rest := [.int 1, .ref (ea E 7)]) ⟨hx, hb, hml, hown, hts⟩ (kX5_figures l E hD 2 σ_44 F1 h1) (cwV 1 hts (gU_V u_361 u_362 u_363 u_5 u_364) rfl rfl rfl q_X5_figures ⟨Nat.le_of_ble_eq_true rfl, Nat.le_of_ble_eq_true rfl⟩) (z_preV hK hP hS (ci := 5) (q0 := 0) rfl rfl rfl) rfl rfl hl.1 rfl (lv_room (Nat.le_of_ble_eq_true rfl)) dX5_statement_199 ⟨Nat.le_of_ble_eq_true rfl, Nat.le_of_ble_eq_true rfl⟩)) (fun r_46 σ_45 H locs hP hS hE => ?_)
    refine ms_7 hx hb hK hD hP hS dX5_statement_202 hE (fun σ_47 H locs hP hS hE => ?_)
    refine lv_goto (tgt := 217) hx hb dX5_statement_203 (by decide) ?_
    exact wX5_statement_J217 C   σ_47 _ _ _ (lv_sub hl [0] rfl) hP hS hE
  replace hE := (if_neg q3).symm.trans hE
  refine lv_tableOut (tgt := 206) hx hb dX5_statement_16 (z_out (fun k h1 h2 h3 => by
      rcases (show k = 0 ∨ k = 1 ∨ k = 2 ∨ k = 3 by omega) with rfl | rfl | rfl | rfl
      · exact z_ne q0 (h3.trans (by decide))
      · exact z_ne q1 (h3.trans (by decide))
      · exact z_ne q2 (h3.trans (by decide))
      · exact z_ne q3 (h3.trans (by decide)))) (by decide) ?_
  refine lv_aload_n hx hb dX5_statement_206 rfl (lv_at hl 0 rfl) ?_
  refine mg_0_11 hx hb hown hwX5 (hts _ u_103) hK hP dX5_statement_207 ?_
  refine lv_iconst (v := 0) hx hb dX5_statement_210 (by decide) ?_
  refine lv_aload_n hx hb dX5_statement_211 rfl (lv_at hl 0 rfl) ?_
  refine lv_iconst (v := 1) hx hb dX5_statement_212 (by decide) ?_
  refine z_goi (wf := mW) hS hE (fun F1 h1 => (va_runV (As := [.int 1]) (rest := [.int 0, .ref (ea E 7)]) ⟨hx, hb, hml, hown, hts⟩ (kX5_figures l E hD 1 σ_3 F1 h1) (cwV 1 hts (gU_V u_361 u_362 u_363 u_5 u_364) rfl rfl rfl q_X5_figures ⟨Nat.le_of_ble_eq_true rfl, Nat.le_of_ble_eq_true rfl⟩) (z_preV hK hP hS (ci := 5) (q0 := 0) rfl rfl rfl) rfl rfl hl.1 rfl (lv_room (Nat.le_of_ble_eq_true rfl)) dX5_statement_213 ⟨Nat.le_of_ble_eq_true rfl, Nat.le_of_ble_eq_true rfl⟩)) (fun r_49 σ_48 H locs hP hS hE => ?_)
  refine ms_7 hx hb hK hD hP hS dX5_statement_216 hE (fun σ_50 H locs hP hS hE => ?_)
  exact wX5_statement_J217 C   σ_50 _ _ _ (lv_sub hl [0] rfl) hP hS hE
theorem kX5_statement (l : Launch) (E : EN) (hD : ∀ σ, va_D (eA E) (mW E σ))  (σ : ST) (F : ST) (hE : fX5_statement  σ = some F) : Met l yX5_statement wu_X5_statement r_X5_statement (zPc E mW [.ref (ea E 0)] σ) (zQv E mW F) 0 0 (eA E) := by
  refine Met.ofW (cc := cX5_statement) (maxL := 1) (ret := none) (by decide) rfl ?_
  intro p e s m args below meth c s₁ B hml hv
  obtain ⟨rfl, hP, hK⟩ := hv
  have hl := lv_entry ([.ref (ea E 0)]) (n := 1) (Nat.le_of_ble_eq_true rfl)
  rw [lg_entry_eq]
  generalize (lg_sl ([.ref (ea E 0)]) ++ List.replicate (1 - (lg_sl ([.ref (ea E 0)])).length) Slot.unset).toArray = ls at hl ⊢
  exact wX5_statement ⟨B.exec, B.bytes, hml, findClass_of_methodNamed B.named, fun w h => atoms_spec (ws := wu_X5_statement) B.pre w (List.mem_cons_of_mem _ h), B.returns, B.notSynchronized, hK, hD⟩  σ s.heap [] ls hl hP va_S.rf hE
def fX5_move_2_8_L2 (ke : ST → Option (ST)) : Nat → Int32 → ST → Option (ST)
  | 0, _, _ => none
  | n + 1, x2, σ => (if 200 ≤ x2 then ke  σ else ald (gA σ 1) 200 x2 (fun v_2 => ast σ 7 200 x2 v_2 (fun σ_3 => bnd (x2 + 1) (fun x2_4 => fX5_move_2_8_L2 ke n x2_4 σ_3))))
set_option maxHeartbeats 4000000 in
set_option maxRecDepth 100000 in
theorem wX5_move_2_8_L2 {p : Program} {l : Launch} {e : Env} {s : State} {m : MethodId} {args : Array Value} {below : List Frame} {meth : Method} {c : Code} {E : EN} (C : zC E mW p s m args meth c cX5_move 3 RX5 none wsL_law) {F : ST} {ke : ST → Option (ST)} (hke : ∀  (σ : ST) (H : Heap) (locs : List Loc) (ls : Array Slot), lv_has ls 3 [] → va_P (eD E) vwCl (mW E σ) H → va_S (eA E) s.heap H locs → ke  σ = some F → zWv E mW p l e r_X5_move s m args below meth c F H locs (F0 m 21 ls [])) : ∀ (n : Nat) (x2 : Int32) (σ : ST) (H : Heap) (locs : List Loc) (ls : Array Slot), lv_has ls 3 [(0, .ref (ea E 2)), (1, .ref (ea E 8)), (2, .int x2)] → va_P (eD E) vwCl (mW E σ) H → va_S (eA E) s.heap H locs → fX5_move_2_8_L2 ke n x2 σ = some F → zWv E mW p l e r_X5_move s m args below meth c F H locs (F0 m 2 ls []) := by
  obtain ⟨hx, hb, hml, hown, hts, hr, hlk, hK, hD⟩ := id C
  intro n
  induction n with
  | zero => intro x2 σ H locs ls hl hP hS hE; rw [fX5_move_2_8_L2] at hE; cases hE
  | succ n ih =>
    intro x2 σ H locs ls hl hP hS hE
    rw [fX5_move_2_8_L2] at hE
    refine lv_iload_n hx hb dX5_move_2 rfl (lv_at hl 2 rfl) ?_
    refine lv_sipush (v := 200) hx hb dX5_move_3 (by decide) ?_
    refine z_icmp_ge (tgt := 21) hx hb dX5_move_6 (by decide) hE (fun hE => ?_) (fun hE => ?_)
    · exact hke  σ _ _ _ (lv_sub hl [] rfl) hP hS hE
    refine lv_aload_n hx hb dX5_move_9 rfl (lv_at hl 1 rfl) ?_
    refine lv_iload_n hx hb dX5_move_10 rfl (lv_at hl 2 rfl) ?_
    refine lv_aload_n hx hb dX5_move_11 rfl (lv_at hl 0 rfl) ?_
    refine lv_iload_n hx hb dX5_move_12 rfl (lv_at hl 2 rfl) ?_
    refine ma_2 hx hb hK hP dX5_move_13 hE (fun v_2 hE => ?_)
    refine ms_8 hx hb hK hD hP hS dX5_move_14 hE (fun σ_3 H locs hP hS hE => ?_)
    refine z_iinc hx hb (v := (x2 + 1)) (k := 2) (fun x2_4 => [(2, .int x2_4), (0, .ref (ea E 2)), (1, .ref (ea E 8))]) dX5_move_15 hl rfl (by rfl) (by decide) rfl hE (fun x2_4 ls hl hE => ?_)
    refine lv_goto (tgt := 2) hx hb dX5_move_18 (by decide) ?_
    exact ih x2_4 σ_3 _ _ _ (lv_sub hl [1, 2, 0] rfl) hP hS hE
def fX5_move_2_8   (σ : ST) : Option (ST) :=
  bnd (0 : Int32) (fun x2_1 => fX5_move_2_8_L2 (fun σ_5 => some σ_5) FU x2_1 σ)
set_option maxHeartbeats 4000000 in
set_option maxRecDepth 100000 in
theorem wX5_move_2_8 {p : Program} {l : Launch} {e : Env} {s : State} {m : MethodId} {args : Array Value} {below : List Frame} {meth : Method} {c : Code} {E : EN} (C : zC E mW p s m args meth c cX5_move 3 RX5 none wsL_law) {F : ST}    (σ : ST) (H : Heap) (locs : List Loc) (ls : Array Slot) (hl : lv_has ls 3 [(0, .ref (ea E 2)), (1, .ref (ea E 8))]) (hP : va_P (eD E) vwCl (mW E σ) H) (hS : va_S (eA E) s.heap H locs) (hE : fX5_move_2_8   σ = some F) : zWv E mW p l e r_X5_move s m args below meth c F H locs (F0 m 0 ls []) := by
  obtain ⟨hx, hb, hml, hown, hts, hr, hlk, hK, hD⟩ := id C
  unfold fX5_move_2_8 at hE
  refine lv_iconst (v := 0) hx hb dX5_move_0 (by decide) ?_
  refine z_istore_n hx hb (fun x2_1 => [(2, .int x2_1), (0, .ref (ea E 2)), (1, .ref (ea E 8))]) dX5_move_1 rfl hl (by decide) rfl hE (fun x2_1 ls hl hE => ?_)
  refine wX5_move_2_8_L2 C ?_ FU x2_1 σ _ _ _ (lv_sub hl [1, 2, 0] rfl) hP hS hE
  intro σ_5 H locs ls hl hP hS hE
  exact z_vret hx hb hr hlk hP hS dX5_move_21 hE
theorem kX5_move_2_8 (l : Launch) (E : EN) (hD : ∀ σ, va_D (eA E) (mW E σ))  (σ : ST) (F : ST) (hE : fX5_move_2_8  σ = some F) : Met l yX5_move wu_X5_move r_X5_move (zPc E mW [.ref (ea E 2), .ref (ea E 8)] σ) (zQv E mW F) 0 0 (eA E) := by
  refine Met.ofW (cc := cX5_move) (maxL := 3) (ret := none) (by decide) rfl ?_
  intro p e s m args below meth c s₁ B hml hv
  obtain ⟨rfl, hP, hK⟩ := hv
  have hl := lv_entry ([.ref (ea E 2), .ref (ea E 8)]) (n := 3) (Nat.le_of_ble_eq_true rfl)
  rw [lg_entry_eq]
  generalize (lg_sl ([.ref (ea E 2), .ref (ea E 8)]) ++ List.replicate (3 - (lg_sl ([.ref (ea E 2), .ref (ea E 8)])).length) Slot.unset).toArray = ls at hl ⊢
  exact wX5_move_2_8 ⟨B.exec, B.bytes, hml, findClass_of_methodNamed B.named, fun w h => atoms_spec (ws := wu_X5_move) B.pre w (List.mem_cons_of_mem _ h), B.returns, B.notSynchronized, hK, hD⟩  σ s.heap [] ls hl hP va_S.rf hE
def fX5_isAsItMustBe   (σ : ST) : Option (Int32 × ST) :=
  (if (gI σ 4) = 0 then ald (gA σ 6) 4 2 (fun v_1 => (if 3 < v_1 then some (0, σ) else ald (gA σ 1) 200 0 (fun v_2 => (if 8 ≤ v_2 then some (0, σ) else some (1, σ))))) else (if (gI σ 4) = 1 then ald (gA σ 6) 4 0 (fun v_3 => ald (gA σ 1) 200 0 (fun v_4 => (if v_4 ≤ v_3 then some (0, σ) else ald (gA σ 6) 4 1 (fun v_5 => ald (gA σ 1) 200 0 (fun v_6 => (if v_6 ≤ v_5 then some (0, σ) else ald (gA σ 6) 4 0 (fun v_7 => ald (gA σ 6) 4 1 (fun v_8 => (if v_7 = v_8 then some (0, σ) else ald (gA σ 6) 4 2 (fun v_9 => (if v_9 < 1 then some (0, σ) else ald (gA σ 6) 4 2 (fun v_10 => (if v_10 ≤ 60 then ald (gA σ 6) 4 0 (fun v_11 => ald (gA σ 6) 4 1 (fun v_12 => ald (gA σ 1) 200 ((60 + (8 * v_11)) + v_12) (fun v_13 => (if v_13 = 0 then ald (gA σ 1) 200 1 (fun v_14 => (if 14 ≤ v_14 then some (0, σ) else some (1, σ))) else some (0, σ))))) else some (0, σ)))))))))))))) else (if (gI σ 4) = 2 then ald (gA σ 6) 4 0 (fun v_15 => ald (gA σ 1) 200 0 (fun v_16 => (if v_16 ≤ v_15 then some (0, σ) else ald (gA σ 6) 4 1 (fun v_17 => (if v_17 < 1 then some (0, σ) else ald (gA σ 6) 4 1 (fun v_18 => (if 60 < v_18 then some (0, σ) else ald (gA σ 1) 200 2 (fun v_19 => (if 5 ≤ v_19 then some (0, σ) else some (1, σ)))))))))) else (if (gI σ 4) = 3 then ald (gA σ 6) 4 1 (fun v_20 => (if 60 < v_20 then some (0, σ) else some (1, σ))) else ald (gA σ 6) 4 0 (fun v_21 => (if 5 < v_21 then some (0, σ) else some (1, σ)))))))
set_option maxHeartbeats 4000000 in
set_option maxRecDepth 100000 in
theorem wX5_isAsItMustBe {p : Program} {l : Launch} {e : Env} {s : State} {m : MethodId} {args : Array Value} {below : List Frame} {meth : Method} {c : Code} {E : EN} (C : zC E mW p s m args meth c cX5_isAsItMustBe 1 RX5 (some .boolean) wsL_law) {F : Int32 × ST}    (σ : ST) (H : Heap) (locs : List Loc) (ls : Array Slot) (hl : lv_has ls 1 [(0, .ref (ea E 0))]) (hP : va_P (eD E) vwCl (mW E σ) H) (hS : va_S (eA E) s.heap H locs) (hE : fX5_isAsItMustBe   σ = some F) : zWi E mW p l e r_X5_isAsItMustBe s m args below meth c F H locs (F0 m 0 ls []) := by
  obtain ⟨hx, hb, hml, hown, hts, hr, hlk, hK, hD⟩ := id C
  have hwX5 : ∀ w ∈ wsX50, w.before args s = true := fun w h => hts w (inlX5 w h)
  unfold fX5_isAsItMustBe at hE
  refine lv_aload_n hx hb dX5_isAsItMustBe_0 rfl (lv_at hl 0 rfl) ?_
  refine mg_0_10 hx hb hown hwX5 (hts _ u_356) hK hP dX5_isAsItMustBe_1 ?_
  by_cases q0 : (gI σ 4) = 0
  · have hE := (if_pos q0).symm.trans hE
    refine z_tabIn (tgt := 36) hx hb q0 dX5_isAsItMustBe_4 (by decide) (by decide) rfl (by decide) ?_
    refine lv_aload_n hx hb dX5_isAsItMustBe_36 rfl (lv_at hl 0 rfl) ?_
    refine mg_0_11 hx hb hown hwX5 (hts _ u_103) hK hP dX5_isAsItMustBe_37 ?_
    refine lv_iconst (v := 2) hx hb dX5_isAsItMustBe_40 (by decide) ?_
    refine ma_7 hx hb hK hP dX5_isAsItMustBe_41 hE (fun v_1 hE => ?_)
    refine lv_iconst (v := 3) hx hb dX5_isAsItMustBe_42 (by decide) ?_
    refine z_icmp_gt (tgt := 61) hx hb dX5_isAsItMustBe_43 (by decide) hE (fun hE => ?_) (fun hE => ?_)
    · refine lv_iconst (v := 0) hx hb dX5_isAsItMustBe_61 (by decide) ?_
      exact z_zret hx hb hr hlk rfl hP hS dX5_isAsItMustBe_62 hE
    refine lv_aload_n hx hb dX5_isAsItMustBe_46 rfl (lv_at hl 0 rfl) ?_
    refine mg_0_1 hx hb hown hwX5 (hts _ u_97) hK hP dX5_isAsItMustBe_47 ?_
    refine lv_iconst (v := 0) hx hb dX5_isAsItMustBe_50 (by decide) ?_
    refine ma_2 hx hb hK hP dX5_isAsItMustBe_51 hE (fun v_2 hE => ?_)
    refine lv_bipush (v := 8) hx hb dX5_isAsItMustBe_52 (by decide) ?_
    refine z_icmp_ge (tgt := 61) hx hb dX5_isAsItMustBe_54 (by decide) hE (fun hE => ?_) (fun hE => ?_)
    · refine lv_iconst (v := 0) hx hb dX5_isAsItMustBe_61 (by decide) ?_
      exact z_zret hx hb hr hlk rfl hP hS dX5_isAsItMustBe_62 hE
    refine lv_iconst (v := 1) hx hb dX5_isAsItMustBe_57 (by decide) ?_
    refine lv_goto (tgt := 62) hx hb dX5_isAsItMustBe_58 (by decide) ?_
    exact z_zret hx hb hr hlk rfl hP hS dX5_isAsItMustBe_62 hE
  replace hE := (if_neg q0).symm.trans hE
  by_cases q1 : (gI σ 4) = 1
  · have hE := (if_pos q1).symm.trans hE
    refine z_tabIn (tgt := 63) hx hb q1 dX5_isAsItMustBe_4 (by decide) (by decide) rfl (by decide) ?_
    refine lv_aload_n hx hb dX5_isAsItMustBe_63 rfl (lv_at hl 0 rfl) ?_
    refine mg_0_11 hx hb hown hwX5 (hts _ u_103) hK hP dX5_isAsItMustBe_64 ?_
    refine lv_iconst (v := 0) hx hb dX5_isAsItMustBe_67 (by decide) ?_
    refine ma_7 hx hb hK hP dX5_isAsItMustBe_68 hE (fun v_3 hE => ?_)
    refine lv_aload_n hx hb dX5_isAsItMustBe_69 rfl (lv_at hl 0 rfl) ?_
    refine mg_0_1 hx hb hown hwX5 (hts _ u_97) hK hP dX5_isAsItMustBe_70 ?_
    refine lv_iconst (v := 0) hx hb dX5_isAsItMustBe_73 (by decide) ?_
    refine ma_2 hx hb hK hP dX5_isAsItMustBe_74 hE (fun v_4 hE => ?_)
    refine z_icmp_ge (tgt := 129) hx hb dX5_isAsItMustBe_75 (by decide) hE (fun hE => ?_) (fun hE => ?_)
    · refine lv_iconst (v := 0) hx hb dX5_isAsItMustBe_129 (by decide) ?_
      exact z_zret hx hb hr hlk rfl hP hS dX5_isAsItMustBe_130 hE
    refine lv_aload_n hx hb dX5_isAsItMustBe_78 rfl (lv_at hl 0 rfl) ?_
    refine mg_0_11 hx hb hown hwX5 (hts _ u_103) hK hP dX5_isAsItMustBe_79 ?_
    refine lv_iconst (v := 1) hx hb dX5_isAsItMustBe_82 (by decide) ?_
    refine ma_7 hx hb hK hP dX5_isAsItMustBe_83 hE (fun v_5 hE => ?_)
    refine lv_aload_n hx hb dX5_isAsItMustBe_84 rfl (lv_at hl 0 rfl) ?_
    refine mg_0_1 hx hb hown hwX5 (hts _ u_97) hK hP dX5_isAsItMustBe_85 ?_
    refine lv_iconst (v := 0) hx hb dX5_isAsItMustBe_88 (by decide) ?_
    refine ma_2 hx hb hK hP dX5_isAsItMustBe_89 hE (fun v_6 hE => ?_)
    refine z_icmp_ge (tgt := 129) hx hb dX5_isAsItMustBe_90 (by decide) hE (fun hE => ?_) (fun hE => ?_)
    · refine lv_iconst (v := 0) hx hb dX5_isAsItMustBe_129 (by decide) ?_
      exact z_zret hx hb hr hlk rfl hP hS dX5_isAsItMustBe_130 hE
    refine lv_aload_n hx hb dX5_isAsItMustBe_93 rfl (lv_at hl 0 rfl) ?_
    refine mg_0_11 hx hb hown hwX5 (hts _ u_103) hK hP dX5_isAsItMustBe_94 ?_
    refine lv_iconst (v := 0) hx hb dX5_isAsItMustBe_97 (by decide) ?_
    refine ma_7 hx hb hK hP dX5_isAsItMustBe_98 hE (fun v_7 hE => ?_)
    refine lv_aload_n hx hb dX5_isAsItMustBe_99 rfl (lv_at hl 0 rfl) ?_
    refine mg_0_11 hx hb hown hwX5 (hts _ u_103) hK hP dX5_isAsItMustBe_100 ?_
    refine lv_iconst (v := 1) hx hb dX5_isAsItMustBe_103 (by decide) ?_
    refine ma_7 hx hb hK hP dX5_isAsItMustBe_104 hE (fun v_8 hE => ?_)
    refine z_icmp_eq (tgt := 129) hx hb dX5_isAsItMustBe_105 (by decide) hE (fun hE => ?_) (fun hE => ?_)
    · refine lv_iconst (v := 0) hx hb dX5_isAsItMustBe_129 (by decide) ?_
      exact z_zret hx hb hr hlk rfl hP hS dX5_isAsItMustBe_130 hE
    refine lv_aload_n hx hb dX5_isAsItMustBe_108 rfl (lv_at hl 0 rfl) ?_
    refine mg_0_11 hx hb hown hwX5 (hts _ u_103) hK hP dX5_isAsItMustBe_109 ?_
    refine lv_iconst (v := 2) hx hb dX5_isAsItMustBe_112 (by decide) ?_
    refine ma_7 hx hb hK hP dX5_isAsItMustBe_113 hE (fun v_9 hE => ?_)
    refine lv_iconst (v := 1) hx hb dX5_isAsItMustBe_114 (by decide) ?_
    refine z_icmp_lt (tgt := 129) hx hb dX5_isAsItMustBe_115 (by decide) hE (fun hE => ?_) (fun hE => ?_)
    · refine lv_iconst (v := 0) hx hb dX5_isAsItMustBe_129 (by decide) ?_
      exact z_zret hx hb hr hlk rfl hP hS dX5_isAsItMustBe_130 hE
    refine lv_aload_n hx hb dX5_isAsItMustBe_118 rfl (lv_at hl 0 rfl) ?_
    refine mg_0_11 hx hb hown hwX5 (hts _ u_103) hK hP dX5_isAsItMustBe_119 ?_
    refine lv_iconst (v := 2) hx hb dX5_isAsItMustBe_122 (by decide) ?_
    refine ma_7 hx hb hK hP dX5_isAsItMustBe_123 hE (fun v_10 hE => ?_)
    refine lv_bipush (v := 60) hx hb dX5_isAsItMustBe_124 (by decide) ?_
    refine z_icmp_le (tgt := 131) hx hb dX5_isAsItMustBe_126 (by decide) hE (fun hE => ?_) (fun hE => ?_)
    · refine lv_aload_n hx hb dX5_isAsItMustBe_131 rfl (lv_at hl 0 rfl) ?_
      refine mg_0_1 hx hb hown hwX5 (hts _ u_97) hK hP dX5_isAsItMustBe_132 ?_
      refine lv_bipush (v := 60) hx hb dX5_isAsItMustBe_135 (by decide) ?_
      refine lv_bipush (v := 8) hx hb dX5_isAsItMustBe_137 (by decide) ?_
      refine lv_aload_n hx hb dX5_isAsItMustBe_139 rfl (lv_at hl 0 rfl) ?_
      refine mg_0_11 hx hb hown hwX5 (hts _ u_103) hK hP dX5_isAsItMustBe_140 ?_
      refine lv_iconst (v := 0) hx hb dX5_isAsItMustBe_143 (by decide) ?_
      refine ma_7 hx hb hK hP dX5_isAsItMustBe_144 hE (fun v_11 hE => ?_)
      refine lv_imul hx hb dX5_isAsItMustBe_145 ?_
      refine lv_iadd hx hb dX5_isAsItMustBe_146 ?_
      refine lv_aload_n hx hb dX5_isAsItMustBe_147 rfl (lv_at hl 0 rfl) ?_
      refine mg_0_11 hx hb hown hwX5 (hts _ u_103) hK hP dX5_isAsItMustBe_148 ?_
      refine lv_iconst (v := 1) hx hb dX5_isAsItMustBe_151 (by decide) ?_
      refine ma_7 hx hb hK hP dX5_isAsItMustBe_152 hE (fun v_12 hE => ?_)
      refine lv_iadd hx hb dX5_isAsItMustBe_153 ?_
      refine ma_2 hx hb hK hP dX5_isAsItMustBe_154 hE (fun v_13 hE => ?_)
      refine z_if_ne (tgt := 173) hx hb dX5_isAsItMustBe_155 (by decide) hE (fun hE => ?_) (fun hE => ?_)
      · refine lv_iconst (v := 0) hx hb dX5_isAsItMustBe_173 (by decide) ?_
        exact z_zret hx hb hr hlk rfl hP hS dX5_isAsItMustBe_174 hE
      refine lv_aload_n hx hb dX5_isAsItMustBe_158 rfl (lv_at hl 0 rfl) ?_
      refine mg_0_1 hx hb hown hwX5 (hts _ u_97) hK hP dX5_isAsItMustBe_159 ?_
      refine lv_iconst (v := 1) hx hb dX5_isAsItMustBe_162 (by decide) ?_
      refine ma_2 hx hb hK hP dX5_isAsItMustBe_163 hE (fun v_14 hE => ?_)
      refine lv_bipush (v := 14) hx hb dX5_isAsItMustBe_164 (by decide) ?_
      refine z_icmp_ge (tgt := 173) hx hb dX5_isAsItMustBe_166 (by decide) hE (fun hE => ?_) (fun hE => ?_)
      · refine lv_iconst (v := 0) hx hb dX5_isAsItMustBe_173 (by decide) ?_
        exact z_zret hx hb hr hlk rfl hP hS dX5_isAsItMustBe_174 hE
      refine lv_iconst (v := 1) hx hb dX5_isAsItMustBe_169 (by decide) ?_
      refine lv_goto (tgt := 174) hx hb dX5_isAsItMustBe_170 (by decide) ?_
      exact z_zret hx hb hr hlk rfl hP hS dX5_isAsItMustBe_174 hE
    refine lv_iconst (v := 0) hx hb dX5_isAsItMustBe_129 (by decide) ?_
    exact z_zret hx hb hr hlk rfl hP hS dX5_isAsItMustBe_130 hE
  replace hE := (if_neg q1).symm.trans hE
  by_cases q2 : (gI σ 4) = 2
  · have hE := (if_pos q2).symm.trans hE
    refine z_tabIn (tgt := 175) hx hb q2 dX5_isAsItMustBe_4 (by decide) (by decide) rfl (by decide) ?_
    refine lv_aload_n hx hb dX5_isAsItMustBe_175 rfl (lv_at hl 0 rfl) ?_
    refine mg_0_11 hx hb hown hwX5 (hts _ u_103) hK hP dX5_isAsItMustBe_176 ?_
    refine lv_iconst (v := 0) hx hb dX5_isAsItMustBe_179 (by decide) ?_
    refine ma_7 hx hb hK hP dX5_isAsItMustBe_180 hE (fun v_15 hE => ?_)
    refine lv_aload_n hx hb dX5_isAsItMustBe_181 rfl (lv_at hl 0 rfl) ?_
    refine mg_0_1 hx hb hown hwX5 (hts _ u_97) hK hP dX5_isAsItMustBe_182 ?_
    refine lv_iconst (v := 0) hx hb dX5_isAsItMustBe_185 (by decide) ?_
    refine ma_2 hx hb hK hP dX5_isAsItMustBe_186 hE (fun v_16 hE => ?_)
    refine z_icmp_ge (tgt := 225) hx hb dX5_isAsItMustBe_187 (by decide) hE (fun hE => ?_) (fun hE => ?_)
    · refine lv_iconst (v := 0) hx hb dX5_isAsItMustBe_225 (by decide) ?_
      exact z_zret hx hb hr hlk rfl hP hS dX5_isAsItMustBe_226 hE
    refine lv_aload_n hx hb dX5_isAsItMustBe_190 rfl (lv_at hl 0 rfl) ?_
    refine mg_0_11 hx hb hown hwX5 (hts _ u_103) hK hP dX5_isAsItMustBe_191 ?_
    refine lv_iconst (v := 1) hx hb dX5_isAsItMustBe_194 (by decide) ?_
    refine ma_7 hx hb hK hP dX5_isAsItMustBe_195 hE (fun v_17 hE => ?_)
    refine lv_iconst (v := 1) hx hb dX5_isAsItMustBe_196 (by decide) ?_
    refine z_icmp_lt (tgt := 225) hx hb dX5_isAsItMustBe_197 (by decide) hE (fun hE => ?_) (fun hE => ?_)
    · refine lv_iconst (v := 0) hx hb dX5_isAsItMustBe_225 (by decide) ?_
      exact z_zret hx hb hr hlk rfl hP hS dX5_isAsItMustBe_226 hE
    refine lv_aload_n hx hb dX5_isAsItMustBe_200 rfl (lv_at hl 0 rfl) ?_
    refine mg_0_11 hx hb hown hwX5 (hts _ u_103) hK hP dX5_isAsItMustBe_201 ?_
    refine lv_iconst (v := 1) hx hb dX5_isAsItMustBe_204 (by decide) ?_
    refine ma_7 hx hb hK hP dX5_isAsItMustBe_205 hE (fun v_18 hE => ?_)
    refine lv_bipush (v := 60) hx hb dX5_isAsItMustBe_206 (by decide) ?_
    refine z_icmp_gt (tgt := 225) hx hb dX5_isAsItMustBe_208 (by decide) hE (fun hE => ?_) (fun hE => ?_)
    · refine lv_iconst (v := 0) hx hb dX5_isAsItMustBe_225 (by decide) ?_
      exact z_zret hx hb hr hlk rfl hP hS dX5_isAsItMustBe_226 hE
    refine lv_aload_n hx hb dX5_isAsItMustBe_211 rfl (lv_at hl 0 rfl) ?_
    refine mg_0_1 hx hb hown hwX5 (hts _ u_97) hK hP dX5_isAsItMustBe_212 ?_
    refine lv_iconst (v := 2) hx hb dX5_isAsItMustBe_215 (by decide) ?_
    refine ma_2 hx hb hK hP dX5_isAsItMustBe_216 hE (fun v_19 hE => ?_)
    refine lv_iconst (v := 5) hx hb dX5_isAsItMustBe_217 (by decide) ?_
    refine z_icmp_ge (tgt := 225) hx hb dX5_isAsItMustBe_218 (by decide) hE (fun hE => ?_) (fun hE => ?_)
    · refine lv_iconst (v := 0) hx hb dX5_isAsItMustBe_225 (by decide) ?_
      exact z_zret hx hb hr hlk rfl hP hS dX5_isAsItMustBe_226 hE
    refine lv_iconst (v := 1) hx hb dX5_isAsItMustBe_221 (by decide) ?_
    refine lv_goto (tgt := 226) hx hb dX5_isAsItMustBe_222 (by decide) ?_
    exact z_zret hx hb hr hlk rfl hP hS dX5_isAsItMustBe_226 hE
  replace hE := (if_neg q2).symm.trans hE
  by_cases q3 : (gI σ 4) = 3
  · have hE := (if_pos q3).symm.trans hE
    refine z_tabIn (tgt := 227) hx hb q3 dX5_isAsItMustBe_4 (by decide) (by decide) rfl (by decide) ?_
    refine lv_aload_n hx hb dX5_isAsItMustBe_227 rfl (lv_at hl 0 rfl) ?_
    refine mg_0_11 hx hb hown hwX5 (hts _ u_103) hK hP dX5_isAsItMustBe_228 ?_
    refine lv_iconst (v := 1) hx hb dX5_isAsItMustBe_231 (by decide) ?_
    refine ma_7 hx hb hK hP dX5_isAsItMustBe_232 hE (fun v_20 hE => ?_)
    refine lv_bipush (v := 60) hx hb dX5_isAsItMustBe_233 (by decide) ?_
    refine z_icmp_gt (tgt := 242) hx hb dX5_isAsItMustBe_235 (by decide) hE (fun hE => ?_) (fun hE => ?_)
    · refine lv_iconst (v := 0) hx hb dX5_isAsItMustBe_242 (by decide) ?_
      exact z_zret hx hb hr hlk rfl hP hS dX5_isAsItMustBe_243 hE
    refine lv_iconst (v := 1) hx hb dX5_isAsItMustBe_238 (by decide) ?_
    refine lv_goto (tgt := 243) hx hb dX5_isAsItMustBe_239 (by decide) ?_
    exact z_zret hx hb hr hlk rfl hP hS dX5_isAsItMustBe_243 hE
  replace hE := (if_neg q3).symm.trans hE
  refine lv_tableOut (tgt := 244) hx hb dX5_isAsItMustBe_4 (z_out (fun k h1 h2 h3 => by
      rcases (show k = 0 ∨ k = 1 ∨ k = 2 ∨ k = 3 by omega) with rfl | rfl | rfl | rfl
      · exact z_ne q0 (h3.trans (by decide))
      · exact z_ne q1 (h3.trans (by decide))
      · exact z_ne q2 (h3.trans (by decide))
      · exact z_ne q3 (h3.trans (by decide)))) (by decide) ?_
  refine lv_aload_n hx hb dX5_isAsItMustBe_244 rfl (lv_at hl 0 rfl) ?_
  refine mg_0_11 hx hb hown hwX5 (hts _ u_103) hK hP dX5_isAsItMustBe_245 ?_
  refine lv_iconst (v := 0) hx hb dX5_isAsItMustBe_248 (by decide) ?_
  refine ma_7 hx hb hK hP dX5_isAsItMustBe_249 hE (fun v_21 hE => ?_)
  refine lv_iconst (v := 5) hx hb dX5_isAsItMustBe_250 (by decide) ?_
  refine z_icmp_gt (tgt := 258) hx hb dX5_isAsItMustBe_251 (by decide) hE (fun hE => ?_) (fun hE => ?_)
  · refine lv_iconst (v := 0) hx hb dX5_isAsItMustBe_258 (by decide) ?_
    exact z_zret hx hb hr hlk rfl hP hS dX5_isAsItMustBe_259 hE
  refine lv_iconst (v := 1) hx hb dX5_isAsItMustBe_254 (by decide) ?_
  refine lv_goto (tgt := 259) hx hb dX5_isAsItMustBe_255 (by decide) ?_
  exact z_zret hx hb hr hlk rfl hP hS dX5_isAsItMustBe_259 hE
theorem kX5_isAsItMustBe (l : Launch) (E : EN) (hD : ∀ σ, va_D (eA E) (mW E σ))  (σ : ST) (F : Int32 × ST) (hE : fX5_isAsItMustBe  σ = some F) : Met l yX5_isAsItMustBe wu_X5_isAsItMustBe r_X5_isAsItMustBe (zPc E mW [.ref (ea E 0)] σ) (zQi E mW F) 0 0 (eA E) := by
  refine Met.ofW (cc := cX5_isAsItMustBe) (maxL := 1) (ret := (some .boolean)) (by decide) rfl ?_
  intro p e s m args below meth c s₁ B hml hv
  obtain ⟨rfl, hP, hK⟩ := hv
  have hl := lv_entry ([.ref (ea E 0)]) (n := 1) (Nat.le_of_ble_eq_true rfl)
  rw [lg_entry_eq]
  generalize (lg_sl ([.ref (ea E 0)]) ++ List.replicate (1 - (lg_sl ([.ref (ea E 0)])).length) Slot.unset).toArray = ls at hl ⊢
  exact wX5_isAsItMustBe ⟨B.exec, B.bytes, hml, findClass_of_methodNamed B.named, fun w h => atoms_spec (ws := wu_X5_isAsItMustBe) B.pre w (List.mem_cons_of_mem _ h), B.returns, B.notSynchronized, hK, hD⟩  σ s.heap [] ls hl hP va_S.rf hE
def fX5_take_L38 (ke : ST → Option (ST)) : Nat → Int32 → ST → Option (ST)
  | 0, _, _ => none
  | n + 1, x1, σ => (if 3 ≤ x1 then ke  σ else ald (gA σ 1) 200 0 (fun v_2 => ald (gA σ 6) 4 x1 (fun v_3 => ast σ 1 200 ((10 + (3 * v_2)) + x1) v_3 (fun σ_4 => bnd (x1 + 1) (fun x1_5 => fX5_take_L38 ke n x1_5 σ_4)))))
set_option maxHeartbeats 4000000 in
set_option maxRecDepth 100000 in
theorem wX5_take_L38 {p : Program} {l : Launch} {e : Env} {s : State} {m : MethodId} {args : Array Value} {below : List Frame} {meth : Method} {c : Code} {E : EN} (C : zC E mW p s m args meth c cX5_take 3 RX5 none wsL_law) {F : ST} {ke : ST → Option (ST)} (hke : ∀  (σ : ST) (H : Heap) (locs : List Loc) (ls : Array Slot), lv_has ls 3 [(0, .ref (ea E 0))] → va_P (eD E) vwCl (mW E σ) H → va_S (eA E) s.heap H locs → ke  σ = some F → zWv E mW p l e r_X5_take s m args below meth c F H locs (F0 m 73 ls [])) : ∀ (n : Nat) (x1 : Int32) (σ : ST) (H : Heap) (locs : List Loc) (ls : Array Slot), lv_has ls 3 [(0, .ref (ea E 0)), (1, .int x1)] → va_P (eD E) vwCl (mW E σ) H → va_S (eA E) s.heap H locs → fX5_take_L38 ke n x1 σ = some F → zWv E mW p l e r_X5_take s m args below meth c F H locs (F0 m 38 ls []) := by
  obtain ⟨hx, hb, hml, hown, hts, hr, hlk, hK, hD⟩ := id C
  have hwX5 : ∀ w ∈ wsX50, w.before args s = true := fun w h => hts w (inlX5 w h)
  intro n
  induction n with
  | zero => intro x1 σ H locs ls hl hP hS hE; rw [fX5_take_L38] at hE; cases hE
  | succ n ih =>
    intro x1 σ H locs ls hl hP hS hE
    rw [fX5_take_L38] at hE
    refine lv_iload_n hx hb dX5_take_38 rfl (lv_at hl 1 rfl) ?_
    refine lv_iconst (v := 3) hx hb dX5_take_39 (by decide) ?_
    refine z_icmp_ge (tgt := 73) hx hb dX5_take_40 (by decide) hE (fun hE => ?_) (fun hE => ?_)
    · exact hke  σ _ _ _ (lv_sub hl [0] rfl) hP hS hE
    refine lv_aload_n hx hb dX5_take_43 rfl (lv_at hl 0 rfl) ?_
    refine mg_0_1 hx hb hown hwX5 (hts _ u_97) hK hP dX5_take_44 ?_
    refine lv_bipush (v := 10) hx hb dX5_take_47 (by decide) ?_
    refine lv_iconst (v := 3) hx hb dX5_take_49 (by decide) ?_
    refine lv_aload_n hx hb dX5_take_50 rfl (lv_at hl 0 rfl) ?_
    refine mg_0_1 hx hb hown hwX5 (hts _ u_97) hK hP dX5_take_51 ?_
    refine lv_iconst (v := 0) hx hb dX5_take_54 (by decide) ?_
    refine ma_2 hx hb hK hP dX5_take_55 hE (fun v_2 hE => ?_)
    refine lv_imul hx hb dX5_take_56 ?_
    refine lv_iadd hx hb dX5_take_57 ?_
    refine lv_iload_n hx hb dX5_take_58 rfl (lv_at hl 1 rfl) ?_
    refine lv_iadd hx hb dX5_take_59 ?_
    refine lv_aload_n hx hb dX5_take_60 rfl (lv_at hl 0 rfl) ?_
    refine mg_0_11 hx hb hown hwX5 (hts _ u_103) hK hP dX5_take_61 ?_
    refine lv_iload_n hx hb dX5_take_64 rfl (lv_at hl 1 rfl) ?_
    refine ma_7 hx hb hK hP dX5_take_65 hE (fun v_3 hE => ?_)
    refine ms_2 hx hb hK hD hP hS dX5_take_66 hE (fun σ_4 H locs hP hS hE => ?_)
    refine z_iinc hx hb (v := (x1 + 1)) (k := 1) (fun x1_5 => [(1, .int x1_5), (0, .ref (ea E 0))]) dX5_take_67 hl rfl (by rfl) (by decide) rfl hE (fun x1_5 ls hl hE => ?_)
    refine lv_goto (tgt := 38) hx hb dX5_take_70 (by decide) ?_
    exact ih x1_5 σ_4 _ _ _ (lv_sub hl [1, 0] rfl) hP hS hE
def fX5_take_L88 (ke : ST → Option (ST)) : Nat → Int32 → ST → Option (ST)
  | 0, _, _ => none
  | n + 1, x1, σ => (if 2 ≤ x1 then ke  σ else ald (gA σ 6) 4 x1 (fun v_10 => ald (gA σ 6) 4 (1 - x1) (fun v_11 => bnd (((8 * v_10) + v_11) : Int32) (fun x2_12 => ald (gA σ 6) 4 2 (fun v_13 => ast σ 1 200 (60 + x2_12) v_13 (fun σ_14 => ald (gA σ_14 6) 4 3 (fun v_15 => ast σ_14 1 200 (130 + x2_12) v_15 (fun σ_16 => bnd (x1 + 1) (fun x1_17 => fX5_take_L88 ke n x1_17 σ_16)))))))))
set_option maxHeartbeats 4000000 in
set_option maxRecDepth 100000 in
theorem wX5_take_L88 {p : Program} {l : Launch} {e : Env} {s : State} {m : MethodId} {args : Array Value} {below : List Frame} {meth : Method} {c : Code} {E : EN} (C : zC E mW p s m args meth c cX5_take 3 RX5 none wsL_law) {F : ST} {ke : ST → Option (ST)} (hke : ∀  (σ : ST) (H : Heap) (locs : List Loc) (ls : Array Slot), lv_has ls 3 [(0, .ref (ea E 0))] → va_P (eD E) vwCl (mW E σ) H → va_S (eA E) s.heap H locs → ke  σ = some F → zWv E mW p l e r_X5_take s m args below meth c F H locs (F0 m 149 ls [])) : ∀ (n : Nat) (x1 : Int32) (σ : ST) (H : Heap) (locs : List Loc) (ls : Array Slot), lv_has ls 3 [(0, .ref (ea E 0)), (1, .int x1)] → va_P (eD E) vwCl (mW E σ) H → va_S (eA E) s.heap H locs → fX5_take_L88 ke n x1 σ = some F → zWv E mW p l e r_X5_take s m args below meth c F H locs (F0 m 88 ls []) := by
  obtain ⟨hx, hb, hml, hown, hts, hr, hlk, hK, hD⟩ := id C
  have hwX5 : ∀ w ∈ wsX50, w.before args s = true := fun w h => hts w (inlX5 w h)
  intro n
  induction n with
  | zero => intro x1 σ H locs ls hl hP hS hE; rw [fX5_take_L88] at hE; cases hE
  | succ n ih =>
    intro x1 σ H locs ls hl hP hS hE
    rw [fX5_take_L88] at hE
    refine lv_iload_n hx hb dX5_take_88 rfl (lv_at hl 1 rfl) ?_
    refine lv_iconst (v := 2) hx hb dX5_take_89 (by decide) ?_
    refine z_icmp_ge (tgt := 149) hx hb dX5_take_90 (by decide) hE (fun hE => ?_) (fun hE => ?_)
    · exact hke  σ _ _ _ (lv_sub hl [0] rfl) hP hS hE
    refine lv_bipush (v := 8) hx hb dX5_take_93 (by decide) ?_
    refine lv_aload_n hx hb dX5_take_95 rfl (lv_at hl 0 rfl) ?_
    refine mg_0_11 hx hb hown hwX5 (hts _ u_103) hK hP dX5_take_96 ?_
    refine lv_iload_n hx hb dX5_take_99 rfl (lv_at hl 1 rfl) ?_
    refine ma_7 hx hb hK hP dX5_take_100 hE (fun v_10 hE => ?_)
    refine lv_imul hx hb dX5_take_101 ?_
    refine lv_aload_n hx hb dX5_take_102 rfl (lv_at hl 0 rfl) ?_
    refine mg_0_11 hx hb hown hwX5 (hts _ u_103) hK hP dX5_take_103 ?_
    refine lv_iconst (v := 1) hx hb dX5_take_106 (by decide) ?_
    refine lv_iload_n hx hb dX5_take_107 rfl (lv_at hl 1 rfl) ?_
    refine lv_isub hx hb dX5_take_108 ?_
    refine ma_7 hx hb hK hP dX5_take_109 hE (fun v_11 hE => ?_)
    refine lv_iadd hx hb dX5_take_110 ?_
    refine z_istore_n hx hb (fun x2_12 => [(2, .int x2_12), (0, .ref (ea E 0)), (1, .int x1)]) dX5_take_111 rfl hl (by decide) rfl hE (fun x2_12 ls hl hE => ?_)
    refine lv_aload_n hx hb dX5_take_112 rfl (lv_at hl 1 rfl) ?_
    refine mg_0_1 hx hb hown hwX5 (hts _ u_97) hK hP dX5_take_113 ?_
    refine lv_bipush (v := 60) hx hb dX5_take_116 (by decide) ?_
    refine lv_iload_n hx hb dX5_take_118 rfl (lv_at hl 0 rfl) ?_
    refine lv_iadd hx hb dX5_take_119 ?_
    refine lv_aload_n hx hb dX5_take_120 rfl (lv_at hl 1 rfl) ?_
    refine mg_0_11 hx hb hown hwX5 (hts _ u_103) hK hP dX5_take_121 ?_
    refine lv_iconst (v := 2) hx hb dX5_take_124 (by decide) ?_
    refine ma_7 hx hb hK hP dX5_take_125 hE (fun v_13 hE => ?_)
    refine ms_2 hx hb hK hD hP hS dX5_take_126 hE (fun σ_14 H locs hP hS hE => ?_)
    refine lv_aload_n hx hb dX5_take_127 rfl (lv_at hl 1 rfl) ?_
    refine mg_0_1 hx hb hown hwX5 (hts _ u_97) hK hP dX5_take_128 ?_
    refine lv_sipush (v := 130) hx hb dX5_take_131 (by decide) ?_
    refine lv_iload_n hx hb dX5_take_134 rfl (lv_at hl 0 rfl) ?_
    refine lv_iadd hx hb dX5_take_135 ?_
    refine lv_aload_n hx hb dX5_take_136 rfl (lv_at hl 1 rfl) ?_
    refine mg_0_11 hx hb hown hwX5 (hts _ u_103) hK hP dX5_take_137 ?_
    refine lv_iconst (v := 3) hx hb dX5_take_140 (by decide) ?_
    refine ma_7 hx hb hK hP dX5_take_141 hE (fun v_15 hE => ?_)
    refine ms_2 hx hb hK hD hP hS dX5_take_142 hE (fun σ_16 H locs hP hS hE => ?_)
    refine z_iinc hx hb (v := (x1 + 1)) (k := 2) (fun x1_17 => [(1, .int x1_17), (2, .int x2_12), (0, .ref (ea E 0))]) dX5_take_143 hl rfl (by rfl) (by decide) rfl hE (fun x1_17 ls hl hE => ?_)
    refine lv_goto (tgt := 88) hx hb dX5_take_146 (by decide) ?_
    exact ih x1_17 σ_16 _ _ _ (lv_sub hl [2, 0] rfl) hP hS hE
def fX5_take_L164 (ke : ST → Option (ST)) : Nat → Int32 → ST → Option (ST)
  | 0, _, _ => none
  | n + 1, x1, σ => (if 4 ≤ x1 then ke  σ else ald (gA σ 1) 200 2 (fun v_22 => ald (gA σ 6) 4 x1 (fun v_23 => ast σ 1 200 ((40 + (4 * v_22)) + x1) v_23 (fun σ_24 => bnd (x1 + 1) (fun x1_25 => fX5_take_L164 ke n x1_25 σ_24)))))
set_option maxHeartbeats 4000000 in
set_option maxRecDepth 100000 in
theorem wX5_take_L164 {p : Program} {l : Launch} {e : Env} {s : State} {m : MethodId} {args : Array Value} {below : List Frame} {meth : Method} {c : Code} {E : EN} (C : zC E mW p s m args meth c cX5_take 3 RX5 none wsL_law) {F : ST} {ke : ST → Option (ST)} (hke : ∀  (σ : ST) (H : Heap) (locs : List Loc) (ls : Array Slot), lv_has ls 3 [(0, .ref (ea E 0))] → va_P (eD E) vwCl (mW E σ) H → va_S (eA E) s.heap H locs → ke  σ = some F → zWv E mW p l e r_X5_take s m args below meth c F H locs (F0 m 199 ls [])) : ∀ (n : Nat) (x1 : Int32) (σ : ST) (H : Heap) (locs : List Loc) (ls : Array Slot), lv_has ls 3 [(0, .ref (ea E 0)), (1, .int x1)] → va_P (eD E) vwCl (mW E σ) H → va_S (eA E) s.heap H locs → fX5_take_L164 ke n x1 σ = some F → zWv E mW p l e r_X5_take s m args below meth c F H locs (F0 m 164 ls []) := by
  obtain ⟨hx, hb, hml, hown, hts, hr, hlk, hK, hD⟩ := id C
  have hwX5 : ∀ w ∈ wsX50, w.before args s = true := fun w h => hts w (inlX5 w h)
  intro n
  induction n with
  | zero => intro x1 σ H locs ls hl hP hS hE; rw [fX5_take_L164] at hE; cases hE
  | succ n ih =>
    intro x1 σ H locs ls hl hP hS hE
    rw [fX5_take_L164] at hE
    refine lv_iload_n hx hb dX5_take_164 rfl (lv_at hl 1 rfl) ?_
    refine lv_iconst (v := 4) hx hb dX5_take_165 (by decide) ?_
    refine z_icmp_ge (tgt := 199) hx hb dX5_take_166 (by decide) hE (fun hE => ?_) (fun hE => ?_)
    · exact hke  σ _ _ _ (lv_sub hl [0] rfl) hP hS hE
    refine lv_aload_n hx hb dX5_take_169 rfl (lv_at hl 0 rfl) ?_
    refine mg_0_1 hx hb hown hwX5 (hts _ u_97) hK hP dX5_take_170 ?_
    refine lv_bipush (v := 40) hx hb dX5_take_173 (by decide) ?_
    refine lv_iconst (v := 4) hx hb dX5_take_175 (by decide) ?_
    refine lv_aload_n hx hb dX5_take_176 rfl (lv_at hl 0 rfl) ?_
    refine mg_0_1 hx hb hown hwX5 (hts _ u_97) hK hP dX5_take_177 ?_
    refine lv_iconst (v := 2) hx hb dX5_take_180 (by decide) ?_
    refine ma_2 hx hb hK hP dX5_take_181 hE (fun v_22 hE => ?_)
    refine lv_imul hx hb dX5_take_182 ?_
    refine lv_iadd hx hb dX5_take_183 ?_
    refine lv_iload_n hx hb dX5_take_184 rfl (lv_at hl 1 rfl) ?_
    refine lv_iadd hx hb dX5_take_185 ?_
    refine lv_aload_n hx hb dX5_take_186 rfl (lv_at hl 0 rfl) ?_
    refine mg_0_11 hx hb hown hwX5 (hts _ u_103) hK hP dX5_take_187 ?_
    refine lv_iload_n hx hb dX5_take_190 rfl (lv_at hl 1 rfl) ?_
    refine ma_7 hx hb hK hP dX5_take_191 hE (fun v_23 hE => ?_)
    refine ms_2 hx hb hK hD hP hS dX5_take_192 hE (fun σ_24 H locs hP hS hE => ?_)
    refine z_iinc hx hb (v := (x1 + 1)) (k := 1) (fun x1_25 => [(1, .int x1_25), (0, .ref (ea E 0))]) dX5_take_193 hl rfl (by rfl) (by decide) rfl hE (fun x1_25 ls hl hE => ?_)
    refine lv_goto (tgt := 164) hx hb dX5_take_196 (by decide) ?_
    exact ih x1_25 σ_24 _ _ _ (lv_sub hl [1, 0] rfl) hP hS hE
def fX5_take   (σ : ST) : Option (ST) :=
  (if (gI σ 4) = 0 then bnd (0 : Int32) (fun x1_1 => fX5_take_L38 (fun σ_6 => ald (gA σ_6 1) 200 0 (fun v_7 => ast σ_6 1 200 0 (v_7 + 1) (fun σ_8 => some σ_8))) FU x1_1 σ) else (if (gI σ 4) = 1 then bnd (0 : Int32) (fun x1_9 => fX5_take_L88 (fun σ_18 => ald (gA σ_18 1) 200 1 (fun v_19 => ast σ_18 1 200 1 (v_19 + 1) (fun σ_20 => some σ_20))) FU x1_9 σ) else (if (gI σ 4) = 2 then bnd (0 : Int32) (fun x1_21 => fX5_take_L164 (fun σ_26 => ald (gA σ_26 1) 200 2 (fun v_27 => ast σ_26 1 200 2 (v_27 + 1) (fun σ_28 => some σ_28))) FU x1_21 σ) else (if (gI σ 4) = 3 then ald (gA σ 6) 4 0 (fun v_29 => ast σ 1 200 3 v_29 (fun σ_30 => ald (gA σ_30 6) 4 1 (fun v_31 => ast σ_30 1 200 4 v_31 (fun σ_32 => some σ_32)))) else ald (gA σ 6) 4 0 (fun v_33 => ast σ 1 200 5 v_33 (fun σ_34 => some σ_34))))))
set_option maxHeartbeats 4000000 in
set_option maxRecDepth 100000 in
theorem wX5_take {p : Program} {l : Launch} {e : Env} {s : State} {m : MethodId} {args : Array Value} {below : List Frame} {meth : Method} {c : Code} {E : EN} (C : zC E mW p s m args meth c cX5_take 3 RX5 none wsL_law) {F : ST}    (σ : ST) (H : Heap) (locs : List Loc) (ls : Array Slot) (hl : lv_has ls 3 [(0, .ref (ea E 0))]) (hP : va_P (eD E) vwCl (mW E σ) H) (hS : va_S (eA E) s.heap H locs) (hE : fX5_take   σ = some F) : zWv E mW p l e r_X5_take s m args below meth c F H locs (F0 m 0 ls []) := by
  obtain ⟨hx, hb, hml, hown, hts, hr, hlk, hK, hD⟩ := id C
  have hwX5 : ∀ w ∈ wsX50, w.before args s = true := fun w h => hts w (inlX5 w h)
  unfold fX5_take at hE
  refine lv_aload_n hx hb dX5_take_0 rfl (lv_at hl 0 rfl) ?_
  refine mg_0_10 hx hb hown hwX5 (hts _ u_356) hK hP dX5_take_1 ?_
  by_cases q0 : (gI σ 4) = 0
  · have hE := (if_pos q0).symm.trans hE
    refine z_tabIn (tgt := 36) hx hb q0 dX5_take_4 (by decide) (by decide) rfl (by decide) ?_
    refine lv_iconst (v := 0) hx hb dX5_take_36 (by decide) ?_
    refine z_istore_n hx hb (fun x1_1 => [(1, .int x1_1), (0, .ref (ea E 0))]) dX5_take_37 rfl hl (by decide) rfl hE (fun x1_1 ls hl hE => ?_)
    refine wX5_take_L38 C ?_ FU x1_1 σ _ _ _ (lv_sub hl [1, 0] rfl) hP hS hE
    intro σ_6 H locs ls hl hP hS hE
    refine lv_aload_n hx hb dX5_take_73 rfl (lv_at hl 0 rfl) ?_
    refine mg_0_1 hx hb hown hwX5 (hts _ u_97) hK hP dX5_take_74 ?_
    refine lv_iconst (v := 0) hx hb dX5_take_77 (by decide) ?_
    refine lv_dup2_11 hx hb dX5_take_78 rfl rfl ?_
    refine ma_2 hx hb hK hP dX5_take_79 hE (fun v_7 hE => ?_)
    refine lv_iconst (v := 1) hx hb dX5_take_80 (by decide) ?_
    refine lv_iadd hx hb dX5_take_81 ?_
    refine ms_2 hx hb hK hD hP hS dX5_take_82 hE (fun σ_8 H locs hP hS hE => ?_)
    refine lv_goto (tgt := 251) hx hb dX5_take_83 (by decide) ?_
    exact z_vret hx hb hr hlk hP hS dX5_take_251 hE
  replace hE := (if_neg q0).symm.trans hE
  by_cases q1 : (gI σ 4) = 1
  · have hE := (if_pos q1).symm.trans hE
    refine z_tabIn (tgt := 86) hx hb q1 dX5_take_4 (by decide) (by decide) rfl (by decide) ?_
    refine lv_iconst (v := 0) hx hb dX5_take_86 (by decide) ?_
    refine z_istore_n hx hb (fun x1_9 => [(1, .int x1_9), (0, .ref (ea E 0))]) dX5_take_87 rfl hl (by decide) rfl hE (fun x1_9 ls hl hE => ?_)
    refine wX5_take_L88 C ?_ FU x1_9 σ _ _ _ (lv_sub hl [1, 0] rfl) hP hS hE
    intro σ_18 H locs ls hl hP hS hE
    refine lv_aload_n hx hb dX5_take_149 rfl (lv_at hl 0 rfl) ?_
    refine mg_0_1 hx hb hown hwX5 (hts _ u_97) hK hP dX5_take_150 ?_
    refine lv_iconst (v := 1) hx hb dX5_take_153 (by decide) ?_
    refine lv_dup2_11 hx hb dX5_take_154 rfl rfl ?_
    refine ma_2 hx hb hK hP dX5_take_155 hE (fun v_19 hE => ?_)
    refine lv_iconst (v := 1) hx hb dX5_take_156 (by decide) ?_
    refine lv_iadd hx hb dX5_take_157 ?_
    refine ms_2 hx hb hK hD hP hS dX5_take_158 hE (fun σ_20 H locs hP hS hE => ?_)
    refine lv_goto (tgt := 251) hx hb dX5_take_159 (by decide) ?_
    exact z_vret hx hb hr hlk hP hS dX5_take_251 hE
  replace hE := (if_neg q1).symm.trans hE
  by_cases q2 : (gI σ 4) = 2
  · have hE := (if_pos q2).symm.trans hE
    refine z_tabIn (tgt := 162) hx hb q2 dX5_take_4 (by decide) (by decide) rfl (by decide) ?_
    refine lv_iconst (v := 0) hx hb dX5_take_162 (by decide) ?_
    refine z_istore_n hx hb (fun x1_21 => [(1, .int x1_21), (0, .ref (ea E 0))]) dX5_take_163 rfl hl (by decide) rfl hE (fun x1_21 ls hl hE => ?_)
    refine wX5_take_L164 C ?_ FU x1_21 σ _ _ _ (lv_sub hl [1, 0] rfl) hP hS hE
    intro σ_26 H locs ls hl hP hS hE
    refine lv_aload_n hx hb dX5_take_199 rfl (lv_at hl 0 rfl) ?_
    refine mg_0_1 hx hb hown hwX5 (hts _ u_97) hK hP dX5_take_200 ?_
    refine lv_iconst (v := 2) hx hb dX5_take_203 (by decide) ?_
    refine lv_dup2_11 hx hb dX5_take_204 rfl rfl ?_
    refine ma_2 hx hb hK hP dX5_take_205 hE (fun v_27 hE => ?_)
    refine lv_iconst (v := 1) hx hb dX5_take_206 (by decide) ?_
    refine lv_iadd hx hb dX5_take_207 ?_
    refine ms_2 hx hb hK hD hP hS dX5_take_208 hE (fun σ_28 H locs hP hS hE => ?_)
    refine lv_goto (tgt := 251) hx hb dX5_take_209 (by decide) ?_
    exact z_vret hx hb hr hlk hP hS dX5_take_251 hE
  replace hE := (if_neg q2).symm.trans hE
  by_cases q3 : (gI σ 4) = 3
  · have hE := (if_pos q3).symm.trans hE
    refine z_tabIn (tgt := 212) hx hb q3 dX5_take_4 (by decide) (by decide) rfl (by decide) ?_
    refine lv_aload_n hx hb dX5_take_212 rfl (lv_at hl 0 rfl) ?_
    refine mg_0_1 hx hb hown hwX5 (hts _ u_97) hK hP dX5_take_213 ?_
    refine lv_iconst (v := 3) hx hb dX5_take_216 (by decide) ?_
    refine lv_aload_n hx hb dX5_take_217 rfl (lv_at hl 0 rfl) ?_
    refine mg_0_11 hx hb hown hwX5 (hts _ u_103) hK hP dX5_take_218 ?_
    refine lv_iconst (v := 0) hx hb dX5_take_221 (by decide) ?_
    refine ma_7 hx hb hK hP dX5_take_222 hE (fun v_29 hE => ?_)
    refine ms_2 hx hb hK hD hP hS dX5_take_223 hE (fun σ_30 H locs hP hS hE => ?_)
    refine lv_aload_n hx hb dX5_take_224 rfl (lv_at hl 0 rfl) ?_
    refine mg_0_1 hx hb hown hwX5 (hts _ u_97) hK hP dX5_take_225 ?_
    refine lv_iconst (v := 4) hx hb dX5_take_228 (by decide) ?_
    refine lv_aload_n hx hb dX5_take_229 rfl (lv_at hl 0 rfl) ?_
    refine mg_0_11 hx hb hown hwX5 (hts _ u_103) hK hP dX5_take_230 ?_
    refine lv_iconst (v := 1) hx hb dX5_take_233 (by decide) ?_
    refine ma_7 hx hb hK hP dX5_take_234 hE (fun v_31 hE => ?_)
    refine ms_2 hx hb hK hD hP hS dX5_take_235 hE (fun σ_32 H locs hP hS hE => ?_)
    refine lv_goto (tgt := 251) hx hb dX5_take_236 (by decide) ?_
    exact z_vret hx hb hr hlk hP hS dX5_take_251 hE
  replace hE := (if_neg q3).symm.trans hE
  refine lv_tableOut (tgt := 239) hx hb dX5_take_4 (z_out (fun k h1 h2 h3 => by
      rcases (show k = 0 ∨ k = 1 ∨ k = 2 ∨ k = 3 by omega) with rfl | rfl | rfl | rfl
      · exact z_ne q0 (h3.trans (by decide))
      · exact z_ne q1 (h3.trans (by decide))
      · exact z_ne q2 (h3.trans (by decide))
      · exact z_ne q3 (h3.trans (by decide)))) (by decide) ?_
  refine lv_aload_n hx hb dX5_take_239 rfl (lv_at hl 0 rfl) ?_
  refine mg_0_1 hx hb hown hwX5 (hts _ u_97) hK hP dX5_take_240 ?_
  refine lv_iconst (v := 5) hx hb dX5_take_243 (by decide) ?_
  refine lv_aload_n hx hb dX5_take_244 rfl (lv_at hl 0 rfl) ?_
  refine mg_0_11 hx hb hown hwX5 (hts _ u_103) hK hP dX5_take_245 ?_
  refine lv_iconst (v := 0) hx hb dX5_take_248 (by decide) ?_
  refine ma_7 hx hb hK hP dX5_take_249 hE (fun v_33 hE => ?_)
  refine ms_2 hx hb hK hD hP hS dX5_take_250 hE (fun σ_34 H locs hP hS hE => ?_)
  exact z_vret hx hb hr hlk hP hS dX5_take_251 hE
theorem kX5_take (l : Launch) (E : EN) (hD : ∀ σ, va_D (eA E) (mW E σ))  (σ : ST) (F : ST) (hE : fX5_take  σ = some F) : Met l yX5_take wu_X5_take r_X5_take (zPc E mW [.ref (ea E 0)] σ) (zQv E mW F) 0 0 (eA E) := by
  refine Met.ofW (cc := cX5_take) (maxL := 3) (ret := none) (by decide) rfl ?_
  intro p e s m args below meth c s₁ B hml hv
  obtain ⟨rfl, hP, hK⟩ := hv
  have hl := lv_entry ([.ref (ea E 0)]) (n := 3) (Nat.le_of_ble_eq_true rfl)
  rw [lg_entry_eq]
  generalize (lg_sl ([.ref (ea E 0)]) ++ List.replicate (3 - (lg_sl ([.ref (ea E 0)])).length) Slot.unset).toArray = ls at hl ⊢
  exact wX5_take ⟨B.exec, B.bytes, hml, findClass_of_methodNamed B.named, fun w h => atoms_spec (ws := wu_X5_take) B.pre w (List.mem_cons_of_mem _ h), B.returns, B.notSynchronized, hK, hD⟩  σ s.heap [] ls hl hP va_S.rf hE
def fX5_move_8_2_L2 (ke : ST → Option (ST)) : Nat → Int32 → ST → Option (ST)
  | 0, _, _ => none
  | n + 1, x2, σ => (if 200 ≤ x2 then ke  σ else ald (gA σ 7) 200 x2 (fun v_2 => ast σ 1 200 x2 v_2 (fun σ_3 => bnd (x2 + 1) (fun x2_4 => fX5_move_8_2_L2 ke n x2_4 σ_3))))
set_option maxHeartbeats 4000000 in
set_option maxRecDepth 100000 in
theorem wX5_move_8_2_L2 {p : Program} {l : Launch} {e : Env} {s : State} {m : MethodId} {args : Array Value} {below : List Frame} {meth : Method} {c : Code} {E : EN} (C : zC E mW p s m args meth c cX5_move 3 RX5 none wsL_law) {F : ST} {ke : ST → Option (ST)} (hke : ∀  (σ : ST) (H : Heap) (locs : List Loc) (ls : Array Slot), lv_has ls 3 [] → va_P (eD E) vwCl (mW E σ) H → va_S (eA E) s.heap H locs → ke  σ = some F → zWv E mW p l e r_X5_move s m args below meth c F H locs (F0 m 21 ls [])) : ∀ (n : Nat) (x2 : Int32) (σ : ST) (H : Heap) (locs : List Loc) (ls : Array Slot), lv_has ls 3 [(0, .ref (ea E 8)), (1, .ref (ea E 2)), (2, .int x2)] → va_P (eD E) vwCl (mW E σ) H → va_S (eA E) s.heap H locs → fX5_move_8_2_L2 ke n x2 σ = some F → zWv E mW p l e r_X5_move s m args below meth c F H locs (F0 m 2 ls []) := by
  obtain ⟨hx, hb, hml, hown, hts, hr, hlk, hK, hD⟩ := id C
  intro n
  induction n with
  | zero => intro x2 σ H locs ls hl hP hS hE; rw [fX5_move_8_2_L2] at hE; cases hE
  | succ n ih =>
    intro x2 σ H locs ls hl hP hS hE
    rw [fX5_move_8_2_L2] at hE
    refine lv_iload_n hx hb dX5_move_2 rfl (lv_at hl 2 rfl) ?_
    refine lv_sipush (v := 200) hx hb dX5_move_3 (by decide) ?_
    refine z_icmp_ge (tgt := 21) hx hb dX5_move_6 (by decide) hE (fun hE => ?_) (fun hE => ?_)
    · exact hke  σ _ _ _ (lv_sub hl [] rfl) hP hS hE
    refine lv_aload_n hx hb dX5_move_9 rfl (lv_at hl 1 rfl) ?_
    refine lv_iload_n hx hb dX5_move_10 rfl (lv_at hl 2 rfl) ?_
    refine lv_aload_n hx hb dX5_move_11 rfl (lv_at hl 0 rfl) ?_
    refine lv_iload_n hx hb dX5_move_12 rfl (lv_at hl 2 rfl) ?_
    refine ma_8 hx hb hK hP dX5_move_13 hE (fun v_2 hE => ?_)
    refine ms_2 hx hb hK hD hP hS dX5_move_14 hE (fun σ_3 H locs hP hS hE => ?_)
    refine z_iinc hx hb (v := (x2 + 1)) (k := 2) (fun x2_4 => [(2, .int x2_4), (0, .ref (ea E 8)), (1, .ref (ea E 2))]) dX5_move_15 hl rfl (by rfl) (by decide) rfl hE (fun x2_4 ls hl hE => ?_)
    refine lv_goto (tgt := 2) hx hb dX5_move_18 (by decide) ?_
    exact ih x2_4 σ_3 _ _ _ (lv_sub hl [1, 2, 0] rfl) hP hS hE
def fX5_move_8_2   (σ : ST) : Option (ST) :=
  bnd (0 : Int32) (fun x2_1 => fX5_move_8_2_L2 (fun σ_5 => some σ_5) FU x2_1 σ)
set_option maxHeartbeats 4000000 in
set_option maxRecDepth 100000 in
theorem wX5_move_8_2 {p : Program} {l : Launch} {e : Env} {s : State} {m : MethodId} {args : Array Value} {below : List Frame} {meth : Method} {c : Code} {E : EN} (C : zC E mW p s m args meth c cX5_move 3 RX5 none wsL_law) {F : ST}    (σ : ST) (H : Heap) (locs : List Loc) (ls : Array Slot) (hl : lv_has ls 3 [(0, .ref (ea E 8)), (1, .ref (ea E 2))]) (hP : va_P (eD E) vwCl (mW E σ) H) (hS : va_S (eA E) s.heap H locs) (hE : fX5_move_8_2   σ = some F) : zWv E mW p l e r_X5_move s m args below meth c F H locs (F0 m 0 ls []) := by
  obtain ⟨hx, hb, hml, hown, hts, hr, hlk, hK, hD⟩ := id C
  unfold fX5_move_8_2 at hE
  refine lv_iconst (v := 0) hx hb dX5_move_0 (by decide) ?_
  refine z_istore_n hx hb (fun x2_1 => [(2, .int x2_1), (0, .ref (ea E 8)), (1, .ref (ea E 2))]) dX5_move_1 rfl hl (by decide) rfl hE (fun x2_1 ls hl hE => ?_)
  refine wX5_move_8_2_L2 C ?_ FU x2_1 σ _ _ _ (lv_sub hl [1, 2, 0] rfl) hP hS hE
  intro σ_5 H locs ls hl hP hS hE
  exact z_vret hx hb hr hlk hP hS dX5_move_21 hE
theorem kX5_move_8_2 (l : Launch) (E : EN) (hD : ∀ σ, va_D (eA E) (mW E σ))  (σ : ST) (F : ST) (hE : fX5_move_8_2  σ = some F) : Met l yX5_move wu_X5_move r_X5_move (zPc E mW [.ref (ea E 8), .ref (ea E 2)] σ) (zQv E mW F) 0 0 (eA E) := by
  refine Met.ofW (cc := cX5_move) (maxL := 3) (ret := none) (by decide) rfl ?_
  intro p e s m args below meth c s₁ B hml hv
  obtain ⟨rfl, hP, hK⟩ := hv
  have hl := lv_entry ([.ref (ea E 8), .ref (ea E 2)]) (n := 3) (Nat.le_of_ble_eq_true rfl)
  rw [lg_entry_eq]
  generalize (lg_sl ([.ref (ea E 8), .ref (ea E 2)]) ++ List.replicate (3 - (lg_sl ([.ref (ea E 8), .ref (ea E 2)])).length) Slot.unset).toArray = ls at hl ⊢
  exact wX5_move_8_2 ⟨B.exec, B.bytes, hml, findClass_of_methodNamed B.named, fun w h => atoms_spec (ws := wu_X5_move) B.pre w (List.mem_cons_of_mem _ h), B.returns, B.notSynchronized, hK, hD⟩  σ s.heap [] ls hl hP va_S.rf hE
