def fX4_tellTown   (σ : ST) : Option (Int32 × ST) :=
  cali (fX1_firstMisfit σ) (fun r_2 σ_1 => bnd (r_2 : Int32) (fun x1_3 => (if x1_3 < 0 then calv (fX2_becomeLike_6_4 σ_1) (fun σ_4 => cali (fX1_firstWrongStatement_6 σ_4) (fun r_6 σ_5 => bnd (r_6 : Int32) (fun x2_7 => (if x2_7 < 0 then calv (fX2_becomeLike_4_6 σ_5) (fun σ_8 => calv (fX0_measure_4 σ_8) (fun σ_9 => cali (fX1_statements σ_9) (fun r_11 σ_10 => some (r_11, σ_10)))) else some (((-2000) - x2_7), σ_5))))) else some (((-1000) - x1_3), σ_1))))
set_option maxHeartbeats 4000000 in
set_option maxRecDepth 100000 in
theorem wX4_tellTown {p : Program} {l : Launch} {e : Env} {s : State} {m : MethodId} {args : Array Value} {below : List Frame} {meth : Method} {c : Code} {E : EN} (C : zC E xW p s m args meth c cX4_tellTown 3 RX4 (some .int) wsL_law) {F : Int32 × ST}    (σ : ST) (H : Heap) (locs : List Loc) (ls : Array Slot) (hl : lv_has ls 3 [(0, .ref (ea E 0))]) (hP : va_P (eD E) vwCl (xW E σ) H) (hS : va_S (eA E) s.heap H locs) (hE : fX4_tellTown   σ = some F) : zWi E xW p l e r_X4_tellTown s m args below meth c F H locs (F0 m 0 ls []) := by
  obtain ⟨hx, hb, hml, hown, hts, hr, hlk, hK, hD⟩ := id C
  have hwX4 : ∀ w ∈ wsX40, w.before args s = true := fun w h => hts w (inlX4 w h)
  unfold fX4_tellTown at hE
  refine lv_aload_n hx hb dX4_tellTown_0 rfl (lv_at hl 0 rfl) ?_
  refine xg_0_5 hx hb hown hwX4 (hts _ u_28) hK hP dX4_tellTown_1 ?_
  refine z_goi (wf := xW) hS hE (fun F1 h1 => (va_runV (As := []) (rest := []) ⟨hx, hb, hml, hown, hts⟩ (kX1_firstMisfit l E hD  σ F1 h1) (cwV 0 hts (gU_V u_143 u_144 u_145 u_27 u_146) rfl rfl rfl q_X1_firstMisfit ⟨Nat.le_of_ble_eq_true rfl, Nat.le_of_ble_eq_true rfl⟩) (z_preV hK hP hS (ci := 1) (q0 := 3) rfl rfl rfl) rfl rfl hl.1 rfl (lv_room (Nat.le_of_ble_eq_true rfl)) dX4_tellTown_4 ⟨Nat.le_of_ble_eq_true rfl, Nat.le_of_ble_eq_true rfl⟩)) (fun r_2 σ_1 H locs hP hS hE => ?_)
  refine z_istore_n hx hb (fun x1_3 => [(1, .int x1_3), (0, .ref (ea E 0))]) dX4_tellTown_7 rfl hl (by decide) rfl hE (fun x1_3 ls hl hE => ?_)
  refine lv_iload_n hx hb dX4_tellTown_8 rfl (lv_at hl 0 rfl) ?_
  refine z_if_lt (tgt := 18) hx hb dX4_tellTown_9 (by decide) hE (fun hE => ?_) (fun hE => ?_)
  · refine lv_aload_n hx hb dX4_tellTown_18 rfl (lv_at hl 1 rfl) ?_
    refine xg_0_4 hx hb hown hwX4 (hts _ u_24) hK hP dX4_tellTown_19 ?_
    refine lv_aload_n hx hb dX4_tellTown_22 rfl (lv_at hl 1 rfl) ?_
    refine xg_0_1 hx hb hown hwX4 (hts _ u_17) hK hP dX4_tellTown_23 ?_
    refine z_gov (wf := xW) hS hE (fun F1 h1 => (va_runV (As := [.ref (ea E 4)]) (rest := []) ⟨hx, hb, hml, hown, hts⟩ (kX2_becomeLike_6_4 l E hD  σ_1 F1 h1) (cwV 1 hts (gU_V u_267 u_268 u_269 u_22 u_270) rfl rfl rfl q_X2_becomeLike ⟨Nat.le_of_ble_eq_true rfl, Nat.le_of_ble_eq_true rfl⟩) (z_preV hK hP hS (ci := 2) (q0 := 6) rfl rfl rfl) rfl rfl hl.1 rfl (lv_room (Nat.le_of_ble_eq_true rfl)) dX4_tellTown_26 ⟨Nat.le_of_ble_eq_true rfl, Nat.le_of_ble_eq_true rfl⟩)) (fun σ_4 H locs hP hS hE => ?_)
    refine lv_aload_n hx hb dX4_tellTown_29 rfl (lv_at hl 1 rfl) ?_
    refine xg_0_5 hx hb hown hwX4 (hts _ u_28) hK hP dX4_tellTown_30 ?_
    refine lv_aload_n hx hb dX4_tellTown_33 rfl (lv_at hl 1 rfl) ?_
    refine xg_0_4 hx hb hown hwX4 (hts _ u_24) hK hP dX4_tellTown_34 ?_
    refine z_goi (wf := xW) hS hE (fun F1 h1 => (va_runV (As := [.ref (ea E 6)]) (rest := []) ⟨hx, hb, hml, hown, hts⟩ (kX1_firstWrongStatement_6 l E hD  σ_4 F1 h1) (cwV 1 hts (gU_V u_275 u_276 u_277 u_27 u_278) rfl rfl rfl q_X1_firstWrongStatement ⟨Nat.le_of_ble_eq_true rfl, Nat.le_of_ble_eq_true rfl⟩) (z_preV hK hP hS (ci := 1) (q0 := 3) rfl rfl rfl) rfl rfl hl.1 rfl (lv_room (Nat.le_of_ble_eq_true rfl)) dX4_tellTown_37 ⟨Nat.le_of_ble_eq_true rfl, Nat.le_of_ble_eq_true rfl⟩)) (fun r_6 σ_5 H locs hP hS hE => ?_)
    refine z_istore_n hx hb (fun x2_7 => [(2, .int x2_7), (1, .int x1_3), (0, .ref (ea E 0))]) dX4_tellTown_40 rfl hl (by decide) rfl hE (fun x2_7 ls hl hE => ?_)
    refine lv_iload_n hx hb dX4_tellTown_41 rfl (lv_at hl 0 rfl) ?_
    refine z_if_lt (tgt := 51) hx hb dX4_tellTown_42 (by decide) hE (fun hE => ?_) (fun hE => ?_)
    · refine lv_aload_n hx hb dX4_tellTown_51 rfl (lv_at hl 2 rfl) ?_
      refine xg_0_1 hx hb hown hwX4 (hts _ u_17) hK hP dX4_tellTown_52 ?_
      refine lv_aload_n hx hb dX4_tellTown_55 rfl (lv_at hl 2 rfl) ?_
      refine xg_0_4 hx hb hown hwX4 (hts _ u_24) hK hP dX4_tellTown_56 ?_
      refine z_gov (wf := xW) hS hE (fun F1 h1 => (va_runV (As := [.ref (ea E 6)]) (rest := []) ⟨hx, hb, hml, hown, hts⟩ (kX2_becomeLike_4_6 l E hD  σ_5 F1 h1) (cwV 1 hts (gU_V u_267 u_268 u_269 u_22 u_270) rfl rfl rfl q_X2_becomeLike ⟨Nat.le_of_ble_eq_true rfl, Nat.le_of_ble_eq_true rfl⟩) (z_preV hK hP hS (ci := 2) (q0 := 4) rfl rfl rfl) rfl rfl hl.1 rfl (lv_room (Nat.le_of_ble_eq_true rfl)) dX4_tellTown_59 ⟨Nat.le_of_ble_eq_true rfl, Nat.le_of_ble_eq_true rfl⟩)) (fun σ_8 H locs hP hS hE => ?_)
      refine lv_aload_n hx hb dX4_tellTown_62 rfl (lv_at hl 2 rfl) ?_
      refine xg_0_2 hx hb hown hwX4 (hts _ u_19) hK hP dX4_tellTown_63 ?_
      refine lv_aload_n hx hb dX4_tellTown_66 rfl (lv_at hl 2 rfl) ?_
      refine xg_0_1 hx hb hown hwX4 (hts _ u_17) hK hP dX4_tellTown_67 ?_
      refine z_gov (wf := xW) hS hE (fun F1 h1 => (va_runV (As := [.ref (ea E 4)]) (rest := []) ⟨hx, hb, hml, hown, hts⟩ (kX0_measure_4 l E hD  σ_8 F1 h1) (cwV 1 hts (gU_V u_315 u_316 u_317 u_43 u_318) rfl rfl rfl q_X0_measure ⟨Nat.le_of_ble_eq_true rfl, Nat.le_of_ble_eq_true rfl⟩) (z_preV hK hP hS (ci := 0) (q0 := 2) rfl rfl rfl) rfl rfl hl.1 rfl (lv_room (Nat.le_of_ble_eq_true rfl)) dX4_tellTown_70 ⟨Nat.le_of_ble_eq_true rfl, Nat.le_of_ble_eq_true rfl⟩)) (fun σ_9 H locs hP hS hE => ?_)
      refine lv_aload_n hx hb dX4_tellTown_73 rfl (lv_at hl 2 rfl) ?_
      refine xg_0_5 hx hb hown hwX4 (hts _ u_28) hK hP dX4_tellTown_74 ?_
      refine z_goi (wf := xW) hS hE (fun F1 h1 => (va_runV (As := []) (rest := []) ⟨hx, hb, hml, hown, hts⟩ (kX1_statements l E hD  σ_9 F1 h1) (cwV 0 hts (gU_V u_338 u_339 u_340 u_27 u_341) rfl rfl rfl q_X1_statements ⟨Nat.le_of_ble_eq_true rfl, Nat.le_of_ble_eq_true rfl⟩) (z_preV hK hP hS (ci := 1) (q0 := 3) rfl rfl rfl) rfl rfl hl.1 rfl (lv_room (Nat.le_of_ble_eq_true rfl)) dX4_tellTown_77 ⟨Nat.le_of_ble_eq_true rfl, Nat.le_of_ble_eq_true rfl⟩)) (fun r_11 σ_10 H locs hP hS hE => ?_)
      exact z_iret hx hb hr hlk hP hS dX4_tellTown_80 hE
    refine lv_sipush (v := -2000) hx hb dX4_tellTown_45 (by decide) ?_
    refine lv_iload_n hx hb dX4_tellTown_48 rfl (lv_at hl 0 rfl) ?_
    refine lv_isub hx hb dX4_tellTown_49 ?_
    exact z_iret hx hb hr hlk hP hS dX4_tellTown_50 hE
  refine lv_sipush (v := -1000) hx hb dX4_tellTown_12 (by decide) ?_
  refine lv_iload_n hx hb dX4_tellTown_15 rfl (lv_at hl 0 rfl) ?_
  refine lv_isub hx hb dX4_tellTown_16 ?_
  exact z_iret hx hb hr hlk hP hS dX4_tellTown_17 hE
theorem kX4_tellTown (l : Launch) (E : EN) (hD : ∀ σ, va_D (eA E) (xW E σ))  (σ : ST) (F : Int32 × ST) (hE : fX4_tellTown  σ = some F) : Met l yX4_tellTown wu_X4_tellTown r_X4_tellTown (zPc E xW [.ref (ea E 0)] σ) (zQi E xW F) 0 0 (eA E) := by
  refine Met.ofW (cc := cX4_tellTown) (maxL := 3) (ret := (some .int)) (by decide) rfl ?_
  intro p e s m args below meth c s₁ B hml hv
  obtain ⟨rfl, hP, hK⟩ := hv
  have hl := lv_entry ([.ref (ea E 0)]) (n := 3) (Nat.le_of_ble_eq_true rfl)
  rw [lg_entry_eq]
  generalize (lg_sl ([.ref (ea E 0)]) ++ List.replicate (3 - (lg_sl ([.ref (ea E 0)])).length) Slot.unset).toArray = ls at hl ⊢
  exact wX4_tellTown ⟨B.exec, B.bytes, hml, findClass_of_methodNamed B.named, fun w h => atoms_spec (ws := wu_X4_tellTown) B.pre w (List.mem_cons_of_mem _ h), B.returns, B.notSynchronized, hK, hD⟩  σ s.heap [] ls hl hP va_S.rf hE
def fX4_town   (σ : ST) : Option (Int32 × ST) :=
  cali (fX4_tellTown σ) (fun r_2 σ_1 => bnd (r_2 : Int32) (fun x1_3 => bnd (sI σ_1 2 0) (fun σ_4 => some (x1_3, σ_4))))
set_option maxHeartbeats 4000000 in
set_option maxRecDepth 100000 in
theorem wX4_town {p : Program} {l : Launch} {e : Env} {s : State} {m : MethodId} {args : Array Value} {below : List Frame} {meth : Method} {c : Code} {E : EN} (C : zC E xW p s m args meth c cX4_town 2 RX4 (some .int) wsL_law) {F : Int32 × ST}    (σ : ST) (H : Heap) (locs : List Loc) (ls : Array Slot) (hl : lv_has ls 2 [(0, .ref (ea E 0))]) (hP : va_P (eD E) vwCl (xW E σ) H) (hS : va_S (eA E) s.heap H locs) (hE : fX4_town   σ = some F) : zWi E xW p l e r_X4_town s m args below meth c F H locs (F0 m 0 ls []) := by
  obtain ⟨hx, hb, hml, hown, hts, hr, hlk, hK, hD⟩ := id C
  have hwX1 : ∀ w ∈ wsX10, w.before args s = true := fun w h => hts w (inlX1 w h)
  have hwX4 : ∀ w ∈ wsX40, w.before args s = true := fun w h => hts w (inlX4 w h)
  unfold fX4_town at hE
  refine lv_aload_n hx hb dX4_town_0 rfl (lv_at hl 0 rfl) ?_
  refine z_goi (wf := xW) hS hE (fun F1 h1 => (va_runV (As := []) (rest := []) ⟨hx, hb, hml, hown, hts⟩ (kX4_tellTown l E hD  σ F1 h1) (cwV 0 hts (gU_V u_139 u_140 u_141 u_2 u_142) rfl rfl rfl q_X4_tellTown ⟨Nat.le_of_ble_eq_true rfl, Nat.le_of_ble_eq_true rfl⟩) (z_preV hK hP hS (ci := 4) (q0 := 0) rfl rfl rfl) rfl rfl hl.1 rfl (lv_room (Nat.le_of_ble_eq_true rfl)) dX4_town_1 ⟨Nat.le_of_ble_eq_true rfl, Nat.le_of_ble_eq_true rfl⟩)) (fun r_2 σ_1 H locs hP hS hE => ?_)
  refine z_istore_n hx hb (fun x1_3 => [(1, .int x1_3), (0, .ref (ea E 0))]) dX4_town_4 rfl hl (by decide) rfl hE (fun x1_3 ls hl hE => ?_)
  refine lv_aload_n hx hb dX4_town_5 rfl (lv_at hl 1 rfl) ?_
  refine xg_0_5 hx hb hown hwX4 (hts _ u_28) hK hP dX4_town_6 ?_
  refine lv_iconst (v := 0) hx hb dX4_town_9 (by decide) ?_
  refine xp_3_1 hx hb hown hwX1 (hts _ u_117) hK hD hP hS dX4_town_10 hE (fun σ_4 H locs hP hS hE => ?_)
  refine lv_iload_n hx hb dX4_town_13 rfl (lv_at hl 0 rfl) ?_
  exact z_iret hx hb hr hlk hP hS dX4_town_14 hE
theorem kX4_town (l : Launch) (E : EN) (hD : ∀ σ, va_D (eA E) (xW E σ))  (σ : ST) (F : Int32 × ST) (hE : fX4_town  σ = some F) : Met l yX4_town wu_X4_town r_X4_town (zPc E xW [.ref (ea E 0)] σ) (zQi E xW F) 0 0 (eA E) := by
  refine Met.ofW (cc := cX4_town) (maxL := 2) (ret := (some .int)) (by decide) rfl ?_
  intro p e s m args below meth c s₁ B hml hv
  obtain ⟨rfl, hP, hK⟩ := hv
  have hl := lv_entry ([.ref (ea E 0)]) (n := 2) (Nat.le_of_ble_eq_true rfl)
  rw [lg_entry_eq]
  generalize (lg_sl ([.ref (ea E 0)]) ++ List.replicate (2 - (lg_sl ([.ref (ea E 0)])).length) Slot.unset).toArray = ls at hl ⊢
  exact wX4_town ⟨B.exec, B.bytes, hml, findClass_of_methodNamed B.named, fun w h => atoms_spec (ws := wu_X4_town) B.pre w (List.mem_cons_of_mem _ h), B.returns, B.notSynchronized, hK, hD⟩  σ s.heap [] ls hl hP va_S.rf hE
def fX4_isPlace  (x1 : Int32) (σ : ST) : Option (Int32 × ST) :=
  (if x1 < 0 then some (0, σ) else (if (gI σ 3) ≤ x1 then some (0, σ) else some (1, σ)))
set_option maxHeartbeats 4000000 in
set_option maxRecDepth 100000 in
theorem wX4_isPlace {p : Program} {l : Launch} {e : Env} {s : State} {m : MethodId} {args : Array Value} {below : List Frame} {meth : Method} {c : Code} {E : EN} (C : zC E xW p s m args meth c cX4_isPlace 2 RX4 (some .boolean) wsL_law) {F : Int32 × ST}   (x1 : Int32) (σ : ST) (H : Heap) (locs : List Loc) (ls : Array Slot) (hl : lv_has ls 2 [(0, .ref (ea E 0)), (1, .int x1)]) (hP : va_P (eD E) vwCl (xW E σ) H) (hS : va_S (eA E) s.heap H locs) (hE : fX4_isPlace  x1 σ = some F) : zWi E xW p l e r_X4_isPlace s m args below meth c F H locs (F0 m 0 ls []) := by
  obtain ⟨hx, hb, hml, hown, hts, hr, hlk, hK, hD⟩ := id C
  have hwX2 : ∀ w ∈ wsX20, w.before args s = true := fun w h => hts w (inlX2 w h)
  have hwX4 : ∀ w ∈ wsX40, w.before args s = true := fun w h => hts w (inlX4 w h)
  unfold fX4_isPlace at hE
  refine lv_iload_n hx hb dX4_isPlace_0 rfl (lv_at hl 1 rfl) ?_
  refine z_if_lt (tgt := 19) hx hb dX4_isPlace_1 (by decide) hE (fun hE => ?_) (fun hE => ?_)
  · refine lv_iconst (v := 0) hx hb dX4_isPlace_19 (by decide) ?_
    exact z_zret hx hb hr hlk rfl hP hS dX4_isPlace_20 hE
  refine lv_iload_n hx hb dX4_isPlace_4 rfl (lv_at hl 1 rfl) ?_
  refine lv_aload_n hx hb dX4_isPlace_5 rfl (lv_at hl 0 rfl) ?_
  refine xg_0_1 hx hb hown hwX4 (hts _ u_17) hK hP dX4_isPlace_6 ?_
  refine xg_4_11 hx hb hown hwX2 (hts _ u_387) hK hP dX4_isPlace_9 ?_
  refine z_icmp_ge (tgt := 19) hx hb dX4_isPlace_12 (by decide) hE (fun hE => ?_) (fun hE => ?_)
  · refine lv_iconst (v := 0) hx hb dX4_isPlace_19 (by decide) ?_
    exact z_zret hx hb hr hlk rfl hP hS dX4_isPlace_20 hE
  refine lv_iconst (v := 1) hx hb dX4_isPlace_15 (by decide) ?_
  refine lv_goto (tgt := 20) hx hb dX4_isPlace_16 (by decide) ?_
  exact z_zret hx hb hr hlk rfl hP hS dX4_isPlace_20 hE
theorem kX4_isPlace (l : Launch) (E : EN) (hD : ∀ σ, va_D (eA E) (xW E σ)) (x1 : Int32) (σ : ST) (F : Int32 × ST) (hE : fX4_isPlace x1 σ = some F) : Met l yX4_isPlace wu_X4_isPlace r_X4_isPlace (zPc E xW [.ref (ea E 0), .int x1] σ) (zQi E xW F) 0 0 (eA E) := by
  refine Met.ofW (cc := cX4_isPlace) (maxL := 2) (ret := (some .boolean)) (by decide) rfl ?_
  intro p e s m args below meth c s₁ B hml hv
  obtain ⟨rfl, hP, hK⟩ := hv
  have hl := lv_entry ([.ref (ea E 0), .int x1]) (n := 2) (Nat.le_of_ble_eq_true rfl)
  rw [lg_entry_eq]
  generalize (lg_sl ([.ref (ea E 0), .int x1]) ++ List.replicate (2 - (lg_sl ([.ref (ea E 0), .int x1])).length) Slot.unset).toArray = ls at hl ⊢
  exact wX4_isPlace ⟨B.exec, B.bytes, hml, findClass_of_methodNamed B.named, fun w h => atoms_spec (ws := wu_X4_isPlace) B.pre w (List.mem_cons_of_mem _ h), B.returns, B.notSynchronized, hK, hD⟩ x1 σ s.heap [] ls hl hP va_S.rf hE
def fX2_startsWith_4  (x1 : Int32) (x2 : Int32) (σ : ST) : Option (Int32 × ST) :=
  ald (gA σ 7) 8 x1 (fun v_1 => bnd ((jmin 10 (2 * v_1)) : Int32) (fun x3_2 => bnd ((jmax 0 (x3_2 - 2)) : Int32) (fun x4_3 => bnd ((jmin 10 (x3_2 + 1)) : Int32) (fun x5_4 => ald (gA σ 6) 8 x1 (fun v_5 => (if v_5 = 1 then some (x4_3, σ) else (if v_5 = 2 then some (x5_4, σ) else (if v_5 = 3 then ald (gA σ 7) 8 x1 (fun v_6 => (if v_6 ≤ 0 then some (x5_4, σ) else some (10, σ))) else (if v_5 = 4 then dvi x4_3 2 (fun v_7 => some (v_7, σ)) else (if v_5 = 5 then some ((jmax 0 (x5_4 - (3 * (jmax 0 (2 - x2))))), σ) else some (x3_2, σ)))))))))))
set_option maxHeartbeats 4000000 in
set_option maxRecDepth 100000 in
theorem wX2_startsWith_4 {p : Program} {l : Launch} {e : Env} {s : State} {m : MethodId} {args : Array Value} {below : List Frame} {meth : Method} {c : Code} {E : EN} (C : zC E xW p s m args meth c cX2_startsWith 6 RX2 (some .int) wsL_law) {F : Int32 × ST}   (x1 : Int32) (x2 : Int32) (σ : ST) (H : Heap) (locs : List Loc) (ls : Array Slot) (hl : lv_has ls 6 [(0, .ref (ea E 4)), (1, .int x1), (2, .int x2)]) (hP : va_P (eD E) vwCl (xW E σ) H) (hS : va_S (eA E) s.heap H locs) (hE : fX2_startsWith_4  x1 x2 σ = some F) : zWi E xW p l e r_X2_startsWith s m args below meth c F H locs (F0 m 0 ls []) := by
  obtain ⟨hx, hb, hml, hown, hts, hr, hlk, hK, hD⟩ := id C
  have hwX2 : ∀ w ∈ wsX20, w.before args s = true := fun w h => hts w (inlX2 w h)
  unfold fX2_startsWith_4 at hE
  refine lv_bipush (v := 10) hx hb dX2_startsWith_0 (by decide) ?_
  refine lv_iconst (v := 2) hx hb dX2_startsWith_2 (by decide) ?_
  refine lv_aload_n hx hb dX2_startsWith_3 rfl (lv_at hl 0 rfl) ?_
  refine xg_4_1 hx hb hown hwX2 (hts _ u_63) hK hP dX2_startsWith_4 ?_
  refine lv_iload_n hx hb dX2_startsWith_7 rfl (lv_at hl 1 rfl) ?_
  refine xa_14 hx hb hK hP dX2_startsWith_8 hE (fun v_1 hE => ?_)
  refine lv_imul hx hb dX2_startsWith_9 ?_
  refine va_mmin hx hb (hml.trans hl.1.symm) hown (hts _ u_396) (hts _ u_223) (hts _ u_220) (hts _ u_224) (Nat.le_of_ble_eq_true rfl) (Nat.le_of_ble_eq_true rfl) (Nat.zero_le _) (Nat.zero_le _) dX2_startsWith_10 ?_
  refine W.eq (g2 := F0 m 13 ls [.int (jmin 10 (2 * v_1))]) rfl ?_
  refine z_istore_n hx hb (fun x3_2 => [(3, .int x3_2), (0, .ref (ea E 4)), (1, .int x1), (2, .int x2)]) dX2_startsWith_13 rfl hl (by decide) rfl hE (fun x3_2 ls hl hE => ?_)
  refine lv_iconst (v := 0) hx hb dX2_startsWith_14 (by decide) ?_
  refine lv_iload_n hx hb dX2_startsWith_15 rfl (lv_at hl 0 rfl) ?_
  refine lv_iconst (v := 2) hx hb dX2_startsWith_16 (by decide) ?_
  refine lv_isub hx hb dX2_startsWith_17 ?_
  refine va_mmax hx hb (hml.trans hl.1.symm) hown (hts _ u_397) (hts _ u_219) (hts _ u_220) (hts _ u_221) (Nat.le_of_ble_eq_true rfl) (Nat.le_of_ble_eq_true rfl) (Nat.zero_le _) (Nat.zero_le _) dX2_startsWith_18 ?_
  refine W.eq (g2 := F0 m 21 ls [.int (jmax 0 (x3_2 - 2))]) rfl ?_
  refine z_istore hx hb (fun x4_3 => [(4, .int x4_3), (3, .int x3_2), (0, .ref (ea E 4)), (1, .int x1), (2, .int x2)]) dX2_startsWith_21 hl (by decide) rfl hE (fun x4_3 ls hl hE => ?_)
  refine lv_bipush (v := 10) hx hb dX2_startsWith_23 (by decide) ?_
  refine lv_iload_n hx hb dX2_startsWith_25 rfl (lv_at hl 1 rfl) ?_
  refine lv_iconst (v := 1) hx hb dX2_startsWith_26 (by decide) ?_
  refine lv_iadd hx hb dX2_startsWith_27 ?_
  refine va_mmin hx hb (hml.trans hl.1.symm) hown (hts _ u_396) (hts _ u_223) (hts _ u_220) (hts _ u_224) (Nat.le_of_ble_eq_true rfl) (Nat.le_of_ble_eq_true rfl) (Nat.zero_le _) (Nat.zero_le _) dX2_startsWith_28 ?_
  refine W.eq (g2 := F0 m 31 ls [.int (jmin 10 (x3_2 + 1))]) rfl ?_
  refine z_istore hx hb (fun x5_4 => [(5, .int x5_4), (4, .int x4_3), (3, .int x3_2), (0, .ref (ea E 4)), (1, .int x1), (2, .int x2)]) dX2_startsWith_31 hl (by decide) rfl hE (fun x5_4 ls hl hE => ?_)
  refine lv_aload_n hx hb dX2_startsWith_33 rfl (lv_at hl 3 rfl) ?_
  refine xg_4_0 hx hb hown hwX2 (hts _ u_62) hK hP dX2_startsWith_34 ?_
  refine lv_iload_n hx hb dX2_startsWith_37 rfl (lv_at hl 4 rfl) ?_
  refine xa_13 hx hb hK hP dX2_startsWith_38 hE (fun v_5 hE => ?_)
  by_cases q1 : v_5 = 1
  · have hE := (if_pos q1).symm.trans hE
    refine z_tabIn (tgt := 72) hx hb q1 dX2_startsWith_39 (by decide) (by decide) rfl (by decide) ?_
    refine lv_iload hx hb dX2_startsWith_72 (lv_at hl 1 rfl) ?_
    exact z_iret hx hb hr hlk hP hS dX2_startsWith_74 hE
  replace hE := (if_neg q1).symm.trans hE
  by_cases q2 : v_5 = 2
  · have hE := (if_pos q2).symm.trans hE
    refine z_tabIn (tgt := 75) hx hb q2 dX2_startsWith_39 (by decide) (by decide) rfl (by decide) ?_
    refine lv_iload hx hb dX2_startsWith_75 (lv_at hl 0 rfl) ?_
    exact z_iret hx hb hr hlk hP hS dX2_startsWith_77 hE
  replace hE := (if_neg q2).symm.trans hE
  by_cases q3 : v_5 = 3
  · have hE := (if_pos q3).symm.trans hE
    refine z_tabIn (tgt := 78) hx hb q3 dX2_startsWith_39 (by decide) (by decide) rfl (by decide) ?_
    refine lv_aload_n hx hb dX2_startsWith_78 rfl (lv_at hl 3 rfl) ?_
    refine xg_4_1 hx hb hown hwX2 (hts _ u_63) hK hP dX2_startsWith_79 ?_
    refine lv_iload_n hx hb dX2_startsWith_82 rfl (lv_at hl 4 rfl) ?_
    refine xa_14 hx hb hK hP dX2_startsWith_83 hE (fun v_6 hE => ?_)
    refine z_if_le (tgt := 92) hx hb dX2_startsWith_84 (by decide) hE (fun hE => ?_) (fun hE => ?_)
    · refine lv_iload hx hb dX2_startsWith_92 (lv_at hl 0 rfl) ?_
      exact z_iret hx hb hr hlk hP hS dX2_startsWith_94 hE
    refine lv_bipush (v := 10) hx hb dX2_startsWith_87 (by decide) ?_
    refine lv_goto (tgt := 94) hx hb dX2_startsWith_89 (by decide) ?_
    exact z_iret hx hb hr hlk hP hS dX2_startsWith_94 hE
  replace hE := (if_neg q3).symm.trans hE
  by_cases q4 : v_5 = 4
  · have hE := (if_pos q4).symm.trans hE
    refine z_tabIn (tgt := 95) hx hb q4 dX2_startsWith_39 (by decide) (by decide) rfl (by decide) ?_
    refine lv_iload hx hb dX2_startsWith_95 (lv_at hl 1 rfl) ?_
    refine lv_iconst (v := 2) hx hb dX2_startsWith_97 (by decide) ?_
    refine z_idiv hx hb dX2_startsWith_98 hE (fun v_7 hE => ?_)
    exact z_iret hx hb hr hlk hP hS dX2_startsWith_99 hE
  replace hE := (if_neg q4).symm.trans hE
  by_cases q5 : v_5 = 5
  · have hE := (if_pos q5).symm.trans hE
    refine z_tabIn (tgt := 100) hx hb q5 dX2_startsWith_39 (by decide) (by decide) rfl (by decide) ?_
    refine lv_iconst (v := 0) hx hb dX2_startsWith_100 (by decide) ?_
    refine lv_iload hx hb dX2_startsWith_101 (lv_at hl 0 rfl) ?_
    refine lv_iconst (v := 3) hx hb dX2_startsWith_103 (by decide) ?_
    refine lv_iconst (v := 0) hx hb dX2_startsWith_104 (by decide) ?_
    refine lv_iconst (v := 2) hx hb dX2_startsWith_105 (by decide) ?_
    refine lv_iload_n hx hb dX2_startsWith_106 rfl (lv_at hl 5 rfl) ?_
    refine lv_isub hx hb dX2_startsWith_107 ?_
    refine va_mmax hx hb (hml.trans hl.1.symm) hown (hts _ u_397) (hts _ u_219) (hts _ u_220) (hts _ u_221) (Nat.le_of_ble_eq_true rfl) (Nat.le_of_ble_eq_true rfl) (Nat.zero_le _) (Nat.zero_le _) dX2_startsWith_108 ?_
    refine W.eq (g2 := F0 m 111 ls [.int (jmax 0 (2 - x2)), .int 3, .int x5_4, .int 0]) rfl ?_
    refine lv_imul hx hb dX2_startsWith_111 ?_
    refine lv_isub hx hb dX2_startsWith_112 ?_
    refine va_mmax hx hb (hml.trans hl.1.symm) hown (hts _ u_397) (hts _ u_219) (hts _ u_220) (hts _ u_221) (Nat.le_of_ble_eq_true rfl) (Nat.le_of_ble_eq_true rfl) (Nat.zero_le _) (Nat.zero_le _) dX2_startsWith_113 ?_
    refine W.eq (g2 := F0 m 116 ls [.int (jmax 0 (x5_4 - (3 * (jmax 0 (2 - x2)))))]) rfl ?_
    exact z_iret hx hb hr hlk hP hS dX2_startsWith_116 hE
  replace hE := (if_neg q5).symm.trans hE
  refine lv_tableOut (tgt := 117) hx hb dX2_startsWith_39 (z_out (fun k h1 h2 h3 => by
      rcases (show k = 1 ∨ k = 2 ∨ k = 3 ∨ k = 4 ∨ k = 5 by omega) with rfl | rfl | rfl | rfl | rfl
      · exact z_ne q1 (h3.trans (by decide))
      · exact z_ne q2 (h3.trans (by decide))
      · exact z_ne q3 (h3.trans (by decide))
      · exact z_ne q4 (h3.trans (by decide))
      · exact z_ne q5 (h3.trans (by decide)))) (by decide) ?_
  refine lv_iload_n hx hb dX2_startsWith_117 rfl (lv_at hl 2 rfl) ?_
  exact z_iret hx hb hr hlk hP hS dX2_startsWith_118 hE
theorem kX2_startsWith_4 (l : Launch) (E : EN) (hD : ∀ σ, va_D (eA E) (xW E σ)) (x1 : Int32) (x2 : Int32) (σ : ST) (F : Int32 × ST) (hE : fX2_startsWith_4 x1 x2 σ = some F) : Met l yX2_startsWith wu_X2_startsWith r_X2_startsWith (zPc E xW [.ref (ea E 4), .int x1, .int x2] σ) (zQi E xW F) 0 0 (eA E) := by
  refine Met.ofW (cc := cX2_startsWith) (maxL := 6) (ret := (some .int)) (by decide) rfl ?_
  intro p e s m args below meth c s₁ B hml hv
  obtain ⟨rfl, hP, hK⟩ := hv
  have hl := lv_entry ([.ref (ea E 4), .int x1, .int x2]) (n := 6) (Nat.le_of_ble_eq_true rfl)
  rw [lg_entry_eq]
  generalize (lg_sl ([.ref (ea E 4), .int x1, .int x2]) ++ List.replicate (6 - (lg_sl ([.ref (ea E 4), .int x1, .int x2])).length) Slot.unset).toArray = ls at hl ⊢
  exact wX2_startsWith_4 ⟨B.exec, B.bytes, hml, findClass_of_methodNamed B.named, fun w h => atoms_spec (ws := wu_X2_startsWith) B.pre w (List.mem_cons_of_mem _ h), B.returns, B.notSynchronized, hK, hD⟩ x1 x2 σ s.heap [] ls hl hP va_S.rf hE
def fX2_startsAt_4  (x1 : Int32) (σ : ST) : Option (Int32 × ST) :=
  ald (gA σ 8) 8 x1 (fun v_1 => cali (fX2_startsWith_4 x1 v_1 σ) (fun r_3 σ_2 => some (r_3, σ_2)))
set_option maxHeartbeats 4000000 in
set_option maxRecDepth 100000 in
theorem wX2_startsAt_4 {p : Program} {l : Launch} {e : Env} {s : State} {m : MethodId} {args : Array Value} {below : List Frame} {meth : Method} {c : Code} {E : EN} (C : zC E xW p s m args meth c cX2_startsAt 2 RX2 (some .int) wsL_law) {F : Int32 × ST}   (x1 : Int32) (σ : ST) (H : Heap) (locs : List Loc) (ls : Array Slot) (hl : lv_has ls 2 [(0, .ref (ea E 4)), (1, .int x1)]) (hP : va_P (eD E) vwCl (xW E σ) H) (hS : va_S (eA E) s.heap H locs) (hE : fX2_startsAt_4  x1 σ = some F) : zWi E xW p l e r_X2_startsAt s m args below meth c F H locs (F0 m 0 ls []) := by
  obtain ⟨hx, hb, hml, hown, hts, hr, hlk, hK, hD⟩ := id C
  have hwX2 : ∀ w ∈ wsX20, w.before args s = true := fun w h => hts w (inlX2 w h)
  unfold fX2_startsAt_4 at hE
  refine lv_aload_n hx hb dX2_startsAt_0 rfl (lv_at hl 0 rfl) ?_
  refine lv_iload_n hx hb dX2_startsAt_1 rfl (lv_at hl 1 rfl) ?_
  refine lv_aload_n hx hb dX2_startsAt_2 rfl (lv_at hl 0 rfl) ?_
  refine xg_4_2 hx hb hown hwX2 (hts _ u_64) hK hP dX2_startsAt_3 ?_
  refine lv_iload_n hx hb dX2_startsAt_6 rfl (lv_at hl 1 rfl) ?_
  refine xa_15 hx hb hK hP dX2_startsAt_7 hE (fun v_1 hE => ?_)
  refine z_goi (wf := xW) hS hE (fun F1 h1 => (va_runV (As := [.int x1, .int v_1]) (rest := []) ⟨hx, hb, hml, hown, hts⟩ (kX2_startsWith_4 l E hD x1 v_1 σ F1 h1) (cwV 2 hts (gU_V u_392 u_393 u_394 u_22 u_395) rfl rfl rfl q_X2_startsWith ⟨Nat.le_of_ble_eq_true rfl, Nat.le_of_ble_eq_true rfl⟩) (z_preV hK hP hS (ci := 2) (q0 := 4) rfl rfl rfl) rfl rfl hl.1 rfl (lv_room (Nat.le_of_ble_eq_true rfl)) dX2_startsAt_8 ⟨Nat.le_of_ble_eq_true rfl, Nat.le_of_ble_eq_true rfl⟩)) (fun r_3 σ_2 H locs hP hS hE => ?_)
  exact z_iret hx hb hr hlk hP hS dX2_startsAt_11 hE
theorem kX2_startsAt_4 (l : Launch) (E : EN) (hD : ∀ σ, va_D (eA E) (xW E σ)) (x1 : Int32) (σ : ST) (F : Int32 × ST) (hE : fX2_startsAt_4 x1 σ = some F) : Met l yX2_startsAt wu_X2_startsAt r_X2_startsAt (zPc E xW [.ref (ea E 4), .int x1] σ) (zQi E xW F) 0 0 (eA E) := by
  refine Met.ofW (cc := cX2_startsAt) (maxL := 2) (ret := (some .int)) (by decide) rfl ?_
  intro p e s m args below meth c s₁ B hml hv
  obtain ⟨rfl, hP, hK⟩ := hv
  have hl := lv_entry ([.ref (ea E 4), .int x1]) (n := 2) (Nat.le_of_ble_eq_true rfl)
  rw [lg_entry_eq]
  generalize (lg_sl ([.ref (ea E 4), .int x1]) ++ List.replicate (2 - (lg_sl ([.ref (ea E 4), .int x1])).length) Slot.unset).toArray = ls at hl ⊢
  exact wX2_startsAt_4 ⟨B.exec, B.bytes, hml, findClass_of_methodNamed B.named, fun w h => atoms_spec (ws := wu_X2_startsAt) B.pre w (List.mem_cons_of_mem _ h), B.returns, B.notSynchronized, hK, hD⟩ x1 σ s.heap [] ls hl hP va_S.rf hE
def fX2_pushedFrom  (x0 : Int32) (x1 : Int32) (σ : ST) : Option (Int32 × ST) :=
  some ((jmin 10 (x0 + (2 * x1))), σ)
set_option maxHeartbeats 4000000 in
set_option maxRecDepth 100000 in
theorem wX2_pushedFrom {p : Program} {l : Launch} {e : Env} {s : State} {m : MethodId} {args : Array Value} {below : List Frame} {meth : Method} {c : Code} {E : EN} (C : zC E xW p s m args meth c cX2_pushedFrom 2 RX2 (some .int) wsL_law) {F : Int32 × ST}   (x0 : Int32) (x1 : Int32) (σ : ST) (H : Heap) (locs : List Loc) (ls : Array Slot) (hl : lv_has ls 2 [(0, .int x0), (1, .int x1)]) (hP : va_P (eD E) vwCl (xW E σ) H) (hS : va_S (eA E) s.heap H locs) (hE : fX2_pushedFrom  x0 x1 σ = some F) : zWi E xW p l e r_X2_pushedFrom s m args below meth c F H locs (F0 m 0 ls []) := by
  obtain ⟨hx, hb, hml, hown, hts, hr, hlk, hK, hD⟩ := id C
  unfold fX2_pushedFrom at hE
  refine lv_bipush (v := 10) hx hb dX2_pushedFrom_0 (by decide) ?_
  refine lv_iload_n hx hb dX2_pushedFrom_2 rfl (lv_at hl 0 rfl) ?_
  refine lv_iconst (v := 2) hx hb dX2_pushedFrom_3 (by decide) ?_
  refine lv_iload_n hx hb dX2_pushedFrom_4 rfl (lv_at hl 1 rfl) ?_
  refine lv_imul hx hb dX2_pushedFrom_5 ?_
  refine lv_iadd hx hb dX2_pushedFrom_6 ?_
  refine va_mmin hx hb (hml.trans hl.1.symm) hown (hts _ u_396) (hts _ u_223) (hts _ u_220) (hts _ u_224) (Nat.le_of_ble_eq_true rfl) (Nat.le_of_ble_eq_true rfl) (Nat.zero_le _) (Nat.zero_le _) dX2_pushedFrom_7 ?_
  refine W.eq (g2 := F0 m 10 ls [.int (jmin 10 (x0 + (2 * x1)))]) rfl ?_
  exact z_iret hx hb hr hlk hP hS dX2_pushedFrom_10 hE
theorem kX2_pushedFrom (l : Launch) (E : EN) (hD : ∀ σ, va_D (eA E) (xW E σ)) (x0 : Int32) (x1 : Int32) (σ : ST) (F : Int32 × ST) (hE : fX2_pushedFrom x0 x1 σ = some F) : Met l yX2_pushedFrom wu_X2_pushedFrom r_X2_pushedFrom (zPc E xW [.int x0, .int x1] σ) (zQi E xW F) 0 0 (eA E) := by
  refine Met.ofW (cc := cX2_pushedFrom) (maxL := 2) (ret := (some .int)) (by decide) rfl ?_
  intro p e s m args below meth c s₁ B hml hv
  obtain ⟨rfl, hP, hK⟩ := hv
  have hl := lv_entry ([.int x0, .int x1]) (n := 2) (Nat.le_of_ble_eq_true rfl)
  rw [lg_entry_eq]
  generalize (lg_sl ([.int x0, .int x1]) ++ List.replicate (2 - (lg_sl ([.int x0, .int x1])).length) Slot.unset).toArray = ls at hl ⊢
  exact wX2_pushedFrom ⟨B.exec, B.bytes, hml, findClass_of_methodNamed B.named, fun w h => atoms_spec (ws := wu_X2_pushedFrom) B.pre w (List.mem_cons_of_mem _ h), B.returns, B.notSynchronized, hK, hD⟩ x0 x1 σ s.heap [] ls hl hP va_S.rf hE
def fX2_pushedAt_4  (x1 : Int32) (σ : ST) : Option (Int32 × ST) :=
  cali (fX2_startsAt_4 x1 σ) (fun r_2 σ_1 => ald (gA σ_1 8) 8 x1 (fun v_3 => cali (fX2_pushedFrom r_2 v_3 σ_1) (fun r_5 σ_4 => some (r_5, σ_4))))
set_option maxHeartbeats 4000000 in
set_option maxRecDepth 100000 in
theorem wX2_pushedAt_4 {p : Program} {l : Launch} {e : Env} {s : State} {m : MethodId} {args : Array Value} {below : List Frame} {meth : Method} {c : Code} {E : EN} (C : zC E xW p s m args meth c cX2_pushedAt 2 RX2 (some .int) wsL_law) {F : Int32 × ST}   (x1 : Int32) (σ : ST) (H : Heap) (locs : List Loc) (ls : Array Slot) (hl : lv_has ls 2 [(0, .ref (ea E 4)), (1, .int x1)]) (hP : va_P (eD E) vwCl (xW E σ) H) (hS : va_S (eA E) s.heap H locs) (hE : fX2_pushedAt_4  x1 σ = some F) : zWi E xW p l e r_X2_pushedAt s m args below meth c F H locs (F0 m 0 ls []) := by
  obtain ⟨hx, hb, hml, hown, hts, hr, hlk, hK, hD⟩ := id C
  have hwX2 : ∀ w ∈ wsX20, w.before args s = true := fun w h => hts w (inlX2 w h)
  unfold fX2_pushedAt_4 at hE
  refine lv_aload_n hx hb dX2_pushedAt_0 rfl (lv_at hl 0 rfl) ?_
  refine lv_iload_n hx hb dX2_pushedAt_1 rfl (lv_at hl 1 rfl) ?_
  refine z_goi (wf := xW) hS hE (fun F1 h1 => (va_runV (As := [.int x1]) (rest := []) ⟨hx, hb, hml, hown, hts⟩ (kX2_startsAt_4 l E hD x1 σ F1 h1) (cwV 1 hts (gU_V u_402 u_389 u_390 u_22 u_391) rfl rfl rfl q_X2_startsAt ⟨Nat.le_of_ble_eq_true rfl, Nat.le_of_ble_eq_true rfl⟩) (z_preV hK hP hS (ci := 2) (q0 := 4) rfl rfl rfl) rfl rfl hl.1 rfl (lv_room (Nat.le_of_ble_eq_true rfl)) dX2_pushedAt_2 ⟨Nat.le_of_ble_eq_true rfl, Nat.le_of_ble_eq_true rfl⟩)) (fun r_2 σ_1 H locs hP hS hE => ?_)
  refine lv_aload_n hx hb dX2_pushedAt_5 rfl (lv_at hl 0 rfl) ?_
  refine xg_4_2 hx hb hown hwX2 (hts _ u_64) hK hP dX2_pushedAt_6 ?_
  refine lv_iload_n hx hb dX2_pushedAt_9 rfl (lv_at hl 1 rfl) ?_
  refine xa_15 hx hb hK hP dX2_pushedAt_10 hE (fun v_3 hE => ?_)
  refine z_goi (wf := xW) hS hE (fun F1 h1 => (va_runS (As := [.int r_2, .int v_3]) (rest := []) ⟨hx, hb, hml, hown, hts⟩ (kX2_pushedFrom l E hD r_2 v_3 σ_1 F1 h1) (va_cwS 2 hts (gU_S u_403 u_404 u_22 u_405) rfl rfl rfl q_X2_pushedFrom ⟨Nat.le_of_ble_eq_true rfl, Nat.le_of_ble_eq_true rfl⟩) (z_preS hK hP hS) rfl rfl hl.1 rfl (lv_room (Nat.le_of_ble_eq_true rfl)) dX2_pushedAt_11 ⟨Nat.le_of_ble_eq_true rfl, Nat.le_of_ble_eq_true rfl⟩)) (fun r_5 σ_4 H locs hP hS hE => ?_)
  exact z_iret hx hb hr hlk hP hS dX2_pushedAt_14 hE
theorem kX2_pushedAt_4 (l : Launch) (E : EN) (hD : ∀ σ, va_D (eA E) (xW E σ)) (x1 : Int32) (σ : ST) (F : Int32 × ST) (hE : fX2_pushedAt_4 x1 σ = some F) : Met l yX2_pushedAt wu_X2_pushedAt r_X2_pushedAt (zPc E xW [.ref (ea E 4), .int x1] σ) (zQi E xW F) 0 0 (eA E) := by
  refine Met.ofW (cc := cX2_pushedAt) (maxL := 2) (ret := (some .int)) (by decide) rfl ?_
  intro p e s m args below meth c s₁ B hml hv
  obtain ⟨rfl, hP, hK⟩ := hv
  have hl := lv_entry ([.ref (ea E 4), .int x1]) (n := 2) (Nat.le_of_ble_eq_true rfl)
  rw [lg_entry_eq]
  generalize (lg_sl ([.ref (ea E 4), .int x1]) ++ List.replicate (2 - (lg_sl ([.ref (ea E 4), .int x1])).length) Slot.unset).toArray = ls at hl ⊢
  exact wX2_pushedAt_4 ⟨B.exec, B.bytes, hml, findClass_of_methodNamed B.named, fun w h => atoms_spec (ws := wu_X2_pushedAt) B.pre w (List.mem_cons_of_mem _ h), B.returns, B.notSynchronized, hK, hD⟩ x1 σ s.heap [] ls hl hP va_S.rf hE
def fX4_place  (x1 : Int32) (x2 : Int32) (σ : ST) : Option (Int32 × ST) :=
  cali (fX4_isPlace x1 σ) (fun r_2 σ_1 => (if r_2 = 0 then cali (fX4_refuse (-1) σ_1) (fun r_13 σ_12 => some (r_13, σ_12)) else (if x2 = 0 then ald (gA σ_1 6) 8 x1 (fun v_3 => some (v_3, σ_1)) else (if x2 = 1 then ald (gA σ_1 7) 8 x1 (fun v_4 => some (v_4, σ_1)) else (if x2 = 2 then ald (gA σ_1 8) 8 x1 (fun v_5 => some (v_5, σ_1)) else (if x2 = 3 then cali (fX2_startsAt_4 x1 σ_1) (fun r_7 σ_6 => some (r_7, σ_6)) else (if x2 = 4 then cali (fX2_pushedAt_4 x1 σ_1) (fun r_9 σ_8 => some (r_9, σ_8)) else cali (fX4_refuse (-2) σ_1) (fun r_11 σ_10 => some (r_11, σ_10)))))))))
set_option maxHeartbeats 4000000 in
set_option maxRecDepth 100000 in
theorem wX4_place {p : Program} {l : Launch} {e : Env} {s : State} {m : MethodId} {args : Array Value} {below : List Frame} {meth : Method} {c : Code} {E : EN} (C : zC E xW p s m args meth c cX4_place 3 RX4 (some .int) wsL_law) {F : Int32 × ST}   (x1 : Int32) (x2 : Int32) (σ : ST) (H : Heap) (locs : List Loc) (ls : Array Slot) (hl : lv_has ls 3 [(0, .ref (ea E 0)), (1, .int x1), (2, .int x2)]) (hP : va_P (eD E) vwCl (xW E σ) H) (hS : va_S (eA E) s.heap H locs) (hE : fX4_place  x1 x2 σ = some F) : zWi E xW p l e r_X4_place s m args below meth c F H locs (F0 m 0 ls []) := by
  obtain ⟨hx, hb, hml, hown, hts, hr, hlk, hK, hD⟩ := id C
  have hwX2 : ∀ w ∈ wsX20, w.before args s = true := fun w h => hts w (inlX2 w h)
  have hwX4 : ∀ w ∈ wsX40, w.before args s = true := fun w h => hts w (inlX4 w h)
  unfold fX4_place at hE
  refine lv_aload_n hx hb dX4_place_0 rfl (lv_at hl 0 rfl) ?_
  refine lv_iload_n hx hb dX4_place_1 rfl (lv_at hl 1 rfl) ?_
  refine z_goi (wf := xW) hS hE (fun F1 h1 => (va_runV (As := [.int x1]) (rest := []) ⟨hx, hb, hml, hown, hts⟩ (kX4_isPlace l E hD x1 σ F1 h1) (cwV 1 hts (gU_V u_383 u_384 u_385 u_2 u_386) rfl rfl rfl q_X4_isPlace ⟨Nat.le_of_ble_eq_true rfl, Nat.le_of_ble_eq_true rfl⟩) (z_preV hK hP hS (ci := 4) (q0 := 0) rfl rfl rfl) rfl rfl hl.1 rfl (lv_room (Nat.le_of_ble_eq_true rfl)) dX4_place_2 ⟨Nat.le_of_ble_eq_true rfl, Nat.le_of_ble_eq_true rfl⟩)) (fun r_2 σ_1 H locs hP hS hE => ?_)
  refine z_if_ne (tgt := 14) hx hb dX4_place_5 (by decide) hE (fun hE => ?_) (fun hE => ?_)
  · refine lv_iload_n hx hb dX4_place_14 rfl (lv_at hl 2 rfl) ?_
    by_cases q0 : x2 = 0
    · have hE := (if_pos q0).symm.trans hE
      refine z_tabIn (tgt := 48) hx hb q0 dX4_place_15 (by decide) (by decide) rfl (by decide) ?_
      refine lv_aload_n hx hb dX4_place_48 rfl (lv_at hl 0 rfl) ?_
      refine xg_0_1 hx hb hown hwX4 (hts _ u_17) hK hP dX4_place_49 ?_
      refine xg_4_0 hx hb hown hwX2 (hts _ u_380) hK hP dX4_place_52 ?_
      refine lv_iload_n hx hb dX4_place_55 rfl (lv_at hl 1 rfl) ?_
      refine xa_13 hx hb hK hP dX4_place_56 hE (fun v_3 hE => ?_)
      exact z_iret hx hb hr hlk hP hS dX4_place_57 hE
    replace hE := (if_neg q0).symm.trans hE
    by_cases q1 : x2 = 1
    · have hE := (if_pos q1).symm.trans hE
      refine z_tabIn (tgt := 58) hx hb q1 dX4_place_15 (by decide) (by decide) rfl (by decide) ?_
      refine lv_aload_n hx hb dX4_place_58 rfl (lv_at hl 0 rfl) ?_
      refine xg_0_1 hx hb hown hwX4 (hts _ u_17) hK hP dX4_place_59 ?_
      refine xg_4_1 hx hb hown hwX2 (hts _ u_381) hK hP dX4_place_62 ?_
      refine lv_iload_n hx hb dX4_place_65 rfl (lv_at hl 1 rfl) ?_
      refine xa_14 hx hb hK hP dX4_place_66 hE (fun v_4 hE => ?_)
      exact z_iret hx hb hr hlk hP hS dX4_place_67 hE
    replace hE := (if_neg q1).symm.trans hE
    by_cases q2 : x2 = 2
    · have hE := (if_pos q2).symm.trans hE
      refine z_tabIn (tgt := 68) hx hb q2 dX4_place_15 (by decide) (by decide) rfl (by decide) ?_
      refine lv_aload_n hx hb dX4_place_68 rfl (lv_at hl 0 rfl) ?_
      refine xg_0_1 hx hb hown hwX4 (hts _ u_17) hK hP dX4_place_69 ?_
      refine xg_4_2 hx hb hown hwX2 (hts _ u_382) hK hP dX4_place_72 ?_
      refine lv_iload_n hx hb dX4_place_75 rfl (lv_at hl 1 rfl) ?_
      refine xa_15 hx hb hK hP dX4_place_76 hE (fun v_5 hE => ?_)
      exact z_iret hx hb hr hlk hP hS dX4_place_77 hE
    replace hE := (if_neg q2).symm.trans hE
    by_cases q3 : x2 = 3
    · have hE := (if_pos q3).symm.trans hE
      refine z_tabIn (tgt := 78) hx hb q3 dX4_place_15 (by decide) (by decide) rfl (by decide) ?_
      refine lv_aload_n hx hb dX4_place_78 rfl (lv_at hl 0 rfl) ?_
      refine xg_0_1 hx hb hown hwX4 (hts _ u_17) hK hP dX4_place_79 ?_
      refine lv_iload_n hx hb dX4_place_82 rfl (lv_at hl 1 rfl) ?_
      refine z_goi (wf := xW) hS hE (fun F1 h1 => (va_runV (As := [.int x1]) (rest := []) ⟨hx, hb, hml, hown, hts⟩ (kX2_startsAt_4 l E hD x1 σ_1 F1 h1) (cwV 1 hts (gU_V u_388 u_389 u_390 u_22 u_391) rfl rfl rfl q_X2_startsAt ⟨Nat.le_of_ble_eq_true rfl, Nat.le_of_ble_eq_true rfl⟩) (z_preV hK hP hS (ci := 2) (q0 := 4) rfl rfl rfl) rfl rfl hl.1 rfl (lv_room (Nat.le_of_ble_eq_true rfl)) dX4_place_83 ⟨Nat.le_of_ble_eq_true rfl, Nat.le_of_ble_eq_true rfl⟩)) (fun r_7 σ_6 H locs hP hS hE => ?_)
      exact z_iret hx hb hr hlk hP hS dX4_place_86 hE
    replace hE := (if_neg q3).symm.trans hE
    by_cases q4 : x2 = 4
    · have hE := (if_pos q4).symm.trans hE
      refine z_tabIn (tgt := 87) hx hb q4 dX4_place_15 (by decide) (by decide) rfl (by decide) ?_
      refine lv_aload_n hx hb dX4_place_87 rfl (lv_at hl 0 rfl) ?_
      refine xg_0_1 hx hb hown hwX4 (hts _ u_17) hK hP dX4_place_88 ?_
      refine lv_iload_n hx hb dX4_place_91 rfl (lv_at hl 1 rfl) ?_
      refine z_goi (wf := xW) hS hE (fun F1 h1 => (va_runV (As := [.int x1]) (rest := []) ⟨hx, hb, hml, hown, hts⟩ (kX2_pushedAt_4 l E hD x1 σ_1 F1 h1) (cwV 1 hts (gU_V u_398 u_399 u_400 u_22 u_401) rfl rfl rfl q_X2_pushedAt ⟨Nat.le_of_ble_eq_true rfl, Nat.le_of_ble_eq_true rfl⟩) (z_preV hK hP hS (ci := 2) (q0 := 4) rfl rfl rfl) rfl rfl hl.1 rfl (lv_room (Nat.le_of_ble_eq_true rfl)) dX4_place_92 ⟨Nat.le_of_ble_eq_true rfl, Nat.le_of_ble_eq_true rfl⟩)) (fun r_9 σ_8 H locs hP hS hE => ?_)
      exact z_iret hx hb hr hlk hP hS dX4_place_95 hE
    replace hE := (if_neg q4).symm.trans hE
    refine lv_tableOut (tgt := 96) hx hb dX4_place_15 (z_out (fun k h1 h2 h3 => by
        rcases (show k = 0 ∨ k = 1 ∨ k = 2 ∨ k = 3 ∨ k = 4 by omega) with rfl | rfl | rfl | rfl | rfl
        · exact z_ne q0 (h3.trans (by decide))
        · exact z_ne q1 (h3.trans (by decide))
        · exact z_ne q2 (h3.trans (by decide))
        · exact z_ne q3 (h3.trans (by decide))
        · exact z_ne q4 (h3.trans (by decide)))) (by decide) ?_
    refine lv_aload_n hx hb dX4_place_96 rfl (lv_at hl 0 rfl) ?_
    refine lv_bipush (v := -2) hx hb dX4_place_97 (by decide) ?_
    refine z_goi (wf := xW) hS hE (fun F1 h1 => (va_runV (As := [.int (-2)]) (rest := []) ⟨hx, hb, hml, hown, hts⟩ (kX4_refuse l E hD (-2) σ_1 F1 h1) (cwV 1 hts (gU_V u_118 u_119 u_120 u_2 u_121) rfl rfl rfl q_X4_refuse ⟨Nat.le_of_ble_eq_true rfl, Nat.le_of_ble_eq_true rfl⟩) (z_preV hK hP hS (ci := 4) (q0 := 0) rfl rfl rfl) rfl rfl hl.1 rfl (lv_room (Nat.le_of_ble_eq_true rfl)) dX4_place_99 ⟨Nat.le_of_ble_eq_true rfl, Nat.le_of_ble_eq_true rfl⟩)) (fun r_11 σ_10 H locs hP hS hE => ?_)
    exact z_iret hx hb hr hlk hP hS dX4_place_102 hE
  refine lv_aload_n hx hb dX4_place_8 rfl (lv_at hl 0 rfl) ?_
  refine lv_iconst (v := -1) hx hb dX4_place_9 (by decide) ?_
  refine z_goi (wf := xW) hS hE (fun F1 h1 => (va_runV (As := [.int (-1)]) (rest := []) ⟨hx, hb, hml, hown, hts⟩ (kX4_refuse l E hD (-1) σ_1 F1 h1) (cwV 1 hts (gU_V u_118 u_119 u_120 u_2 u_121) rfl rfl rfl q_X4_refuse ⟨Nat.le_of_ble_eq_true rfl, Nat.le_of_ble_eq_true rfl⟩) (z_preV hK hP hS (ci := 4) (q0 := 0) rfl rfl rfl) rfl rfl hl.1 rfl (lv_room (Nat.le_of_ble_eq_true rfl)) dX4_place_10 ⟨Nat.le_of_ble_eq_true rfl, Nat.le_of_ble_eq_true rfl⟩)) (fun r_13 σ_12 H locs hP hS hE => ?_)
  exact z_iret hx hb hr hlk hP hS dX4_place_13 hE
theorem kX4_place (l : Launch) (E : EN) (hD : ∀ σ, va_D (eA E) (xW E σ)) (x1 : Int32) (x2 : Int32) (σ : ST) (F : Int32 × ST) (hE : fX4_place x1 x2 σ = some F) : Met l yX4_place wu_X4_place r_X4_place (zPc E xW [.ref (ea E 0), .int x1, .int x2] σ) (zQi E xW F) 0 0 (eA E) := by
  refine Met.ofW (cc := cX4_place) (maxL := 3) (ret := (some .int)) (by decide) rfl ?_
  intro p e s m args below meth c s₁ B hml hv
  obtain ⟨rfl, hP, hK⟩ := hv
  have hl := lv_entry ([.ref (ea E 0), .int x1, .int x2]) (n := 3) (Nat.le_of_ble_eq_true rfl)
  rw [lg_entry_eq]
  generalize (lg_sl ([.ref (ea E 0), .int x1, .int x2]) ++ List.replicate (3 - (lg_sl ([.ref (ea E 0), .int x1, .int x2])).length) Slot.unset).toArray = ls at hl ⊢
  exact wX4_place ⟨B.exec, B.bytes, hml, findClass_of_methodNamed B.named, fun w h => atoms_spec (ws := wu_X4_place) B.pre w (List.mem_cons_of_mem _ h), B.returns, B.notSynchronized, hK, hD⟩ x1 x2 σ s.heap [] ls hl hP va_S.rf hE
def fX4_slope  (x1 : Int32) (x2 : Int32) (σ : ST) : Option (Int32 × ST) :=
  cali (fX4_isPlace x1 σ) (fun r_2 σ_1 => (if r_2 = 0 then cali (fX4_refuse (-1) σ_1) (fun r_11 σ_10 => some (r_11, σ_10)) else (if 0 ≤ x2 then (if x2 ≤ 9 then ald (gA σ_1 7) 8 x1 (fun v_3 => bnd (v_3 : Int32) (fun x3_4 => ast σ_1 7 8 x1 x2 (fun σ_5 => some (x3_4, σ_5)))) else cali (fX4_refuse (-6) σ_1) (fun r_7 σ_6 => some (r_7, σ_6))) else cali (fX4_refuse (-4) σ_1) (fun r_9 σ_8 => some (r_9, σ_8)))))
set_option maxHeartbeats 4000000 in
set_option maxRecDepth 100000 in
theorem wX4_slope {p : Program} {l : Launch} {e : Env} {s : State} {m : MethodId} {args : Array Value} {below : List Frame} {meth : Method} {c : Code} {E : EN} (C : zC E xW p s m args meth c cX4_slope 4 RX4 (some .int) wsL_law) {F : Int32 × ST}   (x1 : Int32) (x2 : Int32) (σ : ST) (H : Heap) (locs : List Loc) (ls : Array Slot) (hl : lv_has ls 4 [(0, .ref (ea E 0)), (1, .int x1), (2, .int x2)]) (hP : va_P (eD E) vwCl (xW E σ) H) (hS : va_S (eA E) s.heap H locs) (hE : fX4_slope  x1 x2 σ = some F) : zWi E xW p l e r_X4_slope s m args below meth c F H locs (F0 m 0 ls []) := by
  obtain ⟨hx, hb, hml, hown, hts, hr, hlk, hK, hD⟩ := id C
  have hwX2 : ∀ w ∈ wsX20, w.before args s = true := fun w h => hts w (inlX2 w h)
  have hwX4 : ∀ w ∈ wsX40, w.before args s = true := fun w h => hts w (inlX4 w h)
  unfold fX4_slope at hE
  refine lv_aload_n hx hb dX4_slope_0 rfl (lv_at hl 0 rfl) ?_
  refine lv_iload_n hx hb dX4_slope_1 rfl (lv_at hl 1 rfl) ?_
  refine z_goi (wf := xW) hS hE (fun F1 h1 => (va_runV (As := [.int x1]) (rest := []) ⟨hx, hb, hml, hown, hts⟩ (kX4_isPlace l E hD x1 σ F1 h1) (cwV 1 hts (gU_V u_383 u_384 u_385 u_2 u_386) rfl rfl rfl q_X4_isPlace ⟨Nat.le_of_ble_eq_true rfl, Nat.le_of_ble_eq_true rfl⟩) (z_preV hK hP hS (ci := 4) (q0 := 0) rfl rfl rfl) rfl rfl hl.1 rfl (lv_room (Nat.le_of_ble_eq_true rfl)) dX4_slope_2 ⟨Nat.le_of_ble_eq_true rfl, Nat.le_of_ble_eq_true rfl⟩)) (fun r_2 σ_1 H locs hP hS hE => ?_)
  refine z_if_ne (tgt := 14) hx hb dX4_slope_5 (by decide) hE (fun hE => ?_) (fun hE => ?_)
  · refine lv_iload_n hx hb dX4_slope_14 rfl (lv_at hl 2 rfl) ?_
    refine z_if_ge (tgt := 25) hx hb dX4_slope_15 (by decide) hE (fun hE => ?_) (fun hE => ?_)
    · refine lv_iload_n hx hb dX4_slope_25 rfl (lv_at hl 2 rfl) ?_
      refine lv_bipush (v := 9) hx hb dX4_slope_26 (by decide) ?_
      refine z_icmp_le (tgt := 38) hx hb dX4_slope_28 (by decide) hE (fun hE => ?_) (fun hE => ?_)
      · refine lv_aload_n hx hb dX4_slope_38 rfl (lv_at hl 0 rfl) ?_
        refine xg_0_1 hx hb hown hwX4 (hts _ u_17) hK hP dX4_slope_39 ?_
        refine xg_4_1 hx hb hown hwX2 (hts _ u_381) hK hP dX4_slope_42 ?_
        refine lv_iload_n hx hb dX4_slope_45 rfl (lv_at hl 1 rfl) ?_
        refine xa_14 hx hb hK hP dX4_slope_46 hE (fun v_3 hE => ?_)
        refine z_istore_n hx hb (fun x3_4 => [(3, .int x3_4), (0, .ref (ea E 0)), (1, .int x1), (2, .int x2)]) dX4_slope_47 rfl hl (by decide) rfl hE (fun x3_4 ls hl hE => ?_)
        refine lv_aload_n hx hb dX4_slope_48 rfl (lv_at hl 1 rfl) ?_
        refine xg_0_1 hx hb hown hwX4 (hts _ u_17) hK hP dX4_slope_49 ?_
        refine xg_4_1 hx hb hown hwX2 (hts _ u_381) hK hP dX4_slope_52 ?_
        refine lv_iload_n hx hb dX4_slope_55 rfl (lv_at hl 2 rfl) ?_
        refine lv_iload_n hx hb dX4_slope_56 rfl (lv_at hl 3 rfl) ?_
        refine xs_14 hx hb hK hD hP hS dX4_slope_57 hE (fun σ_5 H locs hP hS hE => ?_)
        refine lv_iload_n hx hb dX4_slope_58 rfl (lv_at hl 0 rfl) ?_
        exact z_iret hx hb hr hlk hP hS dX4_slope_59 hE
      refine lv_aload_n hx hb dX4_slope_31 rfl (lv_at hl 0 rfl) ?_
      refine lv_bipush (v := -6) hx hb dX4_slope_32 (by decide) ?_
      refine z_goi (wf := xW) hS hE (fun F1 h1 => (va_runV (As := [.int (-6)]) (rest := []) ⟨hx, hb, hml, hown, hts⟩ (kX4_refuse l E hD (-6) σ_1 F1 h1) (cwV 1 hts (gU_V u_118 u_119 u_120 u_2 u_121) rfl rfl rfl q_X4_refuse ⟨Nat.le_of_ble_eq_true rfl, Nat.le_of_ble_eq_true rfl⟩) (z_preV hK hP hS (ci := 4) (q0 := 0) rfl rfl rfl) rfl rfl hl.1 rfl (lv_room (Nat.le_of_ble_eq_true rfl)) dX4_slope_34 ⟨Nat.le_of_ble_eq_true rfl, Nat.le_of_ble_eq_true rfl⟩)) (fun r_7 σ_6 H locs hP hS hE => ?_)
      exact z_iret hx hb hr hlk hP hS dX4_slope_37 hE
    refine lv_aload_n hx hb dX4_slope_18 rfl (lv_at hl 0 rfl) ?_
    refine lv_bipush (v := -4) hx hb dX4_slope_19 (by decide) ?_
    refine z_goi (wf := xW) hS hE (fun F1 h1 => (va_runV (As := [.int (-4)]) (rest := []) ⟨hx, hb, hml, hown, hts⟩ (kX4_refuse l E hD (-4) σ_1 F1 h1) (cwV 1 hts (gU_V u_118 u_119 u_120 u_2 u_121) rfl rfl rfl q_X4_refuse ⟨Nat.le_of_ble_eq_true rfl, Nat.le_of_ble_eq_true rfl⟩) (z_preV hK hP hS (ci := 4) (q0 := 0) rfl rfl rfl) rfl rfl hl.1 rfl (lv_room (Nat.le_of_ble_eq_true rfl)) dX4_slope_21 ⟨Nat.le_of_ble_eq_true rfl, Nat.le_of_ble_eq_true rfl⟩)) (fun r_9 σ_8 H locs hP hS hE => ?_)
    exact z_iret hx hb hr hlk hP hS dX4_slope_24 hE
  refine lv_aload_n hx hb dX4_slope_8 rfl (lv_at hl 0 rfl) ?_
  refine lv_iconst (v := -1) hx hb dX4_slope_9 (by decide) ?_
  refine z_goi (wf := xW) hS hE (fun F1 h1 => (va_runV (As := [.int (-1)]) (rest := []) ⟨hx, hb, hml, hown, hts⟩ (kX4_refuse l E hD (-1) σ_1 F1 h1) (cwV 1 hts (gU_V u_118 u_119 u_120 u_2 u_121) rfl rfl rfl q_X4_refuse ⟨Nat.le_of_ble_eq_true rfl, Nat.le_of_ble_eq_true rfl⟩) (z_preV hK hP hS (ci := 4) (q0 := 0) rfl rfl rfl) rfl rfl hl.1 rfl (lv_room (Nat.le_of_ble_eq_true rfl)) dX4_slope_10 ⟨Nat.le_of_ble_eq_true rfl, Nat.le_of_ble_eq_true rfl⟩)) (fun r_11 σ_10 H locs hP hS hE => ?_)
  exact z_iret hx hb hr hlk hP hS dX4_slope_13 hE
theorem kX4_slope (l : Launch) (E : EN) (hD : ∀ σ, va_D (eA E) (xW E σ)) (x1 : Int32) (x2 : Int32) (σ : ST) (F : Int32 × ST) (hE : fX4_slope x1 x2 σ = some F) : Met l yX4_slope wu_X4_slope r_X4_slope (zPc E xW [.ref (ea E 0), .int x1, .int x2] σ) (zQi E xW F) 0 0 (eA E) := by
  refine Met.ofW (cc := cX4_slope) (maxL := 4) (ret := (some .int)) (by decide) rfl ?_
  intro p e s m args below meth c s₁ B hml hv
  obtain ⟨rfl, hP, hK⟩ := hv
  have hl := lv_entry ([.ref (ea E 0), .int x1, .int x2]) (n := 4) (Nat.le_of_ble_eq_true rfl)
  rw [lg_entry_eq]
  generalize (lg_sl ([.ref (ea E 0), .int x1, .int x2]) ++ List.replicate (4 - (lg_sl ([.ref (ea E 0), .int x1, .int x2])).length) Slot.unset).toArray = ls at hl ⊢
  exact wX4_slope ⟨B.exec, B.bytes, hml, findClass_of_methodNamed B.named, fun w h => atoms_spec (ws := wu_X4_slope) B.pre w (List.mem_cons_of_mem _ h), B.returns, B.notSynchronized, hK, hD⟩ x1 x2 σ s.heap [] ls hl hP va_S.rf hE
def fX4_errand  (x1 : Int32) (x2 : Int32) (σ : ST) : Option (Int32 × ST) :=
  (if x1 < 0 then cali (fX4_refuse (-1) σ) (fun r_2 σ_1 => some (r_2, σ_1)) else (if x1 < (gI σ 5) then (if x2 = 0 then ald (gA σ 13) 5 x1 (fun v_3 => some (v_3, σ)) else (if x2 = 1 then ald (gA σ 14) 5 x1 (fun v_4 => some (v_4, σ)) else (if x2 = 2 then ald (gA σ 15) 5 x1 (fun v_5 => some (v_5, σ)) else (if x2 = 3 then ald (gA σ 16) 5 x1 (fun v_6 => some (v_6, σ)) else cali (fX4_refuse (-2) σ) (fun r_8 σ_7 => some (r_8, σ_7)))))) else cali (fX4_refuse (-1) σ) (fun r_10 σ_9 => some (r_10, σ_9))))
set_option maxHeartbeats 4000000 in
set_option maxRecDepth 100000 in
theorem wX4_errand {p : Program} {l : Launch} {e : Env} {s : State} {m : MethodId} {args : Array Value} {below : List Frame} {meth : Method} {c : Code} {E : EN} (C : zC E xW p s m args meth c cX4_errand 3 RX4 (some .int) wsL_law) {F : Int32 × ST}   (x1 : Int32) (x2 : Int32) (σ : ST) (H : Heap) (locs : List Loc) (ls : Array Slot) (hl : lv_has ls 3 [(0, .ref (ea E 0)), (1, .int x1), (2, .int x2)]) (hP : va_P (eD E) vwCl (xW E σ) H) (hS : va_S (eA E) s.heap H locs) (hE : fX4_errand  x1 x2 σ = some F) : zWi E xW p l e r_X4_errand s m args below meth c F H locs (F0 m 0 ls []) := by
  obtain ⟨hx, hb, hml, hown, hts, hr, hlk, hK, hD⟩ := id C
  have hwX2 : ∀ w ∈ wsX20, w.before args s = true := fun w h => hts w (inlX2 w h)
  have hwX4 : ∀ w ∈ wsX40, w.before args s = true := fun w h => hts w (inlX4 w h)
  unfold fX4_errand at hE
  refine lv_iload_n hx hb dX4_errand_0 rfl (lv_at hl 1 rfl) ?_
  refine z_if_lt (tgt := 15) hx hb dX4_errand_1 (by decide) hE (fun hE => ?_) (fun hE => ?_)
  · refine lv_aload_n hx hb dX4_errand_15 rfl (lv_at hl 0 rfl) ?_
    refine lv_iconst (v := -1) hx hb dX4_errand_16 (by decide) ?_
    refine z_goi (wf := xW) hS hE (fun F1 h1 => (va_runV (As := [.int (-1)]) (rest := []) ⟨hx, hb, hml, hown, hts⟩ (kX4_refuse l E hD (-1) σ F1 h1) (cwV 1 hts (gU_V u_118 u_119 u_120 u_2 u_121) rfl rfl rfl q_X4_refuse ⟨Nat.le_of_ble_eq_true rfl, Nat.le_of_ble_eq_true rfl⟩) (z_preV hK hP hS (ci := 4) (q0 := 0) rfl rfl rfl) rfl rfl hl.1 rfl (lv_room (Nat.le_of_ble_eq_true rfl)) dX4_errand_17 ⟨Nat.le_of_ble_eq_true rfl, Nat.le_of_ble_eq_true rfl⟩)) (fun r_2 σ_1 H locs hP hS hE => ?_)
    exact z_iret hx hb hr hlk hP hS dX4_errand_20 hE
  refine lv_iload_n hx hb dX4_errand_4 rfl (lv_at hl 1 rfl) ?_
  refine lv_aload_n hx hb dX4_errand_5 rfl (lv_at hl 0 rfl) ?_
  refine xg_0_1 hx hb hown hwX4 (hts _ u_17) hK hP dX4_errand_6 ?_
  refine xg_4_13 hx hb hown hwX2 (hts _ u_446) hK hP dX4_errand_9 ?_
  refine z_icmp_lt (tgt := 21) hx hb dX4_errand_12 (by decide) hE (fun hE => ?_) (fun hE => ?_)
  · refine lv_iload_n hx hb dX4_errand_21 rfl (lv_at hl 2 rfl) ?_
    by_cases q0 : x2 = 0
    · have hE := (if_pos q0).symm.trans hE
      refine z_tabIn (tgt := 52) hx hb q0 dX4_errand_22 (by decide) (by decide) rfl (by decide) ?_
      refine lv_aload_n hx hb dX4_errand_52 rfl (lv_at hl 0 rfl) ?_
      refine xg_0_1 hx hb hown hwX4 (hts _ u_17) hK hP dX4_errand_53 ?_
      refine xg_4_7 hx hb hown hwX2 (hts _ u_447) hK hP dX4_errand_56 ?_
      refine lv_iload_n hx hb dX4_errand_59 rfl (lv_at hl 1 rfl) ?_
      refine xa_20 hx hb hK hP dX4_errand_60 hE (fun v_3 hE => ?_)
      exact z_iret hx hb hr hlk hP hS dX4_errand_61 hE
    replace hE := (if_neg q0).symm.trans hE
    by_cases q1 : x2 = 1
    · have hE := (if_pos q1).symm.trans hE
      refine z_tabIn (tgt := 62) hx hb q1 dX4_errand_22 (by decide) (by decide) rfl (by decide) ?_
      refine lv_aload_n hx hb dX4_errand_62 rfl (lv_at hl 0 rfl) ?_
      refine xg_0_1 hx hb hown hwX4 (hts _ u_17) hK hP dX4_errand_63 ?_
      refine xg_4_8 hx hb hown hwX2 (hts _ u_448) hK hP dX4_errand_66 ?_
      refine lv_iload_n hx hb dX4_errand_69 rfl (lv_at hl 1 rfl) ?_
      refine xa_21 hx hb hK hP dX4_errand_70 hE (fun v_4 hE => ?_)
      exact z_iret hx hb hr hlk hP hS dX4_errand_71 hE
    replace hE := (if_neg q1).symm.trans hE
    by_cases q2 : x2 = 2
    · have hE := (if_pos q2).symm.trans hE
      refine z_tabIn (tgt := 72) hx hb q2 dX4_errand_22 (by decide) (by decide) rfl (by decide) ?_
      refine lv_aload_n hx hb dX4_errand_72 rfl (lv_at hl 0 rfl) ?_
      refine xg_0_1 hx hb hown hwX4 (hts _ u_17) hK hP dX4_errand_73 ?_
      refine xg_4_9 hx hb hown hwX2 (hts _ u_449) hK hP dX4_errand_76 ?_
      refine lv_iload_n hx hb dX4_errand_79 rfl (lv_at hl 1 rfl) ?_
      refine xa_22 hx hb hK hP dX4_errand_80 hE (fun v_5 hE => ?_)
      exact z_iret hx hb hr hlk hP hS dX4_errand_81 hE
    replace hE := (if_neg q2).symm.trans hE
    by_cases q3 : x2 = 3
    · have hE := (if_pos q3).symm.trans hE
      refine z_tabIn (tgt := 82) hx hb q3 dX4_errand_22 (by decide) (by decide) rfl (by decide) ?_
      refine lv_aload_n hx hb dX4_errand_82 rfl (lv_at hl 0 rfl) ?_
      refine xg_0_1 hx hb hown hwX4 (hts _ u_17) hK hP dX4_errand_83 ?_
      refine xg_4_10 hx hb hown hwX2 (hts _ u_450) hK hP dX4_errand_86 ?_
      refine lv_iload_n hx hb dX4_errand_89 rfl (lv_at hl 1 rfl) ?_
      refine xa_23 hx hb hK hP dX4_errand_90 hE (fun v_6 hE => ?_)
      exact z_iret hx hb hr hlk hP hS dX4_errand_91 hE
    replace hE := (if_neg q3).symm.trans hE
    refine lv_tableOut (tgt := 92) hx hb dX4_errand_22 (z_out (fun k h1 h2 h3 => by
        rcases (show k = 0 ∨ k = 1 ∨ k = 2 ∨ k = 3 by omega) with rfl | rfl | rfl | rfl
        · exact z_ne q0 (h3.trans (by decide))
        · exact z_ne q1 (h3.trans (by decide))
        · exact z_ne q2 (h3.trans (by decide))
        · exact z_ne q3 (h3.trans (by decide)))) (by decide) ?_
    refine lv_aload_n hx hb dX4_errand_92 rfl (lv_at hl 0 rfl) ?_
    refine lv_bipush (v := -2) hx hb dX4_errand_93 (by decide) ?_
    refine z_goi (wf := xW) hS hE (fun F1 h1 => (va_runV (As := [.int (-2)]) (rest := []) ⟨hx, hb, hml, hown, hts⟩ (kX4_refuse l E hD (-2) σ F1 h1) (cwV 1 hts (gU_V u_118 u_119 u_120 u_2 u_121) rfl rfl rfl q_X4_refuse ⟨Nat.le_of_ble_eq_true rfl, Nat.le_of_ble_eq_true rfl⟩) (z_preV hK hP hS (ci := 4) (q0 := 0) rfl rfl rfl) rfl rfl hl.1 rfl (lv_room (Nat.le_of_ble_eq_true rfl)) dX4_errand_95 ⟨Nat.le_of_ble_eq_true rfl, Nat.le_of_ble_eq_true rfl⟩)) (fun r_8 σ_7 H locs hP hS hE => ?_)
    exact z_iret hx hb hr hlk hP hS dX4_errand_98 hE
  refine lv_aload_n hx hb dX4_errand_15 rfl (lv_at hl 0 rfl) ?_
  refine lv_iconst (v := -1) hx hb dX4_errand_16 (by decide) ?_
  refine z_goi (wf := xW) hS hE (fun F1 h1 => (va_runV (As := [.int (-1)]) (rest := []) ⟨hx, hb, hml, hown, hts⟩ (kX4_refuse l E hD (-1) σ F1 h1) (cwV 1 hts (gU_V u_118 u_119 u_120 u_2 u_121) rfl rfl rfl q_X4_refuse ⟨Nat.le_of_ble_eq_true rfl, Nat.le_of_ble_eq_true rfl⟩) (z_preV hK hP hS (ci := 4) (q0 := 0) rfl rfl rfl) rfl rfl hl.1 rfl (lv_room (Nat.le_of_ble_eq_true rfl)) dX4_errand_17 ⟨Nat.le_of_ble_eq_true rfl, Nat.le_of_ble_eq_true rfl⟩)) (fun r_10 σ_9 H locs hP hS hE => ?_)
  exact z_iret hx hb hr hlk hP hS dX4_errand_20 hE
theorem kX4_errand (l : Launch) (E : EN) (hD : ∀ σ, va_D (eA E) (xW E σ)) (x1 : Int32) (x2 : Int32) (σ : ST) (F : Int32 × ST) (hE : fX4_errand x1 x2 σ = some F) : Met l yX4_errand wu_X4_errand r_X4_errand (zPc E xW [.ref (ea E 0), .int x1, .int x2] σ) (zQi E xW F) 0 0 (eA E) := by
  refine Met.ofW (cc := cX4_errand) (maxL := 3) (ret := (some .int)) (by decide) rfl ?_
  intro p e s m args below meth c s₁ B hml hv
  obtain ⟨rfl, hP, hK⟩ := hv
  have hl := lv_entry ([.ref (ea E 0), .int x1, .int x2]) (n := 3) (Nat.le_of_ble_eq_true rfl)
  rw [lg_entry_eq]
  generalize (lg_sl ([.ref (ea E 0), .int x1, .int x2]) ++ List.replicate (3 - (lg_sl ([.ref (ea E 0), .int x1, .int x2])).length) Slot.unset).toArray = ls at hl ⊢
  exact wX4_errand ⟨B.exec, B.bytes, hml, findClass_of_methodNamed B.named, fun w h => atoms_spec (ws := wu_X4_errand) B.pre w (List.mem_cons_of_mem _ h), B.returns, B.notSynchronized, hK, hD⟩ x1 x2 σ s.heap [] ls hl hP va_S.rf hE
def fX4_mostOfSetting  (x0 : Int32) (σ : ST) : Option (Int32 × ST) :=
  (if x0 = 0 then some (9, σ) else (if x0 = 1 then some (60, σ) else some (5, σ)))
set_option maxHeartbeats 4000000 in
set_option maxRecDepth 100000 in
theorem wX4_mostOfSetting {p : Program} {l : Launch} {e : Env} {s : State} {m : MethodId} {args : Array Value} {below : List Frame} {meth : Method} {c : Code} {E : EN} (C : zC E xW p s m args meth c cX4_mostOfSetting 1 RX4 (some .int) wsL_law) {F : Int32 × ST}   (x0 : Int32) (σ : ST) (H : Heap) (locs : List Loc) (ls : Array Slot) (hl : lv_has ls 1 [(0, .int x0)]) (hP : va_P (eD E) vwCl (xW E σ) H) (hS : va_S (eA E) s.heap H locs) (hE : fX4_mostOfSetting  x0 σ = some F) : zWi E xW p l e r_X4_mostOfSetting s m args below meth c F H locs (F0 m 0 ls []) := by
  obtain ⟨hx, hb, hml, hown, hts, hr, hlk, hK, hD⟩ := id C
  unfold fX4_mostOfSetting at hE
  refine lv_iload_n hx hb dX4_mostOfSetting_0 rfl (lv_at hl 0 rfl) ?_
  refine z_if_ne (tgt := 7) hx hb dX4_mostOfSetting_1 (by decide) hE (fun hE => ?_) (fun hE => ?_)
  · refine lv_iload_n hx hb dX4_mostOfSetting_7 rfl (lv_at hl 0 rfl) ?_
    refine lv_iconst (v := 1) hx hb dX4_mostOfSetting_8 (by decide) ?_
    refine z_icmp_ne (tgt := 17) hx hb dX4_mostOfSetting_9 (by decide) hE (fun hE => ?_) (fun hE => ?_)
    · refine lv_iconst (v := 5) hx hb dX4_mostOfSetting_17 (by decide) ?_
      exact z_iret hx hb hr hlk hP hS dX4_mostOfSetting_18 hE
    refine lv_bipush (v := 60) hx hb dX4_mostOfSetting_12 (by decide) ?_
    refine lv_goto (tgt := 18) hx hb dX4_mostOfSetting_14 (by decide) ?_
    exact z_iret hx hb hr hlk hP hS dX4_mostOfSetting_18 hE
  refine lv_bipush (v := 9) hx hb dX4_mostOfSetting_4 (by decide) ?_
  exact z_iret hx hb hr hlk hP hS dX4_mostOfSetting_6 hE
theorem kX4_mostOfSetting (l : Launch) (E : EN) (hD : ∀ σ, va_D (eA E) (xW E σ)) (x0 : Int32) (σ : ST) (F : Int32 × ST) (hE : fX4_mostOfSetting x0 σ = some F) : Met l yX4_mostOfSetting wu_X4_mostOfSetting r_X4_mostOfSetting (zPc E xW [.int x0] σ) (zQi E xW F) 0 0 (eA E) := by
  refine Met.ofW (cc := cX4_mostOfSetting) (maxL := 1) (ret := (some .int)) (by decide) rfl ?_
  intro p e s m args below meth c s₁ B hml hv
  obtain ⟨rfl, hP, hK⟩ := hv
  have hl := lv_entry ([.int x0]) (n := 1) (Nat.le_of_ble_eq_true rfl)
  rw [lg_entry_eq]
  generalize (lg_sl ([.int x0]) ++ List.replicate (1 - (lg_sl ([.int x0])).length) Slot.unset).toArray = ls at hl ⊢
  exact wX4_mostOfSetting ⟨B.exec, B.bytes, hml, findClass_of_methodNamed B.named, fun w h => atoms_spec (ws := wu_X4_mostOfSetting) B.pre w (List.mem_cons_of_mem _ h), B.returns, B.notSynchronized, hK, hD⟩ x0 σ s.heap [] ls hl hP va_S.rf hE
def fX4_settingOf  (x1 : Int32) (σ : ST) : Option (Int32 × ST) :=
  (if x1 = 0 then some ((gI σ 6), σ) else (if x1 = 1 then some ((gI σ 7), σ) else some ((gI σ 8), σ)))
set_option maxHeartbeats 4000000 in
set_option maxRecDepth 100000 in
theorem wX4_settingOf {p : Program} {l : Launch} {e : Env} {s : State} {m : MethodId} {args : Array Value} {below : List Frame} {meth : Method} {c : Code} {E : EN} (C : zC E xW p s m args meth c cX4_settingOf 2 RX4 (some .int) wsL_law) {F : Int32 × ST}   (x1 : Int32) (σ : ST) (H : Heap) (locs : List Loc) (ls : Array Slot) (hl : lv_has ls 2 [(0, .ref (ea E 0)), (1, .int x1)]) (hP : va_P (eD E) vwCl (xW E σ) H) (hS : va_S (eA E) s.heap H locs) (hE : fX4_settingOf  x1 σ = some F) : zWi E xW p l e r_X4_settingOf s m args below meth c F H locs (F0 m 0 ls []) := by
  obtain ⟨hx, hb, hml, hown, hts, hr, hlk, hK, hD⟩ := id C
  have hwX2 : ∀ w ∈ wsX20, w.before args s = true := fun w h => hts w (inlX2 w h)
  have hwX4 : ∀ w ∈ wsX40, w.before args s = true := fun w h => hts w (inlX4 w h)
  unfold fX4_settingOf at hE
  refine lv_iload_n hx hb dX4_settingOf_0 rfl (lv_at hl 1 rfl) ?_
  refine z_if_ne (tgt := 12) hx hb dX4_settingOf_1 (by decide) hE (fun hE => ?_) (fun hE => ?_)
  · refine lv_iload_n hx hb dX4_settingOf_12 rfl (lv_at hl 1 rfl) ?_
    refine lv_iconst (v := 1) hx hb dX4_settingOf_13 (by decide) ?_
    refine z_icmp_ne (tgt := 27) hx hb dX4_settingOf_14 (by decide) hE (fun hE => ?_) (fun hE => ?_)
    · refine lv_aload_n hx hb dX4_settingOf_27 rfl (lv_at hl 0 rfl) ?_
      refine xg_0_1 hx hb hown hwX4 (hts _ u_17) hK hP dX4_settingOf_28 ?_
      refine xg_4_16 hx hb hown hwX2 (hts _ u_461) hK hP dX4_settingOf_31 ?_
      exact z_iret hx hb hr hlk hP hS dX4_settingOf_34 hE
    refine lv_aload_n hx hb dX4_settingOf_17 rfl (lv_at hl 0 rfl) ?_
    refine xg_0_1 hx hb hown hwX4 (hts _ u_17) hK hP dX4_settingOf_18 ?_
    refine xg_4_15 hx hb hown hwX2 (hts _ u_460) hK hP dX4_settingOf_21 ?_
    refine lv_goto (tgt := 34) hx hb dX4_settingOf_24 (by decide) ?_
    exact z_iret hx hb hr hlk hP hS dX4_settingOf_34 hE
  refine lv_aload_n hx hb dX4_settingOf_4 rfl (lv_at hl 0 rfl) ?_
  refine xg_0_1 hx hb hown hwX4 (hts _ u_17) hK hP dX4_settingOf_5 ?_
  refine xg_4_14 hx hb hown hwX2 (hts _ u_459) hK hP dX4_settingOf_8 ?_
  exact z_iret hx hb hr hlk hP hS dX4_settingOf_11 hE
theorem kX4_settingOf (l : Launch) (E : EN) (hD : ∀ σ, va_D (eA E) (xW E σ)) (x1 : Int32) (σ : ST) (F : Int32 × ST) (hE : fX4_settingOf x1 σ = some F) : Met l yX4_settingOf wu_X4_settingOf r_X4_settingOf (zPc E xW [.ref (ea E 0), .int x1] σ) (zQi E xW F) 0 0 (eA E) := by
  refine Met.ofW (cc := cX4_settingOf) (maxL := 2) (ret := (some .int)) (by decide) rfl ?_
  intro p e s m args below meth c s₁ B hml hv
  obtain ⟨rfl, hP, hK⟩ := hv
  have hl := lv_entry ([.ref (ea E 0), .int x1]) (n := 2) (Nat.le_of_ble_eq_true rfl)
  rw [lg_entry_eq]
  generalize (lg_sl ([.ref (ea E 0), .int x1]) ++ List.replicate (2 - (lg_sl ([.ref (ea E 0), .int x1])).length) Slot.unset).toArray = ls at hl ⊢
  exact wX4_settingOf ⟨B.exec, B.bytes, hml, findClass_of_methodNamed B.named, fun w h => atoms_spec (ws := wu_X4_settingOf) B.pre w (List.mem_cons_of_mem _ h), B.returns, B.notSynchronized, hK, hD⟩ x1 σ s.heap [] ls hl hP va_S.rf hE
def fX4_set  (x1 : Int32) (x2 : Int32) (σ : ST) : Option (Int32 × ST) :=
  (if x1 < 0 then cali (fX4_refuse (-2) σ) (fun r_2 σ_1 => some (r_2, σ_1)) else (if x1 ≤ 2 then (if 0 ≤ x2 then cali (fX4_mostOfSetting x1 σ) (fun r_4 σ_3 => (if x2 ≤ r_4 then cali (fX4_settingOf x1 σ_3) (fun r_6 σ_5 => bnd (r_6 : Int32) (fun x3_7 => (if x1 = 0 then bnd (sI σ_5 6 x2) (fun σ_10 => some (x3_7, σ_10)) else (if x1 = 1 then bnd (sI σ_5 7 x2) (fun σ_9 => some (x3_7, σ_9)) else bnd (sI σ_5 8 x2) (fun σ_8 => some (x3_7, σ_8)))))) else cali (fX4_refuse (-6) σ_3) (fun r_12 σ_11 => some (r_12, σ_11)))) else cali (fX4_refuse (-4) σ) (fun r_14 σ_13 => some (r_14, σ_13))) else cali (fX4_refuse (-2) σ) (fun r_16 σ_15 => some (r_16, σ_15))))
set_option maxHeartbeats 4000000 in
set_option maxRecDepth 100000 in
theorem wX4_set {p : Program} {l : Launch} {e : Env} {s : State} {m : MethodId} {args : Array Value} {below : List Frame} {meth : Method} {c : Code} {E : EN} (C : zC E xW p s m args meth c cX4_set 4 RX4 (some .int) wsL_law) {F : Int32 × ST}   (x1 : Int32) (x2 : Int32) (σ : ST) (H : Heap) (locs : List Loc) (ls : Array Slot) (hl : lv_has ls 4 [(0, .ref (ea E 0)), (1, .int x1), (2, .int x2)]) (hP : va_P (eD E) vwCl (xW E σ) H) (hS : va_S (eA E) s.heap H locs) (hE : fX4_set  x1 x2 σ = some F) : zWi E xW p l e r_X4_set s m args below meth c F H locs (F0 m 0 ls []) := by
  obtain ⟨hx, hb, hml, hown, hts, hr, hlk, hK, hD⟩ := id C
  have hwX2 : ∀ w ∈ wsX20, w.before args s = true := fun w h => hts w (inlX2 w h)
  have hwX4 : ∀ w ∈ wsX40, w.before args s = true := fun w h => hts w (inlX4 w h)
  unfold fX4_set at hE
  refine lv_iload_n hx hb dX4_set_0 rfl (lv_at hl 1 rfl) ?_
  refine z_if_lt (tgt := 9) hx hb dX4_set_1 (by decide) hE (fun hE => ?_) (fun hE => ?_)
  · refine lv_aload_n hx hb dX4_set_9 rfl (lv_at hl 0 rfl) ?_
    refine lv_bipush (v := -2) hx hb dX4_set_10 (by decide) ?_
    refine z_goi (wf := xW) hS hE (fun F1 h1 => (va_runV (As := [.int (-2)]) (rest := []) ⟨hx, hb, hml, hown, hts⟩ (kX4_refuse l E hD (-2) σ F1 h1) (cwV 1 hts (gU_V u_118 u_119 u_120 u_2 u_121) rfl rfl rfl q_X4_refuse ⟨Nat.le_of_ble_eq_true rfl, Nat.le_of_ble_eq_true rfl⟩) (z_preV hK hP hS (ci := 4) (q0 := 0) rfl rfl rfl) rfl rfl hl.1 rfl (lv_room (Nat.le_of_ble_eq_true rfl)) dX4_set_12 ⟨Nat.le_of_ble_eq_true rfl, Nat.le_of_ble_eq_true rfl⟩)) (fun r_2 σ_1 H locs hP hS hE => ?_)
    exact z_iret hx hb hr hlk hP hS dX4_set_15 hE
  refine lv_iload_n hx hb dX4_set_4 rfl (lv_at hl 1 rfl) ?_
  refine lv_iconst (v := 2) hx hb dX4_set_5 (by decide) ?_
  refine z_icmp_le (tgt := 16) hx hb dX4_set_6 (by decide) hE (fun hE => ?_) (fun hE => ?_)
  · refine lv_iload_n hx hb dX4_set_16 rfl (lv_at hl 2 rfl) ?_
    refine z_if_ge (tgt := 27) hx hb dX4_set_17 (by decide) hE (fun hE => ?_) (fun hE => ?_)
    · refine lv_iload_n hx hb dX4_set_27 rfl (lv_at hl 2 rfl) ?_
      refine lv_iload_n hx hb dX4_set_28 rfl (lv_at hl 1 rfl) ?_
      refine z_goi (wf := xW) hS hE (fun F1 h1 => (va_runS (As := [.int x1]) (rest := [.int x2]) ⟨hx, hb, hml, hown, hts⟩ (kX4_mostOfSetting l E hD x1 σ F1 h1) (va_cwS 1 hts (gU_S u_462 u_463 u_2 u_464) rfl rfl rfl q_X4_mostOfSetting ⟨Nat.le_of_ble_eq_true rfl, Nat.le_of_ble_eq_true rfl⟩) (z_preS hK hP hS) rfl rfl hl.1 rfl (lv_room (Nat.le_of_ble_eq_true rfl)) dX4_set_29 ⟨Nat.le_of_ble_eq_true rfl, Nat.le_of_ble_eq_true rfl⟩)) (fun r_4 σ_3 H locs hP hS hE => ?_)
      refine z_icmp_le (tgt := 42) hx hb dX4_set_32 (by decide) hE (fun hE => ?_) (fun hE => ?_)
      · refine lv_aload_n hx hb dX4_set_42 rfl (lv_at hl 0 rfl) ?_
        refine lv_iload_n hx hb dX4_set_43 rfl (lv_at hl 1 rfl) ?_
        refine z_goi (wf := xW) hS hE (fun F1 h1 => (va_runV (As := [.int x1]) (rest := []) ⟨hx, hb, hml, hown, hts⟩ (kX4_settingOf l E hD x1 σ_3 F1 h1) (cwV 1 hts (gU_V u_465 u_466 u_467 u_2 u_468) rfl rfl rfl q_X4_settingOf ⟨Nat.le_of_ble_eq_true rfl, Nat.le_of_ble_eq_true rfl⟩) (z_preV hK hP hS (ci := 4) (q0 := 0) rfl rfl rfl) rfl rfl hl.1 rfl (lv_room (Nat.le_of_ble_eq_true rfl)) dX4_set_44 ⟨Nat.le_of_ble_eq_true rfl, Nat.le_of_ble_eq_true rfl⟩)) (fun r_6 σ_5 H locs hP hS hE => ?_)
        refine z_istore_n hx hb (fun x3_7 => [(3, .int x3_7), (0, .ref (ea E 0)), (1, .int x1), (2, .int x2)]) dX4_set_47 rfl hl (by decide) rfl hE (fun x3_7 ls hl hE => ?_)
        refine lv_iload_n hx hb dX4_set_48 rfl (lv_at hl 2 rfl) ?_
        refine z_if_ne (tgt := 63) hx hb dX4_set_49 (by decide) hE (fun hE => ?_) (fun hE => ?_)
        · refine lv_iload_n hx hb dX4_set_63 rfl (lv_at hl 2 rfl) ?_
          refine lv_iconst (v := 1) hx hb dX4_set_64 (by decide) ?_
          refine z_icmp_ne (tgt := 79) hx hb dX4_set_65 (by decide) hE (fun hE => ?_) (fun hE => ?_)
          · refine lv_aload_n hx hb dX4_set_79 rfl (lv_at hl 1 rfl) ?_
            refine xg_0_1 hx hb hown hwX4 (hts _ u_17) hK hP dX4_set_80 ?_
            refine lv_iload_n hx hb dX4_set_83 rfl (lv_at hl 3 rfl) ?_
            refine xp_4_16 hx hb hown hwX2 (hts _ u_461) hK hD hP hS dX4_set_84 hE (fun σ_8 H locs hP hS hE => ?_)
            refine lv_iload_n hx hb dX4_set_87 rfl (lv_at hl 0 rfl) ?_
            exact z_iret hx hb hr hlk hP hS dX4_set_88 hE
          refine lv_aload_n hx hb dX4_set_68 rfl (lv_at hl 1 rfl) ?_
          refine xg_0_1 hx hb hown hwX4 (hts _ u_17) hK hP dX4_set_69 ?_
          refine lv_iload_n hx hb dX4_set_72 rfl (lv_at hl 3 rfl) ?_
          refine xp_4_15 hx hb hown hwX2 (hts _ u_460) hK hD hP hS dX4_set_73 hE (fun σ_9 H locs hP hS hE => ?_)
          refine lv_goto (tgt := 87) hx hb dX4_set_76 (by decide) ?_
          refine lv_iload_n hx hb dX4_set_87 rfl (lv_at hl 0 rfl) ?_
          exact z_iret hx hb hr hlk hP hS dX4_set_88 hE
        refine lv_aload_n hx hb dX4_set_52 rfl (lv_at hl 1 rfl) ?_
        refine xg_0_1 hx hb hown hwX4 (hts _ u_17) hK hP dX4_set_53 ?_
        refine lv_iload_n hx hb dX4_set_56 rfl (lv_at hl 3 rfl) ?_
        refine xp_4_14 hx hb hown hwX2 (hts _ u_459) hK hD hP hS dX4_set_57 hE (fun σ_10 H locs hP hS hE => ?_)
        refine lv_goto (tgt := 87) hx hb dX4_set_60 (by decide) ?_
        refine lv_iload_n hx hb dX4_set_87 rfl (lv_at hl 0 rfl) ?_
        exact z_iret hx hb hr hlk hP hS dX4_set_88 hE
      refine lv_aload_n hx hb dX4_set_35 rfl (lv_at hl 0 rfl) ?_
      refine lv_bipush (v := -6) hx hb dX4_set_36 (by decide) ?_
      refine z_goi (wf := xW) hS hE (fun F1 h1 => (va_runV (As := [.int (-6)]) (rest := []) ⟨hx, hb, hml, hown, hts⟩ (kX4_refuse l E hD (-6) σ_3 F1 h1) (cwV 1 hts (gU_V u_118 u_119 u_120 u_2 u_121) rfl rfl rfl q_X4_refuse ⟨Nat.le_of_ble_eq_true rfl, Nat.le_of_ble_eq_true rfl⟩) (z_preV hK hP hS (ci := 4) (q0 := 0) rfl rfl rfl) rfl rfl hl.1 rfl (lv_room (Nat.le_of_ble_eq_true rfl)) dX4_set_38 ⟨Nat.le_of_ble_eq_true rfl, Nat.le_of_ble_eq_true rfl⟩)) (fun r_12 σ_11 H locs hP hS hE => ?_)
      exact z_iret hx hb hr hlk hP hS dX4_set_41 hE
    refine lv_aload_n hx hb dX4_set_20 rfl (lv_at hl 0 rfl) ?_
    refine lv_bipush (v := -4) hx hb dX4_set_21 (by decide) ?_
    refine z_goi (wf := xW) hS hE (fun F1 h1 => (va_runV (As := [.int (-4)]) (rest := []) ⟨hx, hb, hml, hown, hts⟩ (kX4_refuse l E hD (-4) σ F1 h1) (cwV 1 hts (gU_V u_118 u_119 u_120 u_2 u_121) rfl rfl rfl q_X4_refuse ⟨Nat.le_of_ble_eq_true rfl, Nat.le_of_ble_eq_true rfl⟩) (z_preV hK hP hS (ci := 4) (q0 := 0) rfl rfl rfl) rfl rfl hl.1 rfl (lv_room (Nat.le_of_ble_eq_true rfl)) dX4_set_23 ⟨Nat.le_of_ble_eq_true rfl, Nat.le_of_ble_eq_true rfl⟩)) (fun r_14 σ_13 H locs hP hS hE => ?_)
    exact z_iret hx hb hr hlk hP hS dX4_set_26 hE
  refine lv_aload_n hx hb dX4_set_9 rfl (lv_at hl 0 rfl) ?_
  refine lv_bipush (v := -2) hx hb dX4_set_10 (by decide) ?_
  refine z_goi (wf := xW) hS hE (fun F1 h1 => (va_runV (As := [.int (-2)]) (rest := []) ⟨hx, hb, hml, hown, hts⟩ (kX4_refuse l E hD (-2) σ F1 h1) (cwV 1 hts (gU_V u_118 u_119 u_120 u_2 u_121) rfl rfl rfl q_X4_refuse ⟨Nat.le_of_ble_eq_true rfl, Nat.le_of_ble_eq_true rfl⟩) (z_preV hK hP hS (ci := 4) (q0 := 0) rfl rfl rfl) rfl rfl hl.1 rfl (lv_room (Nat.le_of_ble_eq_true rfl)) dX4_set_12 ⟨Nat.le_of_ble_eq_true rfl, Nat.le_of_ble_eq_true rfl⟩)) (fun r_16 σ_15 H locs hP hS hE => ?_)
  exact z_iret hx hb hr hlk hP hS dX4_set_15 hE
theorem kX4_set (l : Launch) (E : EN) (hD : ∀ σ, va_D (eA E) (xW E σ)) (x1 : Int32) (x2 : Int32) (σ : ST) (F : Int32 × ST) (hE : fX4_set x1 x2 σ = some F) : Met l yX4_set wu_X4_set r_X4_set (zPc E xW [.ref (ea E 0), .int x1, .int x2] σ) (zQi E xW F) 0 0 (eA E) := by
  refine Met.ofW (cc := cX4_set) (maxL := 4) (ret := (some .int)) (by decide) rfl ?_
  intro p e s m args below meth c s₁ B hml hv
  obtain ⟨rfl, hP, hK⟩ := hv
  have hl := lv_entry ([.ref (ea E 0), .int x1, .int x2]) (n := 4) (Nat.le_of_ble_eq_true rfl)
  rw [lg_entry_eq]
  generalize (lg_sl ([.ref (ea E 0), .int x1, .int x2]) ++ List.replicate (4 - (lg_sl ([.ref (ea E 0), .int x1, .int x2])).length) Slot.unset).toArray = ls at hl ⊢
  exact wX4_set ⟨B.exec, B.bytes, hml, findClass_of_methodNamed B.named, fun w h => atoms_spec (ws := wu_X4_set) B.pre w (List.mem_cons_of_mem _ h), B.returns, B.notSynchronized, hK, hD⟩ x1 x2 σ s.heap [] ls hl hP va_S.rf hE
