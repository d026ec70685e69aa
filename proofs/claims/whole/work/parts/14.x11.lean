def fX4_lots  (x1 : Int32) (x2 : Int32) (σ : ST) : Option (Int32 × ST) :=
  (if 1 ≤ x1 then (if x1 ≤ 20 then (if (gI σ 3) = 0 then cali (fX4_refuse (-3) σ) (fun r_5 σ_4 => some (r_5, σ_4)) else calv (fX4_goByRow σ) (fun σ_1 => cali (fX3_timesHome x1 x2 σ_1) (fun r_3 σ_2 => some (r_3, σ_2)))) else cali (fX4_refuse (-6) σ) (fun r_7 σ_6 => some (r_7, σ_6))) else cali (fX4_refuse (-4) σ) (fun r_9 σ_8 => some (r_9, σ_8)))
set_option maxHeartbeats 4000000 in
set_option maxRecDepth 100000 in
theorem wX4_lots {p : Program} {l : Launch} {e : Env} {s : State} {m : MethodId} {args : Array Value} {below : List Frame} {meth : Method} {c : Code} {E : EN} (C : zC E xW p s m args meth c cX4_lots 3 RX4 (some .int) wsL_law) {F : Int32 × ST}   (x1 : Int32) (x2 : Int32) (σ : ST) (H : Heap) (locs : List Loc) (ls : Array Slot) (hl : lv_has ls 3 [(0, .ref (ea E 0)), (1, .int x1), (2, .int x2)]) (hP : va_P (eD E) vwCl (xW E σ) H) (hS : va_S (eA E) s.heap H locs) (hE : fX4_lots  x1 x2 σ = some F) : zWi E xW p l e r_X4_lots s m args below meth c F H locs (F0 m 0 ls []) := by
  obtain ⟨hx, hb, hml, hown, hts, hr, hlk, hK, hD⟩ := id C
  have hwX2 : ∀ w ∈ wsX20, w.before args s = true := fun w h => hts w (inlX2 w h)
  have hwX4 : ∀ w ∈ wsX40, w.before args s = true := fun w h => hts w (inlX4 w h)
  unfold fX4_lots at hE
  refine lv_iload_n hx hb dX4_lots_0 rfl (lv_at hl 1 rfl) ?_
  refine lv_iconst (v := 1) hx hb dX4_lots_1 (by decide) ?_
  refine z_icmp_ge (tgt := 12) hx hb dX4_lots_2 (by decide) hE (fun hE => ?_) (fun hE => ?_)
  · refine lv_iload_n hx hb dX4_lots_12 rfl (lv_at hl 1 rfl) ?_
    refine lv_bipush (v := 20) hx hb dX4_lots_13 (by decide) ?_
    refine z_icmp_le (tgt := 25) hx hb dX4_lots_15 (by decide) hE (fun hE => ?_) (fun hE => ?_)
    · refine lv_aload_n hx hb dX4_lots_25 rfl (lv_at hl 0 rfl) ?_
      refine xg_0_1 hx hb hown hwX4 (hts _ u_17) hK hP dX4_lots_26 ?_
      refine xg_4_11 hx hb hown hwX2 (hts _ u_387) hK hP dX4_lots_29 ?_
      refine z_if_ne (tgt := 42) hx hb dX4_lots_32 (by decide) hE (fun hE => ?_) (fun hE => ?_)
      · refine lv_aload_n hx hb dX4_lots_42 rfl (lv_at hl 0 rfl) ?_
        refine z_gov (wf := xW) hS hE (fun F1 h1 => (va_runV (As := []) (rest := []) ⟨hx, hb, hml, hown, hts⟩ (kX4_goByRow l E hD  σ F1 h1) (cwV 0 hts (gU_V u_521 u_522 u_523 u_2 u_524) rfl rfl rfl q_X4_goByRow ⟨Nat.le_of_ble_eq_true rfl, Nat.le_of_ble_eq_true rfl⟩) (z_preV hK hP hS (ci := 4) (q0 := 0) rfl rfl rfl) rfl rfl hl.1 rfl (lv_room (Nat.le_of_ble_eq_true rfl)) dX4_lots_43 ⟨Nat.le_of_ble_eq_true rfl, Nat.le_of_ble_eq_true rfl⟩)) (fun σ_1 H locs hP hS hE => ?_)
        refine lv_aload_n hx hb dX4_lots_46 rfl (lv_at hl 0 rfl) ?_
        refine xg_0_0 hx hb hown hwX4 (hts _ u_15) hK hP dX4_lots_47 ?_
        refine lv_iload_n hx hb dX4_lots_50 rfl (lv_at hl 1 rfl) ?_
        refine lv_iload_n hx hb dX4_lots_51 rfl (lv_at hl 2 rfl) ?_
        refine z_goi (wf := xW) hS hE (fun F1 h1 => (va_runV (As := [.int x1, .int x2]) (rest := []) ⟨hx, hb, hml, hown, hts⟩ (kX3_timesHome l E hD x1 x2 σ_1 F1 h1) (cwV 2 hts (gU_V u_895 u_896 u_897 u_14 u_898) rfl rfl rfl q_X3_timesHome ⟨Nat.le_of_ble_eq_true rfl, Nat.le_of_ble_eq_true rfl⟩) (z_preV hK hP hS (ci := 3) (q0 := 1) rfl rfl rfl) rfl rfl hl.1 rfl (lv_room (Nat.le_of_ble_eq_true rfl)) dX4_lots_52 ⟨Nat.le_of_ble_eq_true rfl, Nat.le_of_ble_eq_true rfl⟩)) (fun r_3 σ_2 H locs hP hS hE => ?_)
        exact z_iret hx hb hr hlk hP hS dX4_lots_55 hE
      refine lv_aload_n hx hb dX4_lots_35 rfl (lv_at hl 0 rfl) ?_
      refine lv_bipush (v := -3) hx hb dX4_lots_36 (by decide) ?_
      refine z_goi (wf := xW) hS hE (fun F1 h1 => (va_runV (As := [.int (-3)]) (rest := []) ⟨hx, hb, hml, hown, hts⟩ (kX4_refuse l E hD (-3) σ F1 h1) (cwV 1 hts (gU_V u_118 u_119 u_120 u_2 u_121) rfl rfl rfl q_X4_refuse ⟨Nat.le_of_ble_eq_true rfl, Nat.le_of_ble_eq_true rfl⟩) (z_preV hK hP hS (ci := 4) (q0 := 0) rfl rfl rfl) rfl rfl hl.1 rfl (lv_room (Nat.le_of_ble_eq_true rfl)) dX4_lots_38 ⟨Nat.le_of_ble_eq_true rfl, Nat.le_of_ble_eq_true rfl⟩)) (fun r_5 σ_4 H locs hP hS hE => ?_)
      exact z_iret hx hb hr hlk hP hS dX4_lots_41 hE
    refine lv_aload_n hx hb dX4_lots_18 rfl (lv_at hl 0 rfl) ?_
    refine lv_bipush (v := -6) hx hb dX4_lots_19 (by decide) ?_
    refine z_goi (wf := xW) hS hE (fun F1 h1 => (va_runV (As := [.int (-6)]) (rest := []) ⟨hx, hb, hml, hown, hts⟩ (kX4_refuse l E hD (-6) σ F1 h1) (cwV 1 hts (gU_V u_118 u_119 u_120 u_2 u_121) rfl rfl rfl q_X4_refuse ⟨Nat.le_of_ble_eq_true rfl, Nat.le_of_ble_eq_true rfl⟩) (z_preV hK hP hS (ci := 4) (q0 := 0) rfl rfl rfl) rfl rfl hl.1 rfl (lv_room (Nat.le_of_ble_eq_true rfl)) dX4_lots_21 ⟨Nat.le_of_ble_eq_true rfl, Nat.le_of_ble_eq_true rfl⟩)) (fun r_7 σ_6 H locs hP hS hE => ?_)
    exact z_iret hx hb hr hlk hP hS dX4_lots_24 hE
  refine lv_aload_n hx hb dX4_lots_5 rfl (lv_at hl 0 rfl) ?_
  refine lv_bipush (v := -4) hx hb dX4_lots_6 (by decide) ?_
  refine z_goi (wf := xW) hS hE (fun F1 h1 => (va_runV (As := [.int (-4)]) (rest := []) ⟨hx, hb, hml, hown, hts⟩ (kX4_refuse l E hD (-4) σ F1 h1) (cwV 1 hts (gU_V u_118 u_119 u_120 u_2 u_121) rfl rfl rfl q_X4_refuse ⟨Nat.le_of_ble_eq_true rfl, Nat.le_of_ble_eq_true rfl⟩) (z_preV hK hP hS (ci := 4) (q0 := 0) rfl rfl rfl) rfl rfl hl.1 rfl (lv_room (Nat.le_of_ble_eq_true rfl)) dX4_lots_8 ⟨Nat.le_of_ble_eq_true rfl, Nat.le_of_ble_eq_true rfl⟩)) (fun r_9 σ_8 H locs hP hS hE => ?_)
  exact z_iret hx hb hr hlk hP hS dX4_lots_11 hE
theorem kX4_lots (l : Launch) (E : EN) (hD : ∀ σ, va_D (eA E) (xW E σ)) (x1 : Int32) (x2 : Int32) (σ : ST) (F : Int32 × ST) (hE : fX4_lots x1 x2 σ = some F) : Met l yX4_lots wu_X4_lots r_X4_lots (zPc E xW [.ref (ea E 0), .int x1, .int x2] σ) (zQi E xW F) 0 0 (eA E) := by
  refine Met.ofW (cc := cX4_lots) (maxL := 3) (ret := (some .int)) (by decide) rfl ?_
  intro p e s m args below meth c s₁ B hml hv
  obtain ⟨rfl, hP, hK⟩ := hv
  have hl := lv_entry ([.ref (ea E 0), .int x1, .int x2]) (n := 3) (Nat.le_of_ble_eq_true rfl)
  rw [lg_entry_eq]
  generalize (lg_sl ([.ref (ea E 0), .int x1, .int x2]) ++ List.replicate (3 - (lg_sl ([.ref (ea E 0), .int x1, .int x2])).length) Slot.unset).toArray = ls at hl ⊢
  exact wX4_lots ⟨B.exec, B.bytes, hml, findClass_of_methodNamed B.named, fun w h => atoms_spec (ws := wu_X4_lots) B.pre w (List.mem_cons_of_mem _ h), B.returns, B.notSynchronized, hK, hD⟩ x1 x2 σ s.heap [] ls hl hP va_S.rf hE
def fX2_allWorth_4_L4 (ke : Int32 → ST → Option (Int32 × ST)) : Nat → Int32 → Int32 → ST → Option (Int32 × ST)
  | 0, _, _, _ => none
  | n + 1, x1, x2, σ => (if (gI σ 5) ≤ x2 then ke x1 σ else ald (gA σ 15) 5 x2 (fun v_3 => bnd ((x1 + v_3) : Int32) (fun x1_4 => bnd (x2 + 1) (fun x2_5 => fX2_allWorth_4_L4 ke n x1_4 x2_5 σ))))
set_option maxHeartbeats 4000000 in
set_option maxRecDepth 100000 in
theorem wX2_allWorth_4_L4 {p : Program} {l : Launch} {e : Env} {s : State} {m : MethodId} {args : Array Value} {below : List Frame} {meth : Method} {c : Code} {E : EN} (C : zC E xW p s m args meth c cX2_allWorth 3 RX2 (some .int) wsL_law) {F : Int32 × ST} {ke : Int32 → ST → Option (Int32 × ST)} (hke : ∀ (x1 : Int32) (σ : ST) (H : Heap) (locs : List Loc) (ls : Array Slot), lv_has ls 3 [(1, .int x1)] → va_P (eD E) vwCl (xW E σ) H → va_S (eA E) s.heap H locs → ke x1 σ = some F → zWi E xW p l e r_X2_allWorth s m args below meth c F H locs (F0 m 27 ls [])) : ∀ (n : Nat) (x1 : Int32) (x2 : Int32) (σ : ST) (H : Heap) (locs : List Loc) (ls : Array Slot), lv_has ls 3 [(0, .ref (ea E 4)), (1, .int x1), (2, .int x2)] → va_P (eD E) vwCl (xW E σ) H → va_S (eA E) s.heap H locs → fX2_allWorth_4_L4 ke n x1 x2 σ = some F → zWi E xW p l e r_X2_allWorth s m args below meth c F H locs (F0 m 4 ls []) := by
  obtain ⟨hx, hb, hml, hown, hts, hr, hlk, hK, hD⟩ := id C
  have hwX2 : ∀ w ∈ wsX20, w.before args s = true := fun w h => hts w (inlX2 w h)
  intro n
  induction n with
  | zero => intro x1 x2 σ H locs ls hl hP hS hE; rw [fX2_allWorth_4_L4] at hE; cases hE
  | succ n ih =>
    intro x1 x2 σ H locs ls hl hP hS hE
    rw [fX2_allWorth_4_L4] at hE
    refine lv_iload_n hx hb dX2_allWorth_4 rfl (lv_at hl 2 rfl) ?_
    refine lv_aload_n hx hb dX2_allWorth_5 rfl (lv_at hl 0 rfl) ?_
    refine xg_4_13 hx hb hown hwX2 (hts _ u_75) hK hP dX2_allWorth_6 ?_
    refine z_icmp_ge (tgt := 27) hx hb dX2_allWorth_9 (by decide) hE (fun hE => ?_) (fun hE => ?_)
    · exact hke x1 σ _ _ _ (lv_sub hl [1] rfl) hP hS hE
    refine lv_iload_n hx hb dX2_allWorth_12 rfl (lv_at hl 1 rfl) ?_
    refine lv_aload_n hx hb dX2_allWorth_13 rfl (lv_at hl 0 rfl) ?_
    refine xg_4_9 hx hb hown hwX2 (hts _ u_71) hK hP dX2_allWorth_14 ?_
    refine lv_iload_n hx hb dX2_allWorth_17 rfl (lv_at hl 2 rfl) ?_
    refine xa_22 hx hb hK hP dX2_allWorth_18 hE (fun v_3 hE => ?_)
    refine lv_iadd hx hb dX2_allWorth_19 ?_
    refine z_istore_n hx hb (fun x1_4 => [(1, .int x1_4), (0, .ref (ea E 4)), (2, .int x2)]) dX2_allWorth_20 rfl hl (by decide) rfl hE (fun x1_4 ls hl hE => ?_)
    refine z_iinc hx hb (v := (x2 + 1)) (k := 2) (fun x2_5 => [(2, .int x2_5), (1, .int x1_4), (0, .ref (ea E 4))]) dX2_allWorth_21 hl rfl (by rfl) (by decide) rfl hE (fun x2_5 ls hl hE => ?_)
    refine lv_goto (tgt := 4) hx hb dX2_allWorth_24 (by decide) ?_
    exact ih x1_4 x2_5 σ _ _ _ (lv_sub hl [2, 1, 0] rfl) hP hS hE
def fX2_allWorth_4   (σ : ST) : Option (Int32 × ST) :=
  bnd (0 : Int32) (fun x1_1 => bnd (0 : Int32) (fun x2_2 => fX2_allWorth_4_L4 (fun x1_6 σ_7 => some (x1_6, σ_7)) FU x1_1 x2_2 σ))
set_option maxHeartbeats 4000000 in
set_option maxRecDepth 100000 in
theorem wX2_allWorth_4 {p : Program} {l : Launch} {e : Env} {s : State} {m : MethodId} {args : Array Value} {below : List Frame} {meth : Method} {c : Code} {E : EN} (C : zC E xW p s m args meth c cX2_allWorth 3 RX2 (some .int) wsL_law) {F : Int32 × ST}    (σ : ST) (H : Heap) (locs : List Loc) (ls : Array Slot) (hl : lv_has ls 3 [(0, .ref (ea E 4))]) (hP : va_P (eD E) vwCl (xW E σ) H) (hS : va_S (eA E) s.heap H locs) (hE : fX2_allWorth_4   σ = some F) : zWi E xW p l e r_X2_allWorth s m args below meth c F H locs (F0 m 0 ls []) := by
  obtain ⟨hx, hb, hml, hown, hts, hr, hlk, hK, hD⟩ := id C
  unfold fX2_allWorth_4 at hE
  refine lv_iconst (v := 0) hx hb dX2_allWorth_0 (by decide) ?_
  refine z_istore_n hx hb (fun x1_1 => [(1, .int x1_1), (0, .ref (ea E 4))]) dX2_allWorth_1 rfl hl (by decide) rfl hE (fun x1_1 ls hl hE => ?_)
  refine lv_iconst (v := 0) hx hb dX2_allWorth_2 (by decide) ?_
  refine z_istore_n hx hb (fun x2_2 => [(2, .int x2_2), (1, .int x1_1), (0, .ref (ea E 4))]) dX2_allWorth_3 rfl hl (by decide) rfl hE (fun x2_2 ls hl hE => ?_)
  refine wX2_allWorth_4_L4 C ?_ FU x1_1 x2_2 σ _ _ _ (lv_sub hl [2, 1, 0] rfl) hP hS hE
  intro x1_6 σ_7 H locs ls hl hP hS hE
  refine lv_iload_n hx hb dX2_allWorth_27 rfl (lv_at hl 0 rfl) ?_
  exact z_iret hx hb hr hlk hP hS dX2_allWorth_28 hE
theorem kX2_allWorth_4 (l : Launch) (E : EN) (hD : ∀ σ, va_D (eA E) (xW E σ))  (σ : ST) (F : Int32 × ST) (hE : fX2_allWorth_4  σ = some F) : Met l yX2_allWorth wu_X2_allWorth r_X2_allWorth (zPc E xW [.ref (ea E 4)] σ) (zQi E xW F) 0 0 (eA E) := by
  refine Met.ofW (cc := cX2_allWorth) (maxL := 3) (ret := (some .int)) (by decide) rfl ?_
  intro p e s m args below meth c s₁ B hml hv
  obtain ⟨rfl, hP, hK⟩ := hv
  have hl := lv_entry ([.ref (ea E 4)]) (n := 3) (Nat.le_of_ble_eq_true rfl)
  rw [lg_entry_eq]
  generalize (lg_sl ([.ref (ea E 4)]) ++ List.replicate (3 - (lg_sl ([.ref (ea E 4)])).length) Slot.unset).toArray = ls at hl ⊢
  exact wX2_allWorth_4 ⟨B.exec, B.bytes, hml, findClass_of_methodNamed B.named, fun w h => atoms_spec (ws := wu_X2_allWorth) B.pre w (List.mem_cons_of_mem _ h), B.returns, B.notSynchronized, hK, hD⟩  σ s.heap [] ls hl hP va_S.rf hE
def fX4_count_J22  (x1 : Int32) (σ : ST) : Option (Int32 × ST) :=
  (if x1 = 0 then some ((gI σ 3), σ) else (if x1 = 1 then some ((gI σ 4), σ) else (if x1 = 2 then some ((gI σ 5), σ) else (if x1 = 3 then cali (fX4_settingOf (x1 - 3) σ) (fun r_2 σ_1 => some (r_2, σ_1)) else (if x1 = 4 then cali (fX4_settingOf (x1 - 3) σ) (fun r_4 σ_3 => some (r_4, σ_3)) else (if x1 = 5 then cali (fX4_settingOf (x1 - 3) σ) (fun r_6 σ_5 => some (r_6, σ_5)) else (if x1 = 6 then cali (fX2_allWorth_4 σ) (fun r_8 σ_7 => some (r_8, σ_7)) else (if x1 = 7 then some ((gI σ 0), σ) else (if x1 = 8 then some ((gI σ 2), σ) else some ((-9), σ))))))))))
set_option maxHeartbeats 4000000 in
set_option maxRecDepth 100000 in
theorem wX4_count_J22 {p : Program} {l : Launch} {e : Env} {s : State} {m : MethodId} {args : Array Value} {below : List Frame} {meth : Method} {c : Code} {E : EN} (C : zC E xW p s m args meth c cX4_count 2 RX4 (some .int) wsL_law) {F : Int32 × ST}   (x1 : Int32) (σ : ST) (H : Heap) (locs : List Loc) (ls : Array Slot) (hl : lv_has ls 2 [(0, .ref (ea E 0)), (1, .int x1)]) (hP : va_P (eD E) vwCl (xW E σ) H) (hS : va_S (eA E) s.heap H locs) (hE : fX4_count_J22  x1 σ = some F) : zWi E xW p l e r_X4_count s m args below meth c F H locs (F0 m 22 ls []) := by
  obtain ⟨hx, hb, hml, hown, hts, hr, hlk, hK, hD⟩ := id C
  have hwX1 : ∀ w ∈ wsX10, w.before args s = true := fun w h => hts w (inlX1 w h)
  have hwX2 : ∀ w ∈ wsX20, w.before args s = true := fun w h => hts w (inlX2 w h)
  have hwX4 : ∀ w ∈ wsX40, w.before args s = true := fun w h => hts w (inlX4 w h)
  unfold fX4_count_J22 at hE
  refine lv_iload_n hx hb dX4_count_22 rfl (lv_at hl 1 rfl) ?_
  by_cases q0 : x1 = 0
  · have hE := (if_pos q0).symm.trans hE
    refine z_tabIn (tgt := 72) hx hb q0 dX4_count_23 (by decide) (by decide) rfl (by decide) ?_
    refine lv_aload_n hx hb dX4_count_72 rfl (lv_at hl 0 rfl) ?_
    refine xg_0_1 hx hb hown hwX4 (hts _ u_17) hK hP dX4_count_73 ?_
    refine xg_4_11 hx hb hown hwX2 (hts _ u_387) hK hP dX4_count_76 ?_
    exact z_iret hx hb hr hlk hP hS dX4_count_79 hE
  replace hE := (if_neg q0).symm.trans hE
  by_cases q1 : x1 = 1
  · have hE := (if_pos q1).symm.trans hE
    refine z_tabIn (tgt := 80) hx hb q1 dX4_count_23 (by decide) (by decide) rfl (by decide) ?_
    refine lv_aload_n hx hb dX4_count_80 rfl (lv_at hl 0 rfl) ?_
    refine xg_0_1 hx hb hown hwX4 (hts _ u_17) hK hP dX4_count_81 ?_
    refine xg_4_12 hx hb hown hwX2 (hts _ u_927) hK hP dX4_count_84 ?_
    exact z_iret hx hb hr hlk hP hS dX4_count_87 hE
  replace hE := (if_neg q1).symm.trans hE
  by_cases q2 : x1 = 2
  · have hE := (if_pos q2).symm.trans hE
    refine z_tabIn (tgt := 88) hx hb q2 dX4_count_23 (by decide) (by decide) rfl (by decide) ?_
    refine lv_aload_n hx hb dX4_count_88 rfl (lv_at hl 0 rfl) ?_
    refine xg_0_1 hx hb hown hwX4 (hts _ u_17) hK hP dX4_count_89 ?_
    refine xg_4_13 hx hb hown hwX2 (hts _ u_446) hK hP dX4_count_92 ?_
    exact z_iret hx hb hr hlk hP hS dX4_count_95 hE
  replace hE := (if_neg q2).symm.trans hE
  by_cases q3 : x1 = 3
  · have hE := (if_pos q3).symm.trans hE
    refine z_tabIn (tgt := 96) hx hb q3 dX4_count_23 (by decide) (by decide) rfl (by decide) ?_
    refine lv_aload_n hx hb dX4_count_96 rfl (lv_at hl 0 rfl) ?_
    refine lv_iload_n hx hb dX4_count_97 rfl (lv_at hl 1 rfl) ?_
    refine lv_iconst (v := 3) hx hb dX4_count_98 (by decide) ?_
    refine lv_isub hx hb dX4_count_99 ?_
    refine z_goi (wf := xW) hS hE (fun F1 h1 => (va_runV (As := [.int (x1 - 3)]) (rest := []) ⟨hx, hb, hml, hown, hts⟩ (kX4_settingOf l E hD (x1 - 3) σ F1 h1) (cwV 1 hts (gU_V u_465 u_466 u_467 u_2 u_468) rfl rfl rfl q_X4_settingOf ⟨Nat.le_of_ble_eq_true rfl, Nat.le_of_ble_eq_true rfl⟩) (z_preV hK hP hS (ci := 4) (q0 := 0) rfl rfl rfl) rfl rfl hl.1 rfl (lv_room (Nat.le_of_ble_eq_true rfl)) dX4_count_100 ⟨Nat.le_of_ble_eq_true rfl, Nat.le_of_ble_eq_true rfl⟩)) (fun r_2 σ_1 H locs hP hS hE => ?_)
    exact z_iret hx hb hr hlk hP hS dX4_count_103 hE
  replace hE := (if_neg q3).symm.trans hE
  by_cases q4 : x1 = 4
  · have hE := (if_pos q4).symm.trans hE
    refine z_tabIn (tgt := 96) hx hb q4 dX4_count_23 (by decide) (by decide) rfl (by decide) ?_
    refine lv_aload_n hx hb dX4_count_96 rfl (lv_at hl 0 rfl) ?_
    refine lv_iload_n hx hb dX4_count_97 rfl (lv_at hl 1 rfl) ?_
    refine lv_iconst (v := 3) hx hb dX4_count_98 (by decide) ?_
    refine lv_isub hx hb dX4_count_99 ?_
    refine z_goi (wf := xW) hS hE (fun F1 h1 => (va_runV (As := [.int (x1 - 3)]) (rest := []) ⟨hx, hb, hml, hown, hts⟩ (kX4_settingOf l E hD (x1 - 3) σ F1 h1) (cwV 1 hts (gU_V u_465 u_466 u_467 u_2 u_468) rfl rfl rfl q_X4_settingOf ⟨Nat.le_of_ble_eq_true rfl, Nat.le_of_ble_eq_true rfl⟩) (z_preV hK hP hS (ci := 4) (q0 := 0) rfl rfl rfl) rfl rfl hl.1 rfl (lv_room (Nat.le_of_ble_eq_true rfl)) dX4_count_100 ⟨Nat.le_of_ble_eq_true rfl, Nat.le_of_ble_eq_true rfl⟩)) (fun r_4 σ_3 H locs hP hS hE => ?_)
    exact z_iret hx hb hr hlk hP hS dX4_count_103 hE
  replace hE := (if_neg q4).symm.trans hE
  by_cases q5 : x1 = 5
  · have hE := (if_pos q5).symm.trans hE
    refine z_tabIn (tgt := 96) hx hb q5 dX4_count_23 (by decide) (by decide) rfl (by decide) ?_
    refine lv_aload_n hx hb dX4_count_96 rfl (lv_at hl 0 rfl) ?_
    refine lv_iload_n hx hb dX4_count_97 rfl (lv_at hl 1 rfl) ?_
    refine lv_iconst (v := 3) hx hb dX4_count_98 (by decide) ?_
    refine lv_isub hx hb dX4_count_99 ?_
    refine z_goi (wf := xW) hS hE (fun F1 h1 => (va_runV (As := [.int (x1 - 3)]) (rest := []) ⟨hx, hb, hml, hown, hts⟩ (kX4_settingOf l E hD (x1 - 3) σ F1 h1) (cwV 1 hts (gU_V u_465 u_466 u_467 u_2 u_468) rfl rfl rfl q_X4_settingOf ⟨Nat.le_of_ble_eq_true rfl, Nat.le_of_ble_eq_true rfl⟩) (z_preV hK hP hS (ci := 4) (q0 := 0) rfl rfl rfl) rfl rfl hl.1 rfl (lv_room (Nat.le_of_ble_eq_true rfl)) dX4_count_100 ⟨Nat.le_of_ble_eq_true rfl, Nat.le_of_ble_eq_true rfl⟩)) (fun r_6 σ_5 H locs hP hS hE => ?_)
    exact z_iret hx hb hr hlk hP hS dX4_count_103 hE
  replace hE := (if_neg q5).symm.trans hE
  by_cases q6 : x1 = 6
  · have hE := (if_pos q6).symm.trans hE
    refine z_tabIn (tgt := 104) hx hb q6 dX4_count_23 (by decide) (by decide) rfl (by decide) ?_
    refine lv_aload_n hx hb dX4_count_104 rfl (lv_at hl 0 rfl) ?_
    refine xg_0_1 hx hb hown hwX4 (hts _ u_17) hK hP dX4_count_105 ?_
    refine z_goi (wf := xW) hS hE (fun F1 h1 => (va_runV (As := []) (rest := []) ⟨hx, hb, hml, hown, hts⟩ (kX2_allWorth_4 l E hD  σ F1 h1) (cwV 0 hts (gU_V u_928 u_929 u_930 u_22 u_931) rfl rfl rfl q_X2_allWorth ⟨Nat.le_of_ble_eq_true rfl, Nat.le_of_ble_eq_true rfl⟩) (z_preV hK hP hS (ci := 2) (q0 := 4) rfl rfl rfl) rfl rfl hl.1 rfl (lv_room (Nat.le_of_ble_eq_true rfl)) dX4_count_108 ⟨Nat.le_of_ble_eq_true rfl, Nat.le_of_ble_eq_true rfl⟩)) (fun r_8 σ_7 H locs hP hS hE => ?_)
    exact z_iret hx hb hr hlk hP hS dX4_count_111 hE
  replace hE := (if_neg q6).symm.trans hE
  by_cases q7 : x1 = 7
  · have hE := (if_pos q7).symm.trans hE
    refine z_tabIn (tgt := 112) hx hb q7 dX4_count_23 (by decide) (by decide) rfl (by decide) ?_
    refine lv_aload_n hx hb dX4_count_112 rfl (lv_at hl 0 rfl) ?_
    refine xg_0_10 hx hb hown hwX4 (hts _ u_34) hK hP dX4_count_113 ?_
    exact z_iret hx hb hr hlk hP hS dX4_count_116 hE
  replace hE := (if_neg q7).symm.trans hE
  by_cases q8 : x1 = 8
  · have hE := (if_pos q8).symm.trans hE
    refine z_tabIn (tgt := 117) hx hb q8 dX4_count_23 (by decide) (by decide) rfl (by decide) ?_
    refine lv_aload_n hx hb dX4_count_117 rfl (lv_at hl 0 rfl) ?_
    refine xg_0_5 hx hb hown hwX4 (hts _ u_28) hK hP dX4_count_118 ?_
    refine xg_3_1 hx hb hown hwX1 (hts _ u_117) hK hP dX4_count_121 ?_
    exact z_iret hx hb hr hlk hP hS dX4_count_124 hE
  replace hE := (if_neg q8).symm.trans hE
  refine lv_tableOut (tgt := 125) hx hb dX4_count_23 (z_out (fun k h1 h2 h3 => by
      rcases (show k = 0 ∨ k = 1 ∨ k = 2 ∨ k = 3 ∨ k = 4 ∨ k = 5 ∨ k = 6 ∨ k = 7 ∨ k = 8 by omega) with rfl | rfl | rfl | rfl | rfl | rfl | rfl | rfl | rfl
      · exact z_ne q0 (h3.trans (by decide))
      · exact z_ne q1 (h3.trans (by decide))
      · exact z_ne q2 (h3.trans (by decide))
      · exact z_ne q3 (h3.trans (by decide))
      · exact z_ne q4 (h3.trans (by decide))
      · exact z_ne q5 (h3.trans (by decide))
      · exact z_ne q6 (h3.trans (by decide))
      · exact z_ne q7 (h3.trans (by decide))
      · exact z_ne q8 (h3.trans (by decide)))) (by decide) ?_
  refine lv_bipush (v := -9) hx hb dX4_count_125 (by decide) ?_
  exact z_iret hx hb hr hlk hP hS dX4_count_127 hE
def fX4_count  (x1 : Int32) (σ : ST) : Option (Int32 × ST) :=
  (if x1 < 11 then fX4_count_J22  x1 σ else (if 16 < x1 then fX4_count_J22  x1 σ else ald (gA σ 46) 7 (x1 - 10) (fun v_9 => some (v_9, σ))))
set_option maxHeartbeats 4000000 in
set_option maxRecDepth 100000 in
theorem wX4_count {p : Program} {l : Launch} {e : Env} {s : State} {m : MethodId} {args : Array Value} {below : List Frame} {meth : Method} {c : Code} {E : EN} (C : zC E xW p s m args meth c cX4_count 2 RX4 (some .int) wsL_law) {F : Int32 × ST}   (x1 : Int32) (σ : ST) (H : Heap) (locs : List Loc) (ls : Array Slot) (hl : lv_has ls 2 [(0, .ref (ea E 0)), (1, .int x1)]) (hP : va_P (eD E) vwCl (xW E σ) H) (hS : va_S (eA E) s.heap H locs) (hE : fX4_count  x1 σ = some F) : zWi E xW p l e r_X4_count s m args below meth c F H locs (F0 m 0 ls []) := by
  obtain ⟨hx, hb, hml, hown, hts, hr, hlk, hK, hD⟩ := id C
  have hwX4 : ∀ w ∈ wsX40, w.before args s = true := fun w h => hts w (inlX4 w h)
  unfold fX4_count at hE
  refine lv_iload_n hx hb dX4_count_0 rfl (lv_at hl 1 rfl) ?_
  refine lv_bipush (v := 11) hx hb dX4_count_1 (by decide) ?_
  refine z_icmp_lt (tgt := 22) hx hb dX4_count_3 (by decide) hE (fun hE => ?_) (fun hE => ?_)
  · exact wX4_count_J22 C  x1 σ _ _ _ (lv_sub hl [0, 1] rfl) hP hS hE
  refine lv_iload_n hx hb dX4_count_6 rfl (lv_at hl 1 rfl) ?_
  refine lv_bipush (v := 16) hx hb dX4_count_7 (by decide) ?_
  refine z_icmp_gt (tgt := 22) hx hb dX4_count_9 (by decide) hE (fun hE => ?_) (fun hE => ?_)
  · exact wX4_count_J22 C  x1 σ _ _ _ (lv_sub hl [0, 1] rfl) hP hS hE
  refine lv_aload_n hx hb dX4_count_12 rfl (lv_at hl 0 rfl) ?_
  refine xg_0_9 hx hb hown hwX4 (hts _ u_33) hK hP dX4_count_13 ?_
  refine lv_iload_n hx hb dX4_count_16 rfl (lv_at hl 1 rfl) ?_
  refine lv_bipush (v := 10) hx hb dX4_count_17 (by decide) ?_
  refine lv_isub hx hb dX4_count_19 ?_
  refine xa_53 hx hb hK hP dX4_count_20 hE (fun v_9 hE => ?_)
  exact z_iret hx hb hr hlk hP hS dX4_count_21 hE
theorem kX4_count (l : Launch) (E : EN) (hD : ∀ σ, va_D (eA E) (xW E σ)) (x1 : Int32) (σ : ST) (F : Int32 × ST) (hE : fX4_count x1 σ = some F) : Met l yX4_count wu_X4_count r_X4_count (zPc E xW [.ref (ea E 0), .int x1] σ) (zQi E xW F) 0 0 (eA E) := by
  refine Met.ofW (cc := cX4_count) (maxL := 2) (ret := (some .int)) (by decide) rfl ?_
  intro p e s m args below meth c s₁ B hml hv
  obtain ⟨rfl, hP, hK⟩ := hv
  have hl := lv_entry ([.ref (ea E 0), .int x1]) (n := 2) (Nat.le_of_ble_eq_true rfl)
  rw [lg_entry_eq]
  generalize (lg_sl ([.ref (ea E 0), .int x1]) ++ List.replicate (2 - (lg_sl ([.ref (ea E 0), .int x1])).length) Slot.unset).toArray = ls at hl ⊢
  exact wX4_count ⟨B.exec, B.bytes, hml, findClass_of_methodNamed B.named, fun w h => atoms_spec (ws := wu_X4_count) B.pre w (List.mem_cons_of_mem _ h), B.returns, B.notSynchronized, hK, hD⟩ x1 σ s.heap [] ls hl hP va_S.rf hE
