def fX5_bestWorth  (x1 : Int32) (x2 : Int32) (σ : ST) : Option (Int64 × ST) :=
  cali (fX5_isNoBest x1 σ) (fun r_2 σ_1 => (if r_2 = 0 then cali (fX5_isNoPart x2 σ_1) (fun r_6 σ_5 => (if r_6 = 0 then cali (fX5_isNoTown σ_5) (fun r_8 σ_7 => (if r_8 = 0 then calv (fX5_seekBest x1 σ_7) (fun σ_9 => call (fX5_part (gL σ_9 3) x2 σ_9) (fun r_11 σ_10 => some (r_11, σ_10))) else call (fX5_noLong (-3) σ_7) (fun r_13 σ_12 => some (r_13, σ_12)))) else call (fX5_noLong (-2) σ_5) (fun r_15 σ_14 => some (r_15, σ_14)))) else call (fX5_noLong (-2) σ_1) (fun r_4 σ_3 => some (r_4, σ_3))))
set_option maxHeartbeats 4000000 in
set_option maxRecDepth 100000 in
theorem wX5_bestWorth {p : Program} {l : Launch} {e : Env} {s : State} {m : MethodId} {args : Array Value} {below : List Frame} {meth : Method} {c : Code} {E : EN} (C : zC E mW p s m args meth c cX5_bestWorth 3 RX5 (some .long) wsX5_bestWorth) {F : Int64 × ST}   (x1 : Int32) (x2 : Int32) (σ : ST) (H : Heap) (locs : List Loc) (ls : Array Slot) (hl : lv_has ls 3 [(0, .ref (ea E 0)), (1, .int x1), (2, .int x2)]) (hP : va_P (eD E) vwCl (mW E σ) H) (hS : va_S (eA E) s.heap H locs) (hE : fX5_bestWorth  x1 x2 σ = some F) : zWl E mW p l e r_X5_bestWorth s m args below meth c F H locs (F0 m 0 ls []) := by
  obtain ⟨hx, hb, hml, hown, hts, hr, hlk, hK, hD⟩ := id C
  have hwX5 : ∀ w ∈ wsX50, w.before args s = true := fun w h => hts w (List.mem_cons_of_mem _ (List.mem_append_right _ h))
  unfold fX5_bestWorth at hE
  refine lv_iload_n hx hb dX5_bestWorth_0 rfl (lv_at hl 1 rfl) ?_
  refine z_goi (wf := mW) hS hE (fun F1 h1 => (va_runS (As := [.int x1]) (rest := []) ⟨hx, hb, hml, hown, hts⟩ (kX5_isNoBest l E hD x1 σ F1 h1) (va_cwS 1 hts gX5_bestWorth_X5_isNoBest rfl rfl rfl q_X5_isNoBest ⟨Nat.le_of_ble_eq_true rfl, Nat.le_of_ble_eq_true rfl⟩) (z_preS hK hP hS) rfl rfl hl.1 rfl (lv_room (Nat.le_of_ble_eq_true rfl)) dX5_bestWorth_1 ⟨Nat.le_of_ble_eq_true rfl, Nat.le_of_ble_eq_true rfl⟩)) (fun r_2 σ_1 H locs hP hS hE => ?_)
  refine z_if_ne (tgt := 14) hx hb dX5_bestWorth_4 (by decide) hE (fun hE => ?_) (fun hE => ?_)
  · refine lv_aload_n hx hb dX5_bestWorth_14 rfl (lv_at hl 0 rfl) ?_
    refine lv_bipush (v := -2) hx hb dX5_bestWorth_15 (by decide) ?_
    refine z_gol (wf := mW) hS hE (fun F1 h1 => (va_runV (As := [.int (-2)]) (rest := []) ⟨hx, hb, hml, hown, hts⟩ (kX5_noLong l E hD (-2) σ_1 F1 h1) (cwV 1 hts gX5_bestWorth_X5_noLong rfl rfl rfl q_X5_noLong ⟨Nat.le_of_ble_eq_true rfl, Nat.le_of_ble_eq_true rfl⟩) (z_preV hK hP hS (ci := 5) (q0 := 0) rfl rfl rfl) rfl rfl hl.1 rfl (lv_room (Nat.le_of_ble_eq_true rfl)) dX5_bestWorth_17 ⟨Nat.le_of_ble_eq_true rfl, Nat.le_of_ble_eq_true rfl⟩)) (fun r_4 σ_3 H locs hP hS hE => ?_)
    exact z_lret hx hb hr hlk hP hS dX5_bestWorth_20 hE
  refine lv_iload_n hx hb dX5_bestWorth_7 rfl (lv_at hl 2 rfl) ?_
  refine z_goi (wf := mW) hS hE (fun F1 h1 => (va_runS (As := [.int x2]) (rest := []) ⟨hx, hb, hml, hown, hts⟩ (kX5_isNoPart l E hD x2 σ_1 F1 h1) (va_cwS 1 hts gX5_bestWorth_X5_isNoPart rfl rfl rfl q_X5_isNoPart ⟨Nat.le_of_ble_eq_true rfl, Nat.le_of_ble_eq_true rfl⟩) (z_preS hK hP hS) rfl rfl hl.1 rfl (lv_room (Nat.le_of_ble_eq_true rfl)) dX5_bestWorth_8 ⟨Nat.le_of_ble_eq_true rfl, Nat.le_of_ble_eq_true rfl⟩)) (fun r_6 σ_5 H locs hP hS hE => ?_)
  refine z_if_eq (tgt := 21) hx hb dX5_bestWorth_11 (by decide) hE (fun hE => ?_) (fun hE => ?_)
  · refine lv_aload_n hx hb dX5_bestWorth_21 rfl (lv_at hl 0 rfl) ?_
    refine z_goi (wf := mW) hS hE (fun F1 h1 => (va_runV (As := []) (rest := []) ⟨hx, hb, hml, hown, hts⟩ (kX5_isNoTown l E hD  σ_5 F1 h1) (cwV 0 hts gX5_bestWorth_X5_isNoTown rfl rfl rfl q_X5_isNoTown ⟨Nat.le_of_ble_eq_true rfl, Nat.le_of_ble_eq_true rfl⟩) (z_preV hK hP hS (ci := 5) (q0 := 0) rfl rfl rfl) rfl rfl hl.1 rfl (lv_room (Nat.le_of_ble_eq_true rfl)) dX5_bestWorth_22 ⟨Nat.le_of_ble_eq_true rfl, Nat.le_of_ble_eq_true rfl⟩)) (fun r_8 σ_7 H locs hP hS hE => ?_)
    refine z_if_eq (tgt := 35) hx hb dX5_bestWorth_25 (by decide) hE (fun hE => ?_) (fun hE => ?_)
    · refine lv_aload_n hx hb dX5_bestWorth_35 rfl (lv_at hl 0 rfl) ?_
      refine lv_iload_n hx hb dX5_bestWorth_36 rfl (lv_at hl 1 rfl) ?_
      refine z_gov (wf := mW) hS hE (fun F1 h1 => (va_runV (As := [.int x1]) (rest := []) ⟨hx, hb, hml, hown, hts⟩ (kX5_seekBest l E hD x1 σ_7 F1 h1) (cwV 1 hts gX5_bestWorth_X5_seekBest rfl rfl rfl q_X5_seekBest ⟨Nat.le_of_ble_eq_true rfl, Nat.le_of_ble_eq_true rfl⟩) (z_preV hK hP hS (ci := 5) (q0 := 0) rfl rfl rfl) rfl rfl hl.1 rfl (lv_room (Nat.le_of_ble_eq_true rfl)) dX5_bestWorth_37 ⟨Nat.le_of_ble_eq_true rfl, Nat.le_of_ble_eq_true rfl⟩)) (fun σ_9 H locs hP hS hE => ?_)
      refine lv_aload_n hx hb dX5_bestWorth_40 rfl (lv_at hl 0 rfl) ?_
      refine mg_0_37 hx hb hown hwX5 (hts _ (List.mem_of_getElem? (i := 1) rfl)) hK hP dX5_bestWorth_41 ?_
      refine lv_iload_n hx hb dX5_bestWorth_44 rfl (lv_at hl 2 rfl) ?_
      refine z_gol (wf := mW) hS hE (fun F1 h1 => (va_runS (As := [.long (gL σ_9 3), .int x2]) (rest := []) ⟨hx, hb, hml, hown, hts⟩ (kX5_part l E hD (gL σ_9 3) x2 σ_9 F1 h1) (va_cwS 2 hts gX5_bestWorth_X5_part rfl rfl rfl q_X5_part ⟨Nat.le_of_ble_eq_true rfl, Nat.le_of_ble_eq_true rfl⟩) (z_preS hK hP hS) rfl rfl hl.1 rfl (lv_room (Nat.le_of_ble_eq_true rfl)) dX5_bestWorth_45 ⟨Nat.le_of_ble_eq_true rfl, Nat.le_of_ble_eq_true rfl⟩)) (fun r_11 σ_10 H locs hP hS hE => ?_)
      exact z_lret hx hb hr hlk hP hS dX5_bestWorth_48 hE
    refine lv_aload_n hx hb dX5_bestWorth_28 rfl (lv_at hl 0 rfl) ?_
    refine lv_bipush (v := -3) hx hb dX5_bestWorth_29 (by decide) ?_
    refine z_gol (wf := mW) hS hE (fun F1 h1 => (va_runV (As := [.int (-3)]) (rest := []) ⟨hx, hb, hml, hown, hts⟩ (kX5_noLong l E hD (-3) σ_7 F1 h1) (cwV 1 hts gX5_bestWorth_X5_noLong rfl rfl rfl q_X5_noLong ⟨Nat.le_of_ble_eq_true rfl, Nat.le_of_ble_eq_true rfl⟩) (z_preV hK hP hS (ci := 5) (q0 := 0) rfl rfl rfl) rfl rfl hl.1 rfl (lv_room (Nat.le_of_ble_eq_true rfl)) dX5_bestWorth_31 ⟨Nat.le_of_ble_eq_true rfl, Nat.le_of_ble_eq_true rfl⟩)) (fun r_13 σ_12 H locs hP hS hE => ?_)
    exact z_lret hx hb hr hlk hP hS dX5_bestWorth_34 hE
  refine lv_aload_n hx hb dX5_bestWorth_14 rfl (lv_at hl 0 rfl) ?_
  refine lv_bipush (v := -2) hx hb dX5_bestWorth_15 (by decide) ?_
  refine z_gol (wf := mW) hS hE (fun F1 h1 => (va_runV (As := [.int (-2)]) (rest := []) ⟨hx, hb, hml, hown, hts⟩ (kX5_noLong l E hD (-2) σ_5 F1 h1) (cwV 1 hts gX5_bestWorth_X5_noLong rfl rfl rfl q_X5_noLong ⟨Nat.le_of_ble_eq_true rfl, Nat.le_of_ble_eq_true rfl⟩) (z_preV hK hP hS (ci := 5) (q0 := 0) rfl rfl rfl) rfl rfl hl.1 rfl (lv_room (Nat.le_of_ble_eq_true rfl)) dX5_bestWorth_17 ⟨Nat.le_of_ble_eq_true rfl, Nat.le_of_ble_eq_true rfl⟩)) (fun r_15 σ_14 H locs hP hS hE => ?_)
  exact z_lret hx hb hr hlk hP hS dX5_bestWorth_20 hE
theorem kX5_bestWorth (l : Launch) (E : EN) (hD : ∀ σ, va_D (eA E) (mW E σ)) (x1 : Int32) (x2 : Int32) (σ : ST) (F : Int64 × ST) (hE : fX5_bestWorth x1 x2 σ = some F) : Met l yX5_bestWorth wsX5_bestWorth r_X5_bestWorth (zPc E mW [.ref (ea E 0), .int x1, .int x2] σ) (zQl E mW F) 0 0 (eA E) := by
  refine Met.ofW (cc := cX5_bestWorth) (maxL := 3) (ret := (some .long)) (by decide) rfl ?_
  intro p e s m args below meth c s₁ B hml hv
  obtain ⟨rfl, hP, hK⟩ := hv
  have hl := lv_entry ([.ref (ea E 0), .int x1, .int x2]) (n := 3) (Nat.le_of_ble_eq_true rfl)
  rw [lg_entry_eq]
  generalize (lg_sl ([.ref (ea E 0), .int x1, .int x2]) ++ List.replicate (3 - (lg_sl ([.ref (ea E 0), .int x1, .int x2])).length) Slot.unset).toArray = ls at hl ⊢
  exact wX5_bestWorth ⟨B.exec, B.bytes, hml, findClass_of_methodNamed B.named, atoms_spec (ws := wsX5_bestWorth) B.pre, B.returns, B.notSynchronized, hK, hD⟩ x1 x2 σ s.heap [] ls hl hP va_S.rf hE
def fX5_sure_L22 (ke : Int32 → ST → Option (Int32 × ST)) : Nat → Int32 → Int32 → ST → Option (Int32 × ST)
  | 0, _, _, _ => none
  | n + 1, x1, x2, σ => ald (gA σ 1) 200 2 (fun v_6 => (if v_6 ≤ x2 then ke x1 σ else ast σ 12 10 0 x2 (fun σ_7 => bnd (sI σ_7 8 1) (fun σ_8 => ald (gA σ_8 1) 200 5 (fun v_9 => calv (fX5_go v_9 σ_8) (fun σ_10 => (if (gI σ_10 12) = 0 then bnd ((x1 ||| 0) : Int32) (fun x1_11 => bnd (x2 + 1) (fun x2_12 => fX5_sure_L22 ke n x1_11 x2_12 σ_10)) else (if (lg_cmp (gL σ_10 0) 1000000000000) = 0 then bnd ((x1 ||| (gI σ_10 12)) : Int32) (fun x1_15 => bnd (x2 + 1) (fun x2_16 => fX5_sure_L22 ke n x1_15 x2_16 σ_10)) else bnd ((x1 ||| 0) : Int32) (fun x1_13 => bnd (x2 + 1) (fun x2_14 => fX5_sure_L22 ke n x1_13 x2_14 σ_10))))))))))
set_option maxHeartbeats 4000000 in
set_option maxRecDepth 100000 in
theorem wX5_sure_L22 {p : Program} {l : Launch} {e : Env} {s : State} {m : MethodId} {args : Array Value} {below : List Frame} {meth : Method} {c : Code} {E : EN} (C : zC E mW p s m args meth c cX5_sure 3 RX5 (some .int) wsX5_sure) {F : Int32 × ST} {ke : Int32 → ST → Option (Int32 × ST)} (hke : ∀ (x1 : Int32) (σ : ST) (H : Heap) (locs : List Loc) (ls : Array Slot), lv_has ls 3 [(1, .int x1)] → va_P (eD E) vwCl (mW E σ) H → va_S (eA E) s.heap H locs → ke x1 σ = some F → zWi E mW p l e r_X5_sure s m args below meth c F H locs (F0 m 89 ls [])) : ∀ (n : Nat) (x1 : Int32) (x2 : Int32) (σ : ST) (H : Heap) (locs : List Loc) (ls : Array Slot), lv_has ls 3 [(0, .ref (ea E 0)), (1, .int x1), (2, .int x2)] → va_P (eD E) vwCl (mW E σ) H → va_S (eA E) s.heap H locs → fX5_sure_L22 ke n x1 x2 σ = some F → zWi E mW p l e r_X5_sure s m args below meth c F H locs (F0 m 22 ls []) := by
  obtain ⟨hx, hb, hml, hown, hts, hr, hlk, hK, hD⟩ := id C
  have hwX5 : ∀ w ∈ wsX50, w.before args s = true := fun w h => hts w (List.mem_cons_of_mem _ (List.mem_append_right _ h))
  intro n
  induction n with
  | zero => intro x1 x2 σ H locs ls hl hP hS hE; rw [fX5_sure_L22] at hE; cases hE
  | succ n ih =>
    intro x1 x2 σ H locs ls hl hP hS hE
    rw [fX5_sure_L22] at hE
    refine lv_iload_n hx hb dX5_sure_22 rfl (lv_at hl 2 rfl) ?_
    refine lv_aload_n hx hb dX5_sure_23 rfl (lv_at hl 0 rfl) ?_
    refine mg_0_1 hx hb hown hwX5 (hts _ (List.mem_of_getElem? (i := 1) rfl)) hK hP dX5_sure_24 ?_
    refine lv_iconst (v := 2) hx hb dX5_sure_27 (by decide) ?_
    refine ma_2 hx hb hK hP dX5_sure_28 hE (fun v_6 hE => ?_)
    refine z_icmp_ge (tgt := 89) hx hb dX5_sure_29 (by decide) hE (fun hE => ?_) (fun hE => ?_)
    · exact hke x1 σ _ _ _ (lv_sub hl [1] rfl) hP hS hE
    refine lv_aload_n hx hb dX5_sure_32 rfl (lv_at hl 0 rfl) ?_
    refine mg_0_20 hx hb hown hwX5 (hts _ (List.mem_of_getElem? (i := 2) rfl)) hK hP dX5_sure_33 ?_
    refine lv_iconst (v := 0) hx hb dX5_sure_36 (by decide) ?_
    refine lv_iload_n hx hb dX5_sure_37 rfl (lv_at hl 2 rfl) ?_
    refine ms_13 hx hb hK hD hP hS dX5_sure_38 hE (fun σ_7 H locs hP hS hE => ?_)
    refine lv_aload_n hx hb dX5_sure_39 rfl (lv_at hl 0 rfl) ?_
    refine lv_iconst (v := 1) hx hb dX5_sure_40 (by decide) ?_
    refine mp_0_21 hx hb hown hwX5 (hts _ (List.mem_of_getElem? (i := 3) rfl)) hK hD hP hS dX5_sure_41 hE (fun σ_8 H locs hP hS hE => ?_)
    refine lv_aload_n hx hb dX5_sure_44 rfl (lv_at hl 0 rfl) ?_
    refine lv_aload_n hx hb dX5_sure_45 rfl (lv_at hl 0 rfl) ?_
    refine mg_0_1 hx hb hown hwX5 (hts _ (List.mem_of_getElem? (i := 1) rfl)) hK hP dX5_sure_46 ?_
    refine lv_iconst (v := 5) hx hb dX5_sure_49 (by decide) ?_
    refine ma_2 hx hb hK hP dX5_sure_50 hE (fun v_9 hE => ?_)
    refine z_gov (wf := mW) hS hE (fun F1 h1 => (va_runV (As := [.int v_9]) (rest := []) ⟨hx, hb, hml, hown, hts⟩ (kX5_go l E hD v_9 σ_8 F1 h1) (cwV 1 hts gX5_sure_X5_go rfl rfl rfl q_X5_go ⟨Nat.le_of_ble_eq_true rfl, Nat.le_of_ble_eq_true rfl⟩) (z_preV hK hP hS (ci := 5) (q0 := 0) rfl rfl rfl) rfl rfl hl.1 rfl (lv_room (Nat.le_of_ble_eq_true rfl)) dX5_sure_51 ⟨Nat.le_of_ble_eq_true rfl, Nat.le_of_ble_eq_true rfl⟩)) (fun σ_10 H locs hP hS hE => ?_)
    refine lv_iload_n hx hb dX5_sure_54 rfl (lv_at hl 1 rfl) ?_
    refine lv_aload_n hx hb dX5_sure_55 rfl (lv_at hl 0 rfl) ?_
    refine mg_0_25 hx hb hown hwX5 (hts _ (List.mem_of_getElem? (i := 4) rfl)) hK hP dX5_sure_56 ?_
    refine z_if_eq (tgt := 80) hx hb dX5_sure_59 (by decide) hE (fun hE => ?_) (fun hE => ?_)
    · refine lv_iconst (v := 0) hx hb dX5_sure_80 (by decide) ?_
      refine lv_ior hx hb dX5_sure_81 ?_
      refine z_istore_n hx hb (fun x1_11 => [(1, .int x1_11), (0, .ref (ea E 0)), (2, .int x2)]) dX5_sure_82 rfl hl (by decide) rfl hE (fun x1_11 ls hl hE => ?_)
      refine z_iinc hx hb (v := (x2 + 1)) (k := 2) (fun x2_12 => [(2, .int x2_12), (1, .int x1_11), (0, .ref (ea E 0))]) dX5_sure_83 hl rfl (by rfl) (by decide) rfl hE (fun x2_12 ls hl hE => ?_)
      refine lv_goto (tgt := 22) hx hb dX5_sure_86 (by decide) ?_
      exact ih x1_11 x2_12 σ_10 _ _ _ (lv_sub hl [2, 1, 0] rfl) hP hS hE
    refine lv_aload_n hx hb dX5_sure_62 rfl (lv_at hl 0 rfl) ?_
    refine mg_0_27 hx hb hown hwX5 (hts _ (List.mem_of_getElem? (i := 5) rfl)) hK hP dX5_sure_63 ?_
    refine lv_ldc2 (v := 1000000000000) hx hb hown (hts _ (List.mem_of_getElem? (i := 6) rfl)) dX5_sure_66 ?_
    refine W.lcmp hx hb dX5_sure_69 ?_
    refine z_if_ne (tgt := 80) hx hb dX5_sure_70 (by decide) hE (fun hE => ?_) (fun hE => ?_)
    · refine lv_iconst (v := 0) hx hb dX5_sure_80 (by decide) ?_
      refine lv_ior hx hb dX5_sure_81 ?_
      refine z_istore_n hx hb (fun x1_13 => [(1, .int x1_13), (0, .ref (ea E 0)), (2, .int x2)]) dX5_sure_82 rfl hl (by decide) rfl hE (fun x1_13 ls hl hE => ?_)
      refine z_iinc hx hb (v := (x2 + 1)) (k := 2) (fun x2_14 => [(2, .int x2_14), (1, .int x1_13), (0, .ref (ea E 0))]) dX5_sure_83 hl rfl (by rfl) (by decide) rfl hE (fun x2_14 ls hl hE => ?_)
      refine lv_goto (tgt := 22) hx hb dX5_sure_86 (by decide) ?_
      exact ih x1_13 x2_14 σ_10 _ _ _ (lv_sub hl [2, 1, 0] rfl) hP hS hE
    refine lv_aload_n hx hb dX5_sure_73 rfl (lv_at hl 0 rfl) ?_
    refine mg_0_25 hx hb hown hwX5 (hts _ (List.mem_of_getElem? (i := 4) rfl)) hK hP dX5_sure_74 ?_
    refine lv_goto (tgt := 81) hx hb dX5_sure_77 (by decide) ?_
    refine lv_ior hx hb dX5_sure_81 ?_
    refine z_istore_n hx hb (fun x1_15 => [(1, .int x1_15), (0, .ref (ea E 0)), (2, .int x2)]) dX5_sure_82 rfl hl (by decide) rfl hE (fun x1_15 ls hl hE => ?_)
    refine z_iinc hx hb (v := (x2 + 1)) (k := 2) (fun x2_16 => [(2, .int x2_16), (1, .int x1_15), (0, .ref (ea E 0))]) dX5_sure_83 hl rfl (by rfl) (by decide) rfl hE (fun x2_16 ls hl hE => ?_)
    refine lv_goto (tgt := 22) hx hb dX5_sure_86 (by decide) ?_
    exact ih x1_15 x2_16 σ_10 _ _ _ (lv_sub hl [2, 1, 0] rfl) hP hS hE
def fX5_sure   (σ : ST) : Option (Int32 × ST) :=
  cali (fX5_isNoTown σ) (fun r_2 σ_1 => (if r_2 = 0 then calv (fX5_legs σ_1) (fun σ_3 => bnd (0 : Int32) (fun x1_4 => bnd (0 : Int32) (fun x2_5 => fX5_sure_L22 (fun x1_17 σ_18 => some (x1_17, σ_18)) FU x1_4 x2_5 σ_3))) else cali (fX5_no (-3) σ_1) (fun r_20 σ_19 => some (r_20, σ_19))))
set_option maxHeartbeats 4000000 in
set_option maxRecDepth 100000 in
theorem wX5_sure {p : Program} {l : Launch} {e : Env} {s : State} {m : MethodId} {args : Array Value} {below : List Frame} {meth : Method} {c : Code} {E : EN} (C : zC E mW p s m args meth c cX5_sure 3 RX5 (some .int) wsX5_sure) {F : Int32 × ST}    (σ : ST) (H : Heap) (locs : List Loc) (ls : Array Slot) (hl : lv_has ls 3 [(0, .ref (ea E 0))]) (hP : va_P (eD E) vwCl (mW E σ) H) (hS : va_S (eA E) s.heap H locs) (hE : fX5_sure   σ = some F) : zWi E mW p l e r_X5_sure s m args below meth c F H locs (F0 m 0 ls []) := by
  obtain ⟨hx, hb, hml, hown, hts, hr, hlk, hK, hD⟩ := id C
  unfold fX5_sure at hE
  refine lv_aload_n hx hb dX5_sure_0 rfl (lv_at hl 0 rfl) ?_
  refine z_goi (wf := mW) hS hE (fun F1 h1 => (va_runV (As := []) (rest := []) ⟨hx, hb, hml, hown, hts⟩ (kX5_isNoTown l E hD  σ F1 h1) (cwV 0 hts gX5_sure_X5_isNoTown rfl rfl rfl q_X5_isNoTown ⟨Nat.le_of_ble_eq_true rfl, Nat.le_of_ble_eq_true rfl⟩) (z_preV hK hP hS (ci := 5) (q0 := 0) rfl rfl rfl) rfl rfl hl.1 rfl (lv_room (Nat.le_of_ble_eq_true rfl)) dX5_sure_1 ⟨Nat.le_of_ble_eq_true rfl, Nat.le_of_ble_eq_true rfl⟩)) (fun r_2 σ_1 H locs hP hS hE => ?_)
  refine z_if_eq (tgt := 14) hx hb dX5_sure_4 (by decide) hE (fun hE => ?_) (fun hE => ?_)
  · refine lv_aload_n hx hb dX5_sure_14 rfl (lv_at hl 0 rfl) ?_
    refine z_gov (wf := mW) hS hE (fun F1 h1 => (va_runV (As := []) (rest := []) ⟨hx, hb, hml, hown, hts⟩ (kX5_legs l E hD  σ_1 F1 h1) (cwV 0 hts gX5_sure_X5_legs rfl rfl rfl q_X5_legs ⟨Nat.le_of_ble_eq_true rfl, Nat.le_of_ble_eq_true rfl⟩) (z_preV hK hP hS (ci := 5) (q0 := 0) rfl rfl rfl) rfl rfl hl.1 rfl (lv_room (Nat.le_of_ble_eq_true rfl)) dX5_sure_15 ⟨Nat.le_of_ble_eq_true rfl, Nat.le_of_ble_eq_true rfl⟩)) (fun σ_3 H locs hP hS hE => ?_)
    refine lv_iconst (v := 0) hx hb dX5_sure_18 (by decide) ?_
    refine z_istore_n hx hb (fun x1_4 => [(1, .int x1_4), (0, .ref (ea E 0))]) dX5_sure_19 rfl hl (by decide) rfl hE (fun x1_4 ls hl hE => ?_)
    refine lv_iconst (v := 0) hx hb dX5_sure_20 (by decide) ?_
    refine z_istore_n hx hb (fun x2_5 => [(2, .int x2_5), (1, .int x1_4), (0, .ref (ea E 0))]) dX5_sure_21 rfl hl (by decide) rfl hE (fun x2_5 ls hl hE => ?_)
    refine wX5_sure_L22 C ?_ FU x1_4 x2_5 σ_3 _ _ _ (lv_sub hl [2, 1, 0] rfl) hP hS hE
    intro x1_17 σ_18 H locs ls hl hP hS hE
    refine lv_iload_n hx hb dX5_sure_89 rfl (lv_at hl 0 rfl) ?_
    exact z_iret hx hb hr hlk hP hS dX5_sure_90 hE
  refine lv_aload_n hx hb dX5_sure_7 rfl (lv_at hl 0 rfl) ?_
  refine lv_bipush (v := -3) hx hb dX5_sure_8 (by decide) ?_
  refine z_goi (wf := mW) hS hE (fun F1 h1 => (va_runV (As := [.int (-3)]) (rest := []) ⟨hx, hb, hml, hown, hts⟩ (kX5_no l E hD (-3) σ_1 F1 h1) (cwV 1 hts gX5_sure_X5_no rfl rfl rfl q_X5_no ⟨Nat.le_of_ble_eq_true rfl, Nat.le_of_ble_eq_true rfl⟩) (z_preV hK hP hS (ci := 5) (q0 := 0) rfl rfl rfl) rfl rfl hl.1 rfl (lv_room (Nat.le_of_ble_eq_true rfl)) dX5_sure_10 ⟨Nat.le_of_ble_eq_true rfl, Nat.le_of_ble_eq_true rfl⟩)) (fun r_20 σ_19 H locs hP hS hE => ?_)
  exact z_iret hx hb hr hlk hP hS dX5_sure_13 hE
theorem kX5_sure (l : Launch) (E : EN) (hD : ∀ σ, va_D (eA E) (mW E σ))  (σ : ST) (F : Int32 × ST) (hE : fX5_sure  σ = some F) : Met l yX5_sure wsX5_sure r_X5_sure (zPc E mW [.ref (ea E 0)] σ) (zQi E mW F) 0 0 (eA E) := by
  refine Met.ofW (cc := cX5_sure) (maxL := 3) (ret := (some .int)) (by decide) rfl ?_
  intro p e s m args below meth c s₁ B hml hv
  obtain ⟨rfl, hP, hK⟩ := hv
  have hl := lv_entry ([.ref (ea E 0)]) (n := 3) (Nat.le_of_ble_eq_true rfl)
  rw [lg_entry_eq]
  generalize (lg_sl ([.ref (ea E 0)]) ++ List.replicate (3 - (lg_sl ([.ref (ea E 0)])).length) Slot.unset).toArray = ls at hl ⊢
  exact wX5_sure ⟨B.exec, B.bytes, hml, findClass_of_methodNamed B.named, atoms_spec (ws := wsX5_sure) B.pre, B.returns, B.notSynchronized, hK, hD⟩  σ s.heap [] ls hl hP va_S.rf hE
def fX5_worthOfRow  (x1 : Int32) (σ : ST) : Option (Int64 × ST) :=
  calv (fX5_dayOfRow x1 σ) (fun σ_1 => some ((gL σ_1 1), σ_1))
set_option maxHeartbeats 4000000 in
set_option maxRecDepth 100000 in
theorem wX5_worthOfRow {p : Program} {l : Launch} {e : Env} {s : State} {m : MethodId} {args : Array Value} {below : List Frame} {meth : Method} {c : Code} {E : EN} (C : zC E mW p s m args meth c cX5_worthOfRow 2 RX5 (some .long) wsX5_worthOfRow) {F : Int64 × ST}   (x1 : Int32) (σ : ST) (H : Heap) (locs : List Loc) (ls : Array Slot) (hl : lv_has ls 2 [(0, .ref (ea E 0)), (1, .int x1)]) (hP : va_P (eD E) vwCl (mW E σ) H) (hS : va_S (eA E) s.heap H locs) (hE : fX5_worthOfRow  x1 σ = some F) : zWl E mW p l e r_X5_worthOfRow s m args below meth c F H locs (F0 m 0 ls []) := by
  obtain ⟨hx, hb, hml, hown, hts, hr, hlk, hK, hD⟩ := id C
  have hwX5 : ∀ w ∈ wsX50, w.before args s = true := fun w h => hts w (List.mem_cons_of_mem _ (List.mem_append_right _ h))
  unfold fX5_worthOfRow at hE
  refine lv_aload_n hx hb dX5_worthOfRow_0 rfl (lv_at hl 0 rfl) ?_
  refine lv_iload_n hx hb dX5_worthOfRow_1 rfl (lv_at hl 1 rfl) ?_
  refine z_gov (wf := mW) hS hE (fun F1 h1 => (va_runV (As := [.int x1]) (rest := []) ⟨hx, hb, hml, hown, hts⟩ (kX5_dayOfRow l E hD x1 σ F1 h1) (cwV 1 hts gX5_worthOfRow_X5_dayOfRow rfl rfl rfl q_X5_dayOfRow ⟨Nat.le_of_ble_eq_true rfl, Nat.le_of_ble_eq_true rfl⟩) (z_preV hK hP hS (ci := 5) (q0 := 0) rfl rfl rfl) rfl rfl hl.1 rfl (lv_room (Nat.le_of_ble_eq_true rfl)) dX5_worthOfRow_2 ⟨Nat.le_of_ble_eq_true rfl, Nat.le_of_ble_eq_true rfl⟩)) (fun σ_1 H locs hP hS hE => ?_)
  refine lv_aload_n hx hb dX5_worthOfRow_5 rfl (lv_at hl 0 rfl) ?_
  refine mg_0_28 hx hb hown hwX5 (hts _ (List.mem_of_getElem? (i := 1) rfl)) hK hP dX5_worthOfRow_6 ?_
  exact z_lret hx hb hr hlk hP hS dX5_worthOfRow_9 hE
theorem kX5_worthOfRow (l : Launch) (E : EN) (hD : ∀ σ, va_D (eA E) (mW E σ)) (x1 : Int32) (σ : ST) (F : Int64 × ST) (hE : fX5_worthOfRow x1 σ = some F) : Met l yX5_worthOfRow wsX5_worthOfRow r_X5_worthOfRow (zPc E mW [.ref (ea E 0), .int x1] σ) (zQl E mW F) 0 0 (eA E) := by
  refine Met.ofW (cc := cX5_worthOfRow) (maxL := 2) (ret := (some .long)) (by decide) rfl ?_
  intro p e s m args below meth c s₁ B hml hv
  obtain ⟨rfl, hP, hK⟩ := hv
  have hl := lv_entry ([.ref (ea E 0), .int x1]) (n := 2) (Nat.le_of_ble_eq_true rfl)
  rw [lg_entry_eq]
  generalize (lg_sl ([.ref (ea E 0), .int x1]) ++ List.replicate (2 - (lg_sl ([.ref (ea E 0), .int x1])).length) Slot.unset).toArray = ls at hl ⊢
  exact wX5_worthOfRow ⟨B.exec, B.bytes, hml, findClass_of_methodNamed B.named, atoms_spec (ws := wsX5_worthOfRow) B.pre, B.returns, B.notSynchronized, hK, hD⟩ x1 σ s.heap [] ls hl hP va_S.rf hE
def fX5_bestDriver_L25 (ke : Int32 → ST → Option (Int32 × ST)) : Nat → Int32 → Int64 → Int32 → ST → Option (Int32 × ST)
  | 0, _, _, _, _ => none
  | n + 1, x1, x2, x4, σ => (if 6 ≤ x4 then ke x1 σ else call (fX5_worthOfRow x4 σ) (fun r_9 σ_8 => bnd (r_9 : Int64) (fun x5_10 => (if (lg_cmp x5_10 x2) ≤ 0 then bnd (x1 : Int32) (fun x1_11 => bnd ((jmaxl x2 x5_10) : Int64) (fun x2_12 => bnd (x4 + 1) (fun x4_13 => fX5_bestDriver_L25 ke n x1_11 x2_12 x4_13 σ_8))) else bnd (x4 : Int32) (fun x1_14 => bnd ((jmaxl x2 x5_10) : Int64) (fun x2_15 => bnd (x4 + 1) (fun x4_16 => fX5_bestDriver_L25 ke n x1_14 x2_15 x4_16 σ_8)))))))
set_option maxHeartbeats 4000000 in
set_option maxRecDepth 100000 in
theorem wX5_bestDriver_L25 {p : Program} {l : Launch} {e : Env} {s : State} {m : MethodId} {args : Array Value} {below : List Frame} {meth : Method} {c : Code} {E : EN} (C : zC E mW p s m args meth c cX5_bestDriver 7 RX5 (some .int) wsX5_bestDriver) {F : Int32 × ST} {ke : Int32 → ST → Option (Int32 × ST)} (hke : ∀ (x1 : Int32) (σ : ST) (H : Heap) (locs : List Loc) (ls : Array Slot), lv_has ls 7 [(1, .int x1)] → va_P (eD E) vwCl (mW E σ) H → va_S (eA E) s.heap H locs → ke x1 σ = some F → zWi E mW p l e r_X5_bestDriver s m args below meth c F H locs (F0 m 67 ls [])) : ∀ (n : Nat) (x1 : Int32) (x2 : Int64) (x4 : Int32) (σ : ST) (H : Heap) (locs : List Loc) (ls : Array Slot), lv_has ls 7 [(0, .ref (ea E 0)), (1, .int x1), (2, .long x2), (4, .int x4)] → va_P (eD E) vwCl (mW E σ) H → va_S (eA E) s.heap H locs → fX5_bestDriver_L25 ke n x1 x2 x4 σ = some F → zWi E mW p l e r_X5_bestDriver s m args below meth c F H locs (F0 m 25 ls []) := by
  obtain ⟨hx, hb, hml, hown, hts, hr, hlk, hK, hD⟩ := id C
  intro n
  induction n with
  | zero => intro x1 x2 x4 σ H locs ls hl hP hS hE; rw [fX5_bestDriver_L25] at hE; cases hE
  | succ n ih =>
    intro x1 x2 x4 σ H locs ls hl hP hS hE
    rw [fX5_bestDriver_L25] at hE
    refine lv_iload hx hb dX5_bestDriver_25 (lv_at hl 3 rfl) ?_
    refine lv_bipush (v := 6) hx hb dX5_bestDriver_27 (by decide) ?_
    refine z_icmp_ge (tgt := 67) hx hb dX5_bestDriver_29 (by decide) hE (fun hE => ?_) (fun hE => ?_)
    · exact hke x1 σ _ _ _ (lv_sub hl [1] rfl) hP hS hE
    refine lv_aload_n hx hb dX5_bestDriver_32 rfl (lv_at hl 0 rfl) ?_
    refine lv_iload hx hb dX5_bestDriver_33 (lv_at hl 3 rfl) ?_
    refine z_gol (wf := mW) hS hE (fun F1 h1 => (va_runV (As := [.int x4]) (rest := []) ⟨hx, hb, hml, hown, hts⟩ (kX5_worthOfRow l E hD x4 σ F1 h1) (cwV 1 hts gX5_bestDriver_X5_worthOfRow rfl rfl rfl q_X5_worthOfRow ⟨Nat.le_of_ble_eq_true rfl, Nat.le_of_ble_eq_true rfl⟩) (z_preV hK hP hS (ci := 5) (q0 := 0) rfl rfl rfl) rfl rfl hl.1 rfl (lv_room (Nat.le_of_ble_eq_true rfl)) dX5_bestDriver_35 ⟨Nat.le_of_ble_eq_true rfl, Nat.le_of_ble_eq_true rfl⟩)) (fun r_9 σ_8 H locs hP hS hE => ?_)
    refine z_lstore hx hb (fun x5_10 => [(5, .long x5_10), (0, .ref (ea E 0)), (1, .int x1), (2, .long x2), (4, .int x4)]) dX5_bestDriver_38 hl (by decide) rfl hE (fun x5_10 ls hl hE => ?_)
    refine lv_lload hx hb dX5_bestDriver_40 (lv_at hl 0 rfl) ?_
    refine lv_lload_n hx hb dX5_bestDriver_42 rfl (lv_at hl 3 rfl) ?_
    refine W.lcmp hx hb dX5_bestDriver_43 ?_
    refine z_if_le (tgt := 52) hx hb dX5_bestDriver_44 (by decide) hE (fun hE => ?_) (fun hE => ?_)
    · refine lv_iload_n hx hb dX5_bestDriver_52 rfl (lv_at hl 2 rfl) ?_
      refine z_istore_n hx hb (fun x1_11 => [(1, .int x1_11), (5, .long x5_10), (0, .ref (ea E 0)), (2, .long x2), (4, .int x4)]) dX5_bestDriver_53 rfl hl (by decide) rfl hE (fun x1_11 ls hl hE => ?_)
      refine lv_lload_n hx hb dX5_bestDriver_54 rfl (lv_at hl 3 rfl) ?_
      refine lv_lload hx hb dX5_bestDriver_55 (lv_at hl 1 rfl) ?_
      refine va_mmax_long hx hb (hml.trans hl.1.symm) hown (hts _ (List.mem_of_getElem? (i := 1) rfl)) (hts _ (List.mem_of_getElem? (i := 2) rfl)) (hts _ (List.mem_of_getElem? (i := 3) rfl)) (hts _ (List.mem_of_getElem? (i := 4) rfl)) (Nat.le_of_ble_eq_true rfl) (Nat.le_of_ble_eq_true rfl) (Nat.zero_le _) (Nat.zero_le _) dX5_bestDriver_57 ?_
      refine W.eq (g2 := F0 m 60 ls [.long (jmaxl x2 x5_10)]) rfl ?_
      refine z_lstore_n hx hb (fun x2_12 => [(2, .long x2_12), (1, .int x1_11), (5, .long x5_10), (0, .ref (ea E 0)), (4, .int x4)]) dX5_bestDriver_60 rfl hl (by decide) rfl hE (fun x2_12 ls hl hE => ?_)
      refine z_iinc hx hb (v := (x4 + 1)) (k := 4) (fun x4_13 => [(4, .int x4_13), (2, .long x2_12), (1, .int x1_11), (5, .long x5_10), (0, .ref (ea E 0))]) dX5_bestDriver_61 hl rfl (by rfl) (by decide) rfl hE (fun x4_13 ls hl hE => ?_)
      refine lv_goto (tgt := 25) hx hb dX5_bestDriver_64 (by decide) ?_
      exact ih x1_11 x2_12 x4_13 σ_8 _ _ _ (lv_sub hl [4, 2, 1, 0] rfl) hP hS hE
    refine lv_iload hx hb dX5_bestDriver_47 (lv_at hl 4 rfl) ?_
    refine lv_goto (tgt := 53) hx hb dX5_bestDriver_49 (by decide) ?_
    refine z_istore_n hx hb (fun x1_14 => [(1, .int x1_14), (5, .long x5_10), (0, .ref (ea E 0)), (2, .long x2), (4, .int x4)]) dX5_bestDriver_53 rfl hl (by decide) rfl hE (fun x1_14 ls hl hE => ?_)
    refine lv_lload_n hx hb dX5_bestDriver_54 rfl (lv_at hl 3 rfl) ?_
    refine lv_lload hx hb dX5_bestDriver_55 (lv_at hl 1 rfl) ?_
    refine va_mmax_long hx hb (hml.trans hl.1.symm) hown (hts _ (List.mem_of_getElem? (i := 1) rfl)) (hts _ (List.mem_of_getElem? (i := 2) rfl)) (hts _ (List.mem_of_getElem? (i := 3) rfl)) (hts _ (List.mem_of_getElem? (i := 4) rfl)) (Nat.le_of_ble_eq_true rfl) (Nat.le_of_ble_eq_true rfl) (Nat.zero_le _) (Nat.zero_le _) dX5_bestDriver_57 ?_
    refine W.eq (g2 := F0 m 60 ls [.long (jmaxl x2 x5_10)]) rfl ?_
    refine z_lstore_n hx hb (fun x2_15 => [(2, .long x2_15), (1, .int x1_14), (5, .long x5_10), (0, .ref (ea E 0)), (4, .int x4)]) dX5_bestDriver_60 rfl hl (by decide) rfl hE (fun x2_15 ls hl hE => ?_)
    refine z_iinc hx hb (v := (x4 + 1)) (k := 4) (fun x4_16 => [(4, .int x4_16), (2, .long x2_15), (1, .int x1_14), (5, .long x5_10), (0, .ref (ea E 0))]) dX5_bestDriver_61 hl rfl (by rfl) (by decide) rfl hE (fun x4_16 ls hl hE => ?_)
    refine lv_goto (tgt := 25) hx hb dX5_bestDriver_64 (by decide) ?_
    exact ih x1_14 x2_15 x4_16 σ_8 _ _ _ (lv_sub hl [4, 2, 1, 0] rfl) hP hS hE
def fX5_bestDriver   (σ : ST) : Option (Int32 × ST) :=
  cali (fX5_isNoTown σ) (fun r_2 σ_1 => (if r_2 = 0 then bnd (0 : Int32) (fun x1_3 => call (fX5_worthOfRow 0 σ_1) (fun r_5 σ_4 => bnd (r_5 : Int64) (fun x2_6 => bnd (1 : Int32) (fun x4_7 => fX5_bestDriver_L25 (fun x1_17 σ_18 => some (x1_17, σ_18)) FU x1_3 x2_6 x4_7 σ_4)))) else cali (fX5_no (-3) σ_1) (fun r_20 σ_19 => some (r_20, σ_19))))
set_option maxHeartbeats 4000000 in
set_option maxRecDepth 100000 in
theorem wX5_bestDriver {p : Program} {l : Launch} {e : Env} {s : State} {m : MethodId} {args : Array Value} {below : List Frame} {meth : Method} {c : Code} {E : EN} (C : zC E mW p s m args meth c cX5_bestDriver 7 RX5 (some .int) wsX5_bestDriver) {F : Int32 × ST}    (σ : ST) (H : Heap) (locs : List Loc) (ls : Array Slot) (hl : lv_has ls 7 [(0, .ref (ea E 0))]) (hP : va_P (eD E) vwCl (mW E σ) H) (hS : va_S (eA E) s.heap H locs) (hE : fX5_bestDriver   σ = some F) : zWi E mW p l e r_X5_bestDriver s m args below meth c F H locs (F0 m 0 ls []) := by
  obtain ⟨hx, hb, hml, hown, hts, hr, hlk, hK, hD⟩ := id C
  unfold fX5_bestDriver at hE
  refine lv_aload_n hx hb dX5_bestDriver_0 rfl (lv_at hl 0 rfl) ?_
  refine z_goi (wf := mW) hS hE (fun F1 h1 => (va_runV (As := []) (rest := []) ⟨hx, hb, hml, hown, hts⟩ (kX5_isNoTown l E hD  σ F1 h1) (cwV 0 hts gX5_bestDriver_X5_isNoTown rfl rfl rfl q_X5_isNoTown ⟨Nat.le_of_ble_eq_true rfl, Nat.le_of_ble_eq_true rfl⟩) (z_preV hK hP hS (ci := 5) (q0 := 0) rfl rfl rfl) rfl rfl hl.1 rfl (lv_room (Nat.le_of_ble_eq_true rfl)) dX5_bestDriver_1 ⟨Nat.le_of_ble_eq_true rfl, Nat.le_of_ble_eq_true rfl⟩)) (fun r_2 σ_1 H locs hP hS hE => ?_)
  refine z_if_eq (tgt := 14) hx hb dX5_bestDriver_4 (by decide) hE (fun hE => ?_) (fun hE => ?_)
  · refine lv_iconst (v := 0) hx hb dX5_bestDriver_14 (by decide) ?_
    refine z_istore_n hx hb (fun x1_3 => [(1, .int x1_3), (0, .ref (ea E 0))]) dX5_bestDriver_15 rfl hl (by decide) rfl hE (fun x1_3 ls hl hE => ?_)
    refine lv_aload_n hx hb dX5_bestDriver_16 rfl (lv_at hl 1 rfl) ?_
    refine lv_iconst (v := 0) hx hb dX5_bestDriver_17 (by decide) ?_
    refine z_gol (wf := mW) hS hE (fun F1 h1 => (va_runV (As := [.int 0]) (rest := []) ⟨hx, hb, hml, hown, hts⟩ (kX5_worthOfRow l E hD 0 σ_1 F1 h1) (cwV 1 hts gX5_bestDriver_X5_worthOfRow rfl rfl rfl q_X5_worthOfRow ⟨Nat.le_of_ble_eq_true rfl, Nat.le_of_ble_eq_true rfl⟩) (z_preV hK hP hS (ci := 5) (q0 := 0) rfl rfl rfl) rfl rfl hl.1 rfl (lv_room (Nat.le_of_ble_eq_true rfl)) dX5_bestDriver_18 ⟨Nat.le_of_ble_eq_true rfl, Nat.le_of_ble_eq_true rfl⟩)) (fun r_5 σ_4 H locs hP hS hE => ?_)
    refine z_lstore_n hx hb (fun x2_6 => [(2, .long x2_6), (1, .int x1_3), (0, .ref (ea E 0))]) dX5_bestDriver_21 rfl hl (by decide) rfl hE (fun x2_6 ls hl hE => ?_)
    refine lv_iconst (v := 1) hx hb dX5_bestDriver_22 (by decide) ?_
    refine z_istore hx hb (fun x4_7 => [(4, .int x4_7), (2, .long x2_6), (1, .int x1_3), (0, .ref (ea E 0))]) dX5_bestDriver_23 hl (by decide) rfl hE (fun x4_7 ls hl hE => ?_)
    refine wX5_bestDriver_L25 C ?_ FU x1_3 x2_6 x4_7 σ_4 _ _ _ (lv_sub hl [3, 2, 1, 0] rfl) hP hS hE
    intro x1_17 σ_18 H locs ls hl hP hS hE
    refine lv_iload_n hx hb dX5_bestDriver_67 rfl (lv_at hl 0 rfl) ?_
    exact z_iret hx hb hr hlk hP hS dX5_bestDriver_68 hE
  refine lv_aload_n hx hb dX5_bestDriver_7 rfl (lv_at hl 0 rfl) ?_
  refine lv_bipush (v := -3) hx hb dX5_bestDriver_8 (by decide) ?_
  refine z_goi (wf := mW) hS hE (fun F1 h1 => (va_runV (As := [.int (-3)]) (rest := []) ⟨hx, hb, hml, hown, hts⟩ (kX5_no l E hD (-3) σ_1 F1 h1) (cwV 1 hts gX5_bestDriver_X5_no rfl rfl rfl q_X5_no ⟨Nat.le_of_ble_eq_true rfl, Nat.le_of_ble_eq_true rfl⟩) (z_preV hK hP hS (ci := 5) (q0 := 0) rfl rfl rfl) rfl rfl hl.1 rfl (lv_room (Nat.le_of_ble_eq_true rfl)) dX5_bestDriver_10 ⟨Nat.le_of_ble_eq_true rfl, Nat.le_of_ble_eq_true rfl⟩)) (fun r_20 σ_19 H locs hP hS hE => ?_)
  exact z_iret hx hb hr hlk hP hS dX5_bestDriver_13 hE
theorem kX5_bestDriver (l : Launch) (E : EN) (hD : ∀ σ, va_D (eA E) (mW E σ))  (σ : ST) (F : Int32 × ST) (hE : fX5_bestDriver  σ = some F) : Met l yX5_bestDriver wsX5_bestDriver r_X5_bestDriver (zPc E mW [.ref (ea E 0)] σ) (zQi E mW F) 0 0 (eA E) := by
  refine Met.ofW (cc := cX5_bestDriver) (maxL := 7) (ret := (some .int)) (by decide) rfl ?_
  intro p e s m args below meth c s₁ B hml hv
  obtain ⟨rfl, hP, hK⟩ := hv
  have hl := lv_entry ([.ref (ea E 0)]) (n := 7) (Nat.le_of_ble_eq_true rfl)
  rw [lg_entry_eq]
  generalize (lg_sl ([.ref (ea E 0)]) ++ List.replicate (7 - (lg_sl ([.ref (ea E 0)])).length) Slot.unset).toArray = ls at hl ⊢
  exact wX5_bestDriver ⟨B.exec, B.bytes, hml, findClass_of_methodNamed B.named, atoms_spec (ws := wsX5_bestDriver) B.pre, B.returns, B.notSynchronized, hK, hD⟩  σ s.heap [] ls hl hP va_S.rf hE
def fX5_leftOut_L31 (ke : Int32 → ST → Option (Int32 × ST)) : Nat → Int32 → Int64 → Int32 → ST → Option (Int32 × ST)
  | 0, _, _, _, _ => none
  | n + 1, x1, x2, x4, σ => (if (gI σ 17) ≤ x4 then ke x1 σ else ald (gA σ 13) 10 x4 (fun v_9 => ald (gA σ 1) 200 2 (fun v_10 => (if v_10 ≤ v_9 then bnd (x4 + 1) (fun x4_11 => fX5_leftOut_L31 ke n x1 x2 x4_11 σ) else ald (gA σ 13) 10 x4 (fun v_12 => calv (fX5_byRow v_12 σ) (fun σ_13 => ald (gA σ_13 1) 200 5 (fun v_14 => calv (fX5_go v_14 σ_13) (fun σ_15 => (if (lg_cmp (gL σ_15 1) x2) ≤ 0 then bnd (x1 : Int32) (fun x1_16 => bnd ((jmaxl x2 (gL σ_15 1)) : Int64) (fun x2_17 => bnd (x4 + 1) (fun x4_18 => fX5_leftOut_L31 ke n x1_16 x2_17 x4_18 σ_15))) else ald (gA σ_15 13) 10 x4 (fun v_19 => bnd (v_19 : Int32) (fun x1_20 => bnd ((jmaxl x2 (gL σ_15 1)) : Int64) (fun x2_21 => bnd (x4 + 1) (fun x4_22 => fX5_leftOut_L31 ke n x1_20 x2_21 x4_22 σ_15)))))))))))))
set_option maxHeartbeats 4000000 in
set_option maxRecDepth 100000 in
theorem wX5_leftOut_L31 {p : Program} {l : Launch} {e : Env} {s : State} {m : MethodId} {args : Array Value} {below : List Frame} {meth : Method} {c : Code} {E : EN} (C : zC E mW p s m args meth c cX5_leftOut 5 RX5 (some .int) wsX5_leftOut) {F : Int32 × ST} {ke : Int32 → ST → Option (Int32 × ST)} (hke : ∀ (x1 : Int32) (σ : ST) (H : Heap) (locs : List Loc) (ls : Array Slot), lv_has ls 5 [(1, .int x1)] → va_P (eD E) vwCl (mW E σ) H → va_S (eA E) s.heap H locs → ke x1 σ = some F → zWi E mW p l e r_X5_leftOut s m args below meth c F H locs (F0 m 113 ls [])) : ∀ (n : Nat) (x1 : Int32) (x2 : Int64) (x4 : Int32) (σ : ST) (H : Heap) (locs : List Loc) (ls : Array Slot), lv_has ls 5 [(0, .ref (ea E 0)), (1, .int x1), (2, .long x2), (4, .int x4)] → va_P (eD E) vwCl (mW E σ) H → va_S (eA E) s.heap H locs → fX5_leftOut_L31 ke n x1 x2 x4 σ = some F → zWi E mW p l e r_X5_leftOut s m args below meth c F H locs (F0 m 31 ls []) := by
  obtain ⟨hx, hb, hml, hown, hts, hr, hlk, hK, hD⟩ := id C
  have hwX5 : ∀ w ∈ wsX50, w.before args s = true := fun w h => hts w (List.mem_cons_of_mem _ (List.mem_append_right _ h))
  intro n
  induction n with
  | zero => intro x1 x2 x4 σ H locs ls hl hP hS hE; rw [fX5_leftOut_L31] at hE; cases hE
  | succ n ih =>
    intro x1 x2 x4 σ H locs ls hl hP hS hE
    rw [fX5_leftOut_L31] at hE
    refine lv_iload hx hb dX5_leftOut_31 (lv_at hl 3 rfl) ?_
    refine lv_aload_n hx hb dX5_leftOut_33 rfl (lv_at hl 0 rfl) ?_
    refine mg_0_33 hx hb hown hwX5 (hts _ (List.mem_of_getElem? (i := 2) rfl)) hK hP dX5_leftOut_34 ?_
    refine z_icmp_ge (tgt := 113) hx hb dX5_leftOut_37 (by decide) hE (fun hE => ?_) (fun hE => ?_)
    · exact hke x1 σ _ _ _ (lv_sub hl [1] rfl) hP hS hE
    refine lv_aload_n hx hb dX5_leftOut_40 rfl (lv_at hl 0 rfl) ?_
    refine mg_0_32 hx hb hown hwX5 (hts _ (List.mem_of_getElem? (i := 3) rfl)) hK hP dX5_leftOut_41 ?_
    refine lv_iload hx hb dX5_leftOut_44 (lv_at hl 3 rfl) ?_
    refine ma_14 hx hb hK hP dX5_leftOut_46 hE (fun v_9 hE => ?_)
    refine lv_aload_n hx hb dX5_leftOut_47 rfl (lv_at hl 0 rfl) ?_
    refine mg_0_1 hx hb hown hwX5 (hts _ (List.mem_of_getElem? (i := 1) rfl)) hK hP dX5_leftOut_48 ?_
    refine lv_iconst (v := 2) hx hb dX5_leftOut_51 (by decide) ?_
    refine ma_2 hx hb hK hP dX5_leftOut_52 hE (fun v_10 hE => ?_)
    refine z_icmp_ge (tgt := 107) hx hb dX5_leftOut_53 (by decide) hE (fun hE => ?_) (fun hE => ?_)
    · refine z_iinc hx hb (v := (x4 + 1)) (k := 3) (fun x4_11 => [(4, .int x4_11), (0, .ref (ea E 0)), (1, .int x1), (2, .long x2)]) dX5_leftOut_107 hl rfl (by rfl) (by decide) rfl hE (fun x4_11 ls hl hE => ?_)
      refine lv_goto (tgt := 31) hx hb dX5_leftOut_110 (by decide) ?_
      exact ih x1 x2 x4_11 σ _ _ _ (lv_sub hl [1, 2, 3, 0] rfl) hP hS hE
    refine lv_aload_n hx hb dX5_leftOut_56 rfl (lv_at hl 0 rfl) ?_
    refine lv_aload_n hx hb dX5_leftOut_57 rfl (lv_at hl 0 rfl) ?_
    refine mg_0_32 hx hb hown hwX5 (hts _ (List.mem_of_getElem? (i := 3) rfl)) hK hP dX5_leftOut_58 ?_
    refine lv_iload hx hb dX5_leftOut_61 (lv_at hl 3 rfl) ?_
    refine ma_14 hx hb hK hP dX5_leftOut_63 hE (fun v_12 hE => ?_)
    refine z_gov (wf := mW) hS hE (fun F1 h1 => (va_runV (As := [.int v_12]) (rest := []) ⟨hx, hb, hml, hown, hts⟩ (kX5_byRow l E hD v_12 σ F1 h1) (cwV 1 hts gX5_leftOut_X5_byRow rfl rfl rfl q_X5_byRow ⟨Nat.le_of_ble_eq_true rfl, Nat.le_of_ble_eq_true rfl⟩) (z_preV hK hP hS (ci := 5) (q0 := 0) rfl rfl rfl) rfl rfl hl.1 rfl (lv_room (Nat.le_of_ble_eq_true rfl)) dX5_leftOut_64 ⟨Nat.le_of_ble_eq_true rfl, Nat.le_of_ble_eq_true rfl⟩)) (fun σ_13 H locs hP hS hE => ?_)
    refine lv_aload_n hx hb dX5_leftOut_67 rfl (lv_at hl 0 rfl) ?_
    refine lv_aload_n hx hb dX5_leftOut_68 rfl (lv_at hl 0 rfl) ?_
    refine mg_0_1 hx hb hown hwX5 (hts _ (List.mem_of_getElem? (i := 1) rfl)) hK hP dX5_leftOut_69 ?_
    refine lv_iconst (v := 5) hx hb dX5_leftOut_72 (by decide) ?_
    refine ma_2 hx hb hK hP dX5_leftOut_73 hE (fun v_14 hE => ?_)
    refine z_gov (wf := mW) hS hE (fun F1 h1 => (va_runV (As := [.int v_14]) (rest := []) ⟨hx, hb, hml, hown, hts⟩ (kX5_go l E hD v_14 σ_13 F1 h1) (cwV 1 hts gX5_leftOut_X5_go rfl rfl rfl q_X5_go ⟨Nat.le_of_ble_eq_true rfl, Nat.le_of_ble_eq_true rfl⟩) (z_preV hK hP hS (ci := 5) (q0 := 0) rfl rfl rfl) rfl rfl hl.1 rfl (lv_room (Nat.le_of_ble_eq_true rfl)) dX5_leftOut_74 ⟨Nat.le_of_ble_eq_true rfl, Nat.le_of_ble_eq_true rfl⟩)) (fun σ_15 H locs hP hS hE => ?_)
    refine lv_aload_n hx hb dX5_leftOut_77 rfl (lv_at hl 0 rfl) ?_
    refine mg_0_28 hx hb hown hwX5 (hts _ (List.mem_of_getElem? (i := 4) rfl)) hK hP dX5_leftOut_78 ?_
    refine lv_lload_n hx hb dX5_leftOut_81 rfl (lv_at hl 2 rfl) ?_
    refine W.lcmp hx hb dX5_leftOut_82 ?_
    refine z_if_le (tgt := 96) hx hb dX5_leftOut_83 (by decide) hE (fun hE => ?_) (fun hE => ?_)
    · refine lv_iload_n hx hb dX5_leftOut_96 rfl (lv_at hl 1 rfl) ?_
      refine z_istore_n hx hb (fun x1_16 => [(1, .int x1_16), (0, .ref (ea E 0)), (2, .long x2), (4, .int x4)]) dX5_leftOut_97 rfl hl (by decide) rfl hE (fun x1_16 ls hl hE => ?_)
      refine lv_lload_n hx hb dX5_leftOut_98 rfl (lv_at hl 2 rfl) ?_
      refine lv_aload_n hx hb dX5_leftOut_99 rfl (lv_at hl 1 rfl) ?_
      refine mg_0_28 hx hb hown hwX5 (hts _ (List.mem_of_getElem? (i := 4) rfl)) hK hP dX5_leftOut_100 ?_
      refine va_mmax_long hx hb (hml.trans hl.1.symm) hown (hts _ (List.mem_of_getElem? (i := 5) rfl)) (hts _ (List.mem_of_getElem? (i := 6) rfl)) (hts _ (List.mem_of_getElem? (i := 7) rfl)) (hts _ (List.mem_of_getElem? (i := 8) rfl)) (Nat.le_of_ble_eq_true rfl) (Nat.le_of_ble_eq_true rfl) (Nat.zero_le _) (Nat.zero_le _) dX5_leftOut_103 ?_
      refine W.eq (g2 := F0 m 106 ls [.long (jmaxl x2 (gL σ_15 1))]) rfl ?_
      refine z_lstore_n hx hb (fun x2_17 => [(2, .long x2_17), (1, .int x1_16), (0, .ref (ea E 0)), (4, .int x4)]) dX5_leftOut_106 rfl hl (by decide) rfl hE (fun x2_17 ls hl hE => ?_)
      refine z_iinc hx hb (v := (x4 + 1)) (k := 3) (fun x4_18 => [(4, .int x4_18), (2, .long x2_17), (1, .int x1_16), (0, .ref (ea E 0))]) dX5_leftOut_107 hl rfl (by rfl) (by decide) rfl hE (fun x4_18 ls hl hE => ?_)
      refine lv_goto (tgt := 31) hx hb dX5_leftOut_110 (by decide) ?_
      exact ih x1_16 x2_17 x4_18 σ_15 _ _ _ (lv_sub hl [3, 2, 1, 0] rfl) hP hS hE
    refine lv_aload_n hx hb dX5_leftOut_86 rfl (lv_at hl 0 rfl) ?_
    refine mg_0_32 hx hb hown hwX5 (hts _ (List.mem_of_getElem? (i := 3) rfl)) hK hP dX5_leftOut_87 ?_
    refine lv_iload hx hb dX5_leftOut_90 (lv_at hl 3 rfl) ?_
    refine ma_14 hx hb hK hP dX5_leftOut_92 hE (fun v_19 hE => ?_)
    refine lv_goto (tgt := 97) hx hb dX5_leftOut_93 (by decide) ?_
    refine z_istore_n hx hb (fun x1_20 => [(1, .int x1_20), (0, .ref (ea E 0)), (2, .long x2), (4, .int x4)]) dX5_leftOut_97 rfl hl (by decide) rfl hE (fun x1_20 ls hl hE => ?_)
    refine lv_lload_n hx hb dX5_leftOut_98 rfl (lv_at hl 2 rfl) ?_
    refine lv_aload_n hx hb dX5_leftOut_99 rfl (lv_at hl 1 rfl) ?_
    refine mg_0_28 hx hb hown hwX5 (hts _ (List.mem_of_getElem? (i := 4) rfl)) hK hP dX5_leftOut_100 ?_
    refine va_mmax_long hx hb (hml.trans hl.1.symm) hown (hts _ (List.mem_of_getElem? (i := 5) rfl)) (hts _ (List.mem_of_getElem? (i := 6) rfl)) (hts _ (List.mem_of_getElem? (i := 7) rfl)) (hts _ (List.mem_of_getElem? (i := 8) rfl)) (Nat.le_of_ble_eq_true rfl) (Nat.le_of_ble_eq_true rfl) (Nat.zero_le _) (Nat.zero_le _) dX5_leftOut_103 ?_
    refine W.eq (g2 := F0 m 106 ls [.long (jmaxl x2 (gL σ_15 1))]) rfl ?_
    refine z_lstore_n hx hb (fun x2_21 => [(2, .long x2_21), (1, .int x1_20), (0, .ref (ea E 0)), (4, .int x4)]) dX5_leftOut_106 rfl hl (by decide) rfl hE (fun x2_21 ls hl hE => ?_)
    refine z_iinc hx hb (v := (x4 + 1)) (k := 3) (fun x4_22 => [(4, .int x4_22), (2, .long x2_21), (1, .int x1_20), (0, .ref (ea E 0))]) dX5_leftOut_107 hl rfl (by rfl) (by decide) rfl hE (fun x4_22 ls hl hE => ?_)
    refine lv_goto (tgt := 31) hx hb dX5_leftOut_110 (by decide) ?_
    exact ih x1_20 x2_21 x4_22 σ_15 _ _ _ (lv_sub hl [3, 2, 1, 0] rfl) hP hS hE
def fX5_leftOut   (σ : ST) : Option (Int32 × ST) :=
  cali (fX5_isNoTown σ) (fun r_2 σ_1 => (if r_2 = 0 then bnd ((-9) : Int32) (fun x1_3 => ald (gA σ_1 1) 200 5 (fun v_4 => call (fX5_worthOfRow v_4 σ_1) (fun r_6 σ_5 => bnd (r_6 : Int64) (fun x2_7 => bnd (0 : Int32) (fun x4_8 => fX5_leftOut_L31 (fun x1_23 σ_24 => some (x1_23, σ_24)) FU x1_3 x2_7 x4_8 σ_5))))) else cali (fX5_no (-3) σ_1) (fun r_26 σ_25 => some (r_26, σ_25))))
set_option maxHeartbeats 4000000 in
set_option maxRecDepth 100000 in
theorem wX5_leftOut {p : Program} {l : Launch} {e : Env} {s : State} {m : MethodId} {args : Array Value} {below : List Frame} {meth : Method} {c : Code} {E : EN} (C : zC E mW p s m args meth c cX5_leftOut 5 RX5 (some .int) wsX5_leftOut) {F : Int32 × ST}    (σ : ST) (H : Heap) (locs : List Loc) (ls : Array Slot) (hl : lv_has ls 5 [(0, .ref (ea E 0))]) (hP : va_P (eD E) vwCl (mW E σ) H) (hS : va_S (eA E) s.heap H locs) (hE : fX5_leftOut   σ = some F) : zWi E mW p l e r_X5_leftOut s m args below meth c F H locs (F0 m 0 ls []) := by
  obtain ⟨hx, hb, hml, hown, hts, hr, hlk, hK, hD⟩ := id C
  have hwX5 : ∀ w ∈ wsX50, w.before args s = true := fun w h => hts w (List.mem_cons_of_mem _ (List.mem_append_right _ h))
  unfold fX5_leftOut at hE
  refine lv_aload_n hx hb dX5_leftOut_0 rfl (lv_at hl 0 rfl) ?_
  refine z_goi (wf := mW) hS hE (fun F1 h1 => (va_runV (As := []) (rest := []) ⟨hx, hb, hml, hown, hts⟩ (kX5_isNoTown l E hD  σ F1 h1) (cwV 0 hts gX5_leftOut_X5_isNoTown rfl rfl rfl q_X5_isNoTown ⟨Nat.le_of_ble_eq_true rfl, Nat.le_of_ble_eq_true rfl⟩) (z_preV hK hP hS (ci := 5) (q0 := 0) rfl rfl rfl) rfl rfl hl.1 rfl (lv_room (Nat.le_of_ble_eq_true rfl)) dX5_leftOut_1 ⟨Nat.le_of_ble_eq_true rfl, Nat.le_of_ble_eq_true rfl⟩)) (fun r_2 σ_1 H locs hP hS hE => ?_)
  refine z_if_eq (tgt := 14) hx hb dX5_leftOut_4 (by decide) hE (fun hE => ?_) (fun hE => ?_)
  · refine lv_bipush (v := -9) hx hb dX5_leftOut_14 (by decide) ?_
    refine z_istore_n hx hb (fun x1_3 => [(1, .int x1_3), (0, .ref (ea E 0))]) dX5_leftOut_16 rfl hl (by decide) rfl hE (fun x1_3 ls hl hE => ?_)
    refine lv_aload_n hx hb dX5_leftOut_17 rfl (lv_at hl 1 rfl) ?_
    refine lv_aload_n hx hb dX5_leftOut_18 rfl (lv_at hl 1 rfl) ?_
    refine mg_0_1 hx hb hown hwX5 (hts _ (List.mem_of_getElem? (i := 1) rfl)) hK hP dX5_leftOut_19 ?_
    refine lv_iconst (v := 5) hx hb dX5_leftOut_22 (by decide) ?_
    refine ma_2 hx hb hK hP dX5_leftOut_23 hE (fun v_4 hE => ?_)
    refine z_gol (wf := mW) hS hE (fun F1 h1 => (va_runV (As := [.int v_4]) (rest := []) ⟨hx, hb, hml, hown, hts⟩ (kX5_worthOfRow l E hD v_4 σ_1 F1 h1) (cwV 1 hts gX5_leftOut_X5_worthOfRow rfl rfl rfl q_X5_worthOfRow ⟨Nat.le_of_ble_eq_true rfl, Nat.le_of_ble_eq_true rfl⟩) (z_preV hK hP hS (ci := 5) (q0 := 0) rfl rfl rfl) rfl rfl hl.1 rfl (lv_room (Nat.le_of_ble_eq_true rfl)) dX5_leftOut_24 ⟨Nat.le_of_ble_eq_true rfl, Nat.le_of_ble_eq_true rfl⟩)) (fun r_6 σ_5 H locs hP hS hE => ?_)
    refine z_lstore_n hx hb (fun x2_7 => [(2, .long x2_7), (1, .int x1_3), (0, .ref (ea E 0))]) dX5_leftOut_27 rfl hl (by decide) rfl hE (fun x2_7 ls hl hE => ?_)
    refine lv_iconst (v := 0) hx hb dX5_leftOut_28 (by decide) ?_
    refine z_istore hx hb (fun x4_8 => [(4, .int x4_8), (2, .long x2_7), (1, .int x1_3), (0, .ref (ea E 0))]) dX5_leftOut_29 hl (by decide) rfl hE (fun x4_8 ls hl hE => ?_)
    refine wX5_leftOut_L31 C ?_ FU x1_3 x2_7 x4_8 σ_5 _ _ _ (lv_sub hl [3, 2, 1, 0] rfl) hP hS hE
    intro x1_23 σ_24 H locs ls hl hP hS hE
    refine lv_iload_n hx hb dX5_leftOut_113 rfl (lv_at hl 0 rfl) ?_
    exact z_iret hx hb hr hlk hP hS dX5_leftOut_114 hE
  refine lv_aload_n hx hb dX5_leftOut_7 rfl (lv_at hl 0 rfl) ?_
  refine lv_bipush (v := -3) hx hb dX5_leftOut_8 (by decide) ?_
  refine z_goi (wf := mW) hS hE (fun F1 h1 => (va_runV (As := [.int (-3)]) (rest := []) ⟨hx, hb, hml, hown, hts⟩ (kX5_no l E hD (-3) σ_1 F1 h1) (cwV 1 hts gX5_leftOut_X5_no rfl rfl rfl q_X5_no ⟨Nat.le_of_ble_eq_true rfl, Nat.le_of_ble_eq_true rfl⟩) (z_preV hK hP hS (ci := 5) (q0 := 0) rfl rfl rfl) rfl rfl hl.1 rfl (lv_room (Nat.le_of_ble_eq_true rfl)) dX5_leftOut_10 ⟨Nat.le_of_ble_eq_true rfl, Nat.le_of_ble_eq_true rfl⟩)) (fun r_26 σ_25 H locs hP hS hE => ?_)
  exact z_iret hx hb hr hlk hP hS dX5_leftOut_13 hE
theorem kX5_leftOut (l : Launch) (E : EN) (hD : ∀ σ, va_D (eA E) (mW E σ))  (σ : ST) (F : Int32 × ST) (hE : fX5_leftOut  σ = some F) : Met l yX5_leftOut wsX5_leftOut r_X5_leftOut (zPc E mW [.ref (ea E 0)] σ) (zQi E mW F) 0 0 (eA E) := by
  refine Met.ofW (cc := cX5_leftOut) (maxL := 5) (ret := (some .int)) (by decide) rfl ?_
  intro p e s m args below meth c s₁ B hml hv
  obtain ⟨rfl, hP, hK⟩ := hv
  have hl := lv_entry ([.ref (ea E 0)]) (n := 5) (Nat.le_of_ble_eq_true rfl)
  rw [lg_entry_eq]
  generalize (lg_sl ([.ref (ea E 0)]) ++ List.replicate (5 - (lg_sl ([.ref (ea E 0)])).length) Slot.unset).toArray = ls at hl ⊢
  exact wX5_leftOut ⟨B.exec, B.bytes, hml, findClass_of_methodNamed B.named, atoms_spec (ws := wsX5_leftOut) B.pre, B.returns, B.notSynchronized, hK, hD⟩  σ s.heap [] ls hl hP va_S.rf hE
def fX5_runOn_L28 (ke : Int32 → Int32 → ST → Option (Int32 × ST)) : Nat → Int32 → Int32 → Int64 → Int32 → ST → Option (Int32 × ST)
  | 0, _, _, _, _, _ => none
  | n + 1, x1, x2, x3, x5, σ => (if 60 < x5 then ke x1 x2 σ else ast σ 1 200 4 x5 (fun σ_8 => call (fX5_worthOfRow 1 σ_8) (fun r_10 σ_9 => bnd (r_10 : Int64) (fun x6_11 => (if x5 = 0 then bnd (x6_11 : Int64) (fun x3_12 => bnd (x5 : Int32) (fun x2_13 => bnd (x5 + 1) (fun x5_14 => fX5_runOn_L28 ke n x1 x2_13 x3_12 x5_14 σ_9))) else (if (lg_cmp x6_11 x3) ≤ 0 then bnd (x5 + 1) (fun x5_15 => fX5_runOn_L28 ke n x1 x2 x3 x5_15 σ_9) else bnd (x6_11 : Int64) (fun x3_16 => bnd (x5 : Int32) (fun x2_17 => bnd (x5 + 1) (fun x5_18 => fX5_runOn_L28 ke n x1 x2_17 x3_16 x5_18 σ_9)))))))))
set_option maxHeartbeats 4000000 in
set_option maxRecDepth 100000 in
theorem wX5_runOn_L28 {p : Program} {l : Launch} {e : Env} {s : State} {m : MethodId} {args : Array Value} {below : List Frame} {meth : Method} {c : Code} {E : EN} (C : zC E mW p s m args meth c cX5_runOn 8 RX5 (some .int) wsX5_runOn) {F : Int32 × ST} {ke : Int32 → Int32 → ST → Option (Int32 × ST)} (hke : ∀ (x1 : Int32) (x2 : Int32) (σ : ST) (H : Heap) (locs : List Loc) (ls : Array Slot), lv_has ls 8 [(0, .ref (ea E 0)), (1, .int x1), (2, .int x2)] → va_P (eD E) vwCl (mW E σ) H → va_S (eA E) s.heap H locs → ke x1 x2 σ = some F → zWi E mW p l e r_X5_runOn s m args below meth c F H locs (F0 m 74 ls [])) : ∀ (n : Nat) (x1 : Int32) (x2 : Int32) (x3 : Int64) (x5 : Int32) (σ : ST) (H : Heap) (locs : List Loc) (ls : Array Slot), lv_has ls 8 [(0, .ref (ea E 0)), (1, .int x1), (2, .int x2), (3, .long x3), (5, .int x5)] → va_P (eD E) vwCl (mW E σ) H → va_S (eA E) s.heap H locs → fX5_runOn_L28 ke n x1 x2 x3 x5 σ = some F → zWi E mW p l e r_X5_runOn s m args below meth c F H locs (F0 m 28 ls []) := by
  obtain ⟨hx, hb, hml, hown, hts, hr, hlk, hK, hD⟩ := id C
  have hwX5 : ∀ w ∈ wsX50, w.before args s = true := fun w h => hts w (List.mem_cons_of_mem _ (List.mem_append_right _ h))
  intro n
  induction n with
  | zero => intro x1 x2 x3 x5 σ H locs ls hl hP hS hE; rw [fX5_runOn_L28] at hE; cases hE
  | succ n ih =>
    intro x1 x2 x3 x5 σ H locs ls hl hP hS hE
    rw [fX5_runOn_L28] at hE
    refine lv_iload hx hb dX5_runOn_28 (lv_at hl 4 rfl) ?_
    refine lv_bipush (v := 60) hx hb dX5_runOn_30 (by decide) ?_
    refine z_icmp_gt (tgt := 74) hx hb dX5_runOn_32 (by decide) hE (fun hE => ?_) (fun hE => ?_)
    · exact hke x1 x2 σ _ _ _ (lv_sub hl [0, 1, 2] rfl) hP hS hE
    refine lv_aload_n hx hb dX5_runOn_35 rfl (lv_at hl 0 rfl) ?_
    refine mg_0_1 hx hb hown hwX5 (hts _ (List.mem_of_getElem? (i := 1) rfl)) hK hP dX5_runOn_36 ?_
    refine lv_iconst (v := 4) hx hb dX5_runOn_39 (by decide) ?_
    refine lv_iload hx hb dX5_runOn_40 (lv_at hl 4 rfl) ?_
    refine ms_2 hx hb hK hD hP hS dX5_runOn_42 hE (fun σ_8 H locs hP hS hE => ?_)
    refine lv_aload_n hx hb dX5_runOn_43 rfl (lv_at hl 0 rfl) ?_
    refine lv_iconst (v := 1) hx hb dX5_runOn_44 (by decide) ?_
    refine z_gol (wf := mW) hS hE (fun F1 h1 => (va_runV (As := [.int 1]) (rest := []) ⟨hx, hb, hml, hown, hts⟩ (kX5_worthOfRow l E hD 1 σ_8 F1 h1) (cwV 1 hts gX5_runOn_X5_worthOfRow rfl rfl rfl q_X5_worthOfRow ⟨Nat.le_of_ble_eq_true rfl, Nat.le_of_ble_eq_true rfl⟩) (z_preV hK hP hS (ci := 5) (q0 := 0) rfl rfl rfl) rfl rfl hl.1 rfl (lv_room (Nat.le_of_ble_eq_true rfl)) dX5_runOn_45 ⟨Nat.le_of_ble_eq_true rfl, Nat.le_of_ble_eq_true rfl⟩)) (fun r_10 σ_9 H locs hP hS hE => ?_)
    refine z_lstore hx hb (fun x6_11 => [(6, .long x6_11), (0, .ref (ea E 0)), (1, .int x1), (2, .int x2), (3, .long x3), (5, .int x5)]) dX5_runOn_48 hl (by decide) rfl hE (fun x6_11 ls hl hE => ?_)
    refine lv_iload hx hb dX5_runOn_50 (lv_at hl 5 rfl) ?_
    refine z_if_eq (tgt := 62) hx hb dX5_runOn_52 (by decide) hE (fun hE => ?_) (fun hE => ?_)
    · refine lv_lload hx hb dX5_runOn_62 (lv_at hl 0 rfl) ?_
      refine z_lstore_n hx hb (fun x3_12 => [(3, .long x3_12), (6, .long x6_11), (0, .ref (ea E 0)), (1, .int x1), (2, .int x2), (5, .int x5)]) dX5_runOn_64 rfl hl (by decide) rfl hE (fun x3_12 ls hl hE => ?_)
      refine lv_iload hx hb dX5_runOn_65 (lv_at hl 5 rfl) ?_
      refine z_istore_n hx hb (fun x2_13 => [(2, .int x2_13), (3, .long x3_12), (6, .long x6_11), (0, .ref (ea E 0)), (1, .int x1), (5, .int x5)]) dX5_runOn_67 rfl hl (by decide) rfl hE (fun x2_13 ls hl hE => ?_)
      refine z_iinc hx hb (v := (x5 + 1)) (k := 5) (fun x5_14 => [(5, .int x5_14), (2, .int x2_13), (3, .long x3_12), (6, .long x6_11), (0, .ref (ea E 0)), (1, .int x1)]) dX5_runOn_68 hl rfl (by rfl) (by decide) rfl hE (fun x5_14 ls hl hE => ?_)
      refine lv_goto (tgt := 28) hx hb dX5_runOn_71 (by decide) ?_
      exact ih x1 x2_13 x3_12 x5_14 σ_9 _ _ _ (lv_sub hl [4, 5, 1, 2, 0] rfl) hP hS hE
    refine lv_lload hx hb dX5_runOn_55 (lv_at hl 0 rfl) ?_
    refine lv_lload_n hx hb dX5_runOn_57 rfl (lv_at hl 4 rfl) ?_
    refine W.lcmp hx hb dX5_runOn_58 ?_
    refine z_if_le (tgt := 68) hx hb dX5_runOn_59 (by decide) hE (fun hE => ?_) (fun hE => ?_)
    · refine z_iinc hx hb (v := (x5 + 1)) (k := 5) (fun x5_15 => [(5, .int x5_15), (6, .long x6_11), (0, .ref (ea E 0)), (1, .int x1), (2, .int x2), (3, .long x3)]) dX5_runOn_68 hl rfl (by rfl) (by decide) rfl hE (fun x5_15 ls hl hE => ?_)
      refine lv_goto (tgt := 28) hx hb dX5_runOn_71 (by decide) ?_
      exact ih x1 x2 x3 x5_15 σ_9 _ _ _ (lv_sub hl [2, 3, 4, 5, 0] rfl) hP hS hE
    refine lv_lload hx hb dX5_runOn_62 (lv_at hl 0 rfl) ?_
    refine z_lstore_n hx hb (fun x3_16 => [(3, .long x3_16), (6, .long x6_11), (0, .ref (ea E 0)), (1, .int x1), (2, .int x2), (5, .int x5)]) dX5_runOn_64 rfl hl (by decide) rfl hE (fun x3_16 ls hl hE => ?_)
    refine lv_iload hx hb dX5_runOn_65 (lv_at hl 5 rfl) ?_
    refine z_istore_n hx hb (fun x2_17 => [(2, .int x2_17), (3, .long x3_16), (6, .long x6_11), (0, .ref (ea E 0)), (1, .int x1), (5, .int x5)]) dX5_runOn_67 rfl hl (by decide) rfl hE (fun x2_17 ls hl hE => ?_)
    refine z_iinc hx hb (v := (x5 + 1)) (k := 5) (fun x5_18 => [(5, .int x5_18), (2, .int x2_17), (3, .long x3_16), (6, .long x6_11), (0, .ref (ea E 0)), (1, .int x1)]) dX5_runOn_68 hl rfl (by rfl) (by decide) rfl hE (fun x5_18 ls hl hE => ?_)
    refine lv_goto (tgt := 28) hx hb dX5_runOn_71 (by decide) ?_
    exact ih x1 x2_17 x3_16 x5_18 σ_9 _ _ _ (lv_sub hl [4, 5, 1, 2, 0] rfl) hP hS hE
def fX5_runOn   (σ : ST) : Option (Int32 × ST) :=
  cali (fX5_isNoTown σ) (fun r_2 σ_1 => (if r_2 = 0 then ald (gA σ_1 1) 200 4 (fun v_3 => bnd (v_3 : Int32) (fun x1_4 => bnd (0 : Int32) (fun x2_5 => bnd (0 : Int64) (fun x3_6 => bnd (0 : Int32) (fun x5_7 => fX5_runOn_L28 (fun x1_19 x2_20 σ_21 => ast σ_21 1 200 4 x1_19 (fun σ_22 => some (x2_20, σ_22))) FU x1_4 x2_5 x3_6 x5_7 σ_1))))) else cali (fX5_no (-3) σ_1) (fun r_24 σ_23 => some (r_24, σ_23))))
set_option maxHeartbeats 4000000 in
set_option maxRecDepth 100000 in
theorem wX5_runOn {p : Program} {l : Launch} {e : Env} {s : State} {m : MethodId} {args : Array Value} {below : List Frame} {meth : Method} {c : Code} {E : EN} (C : zC E mW p s m args meth c cX5_runOn 8 RX5 (some .int) wsX5_runOn) {F : Int32 × ST}    (σ : ST) (H : Heap) (locs : List Loc) (ls : Array Slot) (hl : lv_has ls 8 [(0, .ref (ea E 0))]) (hP : va_P (eD E) vwCl (mW E σ) H) (hS : va_S (eA E) s.heap H locs) (hE : fX5_runOn   σ = some F) : zWi E mW p l e r_X5_runOn s m args below meth c F H locs (F0 m 0 ls []) := by
  obtain ⟨hx, hb, hml, hown, hts, hr, hlk, hK, hD⟩ := id C
  have hwX5 : ∀ w ∈ wsX50, w.before args s = true := fun w h => hts w (List.mem_cons_of_mem _ (List.mem_append_right _ h))
  unfold fX5_runOn at hE
  refine lv_aload_n hx hb dX5_runOn_0 rfl (lv_at hl 0 rfl) ?_
  refine z_goi (wf := mW) hS hE (fun F1 h1 => (va_runV (As := []) (rest := []) ⟨hx, hb, hml, hown, hts⟩ (kX5_isNoTown l E hD  σ F1 h1) (cwV 0 hts gX5_runOn_X5_isNoTown rfl rfl rfl q_X5_isNoTown ⟨Nat.le_of_ble_eq_true rfl, Nat.le_of_ble_eq_true rfl⟩) (z_preV hK hP hS (ci := 5) (q0 := 0) rfl rfl rfl) rfl rfl hl.1 rfl (lv_room (Nat.le_of_ble_eq_true rfl)) dX5_runOn_1 ⟨Nat.le_of_ble_eq_true rfl, Nat.le_of_ble_eq_true rfl⟩)) (fun r_2 σ_1 H locs hP hS hE => ?_)
  refine z_if_eq (tgt := 14) hx hb dX5_runOn_4 (by decide) hE (fun hE => ?_) (fun hE => ?_)
  · refine lv_aload_n hx hb dX5_runOn_14 rfl (lv_at hl 0 rfl) ?_
    refine mg_0_1 hx hb hown hwX5 (hts _ (List.mem_of_getElem? (i := 1) rfl)) hK hP dX5_runOn_15 ?_
    refine lv_iconst (v := 4) hx hb dX5_runOn_18 (by decide) ?_
    refine ma_2 hx hb hK hP dX5_runOn_19 hE (fun v_3 hE => ?_)
    refine z_istore_n hx hb (fun x1_4 => [(1, .int x1_4), (0, .ref (ea E 0))]) dX5_runOn_20 rfl hl (by decide) rfl hE (fun x1_4 ls hl hE => ?_)
    refine lv_iconst (v := 0) hx hb dX5_runOn_21 (by decide) ?_
    refine z_istore_n hx hb (fun x2_5 => [(2, .int x2_5), (1, .int x1_4), (0, .ref (ea E 0))]) dX5_runOn_22 rfl hl (by decide) rfl hE (fun x2_5 ls hl hE => ?_)
    refine lv_lconst (v := 0) hx hb dX5_runOn_23 (by decide) ?_
    refine z_lstore_n hx hb (fun x3_6 => [(3, .long x3_6), (2, .int x2_5), (1, .int x1_4), (0, .ref (ea E 0))]) dX5_runOn_24 rfl hl (by decide) rfl hE (fun x3_6 ls hl hE => ?_)
    refine lv_iconst (v := 0) hx hb dX5_runOn_25 (by decide) ?_
    refine z_istore hx hb (fun x5_7 => [(5, .int x5_7), (3, .long x3_6), (2, .int x2_5), (1, .int x1_4), (0, .ref (ea E 0))]) dX5_runOn_26 hl (by decide) rfl hE (fun x5_7 ls hl hE => ?_)
    refine wX5_runOn_L28 C ?_ FU x1_4 x2_5 x3_6 x5_7 σ_1 _ _ _ (lv_sub hl [4, 3, 2, 1, 0] rfl) hP hS hE
    intro x1_19 x2_20 σ_21 H locs ls hl hP hS hE
    refine lv_aload_n hx hb dX5_runOn_74 rfl (lv_at hl 0 rfl) ?_
    refine mg_0_1 hx hb hown hwX5 (hts _ (List.mem_of_getElem? (i := 1) rfl)) hK hP dX5_runOn_75 ?_
    refine lv_iconst (v := 4) hx hb dX5_runOn_78 (by decide) ?_
    refine lv_iload_n hx hb dX5_runOn_79 rfl (lv_at hl 1 rfl) ?_
    refine ms_2 hx hb hK hD hP hS dX5_runOn_80 hE (fun σ_22 H locs hP hS hE => ?_)
    refine lv_iload_n hx hb dX5_runOn_81 rfl (lv_at hl 2 rfl) ?_
    exact z_iret hx hb hr hlk hP hS dX5_runOn_82 hE
  refine lv_aload_n hx hb dX5_runOn_7 rfl (lv_at hl 0 rfl) ?_
  refine lv_bipush (v := -3) hx hb dX5_runOn_8 (by decide) ?_
  refine z_goi (wf := mW) hS hE (fun F1 h1 => (va_runV (As := [.int (-3)]) (rest := []) ⟨hx, hb, hml, hown, hts⟩ (kX5_no l E hD (-3) σ_1 F1 h1) (cwV 1 hts gX5_runOn_X5_no rfl rfl rfl q_X5_no ⟨Nat.le_of_ble_eq_true rfl, Nat.le_of_ble_eq_true rfl⟩) (z_preV hK hP hS (ci := 5) (q0 := 0) rfl rfl rfl) rfl rfl hl.1 rfl (lv_room (Nat.le_of_ble_eq_true rfl)) dX5_runOn_10 ⟨Nat.le_of_ble_eq_true rfl, Nat.le_of_ble_eq_true rfl⟩)) (fun r_24 σ_23 H locs hP hS hE => ?_)
  exact z_iret hx hb hr hlk hP hS dX5_runOn_13 hE
theorem kX5_runOn (l : Launch) (E : EN) (hD : ∀ σ, va_D (eA E) (mW E σ))  (σ : ST) (F : Int32 × ST) (hE : fX5_runOn  σ = some F) : Met l yX5_runOn wsX5_runOn r_X5_runOn (zPc E mW [.ref (ea E 0)] σ) (zQi E mW F) 0 0 (eA E) := by
  refine Met.ofW (cc := cX5_runOn) (maxL := 8) (ret := (some .int)) (by decide) rfl ?_
  intro p e s m args below meth c s₁ B hml hv
  obtain ⟨rfl, hP, hK⟩ := hv
  have hl := lv_entry ([.ref (ea E 0)]) (n := 8) (Nat.le_of_ble_eq_true rfl)
  rw [lg_entry_eq]
  generalize (lg_sl ([.ref (ea E 0)]) ++ List.replicate (8 - (lg_sl ([.ref (ea E 0)])).length) Slot.unset).toArray = ls at hl ⊢
  exact wX5_runOn ⟨B.exec, B.bytes, hml, findClass_of_methodNamed B.named, atoms_spec (ws := wsX5_runOn) B.pre, B.returns, B.notSynchronized, hK, hD⟩  σ s.heap [] ls hl hP va_S.rf hE
