def fX5_dayOfRow  (x1 : Int32) (σ : ST) : Option (ST) :=
  calv (fX5_legs σ) (fun σ_1 => calv (fX5_byRow (-9) σ_1) (fun σ_2 => calv (fX5_go x1 σ_2) (fun σ_3 => some σ_3)))
set_option maxHeartbeats 4000000 in
set_option maxRecDepth 100000 in
theorem wX5_dayOfRow {p : Program} {l : Launch} {e : Env} {s : State} {m : MethodId} {args : Array Value} {below : List Frame} {meth : Method} {c : Code} {E : EN} (C : zC E mW p s m args meth c cX5_dayOfRow 2 RX5 none wsL_law) {F : ST}   (x1 : Int32) (σ : ST) (H : Heap) (locs : List Loc) (ls : Array Slot) (hl : lv_has ls 2 [(0, .ref (ea E 0)), (1, .int x1)]) (hP : va_P (eD E) vwCl (mW E σ) H) (hS : va_S (eA E) s.heap H locs) (hE : fX5_dayOfRow  x1 σ = some F) : zWv E mW p l e r_X5_dayOfRow s m args below meth c F H locs (F0 m 0 ls []) := by
  obtain ⟨hx, hb, hml, hown, hts, hr, hlk, hK, hD⟩ := id C
  unfold fX5_dayOfRow at hE
  refine lv_aload_n hx hb dX5_dayOfRow_0 rfl (lv_at hl 0 rfl) ?_
  refine z_gov (wf := mW) hS hE (fun F1 h1 => (va_runV (As := []) (rest := []) ⟨hx, hb, hml, hown, hts⟩ (kX5_legs l E hD  σ F1 h1) (cwV 0 hts (gU_V u_498 u_499 u_500 u_5 u_501) rfl rfl rfl q_X5_legs ⟨Nat.le_of_ble_eq_true rfl, Nat.le_of_ble_eq_true rfl⟩) (z_preV hK hP hS (ci := 5) (q0 := 0) rfl rfl rfl) rfl rfl hl.1 rfl (lv_room (Nat.le_of_ble_eq_true rfl)) dX5_dayOfRow_1 ⟨Nat.le_of_ble_eq_true rfl, Nat.le_of_ble_eq_true rfl⟩)) (fun σ_1 H locs hP hS hE => ?_)
  refine lv_aload_n hx hb dX5_dayOfRow_4 rfl (lv_at hl 0 rfl) ?_
  refine lv_bipush (v := -9) hx hb dX5_dayOfRow_5 (by decide) ?_
  refine z_gov (wf := mW) hS hE (fun F1 h1 => (va_runV (As := [.int (-9)]) (rest := []) ⟨hx, hb, hml, hown, hts⟩ (kX5_byRow l E hD (-9) σ_1 F1 h1) (cwV 1 hts (gU_V u_596 u_597 u_598 u_5 u_599) rfl rfl rfl q_X5_byRow ⟨Nat.le_of_ble_eq_true rfl, Nat.le_of_ble_eq_true rfl⟩) (z_preV hK hP hS (ci := 5) (q0 := 0) rfl rfl rfl) rfl rfl hl.1 rfl (lv_room (Nat.le_of_ble_eq_true rfl)) dX5_dayOfRow_7 ⟨Nat.le_of_ble_eq_true rfl, Nat.le_of_ble_eq_true rfl⟩)) (fun σ_2 H locs hP hS hE => ?_)
  refine lv_aload_n hx hb dX5_dayOfRow_10 rfl (lv_at hl 0 rfl) ?_
  refine lv_iload_n hx hb dX5_dayOfRow_11 rfl (lv_at hl 1 rfl) ?_
  refine z_gov (wf := mW) hS hE (fun F1 h1 => (va_runV (As := [.int x1]) (rest := []) ⟨hx, hb, hml, hown, hts⟩ (kX5_go l E hD x1 σ_2 F1 h1) (cwV 1 hts (gU_V u_602 u_603 u_604 u_5 u_605) rfl rfl rfl q_X5_go ⟨Nat.le_of_ble_eq_true rfl, Nat.le_of_ble_eq_true rfl⟩) (z_preV hK hP hS (ci := 5) (q0 := 0) rfl rfl rfl) rfl rfl hl.1 rfl (lv_room (Nat.le_of_ble_eq_true rfl)) dX5_dayOfRow_12 ⟨Nat.le_of_ble_eq_true rfl, Nat.le_of_ble_eq_true rfl⟩)) (fun σ_3 H locs hP hS hE => ?_)
  exact z_vret hx hb hr hlk hP hS dX5_dayOfRow_15 hE
theorem kX5_dayOfRow (l : Launch) (E : EN) (hD : ∀ σ, va_D (eA E) (mW E σ)) (x1 : Int32) (σ : ST) (F : ST) (hE : fX5_dayOfRow x1 σ = some F) : Met l yX5_dayOfRow wu_X5_dayOfRow r_X5_dayOfRow (zPc E mW [.ref (ea E 0), .int x1] σ) (zQv E mW F) 0 0 (eA E) := by
  refine Met.ofW (cc := cX5_dayOfRow) (maxL := 2) (ret := none) (by decide) rfl ?_
  intro p e s m args below meth c s₁ B hml hv
  obtain ⟨rfl, hP, hK⟩ := hv
  have hl := lv_entry ([.ref (ea E 0), .int x1]) (n := 2) (Nat.le_of_ble_eq_true rfl)
  rw [lg_entry_eq]
  generalize (lg_sl ([.ref (ea E 0), .int x1]) ++ List.replicate (2 - (lg_sl ([.ref (ea E 0), .int x1])).length) Slot.unset).toArray = ls at hl ⊢
  exact wX5_dayOfRow ⟨B.exec, B.bytes, hml, findClass_of_methodNamed B.named, fun w h => atoms_spec (ws := wu_X5_dayOfRow) B.pre w (List.mem_cons_of_mem _ h), B.returns, B.notSynchronized, hK, hD⟩ x1 σ s.heap [] ls hl hP va_S.rf hE
def fX5_day  (x1 : Int32) (σ : ST) : Option (Int32 × ST) :=
  (if x1 < 0 then cali (fX5_no (-2) σ) (fun r_2 σ_1 => some (r_2, σ_1)) else (if x1 ≤ 2 then cali (fX5_isNoTown σ) (fun r_4 σ_3 => (if r_4 = 0 then ald (gA σ_3 1) 200 5 (fun v_5 => calv (fX5_dayOfRow v_5 σ_3) (fun σ_6 => (if x1 = 0 then some ((gI σ_6 11), σ_6) else (if x1 = 1 then some ((gI σ_6 12), σ_6) else some ((gI σ_6 13), σ_6))))) else cali (fX5_no (-3) σ_3) (fun r_8 σ_7 => some (r_8, σ_7)))) else cali (fX5_no (-2) σ) (fun r_10 σ_9 => some (r_10, σ_9))))
set_option maxHeartbeats 4000000 in
set_option maxRecDepth 100000 in
theorem wX5_day {p : Program} {l : Launch} {e : Env} {s : State} {m : MethodId} {args : Array Value} {below : List Frame} {meth : Method} {c : Code} {E : EN} (C : zC E mW p s m args meth c cX5_day 2 RX5 (some .int) wsL_law) {F : Int32 × ST}   (x1 : Int32) (σ : ST) (H : Heap) (locs : List Loc) (ls : Array Slot) (hl : lv_has ls 2 [(0, .ref (ea E 0)), (1, .int x1)]) (hP : va_P (eD E) vwCl (mW E σ) H) (hS : va_S (eA E) s.heap H locs) (hE : fX5_day  x1 σ = some F) : zWi E mW p l e r_X5_day s m args below meth c F H locs (F0 m 0 ls []) := by
  obtain ⟨hx, hb, hml, hown, hts, hr, hlk, hK, hD⟩ := id C
  have hwX5 : ∀ w ∈ wsX50, w.before args s = true := fun w h => hts w (inlX5 w h)
  unfold fX5_day at hE
  refine lv_iload_n hx hb dX5_day_0 rfl (lv_at hl 1 rfl) ?_
  refine z_if_lt (tgt := 9) hx hb dX5_day_1 (by decide) hE (fun hE => ?_) (fun hE => ?_)
  · refine lv_aload_n hx hb dX5_day_9 rfl (lv_at hl 0 rfl) ?_
    refine lv_bipush (v := -2) hx hb dX5_day_10 (by decide) ?_
    refine z_goi (wf := mW) hS hE (fun F1 h1 => (va_runV (As := [.int (-2)]) (rest := []) ⟨hx, hb, hml, hown, hts⟩ (kX5_no l E hD (-2) σ F1 h1) (cwV 1 hts (gU_V u_131 u_132 u_133 u_5 u_134) rfl rfl rfl q_X5_no ⟨Nat.le_of_ble_eq_true rfl, Nat.le_of_ble_eq_true rfl⟩) (z_preV hK hP hS (ci := 5) (q0 := 0) rfl rfl rfl) rfl rfl hl.1 rfl (lv_room (Nat.le_of_ble_eq_true rfl)) dX5_day_12 ⟨Nat.le_of_ble_eq_true rfl, Nat.le_of_ble_eq_true rfl⟩)) (fun r_2 σ_1 H locs hP hS hE => ?_)
    exact z_iret hx hb hr hlk hP hS dX5_day_15 hE
  refine lv_iload_n hx hb dX5_day_4 rfl (lv_at hl 1 rfl) ?_
  refine lv_iconst (v := 2) hx hb dX5_day_5 (by decide) ?_
  refine z_icmp_le (tgt := 16) hx hb dX5_day_6 (by decide) hE (fun hE => ?_) (fun hE => ?_)
  · refine lv_aload_n hx hb dX5_day_16 rfl (lv_at hl 0 rfl) ?_
    refine z_goi (wf := mW) hS hE (fun F1 h1 => (va_runV (As := []) (rest := []) ⟨hx, hb, hml, hown, hts⟩ (kX5_isNoTown l E hD  σ F1 h1) (cwV 0 hts (gU_V u_588 u_589 u_590 u_5 u_591) rfl rfl rfl q_X5_isNoTown ⟨Nat.le_of_ble_eq_true rfl, Nat.le_of_ble_eq_true rfl⟩) (z_preV hK hP hS (ci := 5) (q0 := 0) rfl rfl rfl) rfl rfl hl.1 rfl (lv_room (Nat.le_of_ble_eq_true rfl)) dX5_day_17 ⟨Nat.le_of_ble_eq_true rfl, Nat.le_of_ble_eq_true rfl⟩)) (fun r_4 σ_3 H locs hP hS hE => ?_)
    refine z_if_eq (tgt := 30) hx hb dX5_day_20 (by decide) hE (fun hE => ?_) (fun hE => ?_)
    · refine lv_aload_n hx hb dX5_day_30 rfl (lv_at hl 0 rfl) ?_
      refine lv_aload_n hx hb dX5_day_31 rfl (lv_at hl 0 rfl) ?_
      refine mg_0_1 hx hb hown hwX5 (hts _ u_97) hK hP dX5_day_32 ?_
      refine lv_iconst (v := 5) hx hb dX5_day_35 (by decide) ?_
      refine ma_2 hx hb hK hP dX5_day_36 hE (fun v_5 hE => ?_)
      refine z_gov (wf := mW) hS hE (fun F1 h1 => (va_runV (As := [.int v_5]) (rest := []) ⟨hx, hb, hml, hown, hts⟩ (kX5_dayOfRow l E hD v_5 σ_3 F1 h1) (cwV 1 hts (gU_V u_592 u_593 u_594 u_5 u_595) rfl rfl rfl q_X5_dayOfRow ⟨Nat.le_of_ble_eq_true rfl, Nat.le_of_ble_eq_true rfl⟩) (z_preV hK hP hS (ci := 5) (q0 := 0) rfl rfl rfl) rfl rfl hl.1 rfl (lv_room (Nat.le_of_ble_eq_true rfl)) dX5_day_37 ⟨Nat.le_of_ble_eq_true rfl, Nat.le_of_ble_eq_true rfl⟩)) (fun σ_6 H locs hP hS hE => ?_)
      refine lv_iload_n hx hb dX5_day_40 rfl (lv_at hl 1 rfl) ?_
      refine z_if_ne (tgt := 51) hx hb dX5_day_41 (by decide) hE (fun hE => ?_) (fun hE => ?_)
      · refine lv_iload_n hx hb dX5_day_51 rfl (lv_at hl 1 rfl) ?_
        refine lv_iconst (v := 1) hx hb dX5_day_52 (by decide) ?_
        refine z_icmp_ne (tgt := 63) hx hb dX5_day_53 (by decide) hE (fun hE => ?_) (fun hE => ?_)
        · refine lv_aload_n hx hb dX5_day_63 rfl (lv_at hl 0 rfl) ?_
          refine mg_0_26 hx hb hown hwX5 (hts _ u_587) hK hP dX5_day_64 ?_
          exact z_iret hx hb hr hlk hP hS dX5_day_67 hE
        refine lv_aload_n hx hb dX5_day_56 rfl (lv_at hl 0 rfl) ?_
        refine mg_0_25 hx hb hown hwX5 (hts _ u_586) hK hP dX5_day_57 ?_
        refine lv_goto (tgt := 67) hx hb dX5_day_60 (by decide) ?_
        exact z_iret hx hb hr hlk hP hS dX5_day_67 hE
      refine lv_aload_n hx hb dX5_day_44 rfl (lv_at hl 0 rfl) ?_
      refine mg_0_24 hx hb hown hwX5 (hts _ u_585) hK hP dX5_day_45 ?_
      refine lv_goto (tgt := 67) hx hb dX5_day_48 (by decide) ?_
      exact z_iret hx hb hr hlk hP hS dX5_day_67 hE
    refine lv_aload_n hx hb dX5_day_23 rfl (lv_at hl 0 rfl) ?_
    refine lv_bipush (v := -3) hx hb dX5_day_24 (by decide) ?_
    refine z_goi (wf := mW) hS hE (fun F1 h1 => (va_runV (As := [.int (-3)]) (rest := []) ⟨hx, hb, hml, hown, hts⟩ (kX5_no l E hD (-3) σ_3 F1 h1) (cwV 1 hts (gU_V u_131 u_132 u_133 u_5 u_134) rfl rfl rfl q_X5_no ⟨Nat.le_of_ble_eq_true rfl, Nat.le_of_ble_eq_true rfl⟩) (z_preV hK hP hS (ci := 5) (q0 := 0) rfl rfl rfl) rfl rfl hl.1 rfl (lv_room (Nat.le_of_ble_eq_true rfl)) dX5_day_26 ⟨Nat.le_of_ble_eq_true rfl, Nat.le_of_ble_eq_true rfl⟩)) (fun r_8 σ_7 H locs hP hS hE => ?_)
    exact z_iret hx hb hr hlk hP hS dX5_day_29 hE
  refine lv_aload_n hx hb dX5_day_9 rfl (lv_at hl 0 rfl) ?_
  refine lv_bipush (v := -2) hx hb dX5_day_10 (by decide) ?_
  refine z_goi (wf := mW) hS hE (fun F1 h1 => (va_runV (As := [.int (-2)]) (rest := []) ⟨hx, hb, hml, hown, hts⟩ (kX5_no l E hD (-2) σ F1 h1) (cwV 1 hts (gU_V u_131 u_132 u_133 u_5 u_134) rfl rfl rfl q_X5_no ⟨Nat.le_of_ble_eq_true rfl, Nat.le_of_ble_eq_true rfl⟩) (z_preV hK hP hS (ci := 5) (q0 := 0) rfl rfl rfl) rfl rfl hl.1 rfl (lv_room (Nat.le_of_ble_eq_true rfl)) dX5_day_12 ⟨Nat.le_of_ble_eq_true rfl, Nat.le_of_ble_eq_true rfl⟩)) (fun r_10 σ_9 H locs hP hS hE => ?_)
  exact z_iret hx hb hr hlk hP hS dX5_day_15 hE
theorem kX5_day (l : Launch) (E : EN) (hD : ∀ σ, va_D (eA E) (mW E σ)) (x1 : Int32) (σ : ST) (F : Int32 × ST) (hE : fX5_day x1 σ = some F) : Met l yX5_day wu_X5_day r_X5_day (zPc E mW [.ref (ea E 0), .int x1] σ) (zQi E mW F) 0 0 (eA E) := by
  refine Met.ofW (cc := cX5_day) (maxL := 2) (ret := (some .int)) (by decide) rfl ?_
  intro p e s m args below meth c s₁ B hml hv
  obtain ⟨rfl, hP, hK⟩ := hv
  have hl := lv_entry ([.ref (ea E 0), .int x1]) (n := 2) (Nat.le_of_ble_eq_true rfl)
  rw [lg_entry_eq]
  generalize (lg_sl ([.ref (ea E 0), .int x1]) ++ List.replicate (2 - (lg_sl ([.ref (ea E 0), .int x1])).length) Slot.unset).toArray = ls at hl ⊢
  exact wX5_day ⟨B.exec, B.bytes, hml, findClass_of_methodNamed B.named, fun w h => atoms_spec (ws := wu_X5_day) B.pre w (List.mem_cons_of_mem _ h), B.returns, B.notSynchronized, hK, hD⟩ x1 σ s.heap [] ls hl hP va_S.rf hE
def fX5_isNoPart  (x0 : Int32) (σ : ST) : Option (Int32 × ST) :=
  (if x0 = 0 then some (0, σ) else (if x0 = 1 then some (0, σ) else some (1, σ)))
set_option maxHeartbeats 4000000 in
set_option maxRecDepth 100000 in
theorem wX5_isNoPart {p : Program} {l : Launch} {e : Env} {s : State} {m : MethodId} {args : Array Value} {below : List Frame} {meth : Method} {c : Code} {E : EN} (C : zC E mW p s m args meth c cX5_isNoPart 1 RX5 (some .boolean) wsL_law) {F : Int32 × ST}   (x0 : Int32) (σ : ST) (H : Heap) (locs : List Loc) (ls : Array Slot) (hl : lv_has ls 1 [(0, .int x0)]) (hP : va_P (eD E) vwCl (mW E σ) H) (hS : va_S (eA E) s.heap H locs) (hE : fX5_isNoPart  x0 σ = some F) : zWi E mW p l e r_X5_isNoPart s m args below meth c F H locs (F0 m 0 ls []) := by
  obtain ⟨hx, hb, hml, hown, hts, hr, hlk, hK, hD⟩ := id C
  unfold fX5_isNoPart at hE
  refine lv_iload_n hx hb dX5_isNoPart_0 rfl (lv_at hl 0 rfl) ?_
  refine z_if_eq (tgt := 13) hx hb dX5_isNoPart_1 (by decide) hE (fun hE => ?_) (fun hE => ?_)
  · refine lv_iconst (v := 0) hx hb dX5_isNoPart_13 (by decide) ?_
    exact z_zret hx hb hr hlk rfl hP hS dX5_isNoPart_14 hE
  refine lv_iload_n hx hb dX5_isNoPart_4 rfl (lv_at hl 0 rfl) ?_
  refine lv_iconst (v := 1) hx hb dX5_isNoPart_5 (by decide) ?_
  refine z_icmp_eq (tgt := 13) hx hb dX5_isNoPart_6 (by decide) hE (fun hE => ?_) (fun hE => ?_)
  · refine lv_iconst (v := 0) hx hb dX5_isNoPart_13 (by decide) ?_
    exact z_zret hx hb hr hlk rfl hP hS dX5_isNoPart_14 hE
  refine lv_iconst (v := 1) hx hb dX5_isNoPart_9 (by decide) ?_
  refine lv_goto (tgt := 14) hx hb dX5_isNoPart_10 (by decide) ?_
  exact z_zret hx hb hr hlk rfl hP hS dX5_isNoPart_14 hE
theorem kX5_isNoPart (l : Launch) (E : EN) (hD : ∀ σ, va_D (eA E) (mW E σ)) (x0 : Int32) (σ : ST) (F : Int32 × ST) (hE : fX5_isNoPart x0 σ = some F) : Met l yX5_isNoPart wu_X5_isNoPart r_X5_isNoPart (zPc E mW [.int x0] σ) (zQi E mW F) 0 0 (eA E) := by
  refine Met.ofW (cc := cX5_isNoPart) (maxL := 1) (ret := (some .boolean)) (by decide) rfl ?_
  intro p e s m args below meth c s₁ B hml hv
  obtain ⟨rfl, hP, hK⟩ := hv
  have hl := lv_entry ([.int x0]) (n := 1) (Nat.le_of_ble_eq_true rfl)
  rw [lg_entry_eq]
  generalize (lg_sl ([.int x0]) ++ List.replicate (1 - (lg_sl ([.int x0])).length) Slot.unset).toArray = ls at hl ⊢
  exact wX5_isNoPart ⟨B.exec, B.bytes, hml, findClass_of_methodNamed B.named, fun w h => atoms_spec (ws := wu_X5_isNoPart) B.pre w (List.mem_cons_of_mem _ h), B.returns, B.notSynchronized, hK, hD⟩ x0 σ s.heap [] ls hl hP va_S.rf hE
def fX5_part_L19 (ke : Int64 → Int32 → Int64 → ST → Option (Int64 × ST)) : Nat → Int64 → Int32 → Int64 → Int64 → ST → Option (Int64 × ST)
  | 0, _, _, _, _, _ => none
  | n + 1, x0, x2, x3, x5, σ => (if (lg_cmp x5 0) = 0 then ke x0 x2 x3 σ else rml x3 x5 (fun v_3 => bnd (v_3 : Int64) (fun x7_4 => bnd (x5 : Int64) (fun x3_5 => bnd (x7_4 : Int64) (fun x5_6 => fX5_part_L19 ke n x0 x2 x3_5 x5_6 σ)))))
set_option maxHeartbeats 4000000 in
set_option maxRecDepth 100000 in
theorem wX5_part_L19 {p : Program} {l : Launch} {e : Env} {s : State} {m : MethodId} {args : Array Value} {below : List Frame} {meth : Method} {c : Code} {E : EN} (C : zC E mW p s m args meth c cX5_part 9 RX5 (some .long) wsL_law) {F : Int64 × ST} {ke : Int64 → Int32 → Int64 → ST → Option (Int64 × ST)} (hke : ∀ (x0 : Int64) (x2 : Int32) (x3 : Int64) (σ : ST) (H : Heap) (locs : List Loc) (ls : Array Slot), lv_has ls 9 [(0, .long x0), (2, .int x2), (3, .long x3)] → va_P (eD E) vwCl (mW E σ) H → va_S (eA E) s.heap H locs → ke x0 x2 x3 σ = some F → zWl E mW p l e r_X5_part s m args below meth c F H locs (F0 m 42 ls [])) : ∀ (n : Nat) (x0 : Int64) (x2 : Int32) (x3 : Int64) (x5 : Int64) (σ : ST) (H : Heap) (locs : List Loc) (ls : Array Slot), lv_has ls 9 [(0, .long x0), (2, .int x2), (3, .long x3), (5, .long x5)] → va_P (eD E) vwCl (mW E σ) H → va_S (eA E) s.heap H locs → fX5_part_L19 ke n x0 x2 x3 x5 σ = some F → zWl E mW p l e r_X5_part s m args below meth c F H locs (F0 m 19 ls []) := by
  obtain ⟨hx, hb, hml, hown, hts, hr, hlk, hK, hD⟩ := id C
  intro n
  induction n with
  | zero => intro x0 x2 x3 x5 σ H locs ls hl hP hS hE; rw [fX5_part_L19] at hE; cases hE
  | succ n ih =>
    intro x0 x2 x3 x5 σ H locs ls hl hP hS hE
    rw [fX5_part_L19] at hE
    refine lv_lload hx hb dX5_part_19 (lv_at hl 3 rfl) ?_
    refine lv_lconst (v := 0) hx hb dX5_part_21 (by decide) ?_
    refine W.lcmp hx hb dX5_part_22 ?_
    refine z_if_eq (tgt := 42) hx hb dX5_part_23 (by decide) hE (fun hE => ?_) (fun hE => ?_)
    · exact hke x0 x2 x3 σ _ _ _ (lv_sub hl [0, 1, 2] rfl) hP hS hE
    refine lv_lload_n hx hb dX5_part_26 rfl (lv_at hl 2 rfl) ?_
    refine lv_lload hx hb dX5_part_27 (lv_at hl 3 rfl) ?_
    refine z_lrem hx hb dX5_part_29 hE (fun v_3 hE => ?_)
    refine z_lstore hx hb (fun x7_4 => [(7, .long x7_4), (0, .long x0), (2, .int x2), (3, .long x3), (5, .long x5)]) dX5_part_30 hl (by decide) rfl hE (fun x7_4 ls hl hE => ?_)
    refine lv_lload hx hb dX5_part_32 (lv_at hl 4 rfl) ?_
    refine z_lstore_n hx hb (fun x3_5 => [(3, .long x3_5), (7, .long x7_4), (0, .long x0), (2, .int x2), (5, .long x5)]) dX5_part_34 rfl hl (by decide) rfl hE (fun x3_5 ls hl hE => ?_)
    refine lv_lload hx hb dX5_part_35 (lv_at hl 1 rfl) ?_
    refine z_lstore hx hb (fun x5_6 => [(5, .long x5_6), (3, .long x3_5), (7, .long x7_4), (0, .long x0), (2, .int x2)]) dX5_part_37 hl (by decide) rfl hE (fun x5_6 ls hl hE => ?_)
    refine lv_goto (tgt := 19) hx hb dX5_part_39 (by decide) ?_
    exact ih x0 x2 x3_5 x5_6 σ _ _ _ (lv_sub hl [3, 4, 1, 0] rfl) hP hS hE
def fX5_part  (x0 : Int64) (x2 : Int32) (σ : ST) : Option (Int64 × ST) :=
  (if (lg_cmp x0 0) = 0 then some ((Int32.toInt64 x2), σ) else bnd ((jabsl x0) : Int64) (fun x3_1 => bnd (1000000000000 : Int64) (fun x5_2 => fX5_part_L19 (fun x0_7 x2_8 x3_9 σ_10 => (if x2_8 = 0 then dvl x0_7 x3_9 (fun v_12 => some (v_12, σ_10)) else dvl 1000000000000 x3_9 (fun v_11 => some (v_11, σ_10)))) FU x0 x2 x3_1 x5_2 σ)))
set_option maxHeartbeats 4000000 in
set_option maxRecDepth 100000 in
theorem wX5_part {p : Program} {l : Launch} {e : Env} {s : State} {m : MethodId} {args : Array Value} {below : List Frame} {meth : Method} {c : Code} {E : EN} (C : zC E mW p s m args meth c cX5_part 9 RX5 (some .long) wsL_law) {F : Int64 × ST}   (x0 : Int64) (x2 : Int32) (σ : ST) (H : Heap) (locs : List Loc) (ls : Array Slot) (hl : lv_has ls 9 [(0, .long x0), (2, .int x2)]) (hP : va_P (eD E) vwCl (mW E σ) H) (hS : va_S (eA E) s.heap H locs) (hE : fX5_part  x0 x2 σ = some F) : zWl E mW p l e r_X5_part s m args below meth c F H locs (F0 m 0 ls []) := by
  obtain ⟨hx, hb, hml, hown, hts, hr, hlk, hK, hD⟩ := id C
  unfold fX5_part at hE
  refine lv_lload_n hx hb dX5_part_0 rfl (lv_at hl 0 rfl) ?_
  refine lv_lconst (v := 0) hx hb dX5_part_1 (by decide) ?_
  refine W.lcmp hx hb dX5_part_2 ?_
  refine z_if_ne (tgt := 9) hx hb dX5_part_3 (by decide) hE (fun hE => ?_) (fun hE => ?_)
  · refine lv_lload_n hx hb dX5_part_9 rfl (lv_at hl 0 rfl) ?_
    refine va_mabs_long hx hb (hml.trans hl.1.symm) hown (hts _ u_673) (hts _ u_674) (hts _ u_220) (hts _ u_675) (Nat.le_of_ble_eq_true rfl) (Nat.le_of_ble_eq_true rfl) (Nat.zero_le _) (Nat.zero_le _) dX5_part_10 ?_
    refine W.eq (g2 := F0 m 13 ls [.long (jabsl x0)]) rfl ?_
    refine z_lstore_n hx hb (fun x3_1 => [(3, .long x3_1), (0, .long x0), (2, .int x2)]) dX5_part_13 rfl hl (by decide) rfl hE (fun x3_1 ls hl hE => ?_)
    refine lv_ldc2 (v := 1000000000000) hx hb hown (hts _ u_608) dX5_part_14 ?_
    refine z_lstore hx hb (fun x5_2 => [(5, .long x5_2), (3, .long x3_1), (0, .long x0), (2, .int x2)]) dX5_part_17 hl (by decide) rfl hE (fun x5_2 ls hl hE => ?_)
    refine wX5_part_L19 C ?_ FU x0 x2 x3_1 x5_2 σ _ _ _ (lv_sub hl [2, 3, 1, 0] rfl) hP hS hE
    intro x0_7 x2_8 x3_9 σ_10 H locs ls hl hP hS hE
    refine lv_iload_n hx hb dX5_part_42 rfl (lv_at hl 1 rfl) ?_
    refine z_if_ne (tgt := 50) hx hb dX5_part_43 (by decide) hE (fun hE => ?_) (fun hE => ?_)
    · refine lv_ldc2 (v := 1000000000000) hx hb hown (hts _ u_608) dX5_part_50 ?_
      refine lv_lload_n hx hb dX5_part_53 rfl (lv_at hl 2 rfl) ?_
      refine z_ldiv hx hb dX5_part_54 hE (fun v_11 hE => ?_)
      exact z_lret hx hb hr hlk hP hS dX5_part_55 hE
    refine lv_lload_n hx hb dX5_part_46 rfl (lv_at hl 0 rfl) ?_
    refine lv_goto (tgt := 53) hx hb dX5_part_47 (by decide) ?_
    refine lv_lload_n hx hb dX5_part_53 rfl (lv_at hl 2 rfl) ?_
    refine z_ldiv hx hb dX5_part_54 hE (fun v_12 hE => ?_)
    exact z_lret hx hb hr hlk hP hS dX5_part_55 hE
  refine lv_iload_n hx hb dX5_part_6 rfl (lv_at hl 1 rfl) ?_
  refine lv_i2l (v := (Int32.toInt64 x2)) hx hb dX5_part_7 rfl ?_
  exact z_lret hx hb hr hlk hP hS dX5_part_8 hE
theorem kX5_part (l : Launch) (E : EN) (hD : ∀ σ, va_D (eA E) (mW E σ)) (x0 : Int64) (x2 : Int32) (σ : ST) (F : Int64 × ST) (hE : fX5_part x0 x2 σ = some F) : Met l yX5_part wu_X5_part r_X5_part (zPc E mW [.long x0, .int x2] σ) (zQl E mW F) 0 0 (eA E) := by
  refine Met.ofW (cc := cX5_part) (maxL := 9) (ret := (some .long)) (by decide) rfl ?_
  intro p e s m args below meth c s₁ B hml hv
  obtain ⟨rfl, hP, hK⟩ := hv
  have hl := lv_entry ([.long x0, .int x2]) (n := 9) (Nat.le_of_ble_eq_true rfl)
  rw [lg_entry_eq]
  generalize (lg_sl ([.long x0, .int x2]) ++ List.replicate (9 - (lg_sl ([.long x0, .int x2])).length) Slot.unset).toArray = ls at hl ⊢
  exact wX5_part ⟨B.exec, B.bytes, hml, findClass_of_methodNamed B.named, fun w h => atoms_spec (ws := wu_X5_part) B.pre w (List.mem_cons_of_mem _ h), B.returns, B.notSynchronized, hK, hD⟩ x0 x2 σ s.heap [] ls hl hP va_S.rf hE
def fX5_noLong  (x1 : Int32) (σ : ST) : Option (Int64 × ST) :=
  cali (fX5_no x1 σ) (fun r_2 σ_1 => some ((4000000000000000000 - (Int32.toInt64 r_2)), σ_1))
set_option maxHeartbeats 4000000 in
set_option maxRecDepth 100000 in
theorem wX5_noLong {p : Program} {l : Launch} {e : Env} {s : State} {m : MethodId} {args : Array Value} {below : List Frame} {meth : Method} {c : Code} {E : EN} (C : zC E mW p s m args meth c cX5_noLong 2 RX5 (some .long) wsL_law) {F : Int64 × ST}   (x1 : Int32) (σ : ST) (H : Heap) (locs : List Loc) (ls : Array Slot) (hl : lv_has ls 2 [(0, .ref (ea E 0)), (1, .int x1)]) (hP : va_P (eD E) vwCl (mW E σ) H) (hS : va_S (eA E) s.heap H locs) (hE : fX5_noLong  x1 σ = some F) : zWl E mW p l e r_X5_noLong s m args below meth c F H locs (F0 m 0 ls []) := by
  obtain ⟨hx, hb, hml, hown, hts, hr, hlk, hK, hD⟩ := id C
  unfold fX5_noLong at hE
  refine lv_ldc2 (v := 4000000000000000000) hx hb hown (hts _ u_669) dX5_noLong_0 ?_
  refine lv_aload_n hx hb dX5_noLong_3 rfl (lv_at hl 0 rfl) ?_
  refine lv_iload_n hx hb dX5_noLong_4 rfl (lv_at hl 1 rfl) ?_
  refine z_goi (wf := mW) hS hE (fun F1 h1 => (va_runV (As := [.int x1]) (rest := [.long 4000000000000000000]) ⟨hx, hb, hml, hown, hts⟩ (kX5_no l E hD x1 σ F1 h1) (cwV 1 hts (gU_V u_131 u_132 u_133 u_5 u_134) rfl rfl rfl q_X5_no ⟨Nat.le_of_ble_eq_true rfl, Nat.le_of_ble_eq_true rfl⟩) (z_preV hK hP hS (ci := 5) (q0 := 0) rfl rfl rfl) rfl rfl hl.1 rfl (lv_room (Nat.le_of_ble_eq_true rfl)) dX5_noLong_5 ⟨Nat.le_of_ble_eq_true rfl, Nat.le_of_ble_eq_true rfl⟩)) (fun r_2 σ_1 H locs hP hS hE => ?_)
  refine lv_i2l (v := (Int32.toInt64 r_2)) hx hb dX5_noLong_8 rfl ?_
  refine lv_lsub hx hb dX5_noLong_9 ?_
  exact z_lret hx hb hr hlk hP hS dX5_noLong_10 hE
theorem kX5_noLong (l : Launch) (E : EN) (hD : ∀ σ, va_D (eA E) (mW E σ)) (x1 : Int32) (σ : ST) (F : Int64 × ST) (hE : fX5_noLong x1 σ = some F) : Met l yX5_noLong wu_X5_noLong r_X5_noLong (zPc E mW [.ref (ea E 0), .int x1] σ) (zQl E mW F) 0 0 (eA E) := by
  refine Met.ofW (cc := cX5_noLong) (maxL := 2) (ret := (some .long)) (by decide) rfl ?_
  intro p e s m args below meth c s₁ B hml hv
  obtain ⟨rfl, hP, hK⟩ := hv
  have hl := lv_entry ([.ref (ea E 0), .int x1]) (n := 2) (Nat.le_of_ble_eq_true rfl)
  rw [lg_entry_eq]
  generalize (lg_sl ([.ref (ea E 0), .int x1]) ++ List.replicate (2 - (lg_sl ([.ref (ea E 0), .int x1])).length) Slot.unset).toArray = ls at hl ⊢
  exact wX5_noLong ⟨B.exec, B.bytes, hml, findClass_of_methodNamed B.named, fun w h => atoms_spec (ws := wu_X5_noLong) B.pre w (List.mem_cons_of_mem _ h), B.returns, B.notSynchronized, hK, hD⟩ x1 σ s.heap [] ls hl hP va_S.rf hE
def fX5_likely  (x1 : Int32) (σ : ST) : Option (Int64 × ST) :=
  cali (fX5_isNoPart x1 σ) (fun r_2 σ_1 => (if r_2 = 0 then cali (fX5_isNoTown σ_1) (fun r_4 σ_3 => (if r_4 = 0 then ald (gA σ_3 1) 200 5 (fun v_5 => calv (fX5_dayOfRow v_5 σ_3) (fun σ_6 => call (fX5_part (gL σ_6 0) x1 σ_6) (fun r_8 σ_7 => some (r_8, σ_7)))) else call (fX5_noLong (-3) σ_3) (fun r_10 σ_9 => some (r_10, σ_9)))) else call (fX5_noLong (-2) σ_1) (fun r_12 σ_11 => some (r_12, σ_11))))
set_option maxHeartbeats 4000000 in
set_option maxRecDepth 100000 in
theorem wX5_likely {p : Program} {l : Launch} {e : Env} {s : State} {m : MethodId} {args : Array Value} {below : List Frame} {meth : Method} {c : Code} {E : EN} (C : zC E mW p s m args meth c cX5_likely 2 RX5 (some .long) wsL_law) {F : Int64 × ST}   (x1 : Int32) (σ : ST) (H : Heap) (locs : List Loc) (ls : Array Slot) (hl : lv_has ls 2 [(0, .ref (ea E 0)), (1, .int x1)]) (hP : va_P (eD E) vwCl (mW E σ) H) (hS : va_S (eA E) s.heap H locs) (hE : fX5_likely  x1 σ = some F) : zWl E mW p l e r_X5_likely s m args below meth c F H locs (F0 m 0 ls []) := by
  obtain ⟨hx, hb, hml, hown, hts, hr, hlk, hK, hD⟩ := id C
  have hwX5 : ∀ w ∈ wsX50, w.before args s = true := fun w h => hts w (inlX5 w h)
  unfold fX5_likely at hE
  refine lv_iload_n hx hb dX5_likely_0 rfl (lv_at hl 1 rfl) ?_
  refine z_goi (wf := mW) hS hE (fun F1 h1 => (va_runS (As := [.int x1]) (rest := []) ⟨hx, hb, hml, hown, hts⟩ (kX5_isNoPart l E hD x1 σ F1 h1) (va_cwS 1 hts (gU_S u_662 u_663 u_5 u_664) rfl rfl rfl q_X5_isNoPart ⟨Nat.le_of_ble_eq_true rfl, Nat.le_of_ble_eq_true rfl⟩) (z_preS hK hP hS) rfl rfl hl.1 rfl (lv_room (Nat.le_of_ble_eq_true rfl)) dX5_likely_1 ⟨Nat.le_of_ble_eq_true rfl, Nat.le_of_ble_eq_true rfl⟩)) (fun r_2 σ_1 H locs hP hS hE => ?_)
  refine z_if_eq (tgt := 14) hx hb dX5_likely_4 (by decide) hE (fun hE => ?_) (fun hE => ?_)
  · refine lv_aload_n hx hb dX5_likely_14 rfl (lv_at hl 0 rfl) ?_
    refine z_goi (wf := mW) hS hE (fun F1 h1 => (va_runV (As := []) (rest := []) ⟨hx, hb, hml, hown, hts⟩ (kX5_isNoTown l E hD  σ_1 F1 h1) (cwV 0 hts (gU_V u_588 u_589 u_590 u_5 u_591) rfl rfl rfl q_X5_isNoTown ⟨Nat.le_of_ble_eq_true rfl, Nat.le_of_ble_eq_true rfl⟩) (z_preV hK hP hS (ci := 5) (q0 := 0) rfl rfl rfl) rfl rfl hl.1 rfl (lv_room (Nat.le_of_ble_eq_true rfl)) dX5_likely_15 ⟨Nat.le_of_ble_eq_true rfl, Nat.le_of_ble_eq_true rfl⟩)) (fun r_4 σ_3 H locs hP hS hE => ?_)
    refine z_if_eq (tgt := 28) hx hb dX5_likely_18 (by decide) hE (fun hE => ?_) (fun hE => ?_)
    · refine lv_aload_n hx hb dX5_likely_28 rfl (lv_at hl 0 rfl) ?_
      refine lv_aload_n hx hb dX5_likely_29 rfl (lv_at hl 0 rfl) ?_
      refine mg_0_1 hx hb hown hwX5 (hts _ u_97) hK hP dX5_likely_30 ?_
      refine lv_iconst (v := 5) hx hb dX5_likely_33 (by decide) ?_
      refine ma_2 hx hb hK hP dX5_likely_34 hE (fun v_5 hE => ?_)
      refine z_gov (wf := mW) hS hE (fun F1 h1 => (va_runV (As := [.int v_5]) (rest := []) ⟨hx, hb, hml, hown, hts⟩ (kX5_dayOfRow l E hD v_5 σ_3 F1 h1) (cwV 1 hts (gU_V u_592 u_593 u_594 u_5 u_595) rfl rfl rfl q_X5_dayOfRow ⟨Nat.le_of_ble_eq_true rfl, Nat.le_of_ble_eq_true rfl⟩) (z_preV hK hP hS (ci := 5) (q0 := 0) rfl rfl rfl) rfl rfl hl.1 rfl (lv_room (Nat.le_of_ble_eq_true rfl)) dX5_likely_35 ⟨Nat.le_of_ble_eq_true rfl, Nat.le_of_ble_eq_true rfl⟩)) (fun σ_6 H locs hP hS hE => ?_)
      refine lv_aload_n hx hb dX5_likely_38 rfl (lv_at hl 0 rfl) ?_
      refine mg_0_27 hx hb hown hwX5 (hts _ u_609) hK hP dX5_likely_39 ?_
      refine lv_iload_n hx hb dX5_likely_42 rfl (lv_at hl 1 rfl) ?_
      refine z_gol (wf := mW) hS hE (fun F1 h1 => (va_runS (As := [.long (gL σ_6 0), .int x1]) (rest := []) ⟨hx, hb, hml, hown, hts⟩ (kX5_part l E hD (gL σ_6 0) x1 σ_6 F1 h1) (va_cwS 2 hts (gU_S u_670 u_671 u_5 u_672) rfl rfl rfl q_X5_part ⟨Nat.le_of_ble_eq_true rfl, Nat.le_of_ble_eq_true rfl⟩) (z_preS hK hP hS) rfl rfl hl.1 rfl (lv_room (Nat.le_of_ble_eq_true rfl)) dX5_likely_43 ⟨Nat.le_of_ble_eq_true rfl, Nat.le_of_ble_eq_true rfl⟩)) (fun r_8 σ_7 H locs hP hS hE => ?_)
      exact z_lret hx hb hr hlk hP hS dX5_likely_46 hE
    refine lv_aload_n hx hb dX5_likely_21 rfl (lv_at hl 0 rfl) ?_
    refine lv_bipush (v := -3) hx hb dX5_likely_22 (by decide) ?_
    refine z_gol (wf := mW) hS hE (fun F1 h1 => (va_runV (As := [.int (-3)]) (rest := []) ⟨hx, hb, hml, hown, hts⟩ (kX5_noLong l E hD (-3) σ_3 F1 h1) (cwV 1 hts (gU_V u_665 u_666 u_667 u_5 u_668) rfl rfl rfl q_X5_noLong ⟨Nat.le_of_ble_eq_true rfl, Nat.le_of_ble_eq_true rfl⟩) (z_preV hK hP hS (ci := 5) (q0 := 0) rfl rfl rfl) rfl rfl hl.1 rfl (lv_room (Nat.le_of_ble_eq_true rfl)) dX5_likely_24 ⟨Nat.le_of_ble_eq_true rfl, Nat.le_of_ble_eq_true rfl⟩)) (fun r_10 σ_9 H locs hP hS hE => ?_)
    exact z_lret hx hb hr hlk hP hS dX5_likely_27 hE
  refine lv_aload_n hx hb dX5_likely_7 rfl (lv_at hl 0 rfl) ?_
  refine lv_bipush (v := -2) hx hb dX5_likely_8 (by decide) ?_
  refine z_gol (wf := mW) hS hE (fun F1 h1 => (va_runV (As := [.int (-2)]) (rest := []) ⟨hx, hb, hml, hown, hts⟩ (kX5_noLong l E hD (-2) σ_1 F1 h1) (cwV 1 hts (gU_V u_665 u_666 u_667 u_5 u_668) rfl rfl rfl q_X5_noLong ⟨Nat.le_of_ble_eq_true rfl, Nat.le_of_ble_eq_true rfl⟩) (z_preV hK hP hS (ci := 5) (q0 := 0) rfl rfl rfl) rfl rfl hl.1 rfl (lv_room (Nat.le_of_ble_eq_true rfl)) dX5_likely_10 ⟨Nat.le_of_ble_eq_true rfl, Nat.le_of_ble_eq_true rfl⟩)) (fun r_12 σ_11 H locs hP hS hE => ?_)
  exact z_lret hx hb hr hlk hP hS dX5_likely_13 hE
theorem kX5_likely (l : Launch) (E : EN) (hD : ∀ σ, va_D (eA E) (mW E σ)) (x1 : Int32) (σ : ST) (F : Int64 × ST) (hE : fX5_likely x1 σ = some F) : Met l yX5_likely wu_X5_likely r_X5_likely (zPc E mW [.ref (ea E 0), .int x1] σ) (zQl E mW F) 0 0 (eA E) := by
  refine Met.ofW (cc := cX5_likely) (maxL := 2) (ret := (some .long)) (by decide) rfl ?_
  intro p e s m args below meth c s₁ B hml hv
  obtain ⟨rfl, hP, hK⟩ := hv
  have hl := lv_entry ([.ref (ea E 0), .int x1]) (n := 2) (Nat.le_of_ble_eq_true rfl)
  rw [lg_entry_eq]
  generalize (lg_sl ([.ref (ea E 0), .int x1]) ++ List.replicate (2 - (lg_sl ([.ref (ea E 0), .int x1])).length) Slot.unset).toArray = ls at hl ⊢
  exact wX5_likely ⟨B.exec, B.bytes, hml, findClass_of_methodNamed B.named, fun w h => atoms_spec (ws := wu_X5_likely) B.pre w (List.mem_cons_of_mem _ h), B.returns, B.notSynchronized, hK, hD⟩ x1 σ s.heap [] ls hl hP va_S.rf hE
def fX5_worth  (x1 : Int32) (σ : ST) : Option (Int64 × ST) :=
  cali (fX5_isNoPart x1 σ) (fun r_2 σ_1 => (if r_2 = 0 then cali (fX5_isNoTown σ_1) (fun r_4 σ_3 => (if r_4 = 0 then ald (gA σ_3 1) 200 5 (fun v_5 => calv (fX5_dayOfRow v_5 σ_3) (fun σ_6 => call (fX5_part (gL σ_6 1) x1 σ_6) (fun r_8 σ_7 => some (r_8, σ_7)))) else call (fX5_noLong (-3) σ_3) (fun r_10 σ_9 => some (r_10, σ_9)))) else call (fX5_noLong (-2) σ_1) (fun r_12 σ_11 => some (r_12, σ_11))))
set_option maxHeartbeats 4000000 in
set_option maxRecDepth 100000 in
theorem wX5_worth {p : Program} {l : Launch} {e : Env} {s : State} {m : MethodId} {args : Array Value} {below : List Frame} {meth : Method} {c : Code} {E : EN} (C : zC E mW p s m args meth c cX5_worth 2 RX5 (some .long) wsL_law) {F : Int64 × ST}   (x1 : Int32) (σ : ST) (H : Heap) (locs : List Loc) (ls : Array Slot) (hl : lv_has ls 2 [(0, .ref (ea E 0)), (1, .int x1)]) (hP : va_P (eD E) vwCl (mW E σ) H) (hS : va_S (eA E) s.heap H locs) (hE : fX5_worth  x1 σ = some F) : zWl E mW p l e r_X5_worth s m args below meth c F H locs (F0 m 0 ls []) := by
  obtain ⟨hx, hb, hml, hown, hts, hr, hlk, hK, hD⟩ := id C
  have hwX5 : ∀ w ∈ wsX50, w.before args s = true := fun w h => hts w (inlX5 w h)
  unfold fX5_worth at hE
  refine lv_iload_n hx hb dX5_worth_0 rfl (lv_at hl 1 rfl) ?_
  refine z_goi (wf := mW) hS hE (fun F1 h1 => (va_runS (As := [.int x1]) (rest := []) ⟨hx, hb, hml, hown, hts⟩ (kX5_isNoPart l E hD x1 σ F1 h1) (va_cwS 1 hts (gU_S u_662 u_663 u_5 u_664) rfl rfl rfl q_X5_isNoPart ⟨Nat.le_of_ble_eq_true rfl, Nat.le_of_ble_eq_true rfl⟩) (z_preS hK hP hS) rfl rfl hl.1 rfl (lv_room (Nat.le_of_ble_eq_true rfl)) dX5_worth_1 ⟨Nat.le_of_ble_eq_true rfl, Nat.le_of_ble_eq_true rfl⟩)) (fun r_2 σ_1 H locs hP hS hE => ?_)
  refine z_if_eq (tgt := 14) hx hb dX5_worth_4 (by decide) hE (fun hE => ?_) (fun hE => ?_)
  · refine lv_aload_n hx hb dX5_worth_14 rfl (lv_at hl 0 rfl) ?_
    refine z_goi (wf := mW) hS hE (fun F1 h1 => (va_runV (As := []) (rest := []) ⟨hx, hb, hml, hown, hts⟩ (kX5_isNoTown l E hD  σ_1 F1 h1) (cwV 0 hts (gU_V u_588 u_589 u_590 u_5 u_591) rfl rfl rfl q_X5_isNoTown ⟨Nat.le_of_ble_eq_true rfl, Nat.le_of_ble_eq_true rfl⟩) (z_preV hK hP hS (ci := 5) (q0 := 0) rfl rfl rfl) rfl rfl hl.1 rfl (lv_room (Nat.le_of_ble_eq_true rfl)) dX5_worth_15 ⟨Nat.le_of_ble_eq_true rfl, Nat.le_of_ble_eq_true rfl⟩)) (fun r_4 σ_3 H locs hP hS hE => ?_)
    refine z_if_eq (tgt := 28) hx hb dX5_worth_18 (by decide) hE (fun hE => ?_) (fun hE => ?_)
    · refine lv_aload_n hx hb dX5_worth_28 rfl (lv_at hl 0 rfl) ?_
      refine lv_aload_n hx hb dX5_worth_29 rfl (lv_at hl 0 rfl) ?_
      refine mg_0_1 hx hb hown hwX5 (hts _ u_97) hK hP dX5_worth_30 ?_
      refine lv_iconst (v := 5) hx hb dX5_worth_33 (by decide) ?_
      refine ma_2 hx hb hK hP dX5_worth_34 hE (fun v_5 hE => ?_)
      refine z_gov (wf := mW) hS hE (fun F1 h1 => (va_runV (As := [.int v_5]) (rest := []) ⟨hx, hb, hml, hown, hts⟩ (kX5_dayOfRow l E hD v_5 σ_3 F1 h1) (cwV 1 hts (gU_V u_592 u_593 u_594 u_5 u_595) rfl rfl rfl q_X5_dayOfRow ⟨Nat.le_of_ble_eq_true rfl, Nat.le_of_ble_eq_true rfl⟩) (z_preV hK hP hS (ci := 5) (q0 := 0) rfl rfl rfl) rfl rfl hl.1 rfl (lv_room (Nat.le_of_ble_eq_true rfl)) dX5_worth_35 ⟨Nat.le_of_ble_eq_true rfl, Nat.le_of_ble_eq_true rfl⟩)) (fun σ_6 H locs hP hS hE => ?_)
      refine lv_aload_n hx hb dX5_worth_38 rfl (lv_at hl 0 rfl) ?_
      refine mg_0_28 hx hb hown hwX5 (hts _ u_610) hK hP dX5_worth_39 ?_
      refine lv_iload_n hx hb dX5_worth_42 rfl (lv_at hl 1 rfl) ?_
      refine z_gol (wf := mW) hS hE (fun F1 h1 => (va_runS (As := [.long (gL σ_6 1), .int x1]) (rest := []) ⟨hx, hb, hml, hown, hts⟩ (kX5_part l E hD (gL σ_6 1) x1 σ_6 F1 h1) (va_cwS 2 hts (gU_S u_670 u_671 u_5 u_672) rfl rfl rfl q_X5_part ⟨Nat.le_of_ble_eq_true rfl, Nat.le_of_ble_eq_true rfl⟩) (z_preS hK hP hS) rfl rfl hl.1 rfl (lv_room (Nat.le_of_ble_eq_true rfl)) dX5_worth_43 ⟨Nat.le_of_ble_eq_true rfl, Nat.le_of_ble_eq_true rfl⟩)) (fun r_8 σ_7 H locs hP hS hE => ?_)
      exact z_lret hx hb hr hlk hP hS dX5_worth_46 hE
    refine lv_aload_n hx hb dX5_worth_21 rfl (lv_at hl 0 rfl) ?_
    refine lv_bipush (v := -3) hx hb dX5_worth_22 (by decide) ?_
    refine z_gol (wf := mW) hS hE (fun F1 h1 => (va_runV (As := [.int (-3)]) (rest := []) ⟨hx, hb, hml, hown, hts⟩ (kX5_noLong l E hD (-3) σ_3 F1 h1) (cwV 1 hts (gU_V u_665 u_666 u_667 u_5 u_668) rfl rfl rfl q_X5_noLong ⟨Nat.le_of_ble_eq_true rfl, Nat.le_of_ble_eq_true rfl⟩) (z_preV hK hP hS (ci := 5) (q0 := 0) rfl rfl rfl) rfl rfl hl.1 rfl (lv_room (Nat.le_of_ble_eq_true rfl)) dX5_worth_24 ⟨Nat.le_of_ble_eq_true rfl, Nat.le_of_ble_eq_true rfl⟩)) (fun r_10 σ_9 H locs hP hS hE => ?_)
    exact z_lret hx hb hr hlk hP hS dX5_worth_27 hE
  refine lv_aload_n hx hb dX5_worth_7 rfl (lv_at hl 0 rfl) ?_
  refine lv_bipush (v := -2) hx hb dX5_worth_8 (by decide) ?_
  refine z_gol (wf := mW) hS hE (fun F1 h1 => (va_runV (As := [.int (-2)]) (rest := []) ⟨hx, hb, hml, hown, hts⟩ (kX5_noLong l E hD (-2) σ_1 F1 h1) (cwV 1 hts (gU_V u_665 u_666 u_667 u_5 u_668) rfl rfl rfl q_X5_noLong ⟨Nat.le_of_ble_eq_true rfl, Nat.le_of_ble_eq_true rfl⟩) (z_preV hK hP hS (ci := 5) (q0 := 0) rfl rfl rfl) rfl rfl hl.1 rfl (lv_room (Nat.le_of_ble_eq_true rfl)) dX5_worth_10 ⟨Nat.le_of_ble_eq_true rfl, Nat.le_of_ble_eq_true rfl⟩)) (fun r_12 σ_11 H locs hP hS hE => ?_)
  exact z_lret hx hb hr hlk hP hS dX5_worth_13 hE
theorem kX5_worth (l : Launch) (E : EN) (hD : ∀ σ, va_D (eA E) (mW E σ)) (x1 : Int32) (σ : ST) (F : Int64 × ST) (hE : fX5_worth x1 σ = some F) : Met l yX5_worth wu_X5_worth r_X5_worth (zPc E mW [.ref (ea E 0), .int x1] σ) (zQl E mW F) 0 0 (eA E) := by
  refine Met.ofW (cc := cX5_worth) (maxL := 2) (ret := (some .long)) (by decide) rfl ?_
  intro p e s m args below meth c s₁ B hml hv
  obtain ⟨rfl, hP, hK⟩ := hv
  have hl := lv_entry ([.ref (ea E 0), .int x1]) (n := 2) (Nat.le_of_ble_eq_true rfl)
  rw [lg_entry_eq]
  generalize (lg_sl ([.ref (ea E 0), .int x1]) ++ List.replicate (2 - (lg_sl ([.ref (ea E 0), .int x1])).length) Slot.unset).toArray = ls at hl ⊢
  exact wX5_worth ⟨B.exec, B.bytes, hml, findClass_of_methodNamed B.named, fun w h => atoms_spec (ws := wu_X5_worth) B.pre w (List.mem_cons_of_mem _ h), B.returns, B.notSynchronized, hK, hD⟩ x1 σ s.heap [] ls hl hP va_S.rf hE
def fX5_isNoBest  (x0 : Int32) (σ : ST) : Option (Int32 × ST) :=
  (if x0 < 0 then some (1, σ) else (if x0 ≤ 2 then some (0, σ) else some (1, σ)))
set_option maxHeartbeats 4000000 in
set_option maxRecDepth 100000 in
theorem wX5_isNoBest {p : Program} {l : Launch} {e : Env} {s : State} {m : MethodId} {args : Array Value} {below : List Frame} {meth : Method} {c : Code} {E : EN} (C : zC E mW p s m args meth c cX5_isNoBest 1 RX5 (some .boolean) wsL_law) {F : Int32 × ST}   (x0 : Int32) (σ : ST) (H : Heap) (locs : List Loc) (ls : Array Slot) (hl : lv_has ls 1 [(0, .int x0)]) (hP : va_P (eD E) vwCl (mW E σ) H) (hS : va_S (eA E) s.heap H locs) (hE : fX5_isNoBest  x0 σ = some F) : zWi E mW p l e r_X5_isNoBest s m args below meth c F H locs (F0 m 0 ls []) := by
  obtain ⟨hx, hb, hml, hown, hts, hr, hlk, hK, hD⟩ := id C
  unfold fX5_isNoBest at hE
  refine lv_iload_n hx hb dX5_isNoBest_0 rfl (lv_at hl 0 rfl) ?_
  refine z_if_lt (tgt := 9) hx hb dX5_isNoBest_1 (by decide) hE (fun hE => ?_) (fun hE => ?_)
  · refine lv_iconst (v := 1) hx hb dX5_isNoBest_9 (by decide) ?_
    refine lv_goto (tgt := 14) hx hb dX5_isNoBest_10 (by decide) ?_
    exact z_zret hx hb hr hlk rfl hP hS dX5_isNoBest_14 hE
  refine lv_iload_n hx hb dX5_isNoBest_4 rfl (lv_at hl 0 rfl) ?_
  refine lv_iconst (v := 2) hx hb dX5_isNoBest_5 (by decide) ?_
  refine z_icmp_le (tgt := 13) hx hb dX5_isNoBest_6 (by decide) hE (fun hE => ?_) (fun hE => ?_)
  · refine lv_iconst (v := 0) hx hb dX5_isNoBest_13 (by decide) ?_
    exact z_zret hx hb hr hlk rfl hP hS dX5_isNoBest_14 hE
  refine lv_iconst (v := 1) hx hb dX5_isNoBest_9 (by decide) ?_
  refine lv_goto (tgt := 14) hx hb dX5_isNoBest_10 (by decide) ?_
  exact z_zret hx hb hr hlk rfl hP hS dX5_isNoBest_14 hE
theorem kX5_isNoBest (l : Launch) (E : EN) (hD : ∀ σ, va_D (eA E) (mW E σ)) (x0 : Int32) (σ : ST) (F : Int32 × ST) (hE : fX5_isNoBest x0 σ = some F) : Met l yX5_isNoBest wu_X5_isNoBest r_X5_isNoBest (zPc E mW [.int x0] σ) (zQi E mW F) 0 0 (eA E) := by
  refine Met.ofW (cc := cX5_isNoBest) (maxL := 1) (ret := (some .boolean)) (by decide) rfl ?_
  intro p e s m args below meth c s₁ B hml hv
  obtain ⟨rfl, hP, hK⟩ := hv
  have hl := lv_entry ([.int x0]) (n := 1) (Nat.le_of_ble_eq_true rfl)
  rw [lg_entry_eq]
  generalize (lg_sl ([.int x0]) ++ List.replicate (1 - (lg_sl ([.int x0])).length) Slot.unset).toArray = ls at hl ⊢
  exact wX5_isNoBest ⟨B.exec, B.bytes, hml, findClass_of_methodNamed B.named, fun w h => atoms_spec (ws := wu_X5_isNoBest) B.pre w (List.mem_cons_of_mem _ h), B.returns, B.notSynchronized, hK, hD⟩ x0 σ s.heap [] ls hl hP va_S.rf hE
def fX5_swap  (x1 : Int32) (x2 : Int32) (σ : ST) : Option (ST) :=
  ald (gA σ 12) 10 x1 (fun v_1 => bnd (v_1 : Int32) (fun x3_2 => ald (gA σ 12) 10 x2 (fun v_3 => ast σ 12 10 x1 v_3 (fun σ_4 => ast σ_4 12 10 x2 x3_2 (fun σ_5 => some σ_5)))))
set_option maxHeartbeats 4000000 in
set_option maxRecDepth 100000 in
theorem wX5_swap {p : Program} {l : Launch} {e : Env} {s : State} {m : MethodId} {args : Array Value} {below : List Frame} {meth : Method} {c : Code} {E : EN} (C : zC E mW p s m args meth c cX5_swap 4 RX5 none wsL_law) {F : ST}   (x1 : Int32) (x2 : Int32) (σ : ST) (H : Heap) (locs : List Loc) (ls : Array Slot) (hl : lv_has ls 4 [(0, .ref (ea E 0)), (1, .int x1), (2, .int x2)]) (hP : va_P (eD E) vwCl (mW E σ) H) (hS : va_S (eA E) s.heap H locs) (hE : fX5_swap  x1 x2 σ = some F) : zWv E mW p l e r_X5_swap s m args below meth c F H locs (F0 m 0 ls []) := by
  obtain ⟨hx, hb, hml, hown, hts, hr, hlk, hK, hD⟩ := id C
  have hwX5 : ∀ w ∈ wsX50, w.before args s = true := fun w h => hts w (inlX5 w h)
  unfold fX5_swap at hE
  refine lv_aload_n hx hb dX5_swap_0 rfl (lv_at hl 0 rfl) ?_
  refine mg_0_20 hx hb hown hwX5 (hts _ u_110) hK hP dX5_swap_1 ?_
  refine lv_iload_n hx hb dX5_swap_4 rfl (lv_at hl 1 rfl) ?_
  refine ma_13 hx hb hK hP dX5_swap_5 hE (fun v_1 hE => ?_)
  refine z_istore_n hx hb (fun x3_2 => [(3, .int x3_2), (0, .ref (ea E 0)), (1, .int x1), (2, .int x2)]) dX5_swap_6 rfl hl (by decide) rfl hE (fun x3_2 ls hl hE => ?_)
  refine lv_aload_n hx hb dX5_swap_7 rfl (lv_at hl 1 rfl) ?_
  refine mg_0_20 hx hb hown hwX5 (hts _ u_110) hK hP dX5_swap_8 ?_
  refine lv_iload_n hx hb dX5_swap_11 rfl (lv_at hl 2 rfl) ?_
  refine lv_aload_n hx hb dX5_swap_12 rfl (lv_at hl 1 rfl) ?_
  refine mg_0_20 hx hb hown hwX5 (hts _ u_110) hK hP dX5_swap_13 ?_
  refine lv_iload_n hx hb dX5_swap_16 rfl (lv_at hl 3 rfl) ?_
  refine ma_13 hx hb hK hP dX5_swap_17 hE (fun v_3 hE => ?_)
  refine ms_13 hx hb hK hD hP hS dX5_swap_18 hE (fun σ_4 H locs hP hS hE => ?_)
  refine lv_aload_n hx hb dX5_swap_19 rfl (lv_at hl 1 rfl) ?_
  refine mg_0_20 hx hb hown hwX5 (hts _ u_110) hK hP dX5_swap_20 ?_
  refine lv_iload_n hx hb dX5_swap_23 rfl (lv_at hl 3 rfl) ?_
  refine lv_iload_n hx hb dX5_swap_24 rfl (lv_at hl 0 rfl) ?_
  refine ms_13 hx hb hK hD hP hS dX5_swap_25 hE (fun σ_5 H locs hP hS hE => ?_)
  exact z_vret hx hb hr hlk hP hS dX5_swap_26 hE
theorem kX5_swap (l : Launch) (E : EN) (hD : ∀ σ, va_D (eA E) (mW E σ)) (x1 : Int32) (x2 : Int32) (σ : ST) (F : ST) (hE : fX5_swap x1 x2 σ = some F) : Met l yX5_swap wu_X5_swap r_X5_swap (zPc E mW [.ref (ea E 0), .int x1, .int x2] σ) (zQv E mW F) 0 0 (eA E) := by
  refine Met.ofW (cc := cX5_swap) (maxL := 4) (ret := none) (by decide) rfl ?_
  intro p e s m args below meth c s₁ B hml hv
  obtain ⟨rfl, hP, hK⟩ := hv
  have hl := lv_entry ([.ref (ea E 0), .int x1, .int x2]) (n := 4) (Nat.le_of_ble_eq_true rfl)
  rw [lg_entry_eq]
  generalize (lg_sl ([.ref (ea E 0), .int x1, .int x2]) ++ List.replicate (4 - (lg_sl ([.ref (ea E 0), .int x1, .int x2])).length) Slot.unset).toArray = ls at hl ⊢
  exact wX5_swap ⟨B.exec, B.bytes, hml, findClass_of_methodNamed B.named, fun w h => atoms_spec (ws := wu_X5_swap) B.pre w (List.mem_cons_of_mem _ h), B.returns, B.notSynchronized, hK, hD⟩ x1 x2 σ s.heap [] ls hl hP va_S.rf hE
def fX5_next_L7 (ke : Int32 → ST → Option (Int32 × ST)) : Nat → Int32 → ST → Option (Int32 × ST)
  | 0, _, _ => none
  | n + 1, x1, σ => (if x1 < 0 then ke x1 σ else ald (gA σ 12) 10 x1 (fun v_2 => ald (gA σ 12) 10 (x1 + 1) (fun v_3 => (if v_2 ≤ v_3 then ke x1 σ else bnd (x1 + (-1)) (fun x1_4 => fX5_next_L7 ke n x1_4 σ)))))
set_option maxHeartbeats 4000000 in
set_option maxRecDepth 100000 in
theorem wX5_next_L7 {p : Program} {l : Launch} {e : Env} {s : State} {m : MethodId} {args : Array Value} {below : List Frame} {meth : Method} {c : Code} {E : EN} (C : zC E mW p s m args meth c cX5_next 5 RX5 (some .boolean) wsL_law) {F : Int32 × ST} {ke : Int32 → ST → Option (Int32 × ST)} (hke : ∀ (x1 : Int32) (σ : ST) (H : Heap) (locs : List Loc) (ls : Array Slot), lv_has ls 5 [(0, .ref (ea E 0)), (1, .int x1)] → va_P (eD E) vwCl (mW E σ) H → va_S (eA E) s.heap H locs → ke x1 σ = some F → zWi E mW p l e r_X5_next s m args below meth c F H locs (F0 m 34 ls [])) : ∀ (n : Nat) (x1 : Int32) (σ : ST) (H : Heap) (locs : List Loc) (ls : Array Slot), lv_has ls 5 [(0, .ref (ea E 0)), (1, .int x1)] → va_P (eD E) vwCl (mW E σ) H → va_S (eA E) s.heap H locs → fX5_next_L7 ke n x1 σ = some F → zWi E mW p l e r_X5_next s m args below meth c F H locs (F0 m 7 ls []) := by
  obtain ⟨hx, hb, hml, hown, hts, hr, hlk, hK, hD⟩ := id C
  have hwX5 : ∀ w ∈ wsX50, w.before args s = true := fun w h => hts w (inlX5 w h)
  intro n
  induction n with
  | zero => intro x1 σ H locs ls hl hP hS hE; rw [fX5_next_L7] at hE; cases hE
  | succ n ih =>
    intro x1 σ H locs ls hl hP hS hE
    rw [fX5_next_L7] at hE
    refine lv_iload_n hx hb dX5_next_7 rfl (lv_at hl 1 rfl) ?_
    refine z_if_lt (tgt := 34) hx hb dX5_next_8 (by decide) hE (fun hE => ?_) (fun hE => ?_)
    · exact hke x1 σ _ _ _ (lv_sub hl [0, 1] rfl) hP hS hE
    refine lv_aload_n hx hb dX5_next_11 rfl (lv_at hl 0 rfl) ?_
    refine mg_0_20 hx hb hown hwX5 (hts _ u_110) hK hP dX5_next_12 ?_
    refine lv_iload_n hx hb dX5_next_15 rfl (lv_at hl 1 rfl) ?_
    refine ma_13 hx hb hK hP dX5_next_16 hE (fun v_2 hE => ?_)
    refine lv_aload_n hx hb dX5_next_17 rfl (lv_at hl 0 rfl) ?_
    refine mg_0_20 hx hb hown hwX5 (hts _ u_110) hK hP dX5_next_18 ?_
    refine lv_iload_n hx hb dX5_next_21 rfl (lv_at hl 1 rfl) ?_
    refine lv_iconst (v := 1) hx hb dX5_next_22 (by decide) ?_
    refine lv_iadd hx hb dX5_next_23 ?_
    refine ma_13 hx hb hK hP dX5_next_24 hE (fun v_3 hE => ?_)
    refine z_icmp_le (tgt := 34) hx hb dX5_next_25 (by decide) hE (fun hE => ?_) (fun hE => ?_)
    · exact hke x1 σ _ _ _ (lv_sub hl [0, 1] rfl) hP hS hE
    refine z_iinc hx hb (v := (x1 + (-1))) (k := 1) (fun x1_4 => [(1, .int x1_4), (0, .ref (ea E 0))]) dX5_next_28 hl rfl (by rfl) (by decide) rfl hE (fun x1_4 ls hl hE => ?_)
    refine lv_goto (tgt := 7) hx hb dX5_next_31 (by decide) ?_
    exact ih x1_4 σ _ _ _ (lv_sub hl [1, 0] rfl) hP hS hE
def fX5_next_L47 (ke : Int32 → Int32 → ST → Option (Int32 × ST)) : Nat → Int32 → Int32 → ST → Option (Int32 × ST)
  | 0, _, _, _ => none
  | n + 1, x1, x2, σ => ald (gA σ 12) 10 x2 (fun v_8 => ald (gA σ 12) 10 x1 (fun v_9 => (if v_9 ≤ v_8 then ke x1 x2 σ else bnd (x2 + (-1)) (fun x2_10 => fX5_next_L47 ke n x1 x2_10 σ))))
set_option maxHeartbeats 4000000 in
set_option maxRecDepth 100000 in
theorem wX5_next_L47 {p : Program} {l : Launch} {e : Env} {s : State} {m : MethodId} {args : Array Value} {below : List Frame} {meth : Method} {c : Code} {E : EN} (C : zC E mW p s m args meth c cX5_next 5 RX5 (some .boolean) wsL_law) {F : Int32 × ST} {ke : Int32 → Int32 → ST → Option (Int32 × ST)} (hke : ∀ (x1 : Int32) (x2 : Int32) (σ : ST) (H : Heap) (locs : List Loc) (ls : Array Slot), lv_has ls 5 [(0, .ref (ea E 0)), (1, .int x1), (2, .int x2)] → va_P (eD E) vwCl (mW E σ) H → va_S (eA E) s.heap H locs → ke x1 x2 σ = some F → zWi E mW p l e r_X5_next s m args below meth c F H locs (F0 m 68 ls [])) : ∀ (n : Nat) (x1 : Int32) (x2 : Int32) (σ : ST) (H : Heap) (locs : List Loc) (ls : Array Slot), lv_has ls 5 [(0, .ref (ea E 0)), (1, .int x1), (2, .int x2)] → va_P (eD E) vwCl (mW E σ) H → va_S (eA E) s.heap H locs → fX5_next_L47 ke n x1 x2 σ = some F → zWi E mW p l e r_X5_next s m args below meth c F H locs (F0 m 47 ls []) := by
  obtain ⟨hx, hb, hml, hown, hts, hr, hlk, hK, hD⟩ := id C
  have hwX5 : ∀ w ∈ wsX50, w.before args s = true := fun w h => hts w (inlX5 w h)
  intro n
  induction n with
  | zero => intro x1 x2 σ H locs ls hl hP hS hE; rw [fX5_next_L47] at hE; cases hE
  | succ n ih =>
    intro x1 x2 σ H locs ls hl hP hS hE
    rw [fX5_next_L47] at hE
    refine lv_aload_n hx hb dX5_next_47 rfl (lv_at hl 0 rfl) ?_
    refine mg_0_20 hx hb hown hwX5 (hts _ u_110) hK hP dX5_next_48 ?_
    refine lv_iload_n hx hb dX5_next_51 rfl (lv_at hl 2 rfl) ?_
    refine ma_13 hx hb hK hP dX5_next_52 hE (fun v_8 hE => ?_)
    refine lv_aload_n hx hb dX5_next_53 rfl (lv_at hl 0 rfl) ?_
    refine mg_0_20 hx hb hown hwX5 (hts _ u_110) hK hP dX5_next_54 ?_
    refine lv_iload_n hx hb dX5_next_57 rfl (lv_at hl 1 rfl) ?_
    refine ma_13 hx hb hK hP dX5_next_58 hE (fun v_9 hE => ?_)
    refine z_icmp_ge (tgt := 68) hx hb dX5_next_59 (by decide) hE (fun hE => ?_) (fun hE => ?_)
    · exact hke x1 x2 σ _ _ _ (lv_sub hl [0, 1, 2] rfl) hP hS hE
    refine z_iinc hx hb (v := (x2 + (-1))) (k := 2) (fun x2_10 => [(2, .int x2_10), (0, .ref (ea E 0)), (1, .int x1)]) dX5_next_62 hl rfl (by rfl) (by decide) rfl hE (fun x2_10 ls hl hE => ?_)
    refine lv_goto (tgt := 47) hx hb dX5_next_65 (by decide) ?_
    exact ih x1 x2_10 σ _ _ _ (lv_sub hl [1, 2, 0] rfl) hP hS hE
def fX5_next_L86 (ke : ST → Option (Int32 × ST)) : Nat → Int32 → Int32 → ST → Option (Int32 × ST)
  | 0, _, _, _ => none
  | n + 1, x3, x4, σ => (if x4 ≤ x3 then ke  σ else calv (fX5_swap x3 x4 σ) (fun σ_17 => bnd (x3 + 1) (fun x3_18 => bnd (x4 + (-1)) (fun x4_19 => fX5_next_L86 ke n x3_18 x4_19 σ_17))))
set_option maxHeartbeats 4000000 in
set_option maxRecDepth 100000 in
theorem wX5_next_L86 {p : Program} {l : Launch} {e : Env} {s : State} {m : MethodId} {args : Array Value} {below : List Frame} {meth : Method} {c : Code} {E : EN} (C : zC E mW p s m args meth c cX5_next 5 RX5 (some .boolean) wsL_law) {F : Int32 × ST} {ke : ST → Option (Int32 × ST)} (hke : ∀  (σ : ST) (H : Heap) (locs : List Loc) (ls : Array Slot), lv_has ls 5 [] → va_P (eD E) vwCl (mW E σ) H → va_S (eA E) s.heap H locs → ke  σ = some F → zWi E mW p l e r_X5_next s m args below meth c F H locs (F0 m 108 ls [])) : ∀ (n : Nat) (x3 : Int32) (x4 : Int32) (σ : ST) (H : Heap) (locs : List Loc) (ls : Array Slot), lv_has ls 5 [(0, .ref (ea E 0)), (3, .int x3), (4, .int x4)] → va_P (eD E) vwCl (mW E σ) H → va_S (eA E) s.heap H locs → fX5_next_L86 ke n x3 x4 σ = some F → zWi E mW p l e r_X5_next s m args below meth c F H locs (F0 m 86 ls []) := by
  obtain ⟨hx, hb, hml, hown, hts, hr, hlk, hK, hD⟩ := id C
  intro n
  induction n with
  | zero => intro x3 x4 σ H locs ls hl hP hS hE; rw [fX5_next_L86] at hE; cases hE
  | succ n ih =>
    intro x3 x4 σ H locs ls hl hP hS hE
    rw [fX5_next_L86] at hE
    refine lv_iload_n hx hb dX5_next_86 rfl (lv_at hl 1 rfl) ?_
    refine lv_iload hx hb dX5_next_87 (lv_at hl 2 rfl) ?_
    refine z_icmp_ge (tgt := 108) hx hb dX5_next_89 (by decide) hE (fun hE => ?_) (fun hE => ?_)
    · exact hke  σ _ _ _ (lv_sub hl [] rfl) hP hS hE
    refine lv_aload_n hx hb dX5_next_92 rfl (lv_at hl 0 rfl) ?_
    refine lv_iload_n hx hb dX5_next_93 rfl (lv_at hl 1 rfl) ?_
    refine lv_iload hx hb dX5_next_94 (lv_at hl 2 rfl) ?_
    refine z_gov (wf := mW) hS hE (fun F1 h1 => (va_runV (As := [.int x3, .int x4]) (rest := []) ⟨hx, hb, hml, hown, hts⟩ (kX5_swap l E hD x3 x4 σ F1 h1) (cwV 2 hts (gU_V u_728 u_729 u_730 u_5 u_731) rfl rfl rfl q_X5_swap ⟨Nat.le_of_ble_eq_true rfl, Nat.le_of_ble_eq_true rfl⟩) (z_preV hK hP hS (ci := 5) (q0 := 0) rfl rfl rfl) rfl rfl hl.1 rfl (lv_room (Nat.le_of_ble_eq_true rfl)) dX5_next_96 ⟨Nat.le_of_ble_eq_true rfl, Nat.le_of_ble_eq_true rfl⟩)) (fun σ_17 H locs hP hS hE => ?_)
    refine z_iinc hx hb (v := (x3 + 1)) (k := 1) (fun x3_18 => [(3, .int x3_18), (0, .ref (ea E 0)), (4, .int x4)]) dX5_next_99 hl rfl (by rfl) (by decide) rfl hE (fun x3_18 ls hl hE => ?_)
    refine z_iinc hx hb (v := (x4 + (-1))) (k := 2) (fun x4_19 => [(4, .int x4_19), (3, .int x3_18), (0, .ref (ea E 0))]) dX5_next_102 hl rfl (by rfl) (by decide) rfl hE (fun x4_19 ls hl hE => ?_)
    refine lv_goto (tgt := 86) hx hb dX5_next_105 (by decide) ?_
    exact ih x3_18 x4_19 σ_17 _ _ _ (lv_sub hl [2, 1, 0] rfl) hP hS hE
def fX5_next_J34  (x1 : Int32) (σ : ST) : Option (Int32 × ST) :=
  (if 0 ≤ x1 then bnd (((gI σ 8) - 1) : Int32) (fun x2_7 => fX5_next_L47 (fun x1_11 x2_12 σ_13 => calv (fX5_swap x1_11 x2_12 σ_13) (fun σ_14 => bnd ((x1_11 + 1) : Int32) (fun x3_15 => bnd (((gI σ_14 8) - 1) : Int32) (fun x4_16 => fX5_next_L86 (fun σ_20 => some (1, σ_20)) FU x3_15 x4_16 σ_14)))) FU x1 x2_7 σ) else some (0, σ))
set_option maxHeartbeats 4000000 in
set_option maxRecDepth 100000 in
theorem wX5_next_J34 {p : Program} {l : Launch} {e : Env} {s : State} {m : MethodId} {args : Array Value} {below : List Frame} {meth : Method} {c : Code} {E : EN} (C : zC E mW p s m args meth c cX5_next 5 RX5 (some .boolean) wsL_law) {F : Int32 × ST}   (x1 : Int32) (σ : ST) (H : Heap) (locs : List Loc) (ls : Array Slot) (hl : lv_has ls 5 [(0, .ref (ea E 0)), (1, .int x1)]) (hP : va_P (eD E) vwCl (mW E σ) H) (hS : va_S (eA E) s.heap H locs) (hE : fX5_next_J34  x1 σ = some F) : zWi E mW p l e r_X5_next s m args below meth c F H locs (F0 m 34 ls []) := by
  obtain ⟨hx, hb, hml, hown, hts, hr, hlk, hK, hD⟩ := id C
  have hwX5 : ∀ w ∈ wsX50, w.before args s = true := fun w h => hts w (inlX5 w h)
  unfold fX5_next_J34 at hE
  refine lv_iload_n hx hb dX5_next_34 rfl (lv_at hl 1 rfl) ?_
  refine z_if_ge (tgt := 40) hx hb dX5_next_35 (by decide) hE (fun hE => ?_) (fun hE => ?_)
  · refine lv_aload_n hx hb dX5_next_40 rfl (lv_at hl 0 rfl) ?_
    refine mg_0_21 hx hb hown hwX5 (hts _ u_600) hK hP dX5_next_41 ?_
    refine lv_iconst (v := 1) hx hb dX5_next_44 (by decide) ?_
    refine lv_isub hx hb dX5_next_45 ?_
    refine z_istore_n hx hb (fun x2_7 => [(2, .int x2_7), (0, .ref (ea E 0)), (1, .int x1)]) dX5_next_46 rfl hl (by decide) rfl hE (fun x2_7 ls hl hE => ?_)
    refine wX5_next_L47 C ?_ FU x1 x2_7 σ _ _ _ (lv_sub hl [1, 2, 0] rfl) hP hS hE
    intro x1_11 x2_12 σ_13 H locs ls hl hP hS hE
    refine lv_aload_n hx hb dX5_next_68 rfl (lv_at hl 0 rfl) ?_
    refine lv_iload_n hx hb dX5_next_69 rfl (lv_at hl 1 rfl) ?_
    refine lv_iload_n hx hb dX5_next_70 rfl (lv_at hl 2 rfl) ?_
    refine z_gov (wf := mW) hS hE (fun F1 h1 => (va_runV (As := [.int x1_11, .int x2_12]) (rest := []) ⟨hx, hb, hml, hown, hts⟩ (kX5_swap l E hD x1_11 x2_12 σ_13 F1 h1) (cwV 2 hts (gU_V u_728 u_729 u_730 u_5 u_731) rfl rfl rfl q_X5_swap ⟨Nat.le_of_ble_eq_true rfl, Nat.le_of_ble_eq_true rfl⟩) (z_preV hK hP hS (ci := 5) (q0 := 0) rfl rfl rfl) rfl rfl hl.1 rfl (lv_room (Nat.le_of_ble_eq_true rfl)) dX5_next_71 ⟨Nat.le_of_ble_eq_true rfl, Nat.le_of_ble_eq_true rfl⟩)) (fun σ_14 H locs hP hS hE => ?_)
    refine lv_iload_n hx hb dX5_next_74 rfl (lv_at hl 1 rfl) ?_
    refine lv_iconst (v := 1) hx hb dX5_next_75 (by decide) ?_
    refine lv_iadd hx hb dX5_next_76 ?_
    refine z_istore_n hx hb (fun x3_15 => [(3, .int x3_15), (0, .ref (ea E 0)), (1, .int x1_11), (2, .int x2_12)]) dX5_next_77 rfl hl (by decide) rfl hE (fun x3_15 ls hl hE => ?_)
    refine lv_aload_n hx hb dX5_next_78 rfl (lv_at hl 1 rfl) ?_
    refine mg_0_21 hx hb hown hwX5 (hts _ u_600) hK hP dX5_next_79 ?_
    refine lv_iconst (v := 1) hx hb dX5_next_82 (by decide) ?_
    refine lv_isub hx hb dX5_next_83 ?_
    refine z_istore hx hb (fun x4_16 => [(4, .int x4_16), (3, .int x3_15), (0, .ref (ea E 0)), (1, .int x1_11), (2, .int x2_12)]) dX5_next_84 hl (by decide) rfl hE (fun x4_16 ls hl hE => ?_)
    refine wX5_next_L86 C ?_ FU x3_15 x4_16 σ_14 _ _ _ (lv_sub hl [2, 1, 0] rfl) hP hS hE
    intro σ_20 H locs ls hl hP hS hE
    refine lv_iconst (v := 1) hx hb dX5_next_108 (by decide) ?_
    exact z_zret hx hb hr hlk rfl hP hS dX5_next_109 hE
  refine lv_iconst (v := 0) hx hb dX5_next_38 (by decide) ?_
  exact z_zret hx hb hr hlk rfl hP hS dX5_next_39 hE
def fX5_next   (σ : ST) : Option (Int32 × ST) :=
  bnd (((gI σ 8) - 2) : Int32) (fun x1_1 => fX5_next_L7 (fun x1_5 σ_6 => fX5_next_J34  x1_5 σ_6) FU x1_1 σ)
set_option maxHeartbeats 4000000 in
set_option maxRecDepth 100000 in
theorem wX5_next {p : Program} {l : Launch} {e : Env} {s : State} {m : MethodId} {args : Array Value} {below : List Frame} {meth : Method} {c : Code} {E : EN} (C : zC E mW p s m args meth c cX5_next 5 RX5 (some .boolean) wsL_law) {F : Int32 × ST}    (σ : ST) (H : Heap) (locs : List Loc) (ls : Array Slot) (hl : lv_has ls 5 [(0, .ref (ea E 0))]) (hP : va_P (eD E) vwCl (mW E σ) H) (hS : va_S (eA E) s.heap H locs) (hE : fX5_next   σ = some F) : zWi E mW p l e r_X5_next s m args below meth c F H locs (F0 m 0 ls []) := by
  obtain ⟨hx, hb, hml, hown, hts, hr, hlk, hK, hD⟩ := id C
  have hwX5 : ∀ w ∈ wsX50, w.before args s = true := fun w h => hts w (inlX5 w h)
  unfold fX5_next at hE
  refine lv_aload_n hx hb dX5_next_0 rfl (lv_at hl 0 rfl) ?_
  refine mg_0_21 hx hb hown hwX5 (hts _ u_600) hK hP dX5_next_1 ?_
  refine lv_iconst (v := 2) hx hb dX5_next_4 (by decide) ?_
  refine lv_isub hx hb dX5_next_5 ?_
  refine z_istore_n hx hb (fun x1_1 => [(1, .int x1_1), (0, .ref (ea E 0))]) dX5_next_6 rfl hl (by decide) rfl hE (fun x1_1 ls hl hE => ?_)
  refine wX5_next_L7 C ?_ FU x1_1 σ _ _ _ (lv_sub hl [1, 0] rfl) hP hS hE
  intro x1_5 σ_6 H locs ls hl hP hS hE
  exact wX5_next_J34 C  x1_5 σ_6 _ _ _ (lv_sub hl [0, 1] rfl) hP hS hE
theorem kX5_next (l : Launch) (E : EN) (hD : ∀ σ, va_D (eA E) (mW E σ))  (σ : ST) (F : Int32 × ST) (hE : fX5_next  σ = some F) : Met l yX5_next wu_X5_next r_X5_next (zPc E mW [.ref (ea E 0)] σ) (zQi E mW F) 0 0 (eA E) := by
  refine Met.ofW (cc := cX5_next) (maxL := 5) (ret := (some .boolean)) (by decide) rfl ?_
  intro p e s m args below meth c s₁ B hml hv
  obtain ⟨rfl, hP, hK⟩ := hv
  have hl := lv_entry ([.ref (ea E 0)]) (n := 5) (Nat.le_of_ble_eq_true rfl)
  rw [lg_entry_eq]
  generalize (lg_sl ([.ref (ea E 0)]) ++ List.replicate (5 - (lg_sl ([.ref (ea E 0)])).length) Slot.unset).toArray = ls at hl ⊢
  exact wX5_next ⟨B.exec, B.bytes, hml, findClass_of_methodNamed B.named, fun w h => atoms_spec (ws := wu_X5_next) B.pre w (List.mem_cons_of_mem _ h), B.returns, B.notSynchronized, hK, hD⟩  σ s.heap [] ls hl hP va_S.rf hE
