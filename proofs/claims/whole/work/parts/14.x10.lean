def fX4_mend  (x1 : Int32) (x2 : Int32) (σ : ST) : Option (Int32 × ST) :=
  (if x1 < 0 then cali (fX4_refuse (-4) σ) (fun r_2 σ_1 => some (r_2, σ_1)) else (if 1 ≤ x2 then (if 999 < x1 then cali (fX4_refuse (-6) σ) (fun r_4 σ_3 => some (r_4, σ_3)) else (if x2 ≤ 99 then (if (gI σ 3) = 0 then cali (fX4_refuse (-3) σ) (fun r_8 σ_7 => some (r_8, σ_7)) else call (fX4_gainIfMended σ) (fun r_6 σ_5 => (if (lg_cmp ((Int32.toInt64 x2) * r_6) ((Int32.toInt64 x1) * 1000000000000)) < 0 then some (0, σ_5) else some (1, σ_5)))) else cali (fX4_refuse (-6) σ) (fun r_10 σ_9 => some (r_10, σ_9)))) else cali (fX4_refuse (-4) σ) (fun r_12 σ_11 => some (r_12, σ_11))))
set_option maxHeartbeats 4000000 in
set_option maxRecDepth 100000 in
theorem wX4_mend {p : Program} {l : Launch} {e : Env} {s : State} {m : MethodId} {args : Array Value} {below : List Frame} {meth : Method} {c : Code} {E : EN} (C : zC E xW p s m args meth c cX4_mend 3 RX4 (some .int) wsX4_mend) {F : Int32 × ST}   (x1 : Int32) (x2 : Int32) (σ : ST) (H : Heap) (locs : List Loc) (ls : Array Slot) (hl : lv_has ls 3 [(0, .ref (ea E 0)), (1, .int x1), (2, .int x2)]) (hP : va_P (eD E) vwCl (xW E σ) H) (hS : va_S (eA E) s.heap H locs) (hE : fX4_mend  x1 x2 σ = some F) : zWi E xW p l e r_X4_mend s m args below meth c F H locs (F0 m 0 ls []) := by
  obtain ⟨hx, hb, hml, hown, hts, hr, hlk, hK, hD⟩ := id C
  have hwX2 : ∀ w ∈ wsX20, w.before args s = true := fun w h => hts w (List.mem_cons_of_mem _ (List.mem_append_left _ (List.mem_append_left _ (List.mem_append_right _ h))))
  have hwX4 : ∀ w ∈ wsX40, w.before args s = true := fun w h => hts w (List.mem_cons_of_mem _ (List.mem_append_left _ (List.mem_append_left _ (List.mem_append_left _ (List.mem_append_right _ h)))))
  unfold fX4_mend at hE
  refine lv_iload_n hx hb dX4_mend_0 rfl (lv_at hl 1 rfl) ?_
  refine z_if_lt (tgt := 9) hx hb dX4_mend_1 (by decide) hE (fun hE => ?_) (fun hE => ?_)
  · refine lv_aload_n hx hb dX4_mend_9 rfl (lv_at hl 0 rfl) ?_
    refine lv_bipush (v := -4) hx hb dX4_mend_10 (by decide) ?_
    refine z_goi (wf := xW) hS hE (fun F1 h1 => (va_runV (As := [.int (-4)]) (rest := []) ⟨hx, hb, hml, hown, hts⟩ (kX4_refuse l E hD (-4) σ F1 h1) (cwV 1 hts gX4_mend_X4_refuse rfl rfl rfl q_X4_refuse ⟨Nat.le_of_ble_eq_true rfl, Nat.le_of_ble_eq_true rfl⟩) (z_preV hK hP hS (ci := 4) (q0 := 0) rfl rfl rfl) rfl rfl hl.1 rfl (lv_room (Nat.le_of_ble_eq_true rfl)) dX4_mend_12 ⟨Nat.le_of_ble_eq_true rfl, Nat.le_of_ble_eq_true rfl⟩)) (fun r_2 σ_1 H locs hP hS hE => ?_)
    exact z_iret hx hb hr hlk hP hS dX4_mend_15 hE
  refine lv_iload_n hx hb dX4_mend_4 rfl (lv_at hl 2 rfl) ?_
  refine lv_iconst (v := 1) hx hb dX4_mend_5 (by decide) ?_
  refine z_icmp_ge (tgt := 16) hx hb dX4_mend_6 (by decide) hE (fun hE => ?_) (fun hE => ?_)
  · refine lv_iload_n hx hb dX4_mend_16 rfl (lv_at hl 1 rfl) ?_
    refine lv_sipush (v := 999) hx hb dX4_mend_17 (by decide) ?_
    refine z_icmp_gt (tgt := 29) hx hb dX4_mend_20 (by decide) hE (fun hE => ?_) (fun hE => ?_)
    · refine lv_aload_n hx hb dX4_mend_29 rfl (lv_at hl 0 rfl) ?_
      refine lv_bipush (v := -6) hx hb dX4_mend_30 (by decide) ?_
      refine z_goi (wf := xW) hS hE (fun F1 h1 => (va_runV (As := [.int (-6)]) (rest := []) ⟨hx, hb, hml, hown, hts⟩ (kX4_refuse l E hD (-6) σ F1 h1) (cwV 1 hts gX4_mend_X4_refuse rfl rfl rfl q_X4_refuse ⟨Nat.le_of_ble_eq_true rfl, Nat.le_of_ble_eq_true rfl⟩) (z_preV hK hP hS (ci := 4) (q0 := 0) rfl rfl rfl) rfl rfl hl.1 rfl (lv_room (Nat.le_of_ble_eq_true rfl)) dX4_mend_32 ⟨Nat.le_of_ble_eq_true rfl, Nat.le_of_ble_eq_true rfl⟩)) (fun r_4 σ_3 H locs hP hS hE => ?_)
      exact z_iret hx hb hr hlk hP hS dX4_mend_35 hE
    refine lv_iload_n hx hb dX4_mend_23 rfl (lv_at hl 2 rfl) ?_
    refine lv_bipush (v := 99) hx hb dX4_mend_24 (by decide) ?_
    refine z_icmp_le (tgt := 36) hx hb dX4_mend_26 (by decide) hE (fun hE => ?_) (fun hE => ?_)
    · refine lv_aload_n hx hb dX4_mend_36 rfl (lv_at hl 0 rfl) ?_
      refine xg_0_1 hx hb hown hwX4 (hts _ (List.mem_of_getElem? (i := 1) rfl)) hK hP dX4_mend_37 ?_
      refine xg_4_11 hx hb hown hwX2 (hts _ (List.mem_of_getElem? (i := 2) rfl)) hK hP dX4_mend_40 ?_
      refine z_if_ne (tgt := 53) hx hb dX4_mend_43 (by decide) hE (fun hE => ?_) (fun hE => ?_)
      · refine lv_iload_n hx hb dX4_mend_53 rfl (lv_at hl 2 rfl) ?_
        refine lv_i2l (v := (Int32.toInt64 x2)) hx hb dX4_mend_54 rfl ?_
        refine lv_aload_n hx hb dX4_mend_55 rfl (lv_at hl 0 rfl) ?_
        refine z_gol (wf := xW) hS hE (fun F1 h1 => (va_runV (As := []) (rest := [.long (Int32.toInt64 x2)]) ⟨hx, hb, hml, hown, hts⟩ (kX4_gainIfMended l E hD  σ F1 h1) (cwV 0 hts gX4_mend_X4_gainIfMended rfl rfl rfl q_X4_gainIfMended ⟨Nat.le_of_ble_eq_true rfl, Nat.le_of_ble_eq_true rfl⟩) (z_preV hK hP hS (ci := 4) (q0 := 0) rfl rfl rfl) rfl rfl hl.1 rfl (lv_room (Nat.le_of_ble_eq_true rfl)) dX4_mend_56 ⟨Nat.le_of_ble_eq_true rfl, Nat.le_of_ble_eq_true rfl⟩)) (fun r_6 σ_5 H locs hP hS hE => ?_)
        refine lv_lmul hx hb dX4_mend_59 ?_
        refine lv_iload_n hx hb dX4_mend_60 rfl (lv_at hl 1 rfl) ?_
        refine lv_i2l (v := (Int32.toInt64 x1)) hx hb dX4_mend_61 rfl ?_
        refine lv_ldc2 (v := 1000000000000) hx hb hown (hts _ (List.mem_of_getElem? (i := 3) rfl)) dX4_mend_62 ?_
        refine lv_lmul hx hb dX4_mend_65 ?_
        refine W.lcmp hx hb dX4_mend_66 ?_
        refine z_if_lt (tgt := 74) hx hb dX4_mend_67 (by decide) hE (fun hE => ?_) (fun hE => ?_)
        · refine lv_iconst (v := 0) hx hb dX4_mend_74 (by decide) ?_
          exact z_iret hx hb hr hlk hP hS dX4_mend_75 hE
        refine lv_iconst (v := 1) hx hb dX4_mend_70 (by decide) ?_
        refine lv_goto (tgt := 75) hx hb dX4_mend_71 (by decide) ?_
        exact z_iret hx hb hr hlk hP hS dX4_mend_75 hE
      refine lv_aload_n hx hb dX4_mend_46 rfl (lv_at hl 0 rfl) ?_
      refine lv_bipush (v := -3) hx hb dX4_mend_47 (by decide) ?_
      refine z_goi (wf := xW) hS hE (fun F1 h1 => (va_runV (As := [.int (-3)]) (rest := []) ⟨hx, hb, hml, hown, hts⟩ (kX4_refuse l E hD (-3) σ F1 h1) (cwV 1 hts gX4_mend_X4_refuse rfl rfl rfl q_X4_refuse ⟨Nat.le_of_ble_eq_true rfl, Nat.le_of_ble_eq_true rfl⟩) (z_preV hK hP hS (ci := 4) (q0 := 0) rfl rfl rfl) rfl rfl hl.1 rfl (lv_room (Nat.le_of_ble_eq_true rfl)) dX4_mend_49 ⟨Nat.le_of_ble_eq_true rfl, Nat.le_of_ble_eq_true rfl⟩)) (fun r_8 σ_7 H locs hP hS hE => ?_)
      exact z_iret hx hb hr hlk hP hS dX4_mend_52 hE
    refine lv_aload_n hx hb dX4_mend_29 rfl (lv_at hl 0 rfl) ?_
    refine lv_bipush (v := -6) hx hb dX4_mend_30 (by decide) ?_
    refine z_goi (wf := xW) hS hE (fun F1 h1 => (va_runV (As := [.int (-6)]) (rest := []) ⟨hx, hb, hml, hown, hts⟩ (kX4_refuse l E hD (-6) σ F1 h1) (cwV 1 hts gX4_mend_X4_refuse rfl rfl rfl q_X4_refuse ⟨Nat.le_of_ble_eq_true rfl, Nat.le_of_ble_eq_true rfl⟩) (z_preV hK hP hS (ci := 4) (q0 := 0) rfl rfl rfl) rfl rfl hl.1 rfl (lv_room (Nat.le_of_ble_eq_true rfl)) dX4_mend_32 ⟨Nat.le_of_ble_eq_true rfl, Nat.le_of_ble_eq_true rfl⟩)) (fun r_10 σ_9 H locs hP hS hE => ?_)
    exact z_iret hx hb hr hlk hP hS dX4_mend_35 hE
  refine lv_aload_n hx hb dX4_mend_9 rfl (lv_at hl 0 rfl) ?_
  refine lv_bipush (v := -4) hx hb dX4_mend_10 (by decide) ?_
  refine z_goi (wf := xW) hS hE (fun F1 h1 => (va_runV (As := [.int (-4)]) (rest := []) ⟨hx, hb, hml, hown, hts⟩ (kX4_refuse l E hD (-4) σ F1 h1) (cwV 1 hts gX4_mend_X4_refuse rfl rfl rfl q_X4_refuse ⟨Nat.le_of_ble_eq_true rfl, Nat.le_of_ble_eq_true rfl⟩) (z_preV hK hP hS (ci := 4) (q0 := 0) rfl rfl rfl) rfl rfl hl.1 rfl (lv_room (Nat.le_of_ble_eq_true rfl)) dX4_mend_12 ⟨Nat.le_of_ble_eq_true rfl, Nat.le_of_ble_eq_true rfl⟩)) (fun r_12 σ_11 H locs hP hS hE => ?_)
  exact z_iret hx hb hr hlk hP hS dX4_mend_15 hE
theorem kX4_mend (l : Launch) (E : EN) (hD : ∀ σ, va_D (eA E) (xW E σ)) (x1 : Int32) (x2 : Int32) (σ : ST) (F : Int32 × ST) (hE : fX4_mend x1 x2 σ = some F) : Met l yX4_mend wsX4_mend r_X4_mend (zPc E xW [.ref (ea E 0), .int x1, .int x2] σ) (zQi E xW F) 0 0 (eA E) := by
  refine Met.ofW (cc := cX4_mend) (maxL := 3) (ret := (some .int)) (by decide) rfl ?_
  intro p e s m args below meth c s₁ B hml hv
  obtain ⟨rfl, hP, hK⟩ := hv
  have hl := lv_entry ([.ref (ea E 0), .int x1, .int x2]) (n := 3) (Nat.le_of_ble_eq_true rfl)
  rw [lg_entry_eq]
  generalize (lg_sl ([.ref (ea E 0), .int x1, .int x2]) ++ List.replicate (3 - (lg_sl ([.ref (ea E 0), .int x1, .int x2])).length) Slot.unset).toArray = ls at hl ⊢
  exact wX4_mend ⟨B.exec, B.bytes, hml, findClass_of_methodNamed B.named, atoms_spec (ws := wsX4_mend) B.pre, B.returns, B.notSynchronized, hK, hD⟩ x1 x2 σ s.heap [] ls hl hP va_S.rf hE
def fX4_mendFrom_L50 (ke : ST → Option (Int32 × ST)) : Nat → Int32 → Int64 → Int32 → ST → Option (Int32 × ST)
  | 0, _, _, _, _ => none
  | n + 1, x1, x2, x4, σ => (if 99 < x4 then ke  σ else (if (lg_cmp ((Int32.toInt64 x4) * x2) ((Int32.toInt64 x1) * 1000000000000)) < 0 then bnd (x4 + 1) (fun x4_5 => fX4_mendFrom_L50 ke n x1 x2 x4_5 σ) else some (x4, σ)))
set_option maxHeartbeats 4000000 in
set_option maxRecDepth 100000 in
theorem wX4_mendFrom_L50 {p : Program} {l : Launch} {e : Env} {s : State} {m : MethodId} {args : Array Value} {below : List Frame} {meth : Method} {c : Code} {E : EN} (C : zC E xW p s m args meth c cX4_mendFrom 5 RX4 (some .int) wsX4_mendFrom) {F : Int32 × ST} {ke : ST → Option (Int32 × ST)} (hke : ∀  (σ : ST) (H : Heap) (locs : List Loc) (ls : Array Slot), lv_has ls 5 [] → va_P (eD E) vwCl (xW E σ) H → va_S (eA E) s.heap H locs → ke  σ = some F → zWi E xW p l e r_X4_mendFrom s m args below meth c F H locs (F0 m 81 ls [])) : ∀ (n : Nat) (x1 : Int32) (x2 : Int64) (x4 : Int32) (σ : ST) (H : Heap) (locs : List Loc) (ls : Array Slot), lv_has ls 5 [(1, .int x1), (2, .long x2), (4, .int x4)] → va_P (eD E) vwCl (xW E σ) H → va_S (eA E) s.heap H locs → fX4_mendFrom_L50 ke n x1 x2 x4 σ = some F → zWi E xW p l e r_X4_mendFrom s m args below meth c F H locs (F0 m 50 ls []) := by
  obtain ⟨hx, hb, hml, hown, hts, hr, hlk, hK, hD⟩ := id C
  intro n
  induction n with
  | zero => intro x1 x2 x4 σ H locs ls hl hP hS hE; rw [fX4_mendFrom_L50] at hE; cases hE
  | succ n ih =>
    intro x1 x2 x4 σ H locs ls hl hP hS hE
    rw [fX4_mendFrom_L50] at hE
    refine lv_iload hx hb dX4_mendFrom_50 (lv_at hl 2 rfl) ?_
    refine lv_bipush (v := 99) hx hb dX4_mendFrom_52 (by decide) ?_
    refine z_icmp_gt (tgt := 81) hx hb dX4_mendFrom_54 (by decide) hE (fun hE => ?_) (fun hE => ?_)
    · exact hke  σ _ _ _ (lv_sub hl [] rfl) hP hS hE
    refine lv_iload hx hb dX4_mendFrom_57 (lv_at hl 2 rfl) ?_
    refine lv_i2l (v := (Int32.toInt64 x4)) hx hb dX4_mendFrom_59 rfl ?_
    refine lv_lload_n hx hb dX4_mendFrom_60 rfl (lv_at hl 1 rfl) ?_
    refine lv_lmul hx hb dX4_mendFrom_61 ?_
    refine lv_iload_n hx hb dX4_mendFrom_62 rfl (lv_at hl 0 rfl) ?_
    refine lv_i2l (v := (Int32.toInt64 x1)) hx hb dX4_mendFrom_63 rfl ?_
    refine lv_ldc2 (v := 1000000000000) hx hb hown (hts _ (List.mem_of_getElem? (i := 3) rfl)) dX4_mendFrom_64 ?_
    refine lv_lmul hx hb dX4_mendFrom_67 ?_
    refine W.lcmp hx hb dX4_mendFrom_68 ?_
    refine z_if_lt (tgt := 75) hx hb dX4_mendFrom_69 (by decide) hE (fun hE => ?_) (fun hE => ?_)
    · refine z_iinc hx hb (v := (x4 + 1)) (k := 2) (fun x4_5 => [(4, .int x4_5), (1, .int x1), (2, .long x2)]) dX4_mendFrom_75 hl rfl (by rfl) (by decide) rfl hE (fun x4_5 ls hl hE => ?_)
      refine lv_goto (tgt := 50) hx hb dX4_mendFrom_78 (by decide) ?_
      exact ih x1 x2 x4_5 σ _ _ _ (lv_sub hl [1, 2, 0] rfl) hP hS hE
    refine lv_iload hx hb dX4_mendFrom_72 (lv_at hl 2 rfl) ?_
    exact z_iret hx hb hr hlk hP hS dX4_mendFrom_74 hE
def fX4_mendFrom  (x1 : Int32) (σ : ST) : Option (Int32 × ST) :=
  (if 0 ≤ x1 then (if x1 ≤ 999 then (if (gI σ 3) = 0 then cali (fX4_refuse (-3) σ) (fun r_8 σ_7 => some (r_8, σ_7)) else call (fX4_gainIfMended σ) (fun r_2 σ_1 => bnd (r_2 : Int64) (fun x2_3 => bnd (1 : Int32) (fun x4_4 => fX4_mendFrom_L50 (fun σ_6 => some ((-9), σ_6)) FU x1 x2_3 x4_4 σ_1)))) else cali (fX4_refuse (-6) σ) (fun r_10 σ_9 => some (r_10, σ_9))) else cali (fX4_refuse (-4) σ) (fun r_12 σ_11 => some (r_12, σ_11)))
set_option maxHeartbeats 4000000 in
set_option maxRecDepth 100000 in
theorem wX4_mendFrom {p : Program} {l : Launch} {e : Env} {s : State} {m : MethodId} {args : Array Value} {below : List Frame} {meth : Method} {c : Code} {E : EN} (C : zC E xW p s m args meth c cX4_mendFrom 5 RX4 (some .int) wsX4_mendFrom) {F : Int32 × ST}   (x1 : Int32) (σ : ST) (H : Heap) (locs : List Loc) (ls : Array Slot) (hl : lv_has ls 5 [(0, .ref (ea E 0)), (1, .int x1)]) (hP : va_P (eD E) vwCl (xW E σ) H) (hS : va_S (eA E) s.heap H locs) (hE : fX4_mendFrom  x1 σ = some F) : zWi E xW p l e r_X4_mendFrom s m args below meth c F H locs (F0 m 0 ls []) := by
  obtain ⟨hx, hb, hml, hown, hts, hr, hlk, hK, hD⟩ := id C
  have hwX2 : ∀ w ∈ wsX20, w.before args s = true := fun w h => hts w (List.mem_cons_of_mem _ (List.mem_append_left _ (List.mem_append_left _ (List.mem_append_right _ h))))
  have hwX4 : ∀ w ∈ wsX40, w.before args s = true := fun w h => hts w (List.mem_cons_of_mem _ (List.mem_append_left _ (List.mem_append_left _ (List.mem_append_left _ (List.mem_append_right _ h)))))
  unfold fX4_mendFrom at hE
  refine lv_iload_n hx hb dX4_mendFrom_0 rfl (lv_at hl 1 rfl) ?_
  refine z_if_ge (tgt := 11) hx hb dX4_mendFrom_1 (by decide) hE (fun hE => ?_) (fun hE => ?_)
  · refine lv_iload_n hx hb dX4_mendFrom_11 rfl (lv_at hl 1 rfl) ?_
    refine lv_sipush (v := 999) hx hb dX4_mendFrom_12 (by decide) ?_
    refine z_icmp_le (tgt := 25) hx hb dX4_mendFrom_15 (by decide) hE (fun hE => ?_) (fun hE => ?_)
    · refine lv_aload_n hx hb dX4_mendFrom_25 rfl (lv_at hl 0 rfl) ?_
      refine xg_0_1 hx hb hown hwX4 (hts _ (List.mem_of_getElem? (i := 1) rfl)) hK hP dX4_mendFrom_26 ?_
      refine xg_4_11 hx hb hown hwX2 (hts _ (List.mem_of_getElem? (i := 2) rfl)) hK hP dX4_mendFrom_29 ?_
      refine z_if_ne (tgt := 42) hx hb dX4_mendFrom_32 (by decide) hE (fun hE => ?_) (fun hE => ?_)
      · refine lv_aload_n hx hb dX4_mendFrom_42 rfl (lv_at hl 0 rfl) ?_
        refine z_gol (wf := xW) hS hE (fun F1 h1 => (va_runV (As := []) (rest := []) ⟨hx, hb, hml, hown, hts⟩ (kX4_gainIfMended l E hD  σ F1 h1) (cwV 0 hts gX4_mendFrom_X4_gainIfMended rfl rfl rfl q_X4_gainIfMended ⟨Nat.le_of_ble_eq_true rfl, Nat.le_of_ble_eq_true rfl⟩) (z_preV hK hP hS (ci := 4) (q0 := 0) rfl rfl rfl) rfl rfl hl.1 rfl (lv_room (Nat.le_of_ble_eq_true rfl)) dX4_mendFrom_43 ⟨Nat.le_of_ble_eq_true rfl, Nat.le_of_ble_eq_true rfl⟩)) (fun r_2 σ_1 H locs hP hS hE => ?_)
        refine z_lstore_n hx hb (fun x2_3 => [(2, .long x2_3), (0, .ref (ea E 0)), (1, .int x1)]) dX4_mendFrom_46 rfl hl (by decide) rfl hE (fun x2_3 ls hl hE => ?_)
        refine lv_iconst (v := 1) hx hb dX4_mendFrom_47 (by decide) ?_
        refine z_istore hx hb (fun x4_4 => [(4, .int x4_4), (2, .long x2_3), (0, .ref (ea E 0)), (1, .int x1)]) dX4_mendFrom_48 hl (by decide) rfl hE (fun x4_4 ls hl hE => ?_)
        refine wX4_mendFrom_L50 C ?_ FU x1 x2_3 x4_4 σ_1 _ _ _ (lv_sub hl [3, 1, 0] rfl) hP hS hE
        intro σ_6 H locs ls hl hP hS hE
        refine lv_bipush (v := -9) hx hb dX4_mendFrom_81 (by decide) ?_
        exact z_iret hx hb hr hlk hP hS dX4_mendFrom_83 hE
      refine lv_aload_n hx hb dX4_mendFrom_35 rfl (lv_at hl 0 rfl) ?_
      refine lv_bipush (v := -3) hx hb dX4_mendFrom_36 (by decide) ?_
      refine z_goi (wf := xW) hS hE (fun F1 h1 => (va_runV (As := [.int (-3)]) (rest := []) ⟨hx, hb, hml, hown, hts⟩ (kX4_refuse l E hD (-3) σ F1 h1) (cwV 1 hts gX4_mendFrom_X4_refuse rfl rfl rfl q_X4_refuse ⟨Nat.le_of_ble_eq_true rfl, Nat.le_of_ble_eq_true rfl⟩) (z_preV hK hP hS (ci := 4) (q0 := 0) rfl rfl rfl) rfl rfl hl.1 rfl (lv_room (Nat.le_of_ble_eq_true rfl)) dX4_mendFrom_38 ⟨Nat.le_of_ble_eq_true rfl, Nat.le_of_ble_eq_true rfl⟩)) (fun r_8 σ_7 H locs hP hS hE => ?_)
      exact z_iret hx hb hr hlk hP hS dX4_mendFrom_41 hE
    refine lv_aload_n hx hb dX4_mendFrom_18 rfl (lv_at hl 0 rfl) ?_
    refine lv_bipush (v := -6) hx hb dX4_mendFrom_19 (by decide) ?_
    refine z_goi (wf := xW) hS hE (fun F1 h1 => (va_runV (As := [.int (-6)]) (rest := []) ⟨hx, hb, hml, hown, hts⟩ (kX4_refuse l E hD (-6) σ F1 h1) (cwV 1 hts gX4_mendFrom_X4_refuse rfl rfl rfl q_X4_refuse ⟨Nat.le_of_ble_eq_true rfl, Nat.le_of_ble_eq_true rfl⟩) (z_preV hK hP hS (ci := 4) (q0 := 0) rfl rfl rfl) rfl rfl hl.1 rfl (lv_room (Nat.le_of_ble_eq_true rfl)) dX4_mendFrom_21 ⟨Nat.le_of_ble_eq_true rfl, Nat.le_of_ble_eq_true rfl⟩)) (fun r_10 σ_9 H locs hP hS hE => ?_)
    exact z_iret hx hb hr hlk hP hS dX4_mendFrom_24 hE
  refine lv_aload_n hx hb dX4_mendFrom_4 rfl (lv_at hl 0 rfl) ?_
  refine lv_bipush (v := -4) hx hb dX4_mendFrom_5 (by decide) ?_
  refine z_goi (wf := xW) hS hE (fun F1 h1 => (va_runV (As := [.int (-4)]) (rest := []) ⟨hx, hb, hml, hown, hts⟩ (kX4_refuse l E hD (-4) σ F1 h1) (cwV 1 hts gX4_mendFrom_X4_refuse rfl rfl rfl q_X4_refuse ⟨Nat.le_of_ble_eq_true rfl, Nat.le_of_ble_eq_true rfl⟩) (z_preV hK hP hS (ci := 4) (q0 := 0) rfl rfl rfl) rfl rfl hl.1 rfl (lv_room (Nat.le_of_ble_eq_true rfl)) dX4_mendFrom_7 ⟨Nat.le_of_ble_eq_true rfl, Nat.le_of_ble_eq_true rfl⟩)) (fun r_12 σ_11 H locs hP hS hE => ?_)
  exact z_iret hx hb hr hlk hP hS dX4_mendFrom_10 hE
theorem kX4_mendFrom (l : Launch) (E : EN) (hD : ∀ σ, va_D (eA E) (xW E σ)) (x1 : Int32) (σ : ST) (F : Int32 × ST) (hE : fX4_mendFrom x1 σ = some F) : Met l yX4_mendFrom wsX4_mendFrom r_X4_mendFrom (zPc E xW [.ref (ea E 0), .int x1] σ) (zQi E xW F) 0 0 (eA E) := by
  refine Met.ofW (cc := cX4_mendFrom) (maxL := 5) (ret := (some .int)) (by decide) rfl ?_
  intro p e s m args below meth c s₁ B hml hv
  obtain ⟨rfl, hP, hK⟩ := hv
  have hl := lv_entry ([.ref (ea E 0), .int x1]) (n := 5) (Nat.le_of_ble_eq_true rfl)
  rw [lg_entry_eq]
  generalize (lg_sl ([.ref (ea E 0), .int x1]) ++ List.replicate (5 - (lg_sl ([.ref (ea E 0), .int x1])).length) Slot.unset).toArray = ls at hl ⊢
  exact wX4_mendFrom ⟨B.exec, B.bytes, hml, findClass_of_methodNamed B.named, atoms_spec (ws := wsX4_mendFrom) B.pre, B.returns, B.notSynchronized, hK, hD⟩ x1 σ s.heap [] ls hl hP va_S.rf hE
def fX4_walkedFrom  (x1 : Int32) (x2 : Int32) (x3 : Int32) (σ : ST) : Option (Int32 × ST) :=
  cali (fX0_minutesOf x1 x2 0 σ) (fun r_2 σ_1 => bnd (r_2 : Int32) (fun x4_3 => cali (fX0_minutesOf x1 x3 0 σ_1) (fun r_5 σ_4 => bnd (r_5 : Int32) (fun x5_6 => (if x4_3 < 0 then some ((-9), σ_4) else (if 0 ≤ x5_6 then some ((5 * ((2 * x4_3) + (2 * x5_6))), σ_4) else some ((-9), σ_4)))))))
set_option maxHeartbeats 4000000 in
set_option maxRecDepth 100000 in
theorem wX4_walkedFrom {p : Program} {l : Launch} {e : Env} {s : State} {m : MethodId} {args : Array Value} {below : List Frame} {meth : Method} {c : Code} {E : EN} (C : zC E xW p s m args meth c cX4_walkedFrom 6 RX4 (some .int) wsX4_walkedFrom) {F : Int32 × ST}   (x1 : Int32) (x2 : Int32) (x3 : Int32) (σ : ST) (H : Heap) (locs : List Loc) (ls : Array Slot) (hl : lv_has ls 6 [(0, .ref (ea E 0)), (1, .int x1), (2, .int x2), (3, .int x3)]) (hP : va_P (eD E) vwCl (xW E σ) H) (hS : va_S (eA E) s.heap H locs) (hE : fX4_walkedFrom  x1 x2 x3 σ = some F) : zWi E xW p l e r_X4_walkedFrom s m args below meth c F H locs (F0 m 0 ls []) := by
  obtain ⟨hx, hb, hml, hown, hts, hr, hlk, hK, hD⟩ := id C
  have hwX4 : ∀ w ∈ wsX40, w.before args s = true := fun w h => hts w (List.mem_cons_of_mem _ (List.mem_append_left _ (List.mem_append_right _ h)))
  unfold fX4_walkedFrom at hE
  refine lv_aload_n hx hb dX4_walkedFrom_0 rfl (lv_at hl 0 rfl) ?_
  refine xg_0_2 hx hb hown hwX4 (hts _ (List.mem_of_getElem? (i := 1) rfl)) hK hP dX4_walkedFrom_1 ?_
  refine lv_iload_n hx hb dX4_walkedFrom_4 rfl (lv_at hl 1 rfl) ?_
  refine lv_iload_n hx hb dX4_walkedFrom_5 rfl (lv_at hl 2 rfl) ?_
  refine lv_iconst (v := 0) hx hb dX4_walkedFrom_6 (by decide) ?_
  refine z_goi (wf := xW) hS hE (fun F1 h1 => (va_runV (As := [.int x1, .int x2, .int 0]) (rest := []) ⟨hx, hb, hml, hown, hts⟩ (kX0_minutesOf l E hD x1 x2 0 σ F1 h1) (cwV 3 hts gX4_walkedFrom_X0_minutesOf rfl rfl rfl q_X0_minutesOf ⟨Nat.le_of_ble_eq_true rfl, Nat.le_of_ble_eq_true rfl⟩) (z_preV hK hP hS (ci := 0) (q0 := 2) rfl rfl rfl) rfl rfl hl.1 rfl (lv_room (Nat.le_of_ble_eq_true rfl)) dX4_walkedFrom_7 ⟨Nat.le_of_ble_eq_true rfl, Nat.le_of_ble_eq_true rfl⟩)) (fun r_2 σ_1 H locs hP hS hE => ?_)
  refine z_istore hx hb (fun x4_3 => [(4, .int x4_3), (0, .ref (ea E 0)), (1, .int x1), (2, .int x2), (3, .int x3)]) dX4_walkedFrom_10 hl (by decide) rfl hE (fun x4_3 ls hl hE => ?_)
  refine lv_aload_n hx hb dX4_walkedFrom_12 rfl (lv_at hl 1 rfl) ?_
  refine xg_0_2 hx hb hown hwX4 (hts _ (List.mem_of_getElem? (i := 1) rfl)) hK hP dX4_walkedFrom_13 ?_
  refine lv_iload_n hx hb dX4_walkedFrom_16 rfl (lv_at hl 2 rfl) ?_
  refine lv_iload_n hx hb dX4_walkedFrom_17 rfl (lv_at hl 4 rfl) ?_
  refine lv_iconst (v := 0) hx hb dX4_walkedFrom_18 (by decide) ?_
  refine z_goi (wf := xW) hS hE (fun F1 h1 => (va_runV (As := [.int x1, .int x3, .int 0]) (rest := []) ⟨hx, hb, hml, hown, hts⟩ (kX0_minutesOf l E hD x1 x3 0 σ_1 F1 h1) (cwV 3 hts gX4_walkedFrom_X0_minutesOf rfl rfl rfl q_X0_minutesOf ⟨Nat.le_of_ble_eq_true rfl, Nat.le_of_ble_eq_true rfl⟩) (z_preV hK hP hS (ci := 0) (q0 := 2) rfl rfl rfl) rfl rfl hl.1 rfl (lv_room (Nat.le_of_ble_eq_true rfl)) dX4_walkedFrom_19 ⟨Nat.le_of_ble_eq_true rfl, Nat.le_of_ble_eq_true rfl⟩)) (fun r_5 σ_4 H locs hP hS hE => ?_)
  refine z_istore hx hb (fun x5_6 => [(5, .int x5_6), (4, .int x4_3), (0, .ref (ea E 0)), (1, .int x1), (2, .int x2), (3, .int x3)]) dX4_walkedFrom_22 hl (by decide) rfl hE (fun x5_6 ls hl hE => ?_)
  refine lv_iload hx hb dX4_walkedFrom_24 (lv_at hl 1 rfl) ?_
  refine z_if_lt (tgt := 34) hx hb dX4_walkedFrom_26 (by decide) hE (fun hE => ?_) (fun hE => ?_)
  · refine lv_bipush (v := -9) hx hb dX4_walkedFrom_34 (by decide) ?_
    exact z_iret hx hb hr hlk hP hS dX4_walkedFrom_36 hE
  refine lv_iload hx hb dX4_walkedFrom_29 (lv_at hl 0 rfl) ?_
  refine z_if_ge (tgt := 37) hx hb dX4_walkedFrom_31 (by decide) hE (fun hE => ?_) (fun hE => ?_)
  · refine lv_iconst (v := 5) hx hb dX4_walkedFrom_37 (by decide) ?_
    refine lv_iconst (v := 2) hx hb dX4_walkedFrom_38 (by decide) ?_
    refine lv_iload hx hb dX4_walkedFrom_39 (lv_at hl 1 rfl) ?_
    refine lv_imul hx hb dX4_walkedFrom_41 ?_
    refine lv_iconst (v := 2) hx hb dX4_walkedFrom_42 (by decide) ?_
    refine lv_iload hx hb dX4_walkedFrom_43 (lv_at hl 0 rfl) ?_
    refine lv_imul hx hb dX4_walkedFrom_45 ?_
    refine lv_iadd hx hb dX4_walkedFrom_46 ?_
    refine lv_imul hx hb dX4_walkedFrom_47 ?_
    exact z_iret hx hb hr hlk hP hS dX4_walkedFrom_48 hE
  refine lv_bipush (v := -9) hx hb dX4_walkedFrom_34 (by decide) ?_
  exact z_iret hx hb hr hlk hP hS dX4_walkedFrom_36 hE
theorem kX4_walkedFrom (l : Launch) (E : EN) (hD : ∀ σ, va_D (eA E) (xW E σ)) (x1 : Int32) (x2 : Int32) (x3 : Int32) (σ : ST) (F : Int32 × ST) (hE : fX4_walkedFrom x1 x2 x3 σ = some F) : Met l yX4_walkedFrom wsX4_walkedFrom r_X4_walkedFrom (zPc E xW [.ref (ea E 0), .int x1, .int x2, .int x3] σ) (zQi E xW F) 0 0 (eA E) := by
  refine Met.ofW (cc := cX4_walkedFrom) (maxL := 6) (ret := (some .int)) (by decide) rfl ?_
  intro p e s m args below meth c s₁ B hml hv
  obtain ⟨rfl, hP, hK⟩ := hv
  have hl := lv_entry ([.ref (ea E 0), .int x1, .int x2, .int x3]) (n := 6) (Nat.le_of_ble_eq_true rfl)
  rw [lg_entry_eq]
  generalize (lg_sl ([.ref (ea E 0), .int x1, .int x2, .int x3]) ++ List.replicate (6 - (lg_sl ([.ref (ea E 0), .int x1, .int x2, .int x3])).length) Slot.unset).toArray = ls at hl ⊢
  exact wX4_walkedFrom ⟨B.exec, B.bytes, hml, findClass_of_methodNamed B.named, atoms_spec (ws := wsX4_walkedFrom) B.pre, B.returns, B.notSynchronized, hK, hD⟩ x1 x2 x3 σ s.heap [] ls hl hP va_S.rf hE
def fX4_onFoot_L49 (ke : Int32 → Int32 → Int32 → ST → Option (Int32 × ST)) : Nat → Int32 → Int32 → Int32 → Int32 → Int32 → Int32 → ST → Option (Int32 × ST)
  | 0, _, _, _, _, _, _, _ => none
  | n + 1, x1, x2, x3, x4, x5, x6, σ => (if (gI σ 3) ≤ x6 then ke x3 x4 x5 σ else cali (fX4_walkedFrom x6 x1 x2 σ) (fun r_13 σ_12 => bnd (r_13 : Int32) (fun x7_14 => (if x7_14 < 0 then bnd (x6 + 1) (fun x6_15 => fX4_onFoot_L49 ke n x1 x2 x3 x4 x5 x6_15 σ_12) else cali (fX2_startsAt_4 x6 σ_12) (fun r_17 σ_16 => (if r_17 = 10 then (if x4 = (-9) then bnd (x6 : Int32) (fun x4_19 => bnd (x7_14 : Int32) (fun x5_20 => bnd (x6 + 1) (fun x6_21 => fX4_onFoot_L49 ke n x1 x2 x3 x4_19 x5_20 x6_21 σ_16))) else (if x5 ≤ x7_14 then bnd (x6 + 1) (fun x6_22 => fX4_onFoot_L49 ke n x1 x2 x3 x4 x5 x6_22 σ_16) else bnd (x6 : Int32) (fun x4_23 => bnd (x7_14 : Int32) (fun x5_24 => bnd (x6 + 1) (fun x6_25 => fX4_onFoot_L49 ke n x1 x2 x3 x4_23 x5_24 x6_25 σ_16))))) else bnd (x6 + 1) (fun x6_18 => fX4_onFoot_L49 ke n x1 x2 x3 x4 x5 x6_18 σ_16)))))))
set_option maxHeartbeats 4000000 in
set_option maxRecDepth 100000 in
theorem wX4_onFoot_L49 {p : Program} {l : Launch} {e : Env} {s : State} {m : MethodId} {args : Array Value} {below : List Frame} {meth : Method} {c : Code} {E : EN} (C : zC E xW p s m args meth c cX4_onFoot 8 RX4 (some .int) wsX4_onFoot) {F : Int32 × ST} {ke : Int32 → Int32 → Int32 → ST → Option (Int32 × ST)} (hke : ∀ (x3 : Int32) (x4 : Int32) (x5 : Int32) (σ : ST) (H : Heap) (locs : List Loc) (ls : Array Slot), lv_has ls 8 [(3, .int x3), (4, .int x4), (5, .int x5)] → va_P (eD E) vwCl (xW E σ) H → va_S (eA E) s.heap H locs → ke x3 x4 x5 σ = some F → zWi E xW p l e r_X4_onFoot s m args below meth c F H locs (F0 m 118 ls [])) : ∀ (n : Nat) (x1 : Int32) (x2 : Int32) (x3 : Int32) (x4 : Int32) (x5 : Int32) (x6 : Int32) (σ : ST) (H : Heap) (locs : List Loc) (ls : Array Slot), lv_has ls 8 [(0, .ref (ea E 0)), (1, .int x1), (2, .int x2), (3, .int x3), (4, .int x4), (5, .int x5), (6, .int x6)] → va_P (eD E) vwCl (xW E σ) H → va_S (eA E) s.heap H locs → fX4_onFoot_L49 ke n x1 x2 x3 x4 x5 x6 σ = some F → zWi E xW p l e r_X4_onFoot s m args below meth c F H locs (F0 m 49 ls []) := by
  obtain ⟨hx, hb, hml, hown, hts, hr, hlk, hK, hD⟩ := id C
  have hwX2 : ∀ w ∈ wsX20, w.before args s = true := fun w h => hts w (List.mem_cons_of_mem _ (List.mem_append_left _ (List.mem_append_right _ h)))
  have hwX4 : ∀ w ∈ wsX40, w.before args s = true := fun w h => hts w (List.mem_cons_of_mem _ (List.mem_append_left _ (List.mem_append_left _ (List.mem_append_right _ h))))
  intro n
  induction n with
  | zero => intro x1 x2 x3 x4 x5 x6 σ H locs ls hl hP hS hE; rw [fX4_onFoot_L49] at hE; cases hE
  | succ n ih =>
    intro x1 x2 x3 x4 x5 x6 σ H locs ls hl hP hS hE
    rw [fX4_onFoot_L49] at hE
    refine lv_iload hx hb dX4_onFoot_49 (lv_at hl 6 rfl) ?_
    refine lv_aload_n hx hb dX4_onFoot_51 rfl (lv_at hl 0 rfl) ?_
    refine xg_0_1 hx hb hown hwX4 (hts _ (List.mem_of_getElem? (i := 1) rfl)) hK hP dX4_onFoot_52 ?_
    refine xg_4_11 hx hb hown hwX2 (hts _ (List.mem_of_getElem? (i := 2) rfl)) hK hP dX4_onFoot_55 ?_
    refine z_icmp_ge (tgt := 118) hx hb dX4_onFoot_58 (by decide) hE (fun hE => ?_) (fun hE => ?_)
    · exact hke x3 x4 x5 σ _ _ _ (lv_sub hl [3, 4, 5] rfl) hP hS hE
    refine lv_aload_n hx hb dX4_onFoot_61 rfl (lv_at hl 0 rfl) ?_
    refine lv_iload hx hb dX4_onFoot_62 (lv_at hl 6 rfl) ?_
    refine lv_iload_n hx hb dX4_onFoot_64 rfl (lv_at hl 1 rfl) ?_
    refine lv_iload_n hx hb dX4_onFoot_65 rfl (lv_at hl 2 rfl) ?_
    refine z_goi (wf := xW) hS hE (fun F1 h1 => (va_runV (As := [.int x6, .int x1, .int x2]) (rest := []) ⟨hx, hb, hml, hown, hts⟩ (kX4_walkedFrom l E hD x6 x1 x2 σ F1 h1) (cwV 3 hts gX4_onFoot_X4_walkedFrom rfl rfl rfl q_X4_walkedFrom ⟨Nat.le_of_ble_eq_true rfl, Nat.le_of_ble_eq_true rfl⟩) (z_preV hK hP hS (ci := 4) (q0 := 0) rfl rfl rfl) rfl rfl hl.1 rfl (lv_room (Nat.le_of_ble_eq_true rfl)) dX4_onFoot_66 ⟨Nat.le_of_ble_eq_true rfl, Nat.le_of_ble_eq_true rfl⟩)) (fun r_13 σ_12 H locs hP hS hE => ?_)
    refine z_istore hx hb (fun x7_14 => [(7, .int x7_14), (0, .ref (ea E 0)), (1, .int x1), (2, .int x2), (3, .int x3), (4, .int x4), (5, .int x5), (6, .int x6)]) dX4_onFoot_69 hl (by decide) rfl hE (fun x7_14 ls hl hE => ?_)
    refine lv_iload hx hb dX4_onFoot_71 (lv_at hl 0 rfl) ?_
    refine z_if_lt (tgt := 112) hx hb dX4_onFoot_73 (by decide) hE (fun hE => ?_) (fun hE => ?_)
    · refine z_iinc hx hb (v := (x6 + 1)) (k := 7) (fun x6_15 => [(6, .int x6_15), (7, .int x7_14), (0, .ref (ea E 0)), (1, .int x1), (2, .int x2), (3, .int x3), (4, .int x4), (5, .int x5)]) dX4_onFoot_112 hl rfl (by rfl) (by decide) rfl hE (fun x6_15 ls hl hE => ?_)
      refine lv_goto (tgt := 49) hx hb dX4_onFoot_115 (by decide) ?_
      exact ih x1 x2 x3 x4 x5 x6_15 σ_12 _ _ _ (lv_sub hl [2, 3, 4, 5, 6, 7, 0] rfl) hP hS hE
    refine lv_aload_n hx hb dX4_onFoot_76 rfl (lv_at hl 1 rfl) ?_
    refine xg_0_1 hx hb hown hwX4 (hts _ (List.mem_of_getElem? (i := 1) rfl)) hK hP dX4_onFoot_77 ?_
    refine lv_iload hx hb dX4_onFoot_80 (lv_at hl 7 rfl) ?_
    refine z_goi (wf := xW) hS hE (fun F1 h1 => (va_runV (As := [.int x6]) (rest := []) ⟨hx, hb, hml, hown, hts⟩ (kX2_startsAt_4 l E hD x6 σ_12 F1 h1) (cwV 1 hts gX4_onFoot_X2_startsAt rfl rfl rfl q_X2_startsAt ⟨Nat.le_of_ble_eq_true rfl, Nat.le_of_ble_eq_true rfl⟩) (z_preV hK hP hS (ci := 2) (q0 := 4) rfl rfl rfl) rfl rfl hl.1 rfl (lv_room (Nat.le_of_ble_eq_true rfl)) dX4_onFoot_82 ⟨Nat.le_of_ble_eq_true rfl, Nat.le_of_ble_eq_true rfl⟩)) (fun r_17 σ_16 H locs hP hS hE => ?_)
    refine lv_bipush (v := 10) hx hb dX4_onFoot_85 (by decide) ?_
    refine z_icmp_ne (tgt := 112) hx hb dX4_onFoot_87 (by decide) hE (fun hE => ?_) (fun hE => ?_)
    · refine z_iinc hx hb (v := (x6 + 1)) (k := 7) (fun x6_18 => [(6, .int x6_18), (7, .int x7_14), (0, .ref (ea E 0)), (1, .int x1), (2, .int x2), (3, .int x3), (4, .int x4), (5, .int x5)]) dX4_onFoot_112 hl rfl (by rfl) (by decide) rfl hE (fun x6_18 ls hl hE => ?_)
      refine lv_goto (tgt := 49) hx hb dX4_onFoot_115 (by decide) ?_
      exact ih x1 x2 x3 x4 x5 x6_18 σ_16 _ _ _ (lv_sub hl [2, 3, 4, 5, 6, 7, 0] rfl) hP hS hE
    refine lv_iload hx hb dX4_onFoot_90 (lv_at hl 5 rfl) ?_
    refine lv_bipush (v := -9) hx hb dX4_onFoot_92 (by decide) ?_
    refine z_icmp_eq (tgt := 104) hx hb dX4_onFoot_94 (by decide) hE (fun hE => ?_) (fun hE => ?_)
    · refine lv_iload hx hb dX4_onFoot_104 (lv_at hl 7 rfl) ?_
      refine z_istore hx hb (fun x4_19 => [(4, .int x4_19), (7, .int x7_14), (0, .ref (ea E 0)), (1, .int x1), (2, .int x2), (3, .int x3), (5, .int x5), (6, .int x6)]) dX4_onFoot_106 hl (by decide) rfl hE (fun x4_19 ls hl hE => ?_)
      refine lv_iload hx hb dX4_onFoot_108 (lv_at hl 1 rfl) ?_
      refine z_istore hx hb (fun x5_20 => [(5, .int x5_20), (4, .int x4_19), (7, .int x7_14), (0, .ref (ea E 0)), (1, .int x1), (2, .int x2), (3, .int x3), (6, .int x6)]) dX4_onFoot_110 hl (by decide) rfl hE (fun x5_20 ls hl hE => ?_)
      refine z_iinc hx hb (v := (x6 + 1)) (k := 7) (fun x6_21 => [(6, .int x6_21), (5, .int x5_20), (4, .int x4_19), (7, .int x7_14), (0, .ref (ea E 0)), (1, .int x1), (2, .int x2), (3, .int x3)]) dX4_onFoot_112 hl rfl (by rfl) (by decide) rfl hE (fun x6_21 ls hl hE => ?_)
      refine lv_goto (tgt := 49) hx hb dX4_onFoot_115 (by decide) ?_
      exact ih x1 x2 x3 x4_19 x5_20 x6_21 σ_16 _ _ _ (lv_sub hl [4, 5, 6, 7, 2, 1, 0] rfl) hP hS hE
    refine lv_iload hx hb dX4_onFoot_97 (lv_at hl 0 rfl) ?_
    refine lv_iload hx hb dX4_onFoot_99 (lv_at hl 6 rfl) ?_
    refine z_icmp_ge (tgt := 112) hx hb dX4_onFoot_101 (by decide) hE (fun hE => ?_) (fun hE => ?_)
    · refine z_iinc hx hb (v := (x6 + 1)) (k := 7) (fun x6_22 => [(6, .int x6_22), (7, .int x7_14), (0, .ref (ea E 0)), (1, .int x1), (2, .int x2), (3, .int x3), (4, .int x4), (5, .int x5)]) dX4_onFoot_112 hl rfl (by rfl) (by decide) rfl hE (fun x6_22 ls hl hE => ?_)
      refine lv_goto (tgt := 49) hx hb dX4_onFoot_115 (by decide) ?_
      exact ih x1 x2 x3 x4 x5 x6_22 σ_16 _ _ _ (lv_sub hl [2, 3, 4, 5, 6, 7, 0] rfl) hP hS hE
    refine lv_iload hx hb dX4_onFoot_104 (lv_at hl 7 rfl) ?_
    refine z_istore hx hb (fun x4_23 => [(4, .int x4_23), (7, .int x7_14), (0, .ref (ea E 0)), (1, .int x1), (2, .int x2), (3, .int x3), (5, .int x5), (6, .int x6)]) dX4_onFoot_106 hl (by decide) rfl hE (fun x4_23 ls hl hE => ?_)
    refine lv_iload hx hb dX4_onFoot_108 (lv_at hl 1 rfl) ?_
    refine z_istore hx hb (fun x5_24 => [(5, .int x5_24), (4, .int x4_23), (7, .int x7_14), (0, .ref (ea E 0)), (1, .int x1), (2, .int x2), (3, .int x3), (6, .int x6)]) dX4_onFoot_110 hl (by decide) rfl hE (fun x5_24 ls hl hE => ?_)
    refine z_iinc hx hb (v := (x6 + 1)) (k := 7) (fun x6_25 => [(6, .int x6_25), (5, .int x5_24), (4, .int x4_23), (7, .int x7_14), (0, .ref (ea E 0)), (1, .int x1), (2, .int x2), (3, .int x3)]) dX4_onFoot_112 hl rfl (by rfl) (by decide) rfl hE (fun x6_25 ls hl hE => ?_)
    refine lv_goto (tgt := 49) hx hb dX4_onFoot_115 (by decide) ?_
    exact ih x1 x2 x3 x4_23 x5_24 x6_25 σ_16 _ _ _ (lv_sub hl [4, 5, 6, 7, 2, 1, 0] rfl) hP hS hE
def fX4_onFoot  (x1 : Int32) (x2 : Int32) (x3 : Int32) (σ : ST) : Option (Int32 × ST) :=
  cali (fX4_isPlace x1 σ) (fun r_2 σ_1 => (if r_2 = 0 then cali (fX4_refuse (-1) σ_1) (fun r_4 σ_3 => some (r_4, σ_3)) else cali (fX4_isPlace x2 σ_1) (fun r_6 σ_5 => (if r_6 = 0 then cali (fX4_refuse (-1) σ_5) (fun r_33 σ_32 => some (r_33, σ_32)) else (if x3 < 0 then cali (fX4_refuse (-2) σ_5) (fun r_8 σ_7 => some (r_8, σ_7)) else (if x3 ≤ 1 then bnd ((-9) : Int32) (fun x4_9 => bnd ((-9) : Int32) (fun x5_10 => bnd (0 : Int32) (fun x6_11 => fX4_onFoot_L49 (fun x3_26 x4_27 x5_28 σ_29 => (if x3_26 = 0 then some (x4_27, σ_29) else some (x5_28, σ_29))) FU x1 x2 x3 x4_9 x5_10 x6_11 σ_5))) else cali (fX4_refuse (-2) σ_5) (fun r_31 σ_30 => some (r_31, σ_30))))))))
set_option maxHeartbeats 4000000 in
set_option maxRecDepth 100000 in
theorem wX4_onFoot {p : Program} {l : Launch} {e : Env} {s : State} {m : MethodId} {args : Array Value} {below : List Frame} {meth : Method} {c : Code} {E : EN} (C : zC E xW p s m args meth c cX4_onFoot 8 RX4 (some .int) wsX4_onFoot) {F : Int32 × ST}   (x1 : Int32) (x2 : Int32) (x3 : Int32) (σ : ST) (H : Heap) (locs : List Loc) (ls : Array Slot) (hl : lv_has ls 8 [(0, .ref (ea E 0)), (1, .int x1), (2, .int x2), (3, .int x3)]) (hP : va_P (eD E) vwCl (xW E σ) H) (hS : va_S (eA E) s.heap H locs) (hE : fX4_onFoot  x1 x2 x3 σ = some F) : zWi E xW p l e r_X4_onFoot s m args below meth c F H locs (F0 m 0 ls []) := by
  obtain ⟨hx, hb, hml, hown, hts, hr, hlk, hK, hD⟩ := id C
  unfold fX4_onFoot at hE
  refine lv_aload_n hx hb dX4_onFoot_0 rfl (lv_at hl 0 rfl) ?_
  refine lv_iload_n hx hb dX4_onFoot_1 rfl (lv_at hl 1 rfl) ?_
  refine z_goi (wf := xW) hS hE (fun F1 h1 => (va_runV (As := [.int x1]) (rest := []) ⟨hx, hb, hml, hown, hts⟩ (kX4_isPlace l E hD x1 σ F1 h1) (cwV 1 hts gX4_onFoot_X4_isPlace rfl rfl rfl q_X4_isPlace ⟨Nat.le_of_ble_eq_true rfl, Nat.le_of_ble_eq_true rfl⟩) (z_preV hK hP hS (ci := 4) (q0 := 0) rfl rfl rfl) rfl rfl hl.1 rfl (lv_room (Nat.le_of_ble_eq_true rfl)) dX4_onFoot_2 ⟨Nat.le_of_ble_eq_true rfl, Nat.le_of_ble_eq_true rfl⟩)) (fun r_2 σ_1 H locs hP hS hE => ?_)
  refine z_if_eq (tgt := 16) hx hb dX4_onFoot_5 (by decide) hE (fun hE => ?_) (fun hE => ?_)
  · refine lv_aload_n hx hb dX4_onFoot_16 rfl (lv_at hl 0 rfl) ?_
    refine lv_iconst (v := -1) hx hb dX4_onFoot_17 (by decide) ?_
    refine z_goi (wf := xW) hS hE (fun F1 h1 => (va_runV (As := [.int (-1)]) (rest := []) ⟨hx, hb, hml, hown, hts⟩ (kX4_refuse l E hD (-1) σ_1 F1 h1) (cwV 1 hts gX4_onFoot_X4_refuse rfl rfl rfl q_X4_refuse ⟨Nat.le_of_ble_eq_true rfl, Nat.le_of_ble_eq_true rfl⟩) (z_preV hK hP hS (ci := 4) (q0 := 0) rfl rfl rfl) rfl rfl hl.1 rfl (lv_room (Nat.le_of_ble_eq_true rfl)) dX4_onFoot_18 ⟨Nat.le_of_ble_eq_true rfl, Nat.le_of_ble_eq_true rfl⟩)) (fun r_4 σ_3 H locs hP hS hE => ?_)
    exact z_iret hx hb hr hlk hP hS dX4_onFoot_21 hE
  refine lv_aload_n hx hb dX4_onFoot_8 rfl (lv_at hl 0 rfl) ?_
  refine lv_iload_n hx hb dX4_onFoot_9 rfl (lv_at hl 2 rfl) ?_
  refine z_goi (wf := xW) hS hE (fun F1 h1 => (va_runV (As := [.int x2]) (rest := []) ⟨hx, hb, hml, hown, hts⟩ (kX4_isPlace l E hD x2 σ_1 F1 h1) (cwV 1 hts gX4_onFoot_X4_isPlace rfl rfl rfl q_X4_isPlace ⟨Nat.le_of_ble_eq_true rfl, Nat.le_of_ble_eq_true rfl⟩) (z_preV hK hP hS (ci := 4) (q0 := 0) rfl rfl rfl) rfl rfl hl.1 rfl (lv_room (Nat.le_of_ble_eq_true rfl)) dX4_onFoot_10 ⟨Nat.le_of_ble_eq_true rfl, Nat.le_of_ble_eq_true rfl⟩)) (fun r_6 σ_5 H locs hP hS hE => ?_)
  refine z_if_ne (tgt := 22) hx hb dX4_onFoot_13 (by decide) hE (fun hE => ?_) (fun hE => ?_)
  · refine lv_iload_n hx hb dX4_onFoot_22 rfl (lv_at hl 3 rfl) ?_
    refine z_if_lt (tgt := 31) hx hb dX4_onFoot_23 (by decide) hE (fun hE => ?_) (fun hE => ?_)
    · refine lv_aload_n hx hb dX4_onFoot_31 rfl (lv_at hl 0 rfl) ?_
      refine lv_bipush (v := -2) hx hb dX4_onFoot_32 (by decide) ?_
      refine z_goi (wf := xW) hS hE (fun F1 h1 => (va_runV (As := [.int (-2)]) (rest := []) ⟨hx, hb, hml, hown, hts⟩ (kX4_refuse l E hD (-2) σ_5 F1 h1) (cwV 1 hts gX4_onFoot_X4_refuse rfl rfl rfl q_X4_refuse ⟨Nat.le_of_ble_eq_true rfl, Nat.le_of_ble_eq_true rfl⟩) (z_preV hK hP hS (ci := 4) (q0 := 0) rfl rfl rfl) rfl rfl hl.1 rfl (lv_room (Nat.le_of_ble_eq_true rfl)) dX4_onFoot_34 ⟨Nat.le_of_ble_eq_true rfl, Nat.le_of_ble_eq_true rfl⟩)) (fun r_8 σ_7 H locs hP hS hE => ?_)
      exact z_iret hx hb hr hlk hP hS dX4_onFoot_37 hE
    refine lv_iload_n hx hb dX4_onFoot_26 rfl (lv_at hl 3 rfl) ?_
    refine lv_iconst (v := 1) hx hb dX4_onFoot_27 (by decide) ?_
    refine z_icmp_le (tgt := 38) hx hb dX4_onFoot_28 (by decide) hE (fun hE => ?_) (fun hE => ?_)
    · refine lv_bipush (v := -9) hx hb dX4_onFoot_38 (by decide) ?_
      refine z_istore hx hb (fun x4_9 => [(4, .int x4_9), (0, .ref (ea E 0)), (1, .int x1), (2, .int x2), (3, .int x3)]) dX4_onFoot_40 hl (by decide) rfl hE (fun x4_9 ls hl hE => ?_)
      refine lv_bipush (v := -9) hx hb dX4_onFoot_42 (by decide) ?_
      refine z_istore hx hb (fun x5_10 => [(5, .int x5_10), (4, .int x4_9), (0, .ref (ea E 0)), (1, .int x1), (2, .int x2), (3, .int x3)]) dX4_onFoot_44 hl (by decide) rfl hE (fun x5_10 ls hl hE => ?_)
      refine lv_iconst (v := 0) hx hb dX4_onFoot_46 (by decide) ?_
      refine z_istore hx hb (fun x6_11 => [(6, .int x6_11), (5, .int x5_10), (4, .int x4_9), (0, .ref (ea E 0)), (1, .int x1), (2, .int x2), (3, .int x3)]) dX4_onFoot_47 hl (by decide) rfl hE (fun x6_11 ls hl hE => ?_)
      refine wX4_onFoot_L49 C ?_ FU x1 x2 x3 x4_9 x5_10 x6_11 σ_5 _ _ _ (lv_sub hl [3, 4, 5, 6, 2, 1, 0] rfl) hP hS hE
      intro x3_26 x4_27 x5_28 σ_29 H locs ls hl hP hS hE
      refine lv_iload_n hx hb dX4_onFoot_118 rfl (lv_at hl 0 rfl) ?_
      refine z_if_ne (tgt := 127) hx hb dX4_onFoot_119 (by decide) hE (fun hE => ?_) (fun hE => ?_)
      · refine lv_iload hx hb dX4_onFoot_127 (lv_at hl 2 rfl) ?_
        exact z_iret hx hb hr hlk hP hS dX4_onFoot_129 hE
      refine lv_iload hx hb dX4_onFoot_122 (lv_at hl 1 rfl) ?_
      refine lv_goto (tgt := 129) hx hb dX4_onFoot_124 (by decide) ?_
      exact z_iret hx hb hr hlk hP hS dX4_onFoot_129 hE
    refine lv_aload_n hx hb dX4_onFoot_31 rfl (lv_at hl 0 rfl) ?_
    refine lv_bipush (v := -2) hx hb dX4_onFoot_32 (by decide) ?_
    refine z_goi (wf := xW) hS hE (fun F1 h1 => (va_runV (As := [.int (-2)]) (rest := []) ⟨hx, hb, hml, hown, hts⟩ (kX4_refuse l E hD (-2) σ_5 F1 h1) (cwV 1 hts gX4_onFoot_X4_refuse rfl rfl rfl q_X4_refuse ⟨Nat.le_of_ble_eq_true rfl, Nat.le_of_ble_eq_true rfl⟩) (z_preV hK hP hS (ci := 4) (q0 := 0) rfl rfl rfl) rfl rfl hl.1 rfl (lv_room (Nat.le_of_ble_eq_true rfl)) dX4_onFoot_34 ⟨Nat.le_of_ble_eq_true rfl, Nat.le_of_ble_eq_true rfl⟩)) (fun r_31 σ_30 H locs hP hS hE => ?_)
    exact z_iret hx hb hr hlk hP hS dX4_onFoot_37 hE
  refine lv_aload_n hx hb dX4_onFoot_16 rfl (lv_at hl 0 rfl) ?_
  refine lv_iconst (v := -1) hx hb dX4_onFoot_17 (by decide) ?_
  refine z_goi (wf := xW) hS hE (fun F1 h1 => (va_runV (As := [.int (-1)]) (rest := []) ⟨hx, hb, hml, hown, hts⟩ (kX4_refuse l E hD (-1) σ_5 F1 h1) (cwV 1 hts gX4_onFoot_X4_refuse rfl rfl rfl q_X4_refuse ⟨Nat.le_of_ble_eq_true rfl, Nat.le_of_ble_eq_true rfl⟩) (z_preV hK hP hS (ci := 4) (q0 := 0) rfl rfl rfl) rfl rfl hl.1 rfl (lv_room (Nat.le_of_ble_eq_true rfl)) dX4_onFoot_18 ⟨Nat.le_of_ble_eq_true rfl, Nat.le_of_ble_eq_true rfl⟩)) (fun r_33 σ_32 H locs hP hS hE => ?_)
  exact z_iret hx hb hr hlk hP hS dX4_onFoot_21 hE
theorem kX4_onFoot (l : Launch) (E : EN) (hD : ∀ σ, va_D (eA E) (xW E σ)) (x1 : Int32) (x2 : Int32) (x3 : Int32) (σ : ST) (F : Int32 × ST) (hE : fX4_onFoot x1 x2 x3 σ = some F) : Met l yX4_onFoot wsX4_onFoot r_X4_onFoot (zPc E xW [.ref (ea E 0), .int x1, .int x2, .int x3] σ) (zQi E xW F) 0 0 (eA E) := by
  refine Met.ofW (cc := cX4_onFoot) (maxL := 8) (ret := (some .int)) (by decide) rfl ?_
  intro p e s m args below meth c s₁ B hml hv
  obtain ⟨rfl, hP, hK⟩ := hv
  have hl := lv_entry ([.ref (ea E 0), .int x1, .int x2, .int x3]) (n := 8) (Nat.le_of_ble_eq_true rfl)
  rw [lg_entry_eq]
  generalize (lg_sl ([.ref (ea E 0), .int x1, .int x2, .int x3]) ++ List.replicate (8 - (lg_sl ([.ref (ea E 0), .int x1, .int x2, .int x3])).length) Slot.unset).toArray = ls at hl ⊢
  exact wX4_onFoot ⟨B.exec, B.bytes, hml, findClass_of_methodNamed B.named, atoms_spec (ws := wsX4_onFoot) B.pre, B.returns, B.notSynchronized, hK, hD⟩ x1 x2 x3 σ s.heap [] ls hl hP va_S.rf hE
def fX4_onTheWay  (x1 : Int32) (x2 : Int32) (x3 : Int32) (σ : ST) : Option (Int32 × ST) :=
  cali (fX4_isPlace x1 σ) (fun r_2 σ_1 => (if r_2 = 0 then cali (fX4_refuse (-1) σ_1) (fun r_4 σ_3 => some (r_4, σ_3)) else cali (fX4_isPlace x2 σ_1) (fun r_6 σ_5 => (if r_6 = 0 then cali (fX4_refuse (-1) σ_5) (fun r_8 σ_7 => some (r_8, σ_7)) else cali (fX4_isPlace x3 σ_5) (fun r_10 σ_9 => (if r_10 = 0 then cali (fX4_refuse (-1) σ_9) (fun r_20 σ_19 => some (r_20, σ_19)) else cali (fX0_minutesOf x2 x1 0 σ_9) (fun r_12 σ_11 => bnd (r_12 : Int32) (fun x4_13 => cali (fX0_minutesOf x1 x3 0 σ_11) (fun r_15 σ_14 => bnd (r_15 : Int32) (fun x5_16 => (if x4_13 < 0 then some (0, σ_14) else (if 0 ≤ x5_16 then cali (fX0_minutesOf x2 x3 0 σ_14) (fun r_18 σ_17 => (if (x4_13 + x5_16) = r_18 then some (1, σ_17) else some (0, σ_17))) else some (0, σ_14)))))))))))))
set_option maxHeartbeats 4000000 in
set_option maxRecDepth 100000 in
theorem wX4_onTheWay {p : Program} {l : Launch} {e : Env} {s : State} {m : MethodId} {args : Array Value} {below : List Frame} {meth : Method} {c : Code} {E : EN} (C : zC E xW p s m args meth c cX4_onTheWay 6 RX4 (some .int) wsX4_onTheWay) {F : Int32 × ST}   (x1 : Int32) (x2 : Int32) (x3 : Int32) (σ : ST) (H : Heap) (locs : List Loc) (ls : Array Slot) (hl : lv_has ls 6 [(0, .ref (ea E 0)), (1, .int x1), (2, .int x2), (3, .int x3)]) (hP : va_P (eD E) vwCl (xW E σ) H) (hS : va_S (eA E) s.heap H locs) (hE : fX4_onTheWay  x1 x2 x3 σ = some F) : zWi E xW p l e r_X4_onTheWay s m args below meth c F H locs (F0 m 0 ls []) := by
  obtain ⟨hx, hb, hml, hown, hts, hr, hlk, hK, hD⟩ := id C
  have hwX4 : ∀ w ∈ wsX40, w.before args s = true := fun w h => hts w (List.mem_cons_of_mem _ (List.mem_append_left _ (List.mem_append_left _ (List.mem_append_right _ h))))
  unfold fX4_onTheWay at hE
  refine lv_aload_n hx hb dX4_onTheWay_0 rfl (lv_at hl 0 rfl) ?_
  refine lv_iload_n hx hb dX4_onTheWay_1 rfl (lv_at hl 1 rfl) ?_
  refine z_goi (wf := xW) hS hE (fun F1 h1 => (va_runV (As := [.int x1]) (rest := []) ⟨hx, hb, hml, hown, hts⟩ (kX4_isPlace l E hD x1 σ F1 h1) (cwV 1 hts gX4_onTheWay_X4_isPlace rfl rfl rfl q_X4_isPlace ⟨Nat.le_of_ble_eq_true rfl, Nat.le_of_ble_eq_true rfl⟩) (z_preV hK hP hS (ci := 4) (q0 := 0) rfl rfl rfl) rfl rfl hl.1 rfl (lv_room (Nat.le_of_ble_eq_true rfl)) dX4_onTheWay_2 ⟨Nat.le_of_ble_eq_true rfl, Nat.le_of_ble_eq_true rfl⟩)) (fun r_2 σ_1 H locs hP hS hE => ?_)
  refine z_if_eq (tgt := 24) hx hb dX4_onTheWay_5 (by decide) hE (fun hE => ?_) (fun hE => ?_)
  · refine lv_aload_n hx hb dX4_onTheWay_24 rfl (lv_at hl 0 rfl) ?_
    refine lv_iconst (v := -1) hx hb dX4_onTheWay_25 (by decide) ?_
    refine z_goi (wf := xW) hS hE (fun F1 h1 => (va_runV (As := [.int (-1)]) (rest := []) ⟨hx, hb, hml, hown, hts⟩ (kX4_refuse l E hD (-1) σ_1 F1 h1) (cwV 1 hts gX4_onTheWay_X4_refuse rfl rfl rfl q_X4_refuse ⟨Nat.le_of_ble_eq_true rfl, Nat.le_of_ble_eq_true rfl⟩) (z_preV hK hP hS (ci := 4) (q0 := 0) rfl rfl rfl) rfl rfl hl.1 rfl (lv_room (Nat.le_of_ble_eq_true rfl)) dX4_onTheWay_26 ⟨Nat.le_of_ble_eq_true rfl, Nat.le_of_ble_eq_true rfl⟩)) (fun r_4 σ_3 H locs hP hS hE => ?_)
    exact z_iret hx hb hr hlk hP hS dX4_onTheWay_29 hE
  refine lv_aload_n hx hb dX4_onTheWay_8 rfl (lv_at hl 0 rfl) ?_
  refine lv_iload_n hx hb dX4_onTheWay_9 rfl (lv_at hl 2 rfl) ?_
  refine z_goi (wf := xW) hS hE (fun F1 h1 => (va_runV (As := [.int x2]) (rest := []) ⟨hx, hb, hml, hown, hts⟩ (kX4_isPlace l E hD x2 σ_1 F1 h1) (cwV 1 hts gX4_onTheWay_X4_isPlace rfl rfl rfl q_X4_isPlace ⟨Nat.le_of_ble_eq_true rfl, Nat.le_of_ble_eq_true rfl⟩) (z_preV hK hP hS (ci := 4) (q0 := 0) rfl rfl rfl) rfl rfl hl.1 rfl (lv_room (Nat.le_of_ble_eq_true rfl)) dX4_onTheWay_10 ⟨Nat.le_of_ble_eq_true rfl, Nat.le_of_ble_eq_true rfl⟩)) (fun r_6 σ_5 H locs hP hS hE => ?_)
  refine z_if_eq (tgt := 24) hx hb dX4_onTheWay_13 (by decide) hE (fun hE => ?_) (fun hE => ?_)
  · refine lv_aload_n hx hb dX4_onTheWay_24 rfl (lv_at hl 0 rfl) ?_
    refine lv_iconst (v := -1) hx hb dX4_onTheWay_25 (by decide) ?_
    refine z_goi (wf := xW) hS hE (fun F1 h1 => (va_runV (As := [.int (-1)]) (rest := []) ⟨hx, hb, hml, hown, hts⟩ (kX4_refuse l E hD (-1) σ_5 F1 h1) (cwV 1 hts gX4_onTheWay_X4_refuse rfl rfl rfl q_X4_refuse ⟨Nat.le_of_ble_eq_true rfl, Nat.le_of_ble_eq_true rfl⟩) (z_preV hK hP hS (ci := 4) (q0 := 0) rfl rfl rfl) rfl rfl hl.1 rfl (lv_room (Nat.le_of_ble_eq_true rfl)) dX4_onTheWay_26 ⟨Nat.le_of_ble_eq_true rfl, Nat.le_of_ble_eq_true rfl⟩)) (fun r_8 σ_7 H locs hP hS hE => ?_)
    exact z_iret hx hb hr hlk hP hS dX4_onTheWay_29 hE
  refine lv_aload_n hx hb dX4_onTheWay_16 rfl (lv_at hl 0 rfl) ?_
  refine lv_iload_n hx hb dX4_onTheWay_17 rfl (lv_at hl 3 rfl) ?_
  refine z_goi (wf := xW) hS hE (fun F1 h1 => (va_runV (As := [.int x3]) (rest := []) ⟨hx, hb, hml, hown, hts⟩ (kX4_isPlace l E hD x3 σ_5 F1 h1) (cwV 1 hts gX4_onTheWay_X4_isPlace rfl rfl rfl q_X4_isPlace ⟨Nat.le_of_ble_eq_true rfl, Nat.le_of_ble_eq_true rfl⟩) (z_preV hK hP hS (ci := 4) (q0 := 0) rfl rfl rfl) rfl rfl hl.1 rfl (lv_room (Nat.le_of_ble_eq_true rfl)) dX4_onTheWay_18 ⟨Nat.le_of_ble_eq_true rfl, Nat.le_of_ble_eq_true rfl⟩)) (fun r_10 σ_9 H locs hP hS hE => ?_)
  refine z_if_ne (tgt := 30) hx hb dX4_onTheWay_21 (by decide) hE (fun hE => ?_) (fun hE => ?_)
  · refine lv_aload_n hx hb dX4_onTheWay_30 rfl (lv_at hl 0 rfl) ?_
    refine xg_0_2 hx hb hown hwX4 (hts _ (List.mem_of_getElem? (i := 1) rfl)) hK hP dX4_onTheWay_31 ?_
    refine lv_iload_n hx hb dX4_onTheWay_34 rfl (lv_at hl 2 rfl) ?_
    refine lv_iload_n hx hb dX4_onTheWay_35 rfl (lv_at hl 1 rfl) ?_
    refine lv_iconst (v := 0) hx hb dX4_onTheWay_36 (by decide) ?_
    refine z_goi (wf := xW) hS hE (fun F1 h1 => (va_runV (As := [.int x2, .int x1, .int 0]) (rest := []) ⟨hx, hb, hml, hown, hts⟩ (kX0_minutesOf l E hD x2 x1 0 σ_9 F1 h1) (cwV 3 hts gX4_onTheWay_X0_minutesOf rfl rfl rfl q_X0_minutesOf ⟨Nat.le_of_ble_eq_true rfl, Nat.le_of_ble_eq_true rfl⟩) (z_preV hK hP hS (ci := 0) (q0 := 2) rfl rfl rfl) rfl rfl hl.1 rfl (lv_room (Nat.le_of_ble_eq_true rfl)) dX4_onTheWay_37 ⟨Nat.le_of_ble_eq_true rfl, Nat.le_of_ble_eq_true rfl⟩)) (fun r_12 σ_11 H locs hP hS hE => ?_)
    refine z_istore hx hb (fun x4_13 => [(4, .int x4_13), (0, .ref (ea E 0)), (1, .int x1), (2, .int x2), (3, .int x3)]) dX4_onTheWay_40 hl (by decide) rfl hE (fun x4_13 ls hl hE => ?_)
    refine lv_aload_n hx hb dX4_onTheWay_42 rfl (lv_at hl 1 rfl) ?_
    refine xg_0_2 hx hb hown hwX4 (hts _ (List.mem_of_getElem? (i := 1) rfl)) hK hP dX4_onTheWay_43 ?_
    refine lv_iload_n hx hb dX4_onTheWay_46 rfl (lv_at hl 2 rfl) ?_
    refine lv_iload_n hx hb dX4_onTheWay_47 rfl (lv_at hl 4 rfl) ?_
    refine lv_iconst (v := 0) hx hb dX4_onTheWay_48 (by decide) ?_
    refine z_goi (wf := xW) hS hE (fun F1 h1 => (va_runV (As := [.int x1, .int x3, .int 0]) (rest := []) ⟨hx, hb, hml, hown, hts⟩ (kX0_minutesOf l E hD x1 x3 0 σ_11 F1 h1) (cwV 3 hts gX4_onTheWay_X0_minutesOf rfl rfl rfl q_X0_minutesOf ⟨Nat.le_of_ble_eq_true rfl, Nat.le_of_ble_eq_true rfl⟩) (z_preV hK hP hS (ci := 0) (q0 := 2) rfl rfl rfl) rfl rfl hl.1 rfl (lv_room (Nat.le_of_ble_eq_true rfl)) dX4_onTheWay_49 ⟨Nat.le_of_ble_eq_true rfl, Nat.le_of_ble_eq_true rfl⟩)) (fun r_15 σ_14 H locs hP hS hE => ?_)
    refine z_istore hx hb (fun x5_16 => [(5, .int x5_16), (4, .int x4_13), (0, .ref (ea E 0)), (1, .int x1), (2, .int x2), (3, .int x3)]) dX4_onTheWay_52 hl (by decide) rfl hE (fun x5_16 ls hl hE => ?_)
    refine lv_iload hx hb dX4_onTheWay_54 (lv_at hl 1 rfl) ?_
    refine z_if_lt (tgt := 64) hx hb dX4_onTheWay_56 (by decide) hE (fun hE => ?_) (fun hE => ?_)
    · refine lv_iconst (v := 0) hx hb dX4_onTheWay_64 (by decide) ?_
      exact z_iret hx hb hr hlk hP hS dX4_onTheWay_65 hE
    refine lv_iload hx hb dX4_onTheWay_59 (lv_at hl 0 rfl) ?_
    refine z_if_ge (tgt := 66) hx hb dX4_onTheWay_61 (by decide) hE (fun hE => ?_) (fun hE => ?_)
    · refine lv_iload hx hb dX4_onTheWay_66 (lv_at hl 1 rfl) ?_
      refine lv_iload hx hb dX4_onTheWay_68 (lv_at hl 0 rfl) ?_
      refine lv_iadd hx hb dX4_onTheWay_70 ?_
      refine lv_aload_n hx hb dX4_onTheWay_71 rfl (lv_at hl 2 rfl) ?_
      refine xg_0_2 hx hb hown hwX4 (hts _ (List.mem_of_getElem? (i := 1) rfl)) hK hP dX4_onTheWay_72 ?_
      refine lv_iload_n hx hb dX4_onTheWay_75 rfl (lv_at hl 4 rfl) ?_
      refine lv_iload_n hx hb dX4_onTheWay_76 rfl (lv_at hl 5 rfl) ?_
      refine lv_iconst (v := 0) hx hb dX4_onTheWay_77 (by decide) ?_
      refine z_goi (wf := xW) hS hE (fun F1 h1 => (va_runV (As := [.int x2, .int x3, .int 0]) (rest := [.int (x4_13 + x5_16)]) ⟨hx, hb, hml, hown, hts⟩ (kX0_minutesOf l E hD x2 x3 0 σ_14 F1 h1) (cwV 3 hts gX4_onTheWay_X0_minutesOf rfl rfl rfl q_X0_minutesOf ⟨Nat.le_of_ble_eq_true rfl, Nat.le_of_ble_eq_true rfl⟩) (z_preV hK hP hS (ci := 0) (q0 := 2) rfl rfl rfl) rfl rfl hl.1 rfl (lv_room (Nat.le_of_ble_eq_true rfl)) dX4_onTheWay_78 ⟨Nat.le_of_ble_eq_true rfl, Nat.le_of_ble_eq_true rfl⟩)) (fun r_18 σ_17 H locs hP hS hE => ?_)
      refine z_icmp_ne (tgt := 88) hx hb dX4_onTheWay_81 (by decide) hE (fun hE => ?_) (fun hE => ?_)
      · refine lv_iconst (v := 0) hx hb dX4_onTheWay_88 (by decide) ?_
        exact z_iret hx hb hr hlk hP hS dX4_onTheWay_89 hE
      refine lv_iconst (v := 1) hx hb dX4_onTheWay_84 (by decide) ?_
      refine lv_goto (tgt := 89) hx hb dX4_onTheWay_85 (by decide) ?_
      exact z_iret hx hb hr hlk hP hS dX4_onTheWay_89 hE
    refine lv_iconst (v := 0) hx hb dX4_onTheWay_64 (by decide) ?_
    exact z_iret hx hb hr hlk hP hS dX4_onTheWay_65 hE
  refine lv_aload_n hx hb dX4_onTheWay_24 rfl (lv_at hl 0 rfl) ?_
  refine lv_iconst (v := -1) hx hb dX4_onTheWay_25 (by decide) ?_
  refine z_goi (wf := xW) hS hE (fun F1 h1 => (va_runV (As := [.int (-1)]) (rest := []) ⟨hx, hb, hml, hown, hts⟩ (kX4_refuse l E hD (-1) σ_9 F1 h1) (cwV 1 hts gX4_onTheWay_X4_refuse rfl rfl rfl q_X4_refuse ⟨Nat.le_of_ble_eq_true rfl, Nat.le_of_ble_eq_true rfl⟩) (z_preV hK hP hS (ci := 4) (q0 := 0) rfl rfl rfl) rfl rfl hl.1 rfl (lv_room (Nat.le_of_ble_eq_true rfl)) dX4_onTheWay_26 ⟨Nat.le_of_ble_eq_true rfl, Nat.le_of_ble_eq_true rfl⟩)) (fun r_20 σ_19 H locs hP hS hE => ?_)
  exact z_iret hx hb hr hlk hP hS dX4_onTheWay_29 hE
theorem kX4_onTheWay (l : Launch) (E : EN) (hD : ∀ σ, va_D (eA E) (xW E σ)) (x1 : Int32) (x2 : Int32) (x3 : Int32) (σ : ST) (F : Int32 × ST) (hE : fX4_onTheWay x1 x2 x3 σ = some F) : Met l yX4_onTheWay wsX4_onTheWay r_X4_onTheWay (zPc E xW [.ref (ea E 0), .int x1, .int x2, .int x3] σ) (zQi E xW F) 0 0 (eA E) := by
  refine Met.ofW (cc := cX4_onTheWay) (maxL := 6) (ret := (some .int)) (by decide) rfl ?_
  intro p e s m args below meth c s₁ B hml hv
  obtain ⟨rfl, hP, hK⟩ := hv
  have hl := lv_entry ([.ref (ea E 0), .int x1, .int x2, .int x3]) (n := 6) (Nat.le_of_ble_eq_true rfl)
  rw [lg_entry_eq]
  generalize (lg_sl ([.ref (ea E 0), .int x1, .int x2, .int x3]) ++ List.replicate (6 - (lg_sl ([.ref (ea E 0), .int x1, .int x2, .int x3])).length) Slot.unset).toArray = ls at hl ⊢
  exact wX4_onTheWay ⟨B.exec, B.bytes, hml, findClass_of_methodNamed B.named, atoms_spec (ws := wsX4_onTheWay) B.pre, B.returns, B.notSynchronized, hK, hD⟩ x1 x2 x3 σ s.heap [] ls hl hP va_S.rf hE
def fX4_row  (x1 : Int32) (σ : ST) : Option (Int32 × ST) :=
  (if 0 ≤ x1 then (if 9 < x1 then cali (fX4_refuse (-6) σ) (fun r_2 σ_1 => some (r_2, σ_1)) else (if (gI σ 0) < 10 then ast σ 43 10 (gI σ 0) x1 (fun σ_3 => bnd (sI σ_3 0 ((gI σ_3 0) + 1)) (fun σ_4 => some ((gI σ_4 0), σ_4))) else cali (fX4_refuse (-6) σ) (fun r_6 σ_5 => some (r_6, σ_5)))) else cali (fX4_refuse (-4) σ) (fun r_8 σ_7 => some (r_8, σ_7)))
set_option maxHeartbeats 4000000 in
set_option maxRecDepth 100000 in
theorem wX4_row {p : Program} {l : Launch} {e : Env} {s : State} {m : MethodId} {args : Array Value} {below : List Frame} {meth : Method} {c : Code} {E : EN} (C : zC E xW p s m args meth c cX4_row 2 RX4 (some .int) wsX4_row) {F : Int32 × ST}   (x1 : Int32) (σ : ST) (H : Heap) (locs : List Loc) (ls : Array Slot) (hl : lv_has ls 2 [(0, .ref (ea E 0)), (1, .int x1)]) (hP : va_P (eD E) vwCl (xW E σ) H) (hS : va_S (eA E) s.heap H locs) (hE : fX4_row  x1 σ = some F) : zWi E xW p l e r_X4_row s m args below meth c F H locs (F0 m 0 ls []) := by
  obtain ⟨hx, hb, hml, hown, hts, hr, hlk, hK, hD⟩ := id C
  have hwX4 : ∀ w ∈ wsX40, w.before args s = true := fun w h => hts w (List.mem_cons_of_mem _ (List.mem_append_right _ h))
  unfold fX4_row at hE
  refine lv_iload_n hx hb dX4_row_0 rfl (lv_at hl 1 rfl) ?_
  refine z_if_ge (tgt := 11) hx hb dX4_row_1 (by decide) hE (fun hE => ?_) (fun hE => ?_)
  · refine lv_iload_n hx hb dX4_row_11 rfl (lv_at hl 1 rfl) ?_
    refine lv_bipush (v := 9) hx hb dX4_row_12 (by decide) ?_
    refine z_icmp_gt (tgt := 26) hx hb dX4_row_14 (by decide) hE (fun hE => ?_) (fun hE => ?_)
    · refine lv_aload_n hx hb dX4_row_26 rfl (lv_at hl 0 rfl) ?_
      refine lv_bipush (v := -6) hx hb dX4_row_27 (by decide) ?_
      refine z_goi (wf := xW) hS hE (fun F1 h1 => (va_runV (As := [.int (-6)]) (rest := []) ⟨hx, hb, hml, hown, hts⟩ (kX4_refuse l E hD (-6) σ F1 h1) (cwV 1 hts gX4_row_X4_refuse rfl rfl rfl q_X4_refuse ⟨Nat.le_of_ble_eq_true rfl, Nat.le_of_ble_eq_true rfl⟩) (z_preV hK hP hS (ci := 4) (q0 := 0) rfl rfl rfl) rfl rfl hl.1 rfl (lv_room (Nat.le_of_ble_eq_true rfl)) dX4_row_29 ⟨Nat.le_of_ble_eq_true rfl, Nat.le_of_ble_eq_true rfl⟩)) (fun r_2 σ_1 H locs hP hS hE => ?_)
      exact z_iret hx hb hr hlk hP hS dX4_row_32 hE
    refine lv_aload_n hx hb dX4_row_17 rfl (lv_at hl 0 rfl) ?_
    refine xg_0_10 hx hb hown hwX4 (hts _ (List.mem_of_getElem? (i := 1) rfl)) hK hP dX4_row_18 ?_
    refine lv_bipush (v := 10) hx hb dX4_row_21 (by decide) ?_
    refine z_icmp_lt (tgt := 33) hx hb dX4_row_23 (by decide) hE (fun hE => ?_) (fun hE => ?_)
    · refine lv_aload_n hx hb dX4_row_33 rfl (lv_at hl 0 rfl) ?_
      refine xg_0_6 hx hb hown hwX4 (hts _ (List.mem_of_getElem? (i := 2) rfl)) hK hP dX4_row_34 ?_
      refine lv_aload_n hx hb dX4_row_37 rfl (lv_at hl 0 rfl) ?_
      refine xg_0_10 hx hb hown hwX4 (hts _ (List.mem_of_getElem? (i := 1) rfl)) hK hP dX4_row_38 ?_
      refine lv_iload_n hx hb dX4_row_41 rfl (lv_at hl 1 rfl) ?_
      refine xs_50 hx hb hK hD hP hS dX4_row_42 hE (fun σ_3 H locs hP hS hE => ?_)
      refine lv_aload_n hx hb dX4_row_43 rfl (lv_at hl 0 rfl) ?_
      refine lv_dup hx hb dX4_row_44 rfl ?_
      refine xg_0_10 hx hb hown hwX4 (hts _ (List.mem_of_getElem? (i := 1) rfl)) hK hP dX4_row_45 ?_
      refine lv_iconst (v := 1) hx hb dX4_row_48 (by decide) ?_
      refine lv_iadd hx hb dX4_row_49 ?_
      refine xp_0_10 hx hb hown hwX4 (hts _ (List.mem_of_getElem? (i := 1) rfl)) hK hD hP hS dX4_row_50 hE (fun σ_4 H locs hP hS hE => ?_)
      refine lv_aload_n hx hb dX4_row_53 rfl (lv_at hl 0 rfl) ?_
      refine xg_0_10 hx hb hown hwX4 (hts _ (List.mem_of_getElem? (i := 1) rfl)) hK hP dX4_row_54 ?_
      exact z_iret hx hb hr hlk hP hS dX4_row_57 hE
    refine lv_aload_n hx hb dX4_row_26 rfl (lv_at hl 0 rfl) ?_
    refine lv_bipush (v := -6) hx hb dX4_row_27 (by decide) ?_
    refine z_goi (wf := xW) hS hE (fun F1 h1 => (va_runV (As := [.int (-6)]) (rest := []) ⟨hx, hb, hml, hown, hts⟩ (kX4_refuse l E hD (-6) σ F1 h1) (cwV 1 hts gX4_row_X4_refuse rfl rfl rfl q_X4_refuse ⟨Nat.le_of_ble_eq_true rfl, Nat.le_of_ble_eq_true rfl⟩) (z_preV hK hP hS (ci := 4) (q0 := 0) rfl rfl rfl) rfl rfl hl.1 rfl (lv_room (Nat.le_of_ble_eq_true rfl)) dX4_row_29 ⟨Nat.le_of_ble_eq_true rfl, Nat.le_of_ble_eq_true rfl⟩)) (fun r_6 σ_5 H locs hP hS hE => ?_)
    exact z_iret hx hb hr hlk hP hS dX4_row_32 hE
  refine lv_aload_n hx hb dX4_row_4 rfl (lv_at hl 0 rfl) ?_
  refine lv_bipush (v := -4) hx hb dX4_row_5 (by decide) ?_
  refine z_goi (wf := xW) hS hE (fun F1 h1 => (va_runV (As := [.int (-4)]) (rest := []) ⟨hx, hb, hml, hown, hts⟩ (kX4_refuse l E hD (-4) σ F1 h1) (cwV 1 hts gX4_row_X4_refuse rfl rfl rfl q_X4_refuse ⟨Nat.le_of_ble_eq_true rfl, Nat.le_of_ble_eq_true rfl⟩) (z_preV hK hP hS (ci := 4) (q0 := 0) rfl rfl rfl) rfl rfl hl.1 rfl (lv_room (Nat.le_of_ble_eq_true rfl)) dX4_row_7 ⟨Nat.le_of_ble_eq_true rfl, Nat.le_of_ble_eq_true rfl⟩)) (fun r_8 σ_7 H locs hP hS hE => ?_)
  exact z_iret hx hb hr hlk hP hS dX4_row_10 hE
theorem kX4_row (l : Launch) (E : EN) (hD : ∀ σ, va_D (eA E) (xW E σ)) (x1 : Int32) (σ : ST) (F : Int32 × ST) (hE : fX4_row x1 σ = some F) : Met l yX4_row wsX4_row r_X4_row (zPc E xW [.ref (ea E 0), .int x1] σ) (zQi E xW F) 0 0 (eA E) := by
  refine Met.ofW (cc := cX4_row) (maxL := 2) (ret := (some .int)) (by decide) rfl ?_
  intro p e s m args below meth c s₁ B hml hv
  obtain ⟨rfl, hP, hK⟩ := hv
  have hl := lv_entry ([.ref (ea E 0), .int x1]) (n := 2) (Nat.le_of_ble_eq_true rfl)
  rw [lg_entry_eq]
  generalize (lg_sl ([.ref (ea E 0), .int x1]) ++ List.replicate (2 - (lg_sl ([.ref (ea E 0), .int x1])).length) Slot.unset).toArray = ls at hl ⊢
  exact wX4_row ⟨B.exec, B.bytes, hml, findClass_of_methodNamed B.named, atoms_spec (ws := wsX4_row) B.pre, B.returns, B.notSynchronized, hK, hD⟩ x1 σ s.heap [] ls hl hP va_S.rf hE
def fX4_clear   (σ : ST) : Option (Int32 × ST) :=
  bnd ((gI σ 0) : Int32) (fun x1_1 => bnd (sI σ 0 0) (fun σ_2 => some (x1_1, σ_2)))
set_option maxHeartbeats 4000000 in
set_option maxRecDepth 100000 in
theorem wX4_clear {p : Program} {l : Launch} {e : Env} {s : State} {m : MethodId} {args : Array Value} {below : List Frame} {meth : Method} {c : Code} {E : EN} (C : zC E xW p s m args meth c cX4_clear 2 RX4 (some .int) wsX4_clear) {F : Int32 × ST}    (σ : ST) (H : Heap) (locs : List Loc) (ls : Array Slot) (hl : lv_has ls 2 [(0, .ref (ea E 0))]) (hP : va_P (eD E) vwCl (xW E σ) H) (hS : va_S (eA E) s.heap H locs) (hE : fX4_clear   σ = some F) : zWi E xW p l e r_X4_clear s m args below meth c F H locs (F0 m 0 ls []) := by
  obtain ⟨hx, hb, hml, hown, hts, hr, hlk, hK, hD⟩ := id C
  have hwX4 : ∀ w ∈ wsX40, w.before args s = true := fun w h => hts w (List.mem_cons_of_mem _ (List.mem_append_right _ h))
  unfold fX4_clear at hE
  refine lv_aload_n hx hb dX4_clear_0 rfl (lv_at hl 0 rfl) ?_
  refine xg_0_10 hx hb hown hwX4 (hts _ (List.mem_of_getElem? (i := 1) rfl)) hK hP dX4_clear_1 ?_
  refine z_istore_n hx hb (fun x1_1 => [(1, .int x1_1), (0, .ref (ea E 0))]) dX4_clear_4 rfl hl (by decide) rfl hE (fun x1_1 ls hl hE => ?_)
  refine lv_aload_n hx hb dX4_clear_5 rfl (lv_at hl 1 rfl) ?_
  refine lv_iconst (v := 0) hx hb dX4_clear_6 (by decide) ?_
  refine xp_0_10 hx hb hown hwX4 (hts _ (List.mem_of_getElem? (i := 1) rfl)) hK hD hP hS dX4_clear_7 hE (fun σ_2 H locs hP hS hE => ?_)
  refine lv_iload_n hx hb dX4_clear_10 rfl (lv_at hl 0 rfl) ?_
  exact z_iret hx hb hr hlk hP hS dX4_clear_11 hE
theorem kX4_clear (l : Launch) (E : EN) (hD : ∀ σ, va_D (eA E) (xW E σ))  (σ : ST) (F : Int32 × ST) (hE : fX4_clear  σ = some F) : Met l yX4_clear wsX4_clear r_X4_clear (zPc E xW [.ref (ea E 0)] σ) (zQi E xW F) 0 0 (eA E) := by
  refine Met.ofW (cc := cX4_clear) (maxL := 2) (ret := (some .int)) (by decide) rfl ?_
  intro p e s m args below meth c s₁ B hml hv
  obtain ⟨rfl, hP, hK⟩ := hv
  have hl := lv_entry ([.ref (ea E 0)]) (n := 2) (Nat.le_of_ble_eq_true rfl)
  rw [lg_entry_eq]
  generalize (lg_sl ([.ref (ea E 0)]) ++ List.replicate (2 - (lg_sl ([.ref (ea E 0)])).length) Slot.unset).toArray = ls at hl ⊢
  exact wX4_clear ⟨B.exec, B.bytes, hml, findClass_of_methodNamed B.named, atoms_spec (ws := wsX4_clear) B.pre, B.returns, B.notSynchronized, hK, hD⟩  σ s.heap [] ls hl hP va_S.rf hE
def fX4_judge_L31 (ke : ST → Option (Int32 × ST)) : Nat → Int32 → Int32 → ST → Option (Int32 × ST)
  | 0, _, _, _ => none
  | n + 1, x1, x2, σ => (if (gI σ 0) ≤ x2 then ke  σ else ald (gA σ 43) 10 x2 (fun v_4 => bnd ((1 <<< (v_4 &&& 31)) : Int32) (fun x3_5 => (if (x1 &&& x3_5) = 0 then some (x2, σ) else bnd ((x1 &&& (x3_5 ^^^ (-1))) : Int32) (fun x1_6 => bnd (x2 + 1) (fun x2_7 => fX4_judge_L31 ke n x1_6 x2_7 σ))))))
set_option maxHeartbeats 4000000 in
set_option maxRecDepth 100000 in
theorem wX4_judge_L31 {p : Program} {l : Launch} {e : Env} {s : State} {m : MethodId} {args : Array Value} {below : List Frame} {meth : Method} {c : Code} {E : EN} (C : zC E xW p s m args meth c cX4_judge 4 RX4 (some .int) wsX4_judge) {F : Int32 × ST} {ke : ST → Option (Int32 × ST)} (hke : ∀  (σ : ST) (H : Heap) (locs : List Loc) (ls : Array Slot), lv_has ls 4 [] → va_P (eD E) vwCl (xW E σ) H → va_S (eA E) s.heap H locs → ke  σ = some F → zWi E xW p l e r_X4_judge s m args below meth c F H locs (F0 m 68 ls [])) : ∀ (n : Nat) (x1 : Int32) (x2 : Int32) (σ : ST) (H : Heap) (locs : List Loc) (ls : Array Slot), lv_has ls 4 [(0, .ref (ea E 0)), (1, .int x1), (2, .int x2)] → va_P (eD E) vwCl (xW E σ) H → va_S (eA E) s.heap H locs → fX4_judge_L31 ke n x1 x2 σ = some F → zWi E xW p l e r_X4_judge s m args below meth c F H locs (F0 m 31 ls []) := by
  obtain ⟨hx, hb, hml, hown, hts, hr, hlk, hK, hD⟩ := id C
  have hwX4 : ∀ w ∈ wsX40, w.before args s = true := fun w h => hts w (List.mem_cons_of_mem _ (List.mem_append_left _ (List.mem_append_left _ (List.mem_append_left _ (List.mem_append_right _ h)))))
  intro n
  induction n with
  | zero => intro x1 x2 σ H locs ls hl hP hS hE; rw [fX4_judge_L31] at hE; cases hE
  | succ n ih =>
    intro x1 x2 σ H locs ls hl hP hS hE
    rw [fX4_judge_L31] at hE
    refine lv_iload_n hx hb dX4_judge_31 rfl (lv_at hl 2 rfl) ?_
    refine lv_aload_n hx hb dX4_judge_32 rfl (lv_at hl 0 rfl) ?_
    refine xg_0_10 hx hb hown hwX4 (hts _ (List.mem_of_getElem? (i := 5) rfl)) hK hP dX4_judge_33 ?_
    refine z_icmp_ge (tgt := 68) hx hb dX4_judge_36 (by decide) hE (fun hE => ?_) (fun hE => ?_)
    · exact hke  σ _ _ _ (lv_sub hl [] rfl) hP hS hE
    refine lv_iconst (v := 1) hx hb dX4_judge_39 (by decide) ?_
    refine lv_aload_n hx hb dX4_judge_40 rfl (lv_at hl 0 rfl) ?_
    refine xg_0_6 hx hb hown hwX4 (hts _ (List.mem_of_getElem? (i := 6) rfl)) hK hP dX4_judge_41 ?_
    refine lv_iload_n hx hb dX4_judge_44 rfl (lv_at hl 2 rfl) ?_
    refine xa_50 hx hb hK hP dX4_judge_45 hE (fun v_4 hE => ?_)
    refine lv_ishl hx hb dX4_judge_46 ?_
    refine z_istore_n hx hb (fun x3_5 => [(3, .int x3_5), (0, .ref (ea E 0)), (1, .int x1), (2, .int x2)]) dX4_judge_47 rfl hl (by decide) rfl hE (fun x3_5 ls hl hE => ?_)
    refine lv_iload_n hx hb dX4_judge_48 rfl (lv_at hl 2 rfl) ?_
    refine lv_iload_n hx hb dX4_judge_49 rfl (lv_at hl 0 rfl) ?_
    refine lv_iand hx hb dX4_judge_50 ?_
    refine z_if_ne (tgt := 56) hx hb dX4_judge_51 (by decide) hE (fun hE => ?_) (fun hE => ?_)
    · refine lv_iload_n hx hb dX4_judge_56 rfl (lv_at hl 2 rfl) ?_
      refine lv_iload_n hx hb dX4_judge_57 rfl (lv_at hl 0 rfl) ?_
      refine lv_iconst (v := -1) hx hb dX4_judge_58 (by decide) ?_
      refine lv_ixor hx hb dX4_judge_59 ?_
      refine lv_iand hx hb dX4_judge_60 ?_
      refine z_istore_n hx hb (fun x1_6 => [(1, .int x1_6), (3, .int x3_5), (0, .ref (ea E 0)), (2, .int x2)]) dX4_judge_61 rfl hl (by decide) rfl hE (fun x1_6 ls hl hE => ?_)
      refine z_iinc hx hb (v := (x2 + 1)) (k := 3) (fun x2_7 => [(2, .int x2_7), (1, .int x1_6), (3, .int x3_5), (0, .ref (ea E 0))]) dX4_judge_62 hl rfl (by rfl) (by decide) rfl hE (fun x2_7 ls hl hE => ?_)
      refine lv_goto (tgt := 31) hx hb dX4_judge_65 (by decide) ?_
      exact ih x1_6 x2_7 σ _ _ _ (lv_sub hl [3, 1, 0] rfl) hP hS hE
    refine lv_iload_n hx hb dX4_judge_54 rfl (lv_at hl 3 rfl) ?_
    exact z_iret hx hb hr hlk hP hS dX4_judge_55 hE
def fX4_judge   (σ : ST) : Option (Int32 × ST) :=
  (if (gI σ 3) = 0 then cali (fX4_refuse (-3) σ) (fun r_10 σ_9 => some (r_10, σ_9)) else calv (fX4_goByRow σ) (fun σ_1 => bnd ((gI σ_1 26) : Int32) (fun x1_2 => bnd (0 : Int32) (fun x2_3 => fX4_judge_L31 (fun σ_8 => some ((-9), σ_8)) FU x1_2 x2_3 σ_1))))
set_option maxHeartbeats 4000000 in
set_option maxRecDepth 100000 in
theorem wX4_judge {p : Program} {l : Launch} {e : Env} {s : State} {m : MethodId} {args : Array Value} {below : List Frame} {meth : Method} {c : Code} {E : EN} (C : zC E xW p s m args meth c cX4_judge 4 RX4 (some .int) wsX4_judge) {F : Int32 × ST}    (σ : ST) (H : Heap) (locs : List Loc) (ls : Array Slot) (hl : lv_has ls 4 [(0, .ref (ea E 0))]) (hP : va_P (eD E) vwCl (xW E σ) H) (hS : va_S (eA E) s.heap H locs) (hE : fX4_judge   σ = some F) : zWi E xW p l e r_X4_judge s m args below meth c F H locs (F0 m 0 ls []) := by
  obtain ⟨hx, hb, hml, hown, hts, hr, hlk, hK, hD⟩ := id C
  have hwX2 : ∀ w ∈ wsX20, w.before args s = true := fun w h => hts w (List.mem_cons_of_mem _ (List.mem_append_left _ (List.mem_append_left _ (List.mem_append_right _ h))))
  have hwX3 : ∀ w ∈ wsX30, w.before args s = true := fun w h => hts w (List.mem_cons_of_mem _ (List.mem_append_left _ (List.mem_append_right _ h)))
  have hwX4 : ∀ w ∈ wsX40, w.before args s = true := fun w h => hts w (List.mem_cons_of_mem _ (List.mem_append_left _ (List.mem_append_left _ (List.mem_append_left _ (List.mem_append_right _ h)))))
  unfold fX4_judge at hE
  refine lv_aload_n hx hb dX4_judge_0 rfl (lv_at hl 0 rfl) ?_
  refine xg_0_1 hx hb hown hwX4 (hts _ (List.mem_of_getElem? (i := 1) rfl)) hK hP dX4_judge_1 ?_
  refine xg_4_11 hx hb hown hwX2 (hts _ (List.mem_of_getElem? (i := 2) rfl)) hK hP dX4_judge_4 ?_
  refine z_if_ne (tgt := 17) hx hb dX4_judge_7 (by decide) hE (fun hE => ?_) (fun hE => ?_)
  · refine lv_aload_n hx hb dX4_judge_17 rfl (lv_at hl 0 rfl) ?_
    refine z_gov (wf := xW) hS hE (fun F1 h1 => (va_runV (As := []) (rest := []) ⟨hx, hb, hml, hown, hts⟩ (kX4_goByRow l E hD  σ F1 h1) (cwV 0 hts gX4_judge_X4_goByRow rfl rfl rfl q_X4_goByRow ⟨Nat.le_of_ble_eq_true rfl, Nat.le_of_ble_eq_true rfl⟩) (z_preV hK hP hS (ci := 4) (q0 := 0) rfl rfl rfl) rfl rfl hl.1 rfl (lv_room (Nat.le_of_ble_eq_true rfl)) dX4_judge_18 ⟨Nat.le_of_ble_eq_true rfl, Nat.le_of_ble_eq_true rfl⟩)) (fun σ_1 H locs hP hS hE => ?_)
    refine lv_aload_n hx hb dX4_judge_21 rfl (lv_at hl 0 rfl) ?_
    refine xg_0_0 hx hb hown hwX4 (hts _ (List.mem_of_getElem? (i := 3) rfl)) hK hP dX4_judge_22 ?_
    refine xg_1_11 hx hb hown hwX3 (hts _ (List.mem_of_getElem? (i := 4) rfl)) hK hP dX4_judge_25 ?_
    refine z_istore_n hx hb (fun x1_2 => [(1, .int x1_2), (0, .ref (ea E 0))]) dX4_judge_28 rfl hl (by decide) rfl hE (fun x1_2 ls hl hE => ?_)
    refine lv_iconst (v := 0) hx hb dX4_judge_29 (by decide) ?_
    refine z_istore_n hx hb (fun x2_3 => [(2, .int x2_3), (1, .int x1_2), (0, .ref (ea E 0))]) dX4_judge_30 rfl hl (by decide) rfl hE (fun x2_3 ls hl hE => ?_)
    refine wX4_judge_L31 C ?_ FU x1_2 x2_3 σ_1 _ _ _ (lv_sub hl [2, 1, 0] rfl) hP hS hE
    intro σ_8 H locs ls hl hP hS hE
    refine lv_bipush (v := -9) hx hb dX4_judge_68 (by decide) ?_
    exact z_iret hx hb hr hlk hP hS dX4_judge_70 hE
  refine lv_aload_n hx hb dX4_judge_10 rfl (lv_at hl 0 rfl) ?_
  refine lv_bipush (v := -3) hx hb dX4_judge_11 (by decide) ?_
  refine z_goi (wf := xW) hS hE (fun F1 h1 => (va_runV (As := [.int (-3)]) (rest := []) ⟨hx, hb, hml, hown, hts⟩ (kX4_refuse l E hD (-3) σ F1 h1) (cwV 1 hts gX4_judge_X4_refuse rfl rfl rfl q_X4_refuse ⟨Nat.le_of_ble_eq_true rfl, Nat.le_of_ble_eq_true rfl⟩) (z_preV hK hP hS (ci := 4) (q0 := 0) rfl rfl rfl) rfl rfl hl.1 rfl (lv_room (Nat.le_of_ble_eq_true rfl)) dX4_judge_13 ⟨Nat.le_of_ble_eq_true rfl, Nat.le_of_ble_eq_true rfl⟩)) (fun r_10 σ_9 H locs hP hS hE => ?_)
  exact z_iret hx hb hr hlk hP hS dX4_judge_16 hE
theorem kX4_judge (l : Launch) (E : EN) (hD : ∀ σ, va_D (eA E) (xW E σ))  (σ : ST) (F : Int32 × ST) (hE : fX4_judge  σ = some F) : Met l yX4_judge wsX4_judge r_X4_judge (zPc E xW [.ref (ea E 0)] σ) (zQi E xW F) 0 0 (eA E) := by
  refine Met.ofW (cc := cX4_judge) (maxL := 4) (ret := (some .int)) (by decide) rfl ?_
  intro p e s m args below meth c s₁ B hml hv
  obtain ⟨rfl, hP, hK⟩ := hv
  have hl := lv_entry ([.ref (ea E 0)]) (n := 4) (Nat.le_of_ble_eq_true rfl)
  rw [lg_entry_eq]
  generalize (lg_sl ([.ref (ea E 0)]) ++ List.replicate (4 - (lg_sl ([.ref (ea E 0)])).length) Slot.unset).toArray = ls at hl ⊢
  exact wX4_judge ⟨B.exec, B.bytes, hml, findClass_of_methodNamed B.named, atoms_spec (ws := wsX4_judge) B.pre, B.returns, B.notSynchronized, hK, hD⟩  σ s.heap [] ls hl hP va_S.rf hE
