def fX4_goByBest_L10 (ke : Int32 → Int32 → ST → Option (ST)) : Nat → Int32 → Int32 → Int32 → ST → Option (ST)
  | 0, _, _, _, _ => none
  | n + 1, x1, x2, x3, σ => (if x2 ≤ x3 then ke x1 x2 σ else ast σ 44 5 x3 x3 (fun σ_3 => bnd (x3 + 1) (fun x3_4 => fX4_goByBest_L10 ke n x1 x2 x3_4 σ_3)))
set_option maxHeartbeats 4000000 in
set_option maxRecDepth 100000 in
theorem wX4_goByBest_L10 {p : Program} {l : Launch} {e : Env} {s : State} {m : MethodId} {args : Array Value} {below : List Frame} {meth : Method} {c : Code} {E : EN} (C : zC E xW p s m args meth c cX4_goByBest 9 RX4 none wsX4_goByBest) {F : ST} {ke : Int32 → Int32 → ST → Option (ST)} (hke : ∀ (x1 : Int32) (x2 : Int32) (σ : ST) (H : Heap) (locs : List Loc) (ls : Array Slot), lv_has ls 9 [(0, .ref (ea E 0)), (1, .int x1), (2, .int x2)] → va_P (eD E) vwCl (xW E σ) H → va_S (eA E) s.heap H locs → ke x1 x2 σ = some F → zWv E xW p l e r_X4_goByBest s m args below meth c F H locs (F0 m 28 ls [])) : ∀ (n : Nat) (x1 : Int32) (x2 : Int32) (x3 : Int32) (σ : ST) (H : Heap) (locs : List Loc) (ls : Array Slot), lv_has ls 9 [(0, .ref (ea E 0)), (1, .int x1), (2, .int x2), (3, .int x3)] → va_P (eD E) vwCl (xW E σ) H → va_S (eA E) s.heap H locs → fX4_goByBest_L10 ke n x1 x2 x3 σ = some F → zWv E xW p l e r_X4_goByBest s m args below meth c F H locs (F0 m 10 ls []) := by
  obtain ⟨hx, hb, hml, hown, hts, hr, hlk, hK, hD⟩ := id C
  have hwX4 : ∀ w ∈ wsX40, w.before args s = true := fun w h => hts w (List.mem_cons_of_mem _ (List.mem_append_left _ (List.mem_append_left _ (List.mem_append_left _ (List.mem_append_right _ h)))))
  intro n
  induction n with
  | zero => intro x1 x2 x3 σ H locs ls hl hP hS hE; rw [fX4_goByBest_L10] at hE; cases hE
  | succ n ih =>
    intro x1 x2 x3 σ H locs ls hl hP hS hE
    rw [fX4_goByBest_L10] at hE
    refine lv_iload_n hx hb dX4_goByBest_10 rfl (lv_at hl 3 rfl) ?_
    refine lv_iload_n hx hb dX4_goByBest_11 rfl (lv_at hl 2 rfl) ?_
    refine z_icmp_ge (tgt := 28) hx hb dX4_goByBest_12 (by decide) hE (fun hE => ?_) (fun hE => ?_)
    · exact hke x1 x2 σ _ _ _ (lv_sub hl [0, 1, 2] rfl) hP hS hE
    refine lv_aload_n hx hb dX4_goByBest_15 rfl (lv_at hl 0 rfl) ?_
    refine xg_0_7 hx hb hown hwX4 (hts _ (List.mem_of_getElem? (i := 3) rfl)) hK hP dX4_goByBest_16 ?_
    refine lv_iload_n hx hb dX4_goByBest_19 rfl (lv_at hl 3 rfl) ?_
    refine lv_iload_n hx hb dX4_goByBest_20 rfl (lv_at hl 3 rfl) ?_
    refine xs_51 hx hb hK hD hP hS dX4_goByBest_21 hE (fun σ_3 H locs hP hS hE => ?_)
    refine z_iinc hx hb (v := (x3 + 1)) (k := 3) (fun x3_4 => [(3, .int x3_4), (0, .ref (ea E 0)), (1, .int x1), (2, .int x2)]) dX4_goByBest_22 hl rfl (by rfl) (by decide) rfl hE (fun x3_4 ls hl hE => ?_)
    refine lv_goto (tgt := 10) hx hb dX4_goByBest_25 (by decide) ?_
    exact ih x1 x2 x3_4 σ_3 _ _ _ (lv_sub hl [1, 2, 3, 0] rfl) hP hS hE
def fX4_goByBest_J86 (kb : Int32 → Int32 → Int64 → Int32 → Int32 → ST → Option (ST)) (x1 : Int32) (x2 : Int32) (x6 : Int32) (x7 : Int64) (σ : ST) : Option (ST) :=
  bnd (x7 : Int64) (fun x3_16 => cpy σ 44 5 0 45 5 0 x2 (fun σ_17 => cali (fX4_turnToNextOrder x2 σ_17) (fun r_19 σ_18 => bnd (r_19 : Int32) (fun x5_20 => bnd (x6 + 1) (fun x6_21 => kb x1 x2 x3_16 x5_20 x6_21 σ_18)))))
set_option maxHeartbeats 4000000 in
set_option maxRecDepth 100000 in
theorem wX4_goByBest_J86 {p : Program} {l : Launch} {e : Env} {s : State} {m : MethodId} {args : Array Value} {below : List Frame} {meth : Method} {c : Code} {E : EN} (C : zC E xW p s m args meth c cX4_goByBest 9 RX4 none wsX4_goByBest) {F : ST} {kb : Int32 → Int32 → Int64 → Int32 → Int32 → ST → Option (ST)} (hkb : ∀ (x1 : Int32) (x2 : Int32) (x3 : Int64) (x5 : Int32) (x6 : Int32) (σ : ST) (H : Heap) (locs : List Loc) (ls : Array Slot), lv_has ls 9 [(0, .ref (ea E 0)), (1, .int x1), (2, .int x2), (3, .long x3), (5, .int x5), (6, .int x6)] → va_P (eD E) vwCl (xW E σ) H → va_S (eA E) s.heap H locs → kb x1 x2 x3 x5 x6 σ = some F → zWv E xW p l e r_X4_goByBest s m args below meth c F H locs (F0 m 43 ls [])) (x1 : Int32) (x2 : Int32) (x6 : Int32) (x7 : Int64) (σ : ST) (H : Heap) (locs : List Loc) (ls : Array Slot) (hl : lv_has ls 9 [(0, .ref (ea E 0)), (1, .int x1), (2, .int x2), (6, .int x6), (7, .long x7)]) (hP : va_P (eD E) vwCl (xW E σ) H) (hS : va_S (eA E) s.heap H locs) (hE : fX4_goByBest_J86 kb x1 x2 x6 x7 σ = some F) : zWv E xW p l e r_X4_goByBest s m args below meth c F H locs (F0 m 86 ls []) := by
  obtain ⟨hx, hb, hml, hown, hts, hr, hlk, hK, hD⟩ := id C
  have hwX4 : ∀ w ∈ wsX40, w.before args s = true := fun w h => hts w (List.mem_cons_of_mem _ (List.mem_append_left _ (List.mem_append_left _ (List.mem_append_left _ (List.mem_append_right _ h)))))
  unfold fX4_goByBest_J86 at hE
  refine lv_lload hx hb dX4_goByBest_86 (lv_at hl 4 rfl) ?_
  refine z_lstore_n hx hb (fun x3_16 => [(3, .long x3_16), (0, .ref (ea E 0)), (1, .int x1), (2, .int x2), (6, .int x6), (7, .long x7)]) dX4_goByBest_88 rfl hl (by decide) rfl hE (fun x3_16 ls hl hE => ?_)
  refine lv_aload_n hx hb dX4_goByBest_89 rfl (lv_at hl 1 rfl) ?_
  refine xg_0_7 hx hb hown hwX4 (hts _ (List.mem_of_getElem? (i := 3) rfl)) hK hP dX4_goByBest_90 ?_
  refine lv_iconst (v := 0) hx hb dX4_goByBest_93 (by decide) ?_
  refine lv_aload_n hx hb dX4_goByBest_94 rfl (lv_at hl 1 rfl) ?_
  refine xg_0_8 hx hb hown hwX4 (hts _ (List.mem_of_getElem? (i := 5) rfl)) hK hP dX4_goByBest_95 ?_
  refine lv_iconst (v := 0) hx hb dX4_goByBest_98 (by decide) ?_
  refine lv_iload_n hx hb dX4_goByBest_99 rfl (lv_at hl 3 rfl) ?_
  refine xc_51_52 hx hb (hml.trans hl.1.symm) hown (hts _ (List.mem_of_getElem? (i := 6) rfl)) (hts _ (List.mem_of_getElem? (i := 7) rfl)) (hts _ (List.mem_of_getElem? (i := 8) rfl)) (hts _ (List.mem_of_getElem? (i := 9) rfl)) hK hD hP hS (Nat.le_of_ble_eq_true rfl) (Nat.le_of_ble_eq_true rfl) dX4_goByBest_100 hE (fun σ_17 H locs hP hS hE => ?_)
  refine lv_aload_n hx hb dX4_goByBest_103 rfl (lv_at hl 1 rfl) ?_
  refine lv_iload_n hx hb dX4_goByBest_104 rfl (lv_at hl 3 rfl) ?_
  refine z_goi (wf := xW) hS hE (fun F1 h1 => (va_runV (As := [.int x2]) (rest := []) ⟨hx, hb, hml, hown, hts⟩ (kX4_turnToNextOrder l E hD x2 σ_17 F1 h1) (cwV 1 hts gX4_goByBest_X4_turnToNextOrder rfl rfl rfl q_X4_turnToNextOrder ⟨Nat.le_of_ble_eq_true rfl, Nat.le_of_ble_eq_true rfl⟩) (z_preV hK hP hS (ci := 4) (q0 := 0) rfl rfl rfl) rfl rfl hl.1 rfl (lv_room (Nat.le_of_ble_eq_true rfl)) dX4_goByBest_105 ⟨Nat.le_of_ble_eq_true rfl, Nat.le_of_ble_eq_true rfl⟩)) (fun r_19 σ_18 H locs hP hS hE => ?_)
  refine z_istore hx hb (fun x5_20 => [(5, .int x5_20), (3, .long x3_16), (0, .ref (ea E 0)), (1, .int x1), (2, .int x2), (6, .int x6), (7, .long x7)]) dX4_goByBest_108 hl (by decide) rfl hE (fun x5_20 ls hl hE => ?_)
  refine z_iinc hx hb (v := (x6 + 1)) (k := 5) (fun x6_21 => [(6, .int x6_21), (5, .int x5_20), (3, .long x3_16), (0, .ref (ea E 0)), (1, .int x1), (2, .int x2), (7, .long x7)]) dX4_goByBest_110 hl rfl (by rfl) (by decide) rfl hE (fun x6_21 ls hl hE => ?_)
  refine lv_goto (tgt := 43) hx hb dX4_goByBest_113 (by decide) ?_
  exact hkb x1 x2 x3_16 x5_20 x6_21 σ_18 _ _ _ (lv_sub hl [3, 4, 5, 2, 1, 0] rfl) hP hS hE
def fX4_goByBest_L43 (ke : Int32 → ST → Option (ST)) : Nat → Int32 → Int32 → Int64 → Int32 → Int32 → ST → Option (ST)
  | 0, _, _, _, _, _, _ => none
  | n + 1, x1, x2, x3, x5, x6, σ => (if 120 ≤ x6 then ke x2 σ else (if x5 = 0 then ke x2 σ else calv (fX3_goBy_51 x2 σ) (fun σ_12 => call (fX4_ratingBy x1 σ_12) (fun r_14 σ_13 => bnd (r_14 : Int64) (fun x7_15 => (if x6 = 0 then fX4_goByBest_J86 (fX4_goByBest_L43 ke n) x1 x2 x6 x7_15 σ_13 else (if (lg_cmp x7_15 x3) ≤ 0 then cali (fX4_turnToNextOrder x2 σ_13) (fun r_23 σ_22 => bnd (r_23 : Int32) (fun x5_24 => bnd (x6 + 1) (fun x6_25 => fX4_goByBest_L43 ke n x1 x2 x3 x5_24 x6_25 σ_22))) else fX4_goByBest_J86 (fX4_goByBest_L43 ke n) x1 x2 x6 x7_15 σ_13)))))))
set_option maxHeartbeats 4000000 in
set_option maxRecDepth 100000 in
theorem wX4_goByBest_L43 {p : Program} {l : Launch} {e : Env} {s : State} {m : MethodId} {args : Array Value} {below : List Frame} {meth : Method} {c : Code} {E : EN} (C : zC E xW p s m args meth c cX4_goByBest 9 RX4 none wsX4_goByBest) {F : ST} {ke : Int32 → ST → Option (ST)} (hke : ∀ (x2 : Int32) (σ : ST) (H : Heap) (locs : List Loc) (ls : Array Slot), lv_has ls 9 [(0, .ref (ea E 0)), (2, .int x2)] → va_P (eD E) vwCl (xW E σ) H → va_S (eA E) s.heap H locs → ke x2 σ = some F → zWv E xW p l e r_X4_goByBest s m args below meth c F H locs (F0 m 116 ls [])) : ∀ (n : Nat) (x1 : Int32) (x2 : Int32) (x3 : Int64) (x5 : Int32) (x6 : Int32) (σ : ST) (H : Heap) (locs : List Loc) (ls : Array Slot), lv_has ls 9 [(0, .ref (ea E 0)), (1, .int x1), (2, .int x2), (3, .long x3), (5, .int x5), (6, .int x6)] → va_P (eD E) vwCl (xW E σ) H → va_S (eA E) s.heap H locs → fX4_goByBest_L43 ke n x1 x2 x3 x5 x6 σ = some F → zWv E xW p l e r_X4_goByBest s m args below meth c F H locs (F0 m 43 ls []) := by
  obtain ⟨hx, hb, hml, hown, hts, hr, hlk, hK, hD⟩ := id C
  have hwX4 : ∀ w ∈ wsX40, w.before args s = true := fun w h => hts w (List.mem_cons_of_mem _ (List.mem_append_left _ (List.mem_append_left _ (List.mem_append_left _ (List.mem_append_right _ h)))))
  intro n
  induction n with
  | zero => intro x1 x2 x3 x5 x6 σ H locs ls hl hP hS hE; rw [fX4_goByBest_L43] at hE; cases hE
  | succ n ih =>
    intro x1 x2 x3 x5 x6 σ H locs ls hl hP hS hE
    rw [fX4_goByBest_L43] at hE
    refine lv_iload hx hb dX4_goByBest_43 (lv_at hl 5 rfl) ?_
    refine lv_bipush (v := 120) hx hb dX4_goByBest_45 (by decide) ?_
    refine z_icmp_ge (tgt := 116) hx hb dX4_goByBest_47 (by decide) hE (fun hE => ?_) (fun hE => ?_)
    · exact hke x2 σ _ _ _ (lv_sub hl [0, 2] rfl) hP hS hE
    refine lv_iload hx hb dX4_goByBest_50 (lv_at hl 4 rfl) ?_
    refine z_if_eq (tgt := 116) hx hb dX4_goByBest_52 (by decide) hE (fun hE => ?_) (fun hE => ?_)
    · exact hke x2 σ _ _ _ (lv_sub hl [0, 2] rfl) hP hS hE
    refine lv_aload_n hx hb dX4_goByBest_55 rfl (lv_at hl 0 rfl) ?_
    refine xg_0_0 hx hb hown hwX4 (hts _ (List.mem_of_getElem? (i := 4) rfl)) hK hP dX4_goByBest_56 ?_
    refine lv_aload_n hx hb dX4_goByBest_59 rfl (lv_at hl 0 rfl) ?_
    refine xg_0_7 hx hb hown hwX4 (hts _ (List.mem_of_getElem? (i := 3) rfl)) hK hP dX4_goByBest_60 ?_
    refine lv_iload_n hx hb dX4_goByBest_63 rfl (lv_at hl 2 rfl) ?_
    refine z_gov (wf := xW) hS hE (fun F1 h1 => (va_runV (As := [.ref (ea E 51), .int x2]) (rest := []) ⟨hx, hb, hml, hown, hts⟩ (kX3_goBy_51 l E hD x2 σ F1 h1) (cwV 2 hts gX4_goByBest_X3_goBy rfl rfl rfl q_X3_goBy ⟨Nat.le_of_ble_eq_true rfl, Nat.le_of_ble_eq_true rfl⟩) (z_preV hK hP hS (ci := 3) (q0 := 1) rfl rfl rfl) rfl rfl hl.1 rfl (lv_room (Nat.le_of_ble_eq_true rfl)) dX4_goByBest_64 ⟨Nat.le_of_ble_eq_true rfl, Nat.le_of_ble_eq_true rfl⟩)) (fun σ_12 H locs hP hS hE => ?_)
    refine lv_aload_n hx hb dX4_goByBest_67 rfl (lv_at hl 0 rfl) ?_
    refine lv_iload_n hx hb dX4_goByBest_68 rfl (lv_at hl 1 rfl) ?_
    refine z_gol (wf := xW) hS hE (fun F1 h1 => (va_runV (As := [.int x1]) (rest := []) ⟨hx, hb, hml, hown, hts⟩ (kX4_ratingBy l E hD x1 σ_12 F1 h1) (cwV 1 hts gX4_goByBest_X4_ratingBy rfl rfl rfl q_X4_ratingBy ⟨Nat.le_of_ble_eq_true rfl, Nat.le_of_ble_eq_true rfl⟩) (z_preV hK hP hS (ci := 4) (q0 := 0) rfl rfl rfl) rfl rfl hl.1 rfl (lv_room (Nat.le_of_ble_eq_true rfl)) dX4_goByBest_69 ⟨Nat.le_of_ble_eq_true rfl, Nat.le_of_ble_eq_true rfl⟩)) (fun r_14 σ_13 H locs hP hS hE => ?_)
    refine z_lstore hx hb (fun x7_15 => [(7, .long x7_15), (0, .ref (ea E 0)), (1, .int x1), (2, .int x2), (3, .long x3), (5, .int x5), (6, .int x6)]) dX4_goByBest_72 hl (by decide) rfl hE (fun x7_15 ls hl hE => ?_)
    refine lv_iload hx hb dX4_goByBest_74 (lv_at hl 6 rfl) ?_
    refine z_if_eq (tgt := 86) hx hb dX4_goByBest_76 (by decide) hE (fun hE => ?_) (fun hE => ?_)
    · exact wX4_goByBest_J86 C ih x1 x2 x6 x7_15 σ_13 _ _ _ (lv_sub hl [1, 2, 3, 6, 0] rfl) hP hS hE
    refine lv_lload hx hb dX4_goByBest_79 (lv_at hl 0 rfl) ?_
    refine lv_lload_n hx hb dX4_goByBest_81 rfl (lv_at hl 4 rfl) ?_
    refine W.lcmp hx hb dX4_goByBest_82 ?_
    refine z_if_le (tgt := 103) hx hb dX4_goByBest_83 (by decide) hE (fun hE => ?_) (fun hE => ?_)
    · refine lv_aload_n hx hb dX4_goByBest_103 rfl (lv_at hl 1 rfl) ?_
      refine lv_iload_n hx hb dX4_goByBest_104 rfl (lv_at hl 3 rfl) ?_
      refine z_goi (wf := xW) hS hE (fun F1 h1 => (va_runV (As := [.int x2]) (rest := []) ⟨hx, hb, hml, hown, hts⟩ (kX4_turnToNextOrder l E hD x2 σ_13 F1 h1) (cwV 1 hts gX4_goByBest_X4_turnToNextOrder rfl rfl rfl q_X4_turnToNextOrder ⟨Nat.le_of_ble_eq_true rfl, Nat.le_of_ble_eq_true rfl⟩) (z_preV hK hP hS (ci := 4) (q0 := 0) rfl rfl rfl) rfl rfl hl.1 rfl (lv_room (Nat.le_of_ble_eq_true rfl)) dX4_goByBest_105 ⟨Nat.le_of_ble_eq_true rfl, Nat.le_of_ble_eq_true rfl⟩)) (fun r_23 σ_22 H locs hP hS hE => ?_)
      refine z_istore hx hb (fun x5_24 => [(5, .int x5_24), (7, .long x7_15), (0, .ref (ea E 0)), (1, .int x1), (2, .int x2), (3, .long x3), (6, .int x6)]) dX4_goByBest_108 hl (by decide) rfl hE (fun x5_24 ls hl hE => ?_)
      refine z_iinc hx hb (v := (x6 + 1)) (k := 6) (fun x6_25 => [(6, .int x6_25), (5, .int x5_24), (7, .long x7_15), (0, .ref (ea E 0)), (1, .int x1), (2, .int x2), (3, .long x3)]) dX4_goByBest_110 hl rfl (by rfl) (by decide) rfl hE (fun x6_25 ls hl hE => ?_)
      refine lv_goto (tgt := 43) hx hb dX4_goByBest_113 (by decide) ?_
      exact ih x1 x2 x3 x5_24 x6_25 σ_22 _ _ _ (lv_sub hl [3, 4, 5, 6, 1, 0] rfl) hP hS hE
    exact wX4_goByBest_J86 C ih x1 x2 x6 x7_15 σ_13 _ _ _ (lv_sub hl [1, 2, 3, 6, 0] rfl) hP hS hE
def fX4_goByBest  (x1 : Int32) (σ : ST) : Option (ST) :=
  bnd ((gI σ 5) : Int32) (fun x2_1 => bnd (0 : Int32) (fun x3_2 => fX4_goByBest_L10 (fun x1_5 x2_6 σ_7 => calv (fX3_supposeAsItIs σ_7) (fun σ_8 => bnd (0 : Int64) (fun x3_9 => bnd (1 : Int32) (fun x5_10 => bnd (0 : Int32) (fun x6_11 => fX4_goByBest_L43 (fun x2_26 σ_27 => calv (fX3_goBy_52 x2_26 σ_27) (fun σ_28 => some σ_28)) FU x1_5 x2_6 x3_9 x5_10 x6_11 σ_8))))) FU x1 x2_1 x3_2 σ))
set_option maxHeartbeats 4000000 in
set_option maxRecDepth 100000 in
theorem wX4_goByBest {p : Program} {l : Launch} {e : Env} {s : State} {m : MethodId} {args : Array Value} {below : List Frame} {meth : Method} {c : Code} {E : EN} (C : zC E xW p s m args meth c cX4_goByBest 9 RX4 none wsX4_goByBest) {F : ST}   (x1 : Int32) (σ : ST) (H : Heap) (locs : List Loc) (ls : Array Slot) (hl : lv_has ls 9 [(0, .ref (ea E 0)), (1, .int x1)]) (hP : va_P (eD E) vwCl (xW E σ) H) (hS : va_S (eA E) s.heap H locs) (hE : fX4_goByBest  x1 σ = some F) : zWv E xW p l e r_X4_goByBest s m args below meth c F H locs (F0 m 0 ls []) := by
  obtain ⟨hx, hb, hml, hown, hts, hr, hlk, hK, hD⟩ := id C
  have hwX2 : ∀ w ∈ wsX20, w.before args s = true := fun w h => hts w (List.mem_cons_of_mem _ (List.mem_append_left _ (List.mem_append_left _ (List.mem_append_right _ h))))
  have hwX4 : ∀ w ∈ wsX40, w.before args s = true := fun w h => hts w (List.mem_cons_of_mem _ (List.mem_append_left _ (List.mem_append_left _ (List.mem_append_left _ (List.mem_append_right _ h)))))
  unfold fX4_goByBest at hE
  refine lv_aload_n hx hb dX4_goByBest_0 rfl (lv_at hl 0 rfl) ?_
  refine xg_0_1 hx hb hown hwX4 (hts _ (List.mem_of_getElem? (i := 1) rfl)) hK hP dX4_goByBest_1 ?_
  refine xg_4_13 hx hb hown hwX2 (hts _ (List.mem_of_getElem? (i := 2) rfl)) hK hP dX4_goByBest_4 ?_
  refine z_istore_n hx hb (fun x2_1 => [(2, .int x2_1), (0, .ref (ea E 0)), (1, .int x1)]) dX4_goByBest_7 rfl hl (by decide) rfl hE (fun x2_1 ls hl hE => ?_)
  refine lv_iconst (v := 0) hx hb dX4_goByBest_8 (by decide) ?_
  refine z_istore_n hx hb (fun x3_2 => [(3, .int x3_2), (2, .int x2_1), (0, .ref (ea E 0)), (1, .int x1)]) dX4_goByBest_9 rfl hl (by decide) rfl hE (fun x3_2 ls hl hE => ?_)
  refine wX4_goByBest_L10 C ?_ FU x1 x2_1 x3_2 σ _ _ _ (lv_sub hl [2, 3, 1, 0] rfl) hP hS hE
  intro x1_5 x2_6 σ_7 H locs ls hl hP hS hE
  refine lv_aload_n hx hb dX4_goByBest_28 rfl (lv_at hl 0 rfl) ?_
  refine xg_0_0 hx hb hown hwX4 (hts _ (List.mem_of_getElem? (i := 4) rfl)) hK hP dX4_goByBest_29 ?_
  refine z_gov (wf := xW) hS hE (fun F1 h1 => (va_runV (As := []) (rest := []) ⟨hx, hb, hml, hown, hts⟩ (kX3_supposeAsItIs l E hD  σ_7 F1 h1) (cwV 0 hts gX4_goByBest_X3_supposeAsItIs rfl rfl rfl q_X3_supposeAsItIs ⟨Nat.le_of_ble_eq_true rfl, Nat.le_of_ble_eq_true rfl⟩) (z_preV hK hP hS (ci := 3) (q0 := 1) rfl rfl rfl) rfl rfl hl.1 rfl (lv_room (Nat.le_of_ble_eq_true rfl)) dX4_goByBest_32 ⟨Nat.le_of_ble_eq_true rfl, Nat.le_of_ble_eq_true rfl⟩)) (fun σ_8 H locs hP hS hE => ?_)
  refine lv_lconst (v := 0) hx hb dX4_goByBest_35 (by decide) ?_
  refine z_lstore_n hx hb (fun x3_9 => [(3, .long x3_9), (0, .ref (ea E 0)), (1, .int x1_5), (2, .int x2_6)]) dX4_goByBest_36 rfl hl (by decide) rfl hE (fun x3_9 ls hl hE => ?_)
  refine lv_iconst (v := 1) hx hb dX4_goByBest_37 (by decide) ?_
  refine z_istore hx hb (fun x5_10 => [(5, .int x5_10), (3, .long x3_9), (0, .ref (ea E 0)), (1, .int x1_5), (2, .int x2_6)]) dX4_goByBest_38 hl (by decide) rfl hE (fun x5_10 ls hl hE => ?_)
  refine lv_iconst (v := 0) hx hb dX4_goByBest_40 (by decide) ?_
  refine z_istore hx hb (fun x6_11 => [(6, .int x6_11), (5, .int x5_10), (3, .long x3_9), (0, .ref (ea E 0)), (1, .int x1_5), (2, .int x2_6)]) dX4_goByBest_41 hl (by decide) rfl hE (fun x6_11 ls hl hE => ?_)
  refine wX4_goByBest_L43 C ?_ FU x1_5 x2_6 x3_9 x5_10 x6_11 σ_8 _ _ _ (lv_sub hl [3, 4, 5, 2, 1, 0] rfl) hP hS hE
  intro x2_26 σ_27 H locs ls hl hP hS hE
  refine lv_aload_n hx hb dX4_goByBest_116 rfl (lv_at hl 0 rfl) ?_
  refine xg_0_0 hx hb hown hwX4 (hts _ (List.mem_of_getElem? (i := 4) rfl)) hK hP dX4_goByBest_117 ?_
  refine lv_aload_n hx hb dX4_goByBest_120 rfl (lv_at hl 0 rfl) ?_
  refine xg_0_8 hx hb hown hwX4 (hts _ (List.mem_of_getElem? (i := 5) rfl)) hK hP dX4_goByBest_121 ?_
  refine lv_iload_n hx hb dX4_goByBest_124 rfl (lv_at hl 1 rfl) ?_
  refine z_gov (wf := xW) hS hE (fun F1 h1 => (va_runV (As := [.ref (ea E 52), .int x2_26]) (rest := []) ⟨hx, hb, hml, hown, hts⟩ (kX3_goBy_52 l E hD x2_26 σ_27 F1 h1) (cwV 2 hts gX4_goByBest_X3_goBy rfl rfl rfl q_X3_goBy ⟨Nat.le_of_ble_eq_true rfl, Nat.le_of_ble_eq_true rfl⟩) (z_preV hK hP hS (ci := 3) (q0 := 1) rfl rfl rfl) rfl rfl hl.1 rfl (lv_room (Nat.le_of_ble_eq_true rfl)) dX4_goByBest_125 ⟨Nat.le_of_ble_eq_true rfl, Nat.le_of_ble_eq_true rfl⟩)) (fun σ_28 H locs hP hS hE => ?_)
  exact z_vret hx hb hr hlk hP hS dX4_goByBest_128 hE
theorem kX4_goByBest (l : Launch) (E : EN) (hD : ∀ σ, va_D (eA E) (xW E σ)) (x1 : Int32) (σ : ST) (F : ST) (hE : fX4_goByBest x1 σ = some F) : Met l yX4_goByBest wsX4_goByBest r_X4_goByBest (zPc E xW [.ref (ea E 0), .int x1] σ) (zQv E xW F) 0 0 (eA E) := by
  refine Met.ofW (cc := cX4_goByBest) (maxL := 9) (ret := none) (by decide) rfl ?_
  intro p e s m args below meth c s₁ B hml hv
  obtain ⟨rfl, hP, hK⟩ := hv
  have hl := lv_entry ([.ref (ea E 0), .int x1]) (n := 9) (Nat.le_of_ble_eq_true rfl)
  rw [lg_entry_eq]
  generalize (lg_sl ([.ref (ea E 0), .int x1]) ++ List.replicate (9 - (lg_sl ([.ref (ea E 0), .int x1])).length) Slot.unset).toArray = ls at hl ⊢
  exact wX4_goByBest ⟨B.exec, B.bytes, hml, findClass_of_methodNamed B.named, atoms_spec (ws := wsX4_goByBest) B.pre, B.returns, B.notSynchronized, hK, hD⟩ x1 σ s.heap [] ls hl hP va_S.rf hE
def fX4_best  (x1 : Int32) (x2 : Int32) (σ : ST) : Option (Int32 × ST) :=
  cali (fX4_refusalOfBest x1 σ) (fun r_2 σ_1 => bnd (r_2 : Int32) (fun x3_3 => (if 0 ≤ x3_3 then (if x2 < 0 then cali (fX4_refuse (-1) σ_1) (fun r_5 σ_4 => some (r_5, σ_4)) else (if x2 < (gI σ_1 5) then calv (fX4_goByBest x1 σ_1) (fun σ_6 => ald (gA σ_6 45) 5 x2 (fun v_7 => some (v_7, σ_6))) else cali (fX4_refuse (-1) σ_1) (fun r_9 σ_8 => some (r_9, σ_8)))) else cali (fX4_refuse x3_3 σ_1) (fun r_11 σ_10 => some (r_11, σ_10)))))
set_option maxHeartbeats 4000000 in
set_option maxRecDepth 100000 in
theorem wX4_best {p : Program} {l : Launch} {e : Env} {s : State} {m : MethodId} {args : Array Value} {below : List Frame} {meth : Method} {c : Code} {E : EN} (C : zC E xW p s m args meth c cX4_best 4 RX4 (some .int) wsX4_best) {F : Int32 × ST}   (x1 : Int32) (x2 : Int32) (σ : ST) (H : Heap) (locs : List Loc) (ls : Array Slot) (hl : lv_has ls 4 [(0, .ref (ea E 0)), (1, .int x1), (2, .int x2)]) (hP : va_P (eD E) vwCl (xW E σ) H) (hS : va_S (eA E) s.heap H locs) (hE : fX4_best  x1 x2 σ = some F) : zWi E xW p l e r_X4_best s m args below meth c F H locs (F0 m 0 ls []) := by
  obtain ⟨hx, hb, hml, hown, hts, hr, hlk, hK, hD⟩ := id C
  have hwX2 : ∀ w ∈ wsX20, w.before args s = true := fun w h => hts w (List.mem_cons_of_mem _ (List.mem_append_left _ (List.mem_append_left _ (List.mem_append_right _ h))))
  have hwX4 : ∀ w ∈ wsX40, w.before args s = true := fun w h => hts w (List.mem_cons_of_mem _ (List.mem_append_left _ (List.mem_append_left _ (List.mem_append_left _ (List.mem_append_right _ h)))))
  unfold fX4_best at hE
  refine lv_aload_n hx hb dX4_best_0 rfl (lv_at hl 0 rfl) ?_
  refine lv_iload_n hx hb dX4_best_1 rfl (lv_at hl 1 rfl) ?_
  refine z_goi (wf := xW) hS hE (fun F1 h1 => (va_runV (As := [.int x1]) (rest := []) ⟨hx, hb, hml, hown, hts⟩ (kX4_refusalOfBest l E hD x1 σ F1 h1) (cwV 1 hts gX4_best_X4_refusalOfBest rfl rfl rfl q_X4_refusalOfBest ⟨Nat.le_of_ble_eq_true rfl, Nat.le_of_ble_eq_true rfl⟩) (z_preV hK hP hS (ci := 4) (q0 := 0) rfl rfl rfl) rfl rfl hl.1 rfl (lv_room (Nat.le_of_ble_eq_true rfl)) dX4_best_2 ⟨Nat.le_of_ble_eq_true rfl, Nat.le_of_ble_eq_true rfl⟩)) (fun r_2 σ_1 H locs hP hS hE => ?_)
  refine z_istore_n hx hb (fun x3_3 => [(3, .int x3_3), (0, .ref (ea E 0)), (1, .int x1), (2, .int x2)]) dX4_best_5 rfl hl (by decide) rfl hE (fun x3_3 ls hl hE => ?_)
  refine lv_iload_n hx hb dX4_best_6 rfl (lv_at hl 0 rfl) ?_
  refine z_if_ge (tgt := 16) hx hb dX4_best_7 (by decide) hE (fun hE => ?_) (fun hE => ?_)
  · refine lv_iload_n hx hb dX4_best_16 rfl (lv_at hl 3 rfl) ?_
    refine z_if_lt (tgt := 31) hx hb dX4_best_17 (by decide) hE (fun hE => ?_) (fun hE => ?_)
    · refine lv_aload_n hx hb dX4_best_31 rfl (lv_at hl 1 rfl) ?_
      refine lv_iconst (v := -1) hx hb dX4_best_32 (by decide) ?_
      refine z_goi (wf := xW) hS hE (fun F1 h1 => (va_runV (As := [.int (-1)]) (rest := []) ⟨hx, hb, hml, hown, hts⟩ (kX4_refuse l E hD (-1) σ_1 F1 h1) (cwV 1 hts gX4_best_X4_refuse rfl rfl rfl q_X4_refuse ⟨Nat.le_of_ble_eq_true rfl, Nat.le_of_ble_eq_true rfl⟩) (z_preV hK hP hS (ci := 4) (q0 := 0) rfl rfl rfl) rfl rfl hl.1 rfl (lv_room (Nat.le_of_ble_eq_true rfl)) dX4_best_33 ⟨Nat.le_of_ble_eq_true rfl, Nat.le_of_ble_eq_true rfl⟩)) (fun r_5 σ_4 H locs hP hS hE => ?_)
      exact z_iret hx hb hr hlk hP hS dX4_best_36 hE
    refine lv_iload_n hx hb dX4_best_20 rfl (lv_at hl 3 rfl) ?_
    refine lv_aload_n hx hb dX4_best_21 rfl (lv_at hl 1 rfl) ?_
    refine xg_0_1 hx hb hown hwX4 (hts _ (List.mem_of_getElem? (i := 1) rfl)) hK hP dX4_best_22 ?_
    refine xg_4_13 hx hb hown hwX2 (hts _ (List.mem_of_getElem? (i := 2) rfl)) hK hP dX4_best_25 ?_
    refine z_icmp_lt (tgt := 37) hx hb dX4_best_28 (by decide) hE (fun hE => ?_) (fun hE => ?_)
    · refine lv_aload_n hx hb dX4_best_37 rfl (lv_at hl 1 rfl) ?_
      refine lv_iload_n hx hb dX4_best_38 rfl (lv_at hl 2 rfl) ?_
      refine z_gov (wf := xW) hS hE (fun F1 h1 => (va_runV (As := [.int x1]) (rest := []) ⟨hx, hb, hml, hown, hts⟩ (kX4_goByBest l E hD x1 σ_1 F1 h1) (cwV 1 hts gX4_best_X4_goByBest rfl rfl rfl q_X4_goByBest ⟨Nat.le_of_ble_eq_true rfl, Nat.le_of_ble_eq_true rfl⟩) (z_preV hK hP hS (ci := 4) (q0 := 0) rfl rfl rfl) rfl rfl hl.1 rfl (lv_room (Nat.le_of_ble_eq_true rfl)) dX4_best_39 ⟨Nat.le_of_ble_eq_true rfl, Nat.le_of_ble_eq_true rfl⟩)) (fun σ_6 H locs hP hS hE => ?_)
      refine lv_aload_n hx hb dX4_best_42 rfl (lv_at hl 1 rfl) ?_
      refine xg_0_8 hx hb hown hwX4 (hts _ (List.mem_of_getElem? (i := 3) rfl)) hK hP dX4_best_43 ?_
      refine lv_iload_n hx hb dX4_best_46 rfl (lv_at hl 3 rfl) ?_
      refine xa_52 hx hb hK hP dX4_best_47 hE (fun v_7 hE => ?_)
      exact z_iret hx hb hr hlk hP hS dX4_best_48 hE
    refine lv_aload_n hx hb dX4_best_31 rfl (lv_at hl 1 rfl) ?_
    refine lv_iconst (v := -1) hx hb dX4_best_32 (by decide) ?_
    refine z_goi (wf := xW) hS hE (fun F1 h1 => (va_runV (As := [.int (-1)]) (rest := []) ⟨hx, hb, hml, hown, hts⟩ (kX4_refuse l E hD (-1) σ_1 F1 h1) (cwV 1 hts gX4_best_X4_refuse rfl rfl rfl q_X4_refuse ⟨Nat.le_of_ble_eq_true rfl, Nat.le_of_ble_eq_true rfl⟩) (z_preV hK hP hS (ci := 4) (q0 := 0) rfl rfl rfl) rfl rfl hl.1 rfl (lv_room (Nat.le_of_ble_eq_true rfl)) dX4_best_33 ⟨Nat.le_of_ble_eq_true rfl, Nat.le_of_ble_eq_true rfl⟩)) (fun r_9 σ_8 H locs hP hS hE => ?_)
    exact z_iret hx hb hr hlk hP hS dX4_best_36 hE
  refine lv_aload_n hx hb dX4_best_10 rfl (lv_at hl 1 rfl) ?_
  refine lv_iload_n hx hb dX4_best_11 rfl (lv_at hl 0 rfl) ?_
  refine z_goi (wf := xW) hS hE (fun F1 h1 => (va_runV (As := [.int x3_3]) (rest := []) ⟨hx, hb, hml, hown, hts⟩ (kX4_refuse l E hD x3_3 σ_1 F1 h1) (cwV 1 hts gX4_best_X4_refuse rfl rfl rfl q_X4_refuse ⟨Nat.le_of_ble_eq_true rfl, Nat.le_of_ble_eq_true rfl⟩) (z_preV hK hP hS (ci := 4) (q0 := 0) rfl rfl rfl) rfl rfl hl.1 rfl (lv_room (Nat.le_of_ble_eq_true rfl)) dX4_best_12 ⟨Nat.le_of_ble_eq_true rfl, Nat.le_of_ble_eq_true rfl⟩)) (fun r_11 σ_10 H locs hP hS hE => ?_)
  exact z_iret hx hb hr hlk hP hS dX4_best_15 hE
theorem kX4_best (l : Launch) (E : EN) (hD : ∀ σ, va_D (eA E) (xW E σ)) (x1 : Int32) (x2 : Int32) (σ : ST) (F : Int32 × ST) (hE : fX4_best x1 x2 σ = some F) : Met l yX4_best wsX4_best r_X4_best (zPc E xW [.ref (ea E 0), .int x1, .int x2] σ) (zQi E xW F) 0 0 (eA E) := by
  refine Met.ofW (cc := cX4_best) (maxL := 4) (ret := (some .int)) (by decide) rfl ?_
  intro p e s m args below meth c s₁ B hml hv
  obtain ⟨rfl, hP, hK⟩ := hv
  have hl := lv_entry ([.ref (ea E 0), .int x1, .int x2]) (n := 4) (Nat.le_of_ble_eq_true rfl)
  rw [lg_entry_eq]
  generalize (lg_sl ([.ref (ea E 0), .int x1, .int x2]) ++ List.replicate (4 - (lg_sl ([.ref (ea E 0), .int x1, .int x2])).length) Slot.unset).toArray = ls at hl ⊢
  exact wX4_best ⟨B.exec, B.bytes, hml, findClass_of_methodNamed B.named, atoms_spec (ws := wsX4_best) B.pre, B.returns, B.notSynchronized, hK, hD⟩ x1 x2 σ s.heap [] ls hl hP va_S.rf hE
def fX4_bestMinutes  (x1 : Int32) (σ : ST) : Option (Int32 × ST) :=
  cali (fX4_refusalOfBest x1 σ) (fun r_2 σ_1 => bnd (r_2 : Int32) (fun x2_3 => (if 0 ≤ x2_3 then calv (fX4_goByBest x1 σ_1) (fun σ_4 => some ((gI σ_4 25), σ_4)) else cali (fX4_refuse x2_3 σ_1) (fun r_6 σ_5 => some (r_6, σ_5)))))
set_option maxHeartbeats 4000000 in
set_option maxRecDepth 100000 in
theorem wX4_bestMinutes {p : Program} {l : Launch} {e : Env} {s : State} {m : MethodId} {args : Array Value} {below : List Frame} {meth : Method} {c : Code} {E : EN} (C : zC E xW p s m args meth c cX4_bestMinutes 3 RX4 (some .int) wsX4_bestMinutes) {F : Int32 × ST}   (x1 : Int32) (σ : ST) (H : Heap) (locs : List Loc) (ls : Array Slot) (hl : lv_has ls 3 [(0, .ref (ea E 0)), (1, .int x1)]) (hP : va_P (eD E) vwCl (xW E σ) H) (hS : va_S (eA E) s.heap H locs) (hE : fX4_bestMinutes  x1 σ = some F) : zWi E xW p l e r_X4_bestMinutes s m args below meth c F H locs (F0 m 0 ls []) := by
  obtain ⟨hx, hb, hml, hown, hts, hr, hlk, hK, hD⟩ := id C
  have hwX3 : ∀ w ∈ wsX30, w.before args s = true := fun w h => hts w (List.mem_cons_of_mem _ (List.mem_append_left _ (List.mem_append_left _ (List.mem_append_right _ h))))
  have hwX4 : ∀ w ∈ wsX40, w.before args s = true := fun w h => hts w (List.mem_cons_of_mem _ (List.mem_append_left _ (List.mem_append_left _ (List.mem_append_left _ (List.mem_append_right _ h)))))
  unfold fX4_bestMinutes at hE
  refine lv_aload_n hx hb dX4_bestMinutes_0 rfl (lv_at hl 0 rfl) ?_
  refine lv_iload_n hx hb dX4_bestMinutes_1 rfl (lv_at hl 1 rfl) ?_
  refine z_goi (wf := xW) hS hE (fun F1 h1 => (va_runV (As := [.int x1]) (rest := []) ⟨hx, hb, hml, hown, hts⟩ (kX4_refusalOfBest l E hD x1 σ F1 h1) (cwV 1 hts gX4_bestMinutes_X4_refusalOfBest rfl rfl rfl q_X4_refusalOfBest ⟨Nat.le_of_ble_eq_true rfl, Nat.le_of_ble_eq_true rfl⟩) (z_preV hK hP hS (ci := 4) (q0 := 0) rfl rfl rfl) rfl rfl hl.1 rfl (lv_room (Nat.le_of_ble_eq_true rfl)) dX4_bestMinutes_2 ⟨Nat.le_of_ble_eq_true rfl, Nat.le_of_ble_eq_true rfl⟩)) (fun r_2 σ_1 H locs hP hS hE => ?_)
  refine z_istore_n hx hb (fun x2_3 => [(2, .int x2_3), (0, .ref (ea E 0)), (1, .int x1)]) dX4_bestMinutes_5 rfl hl (by decide) rfl hE (fun x2_3 ls hl hE => ?_)
  refine lv_iload_n hx hb dX4_bestMinutes_6 rfl (lv_at hl 0 rfl) ?_
  refine z_if_ge (tgt := 16) hx hb dX4_bestMinutes_7 (by decide) hE (fun hE => ?_) (fun hE => ?_)
  · refine lv_aload_n hx hb dX4_bestMinutes_16 rfl (lv_at hl 1 rfl) ?_
    refine lv_iload_n hx hb dX4_bestMinutes_17 rfl (lv_at hl 2 rfl) ?_
    refine z_gov (wf := xW) hS hE (fun F1 h1 => (va_runV (As := [.int x1]) (rest := []) ⟨hx, hb, hml, hown, hts⟩ (kX4_goByBest l E hD x1 σ_1 F1 h1) (cwV 1 hts gX4_bestMinutes_X4_goByBest rfl rfl rfl q_X4_goByBest ⟨Nat.le_of_ble_eq_true rfl, Nat.le_of_ble_eq_true rfl⟩) (z_preV hK hP hS (ci := 4) (q0 := 0) rfl rfl rfl) rfl rfl hl.1 rfl (lv_room (Nat.le_of_ble_eq_true rfl)) dX4_bestMinutes_18 ⟨Nat.le_of_ble_eq_true rfl, Nat.le_of_ble_eq_true rfl⟩)) (fun σ_4 H locs hP hS hE => ?_)
    refine lv_aload_n hx hb dX4_bestMinutes_21 rfl (lv_at hl 1 rfl) ?_
    refine xg_0_0 hx hb hown hwX4 (hts _ (List.mem_of_getElem? (i := 1) rfl)) hK hP dX4_bestMinutes_22 ?_
    refine xg_1_10 hx hb hown hwX3 (hts _ (List.mem_of_getElem? (i := 2) rfl)) hK hP dX4_bestMinutes_25 ?_
    exact z_iret hx hb hr hlk hP hS dX4_bestMinutes_28 hE
  refine lv_aload_n hx hb dX4_bestMinutes_10 rfl (lv_at hl 1 rfl) ?_
  refine lv_iload_n hx hb dX4_bestMinutes_11 rfl (lv_at hl 0 rfl) ?_
  refine z_goi (wf := xW) hS hE (fun F1 h1 => (va_runV (As := [.int x2_3]) (rest := []) ⟨hx, hb, hml, hown, hts⟩ (kX4_refuse l E hD x2_3 σ_1 F1 h1) (cwV 1 hts gX4_bestMinutes_X4_refuse rfl rfl rfl q_X4_refuse ⟨Nat.le_of_ble_eq_true rfl, Nat.le_of_ble_eq_true rfl⟩) (z_preV hK hP hS (ci := 4) (q0 := 0) rfl rfl rfl) rfl rfl hl.1 rfl (lv_room (Nat.le_of_ble_eq_true rfl)) dX4_bestMinutes_12 ⟨Nat.le_of_ble_eq_true rfl, Nat.le_of_ble_eq_true rfl⟩)) (fun r_6 σ_5 H locs hP hS hE => ?_)
  exact z_iret hx hb hr hlk hP hS dX4_bestMinutes_15 hE
theorem kX4_bestMinutes (l : Launch) (E : EN) (hD : ∀ σ, va_D (eA E) (xW E σ)) (x1 : Int32) (σ : ST) (F : Int32 × ST) (hE : fX4_bestMinutes x1 σ = some F) : Met l yX4_bestMinutes wsX4_bestMinutes r_X4_bestMinutes (zPc E xW [.ref (ea E 0), .int x1] σ) (zQi E xW F) 0 0 (eA E) := by
  refine Met.ofW (cc := cX4_bestMinutes) (maxL := 3) (ret := (some .int)) (by decide) rfl ?_
  intro p e s m args below meth c s₁ B hml hv
  obtain ⟨rfl, hP, hK⟩ := hv
  have hl := lv_entry ([.ref (ea E 0), .int x1]) (n := 3) (Nat.le_of_ble_eq_true rfl)
  rw [lg_entry_eq]
  generalize (lg_sl ([.ref (ea E 0), .int x1]) ++ List.replicate (3 - (lg_sl ([.ref (ea E 0), .int x1])).length) Slot.unset).toArray = ls at hl ⊢
  exact wX4_bestMinutes ⟨B.exec, B.bytes, hml, findClass_of_methodNamed B.named, atoms_spec (ws := wsX4_bestMinutes) B.pre, B.returns, B.notSynchronized, hK, hD⟩ x1 σ s.heap [] ls hl hP va_S.rf hE
def fX4_refusalOfBestPart  (x1 : Int32) (x2 : Int32) (σ : ST) : Option (Int32 × ST) :=
  (if x1 < 0 then some ((-2), σ) else (if x1 ≤ 2 then cali (fX4_refusalOfPart x2 σ) (fun r_2 σ_1 => some (r_2, σ_1)) else some ((-2), σ)))
set_option maxHeartbeats 4000000 in
set_option maxRecDepth 100000 in
theorem wX4_refusalOfBestPart {p : Program} {l : Launch} {e : Env} {s : State} {m : MethodId} {args : Array Value} {below : List Frame} {meth : Method} {c : Code} {E : EN} (C : zC E xW p s m args meth c cX4_refusalOfBestPart 3 RX4 (some .int) wsX4_refusalOfBestPart) {F : Int32 × ST}   (x1 : Int32) (x2 : Int32) (σ : ST) (H : Heap) (locs : List Loc) (ls : Array Slot) (hl : lv_has ls 3 [(0, .ref (ea E 0)), (1, .int x1), (2, .int x2)]) (hP : va_P (eD E) vwCl (xW E σ) H) (hS : va_S (eA E) s.heap H locs) (hE : fX4_refusalOfBestPart  x1 x2 σ = some F) : zWi E xW p l e r_X4_refusalOfBestPart s m args below meth c F H locs (F0 m 0 ls []) := by
  obtain ⟨hx, hb, hml, hown, hts, hr, hlk, hK, hD⟩ := id C
  unfold fX4_refusalOfBestPart at hE
  refine lv_iload_n hx hb dX4_refusalOfBestPart_0 rfl (lv_at hl 1 rfl) ?_
  refine z_if_lt (tgt := 9) hx hb dX4_refusalOfBestPart_1 (by decide) hE (fun hE => ?_) (fun hE => ?_)
  · refine lv_bipush (v := -2) hx hb dX4_refusalOfBestPart_9 (by decide) ?_
    exact z_iret hx hb hr hlk hP hS dX4_refusalOfBestPart_11 hE
  refine lv_iload_n hx hb dX4_refusalOfBestPart_4 rfl (lv_at hl 1 rfl) ?_
  refine lv_iconst (v := 2) hx hb dX4_refusalOfBestPart_5 (by decide) ?_
  refine z_icmp_le (tgt := 12) hx hb dX4_refusalOfBestPart_6 (by decide) hE (fun hE => ?_) (fun hE => ?_)
  · refine lv_aload_n hx hb dX4_refusalOfBestPart_12 rfl (lv_at hl 0 rfl) ?_
    refine lv_iload_n hx hb dX4_refusalOfBestPart_13 rfl (lv_at hl 2 rfl) ?_
    refine z_goi (wf := xW) hS hE (fun F1 h1 => (va_runV (As := [.int x2]) (rest := []) ⟨hx, hb, hml, hown, hts⟩ (kX4_refusalOfPart l E hD x2 σ F1 h1) (cwV 1 hts gX4_refusalOfBestPart_X4_refusalOfPart rfl rfl rfl q_X4_refusalOfPart ⟨Nat.le_of_ble_eq_true rfl, Nat.le_of_ble_eq_true rfl⟩) (z_preV hK hP hS (ci := 4) (q0 := 0) rfl rfl rfl) rfl rfl hl.1 rfl (lv_room (Nat.le_of_ble_eq_true rfl)) dX4_refusalOfBestPart_14 ⟨Nat.le_of_ble_eq_true rfl, Nat.le_of_ble_eq_true rfl⟩)) (fun r_2 σ_1 H locs hP hS hE => ?_)
    exact z_iret hx hb hr hlk hP hS dX4_refusalOfBestPart_17 hE
  refine lv_bipush (v := -2) hx hb dX4_refusalOfBestPart_9 (by decide) ?_
  exact z_iret hx hb hr hlk hP hS dX4_refusalOfBestPart_11 hE
theorem kX4_refusalOfBestPart (l : Launch) (E : EN) (hD : ∀ σ, va_D (eA E) (xW E σ)) (x1 : Int32) (x2 : Int32) (σ : ST) (F : Int32 × ST) (hE : fX4_refusalOfBestPart x1 x2 σ = some F) : Met l yX4_refusalOfBestPart wsX4_refusalOfBestPart r_X4_refusalOfBestPart (zPc E xW [.ref (ea E 0), .int x1, .int x2] σ) (zQi E xW F) 0 0 (eA E) := by
  refine Met.ofW (cc := cX4_refusalOfBestPart) (maxL := 3) (ret := (some .int)) (by decide) rfl ?_
  intro p e s m args below meth c s₁ B hml hv
  obtain ⟨rfl, hP, hK⟩ := hv
  have hl := lv_entry ([.ref (ea E 0), .int x1, .int x2]) (n := 3) (Nat.le_of_ble_eq_true rfl)
  rw [lg_entry_eq]
  generalize (lg_sl ([.ref (ea E 0), .int x1, .int x2]) ++ List.replicate (3 - (lg_sl ([.ref (ea E 0), .int x1, .int x2])).length) Slot.unset).toArray = ls at hl ⊢
  exact wX4_refusalOfBestPart ⟨B.exec, B.bytes, hml, findClass_of_methodNamed B.named, atoms_spec (ws := wsX4_refusalOfBestPart) B.pre, B.returns, B.notSynchronized, hK, hD⟩ x1 x2 σ s.heap [] ls hl hP va_S.rf hE
def fX4_bestLikely  (x1 : Int32) (x2 : Int32) (σ : ST) : Option (Int64 × ST) :=
  cali (fX4_refusalOfBestPart x1 x2 σ) (fun r_2 σ_1 => bnd (r_2 : Int32) (fun x3_3 => (if 0 ≤ x3_3 then calv (fX4_goByBest x1 σ_1) (fun σ_4 => call (fX4_partOf (gL σ_4 0) x2 σ_4) (fun r_6 σ_5 => some (r_6, σ_5))) else call (fX4_refuseLong x3_3 σ_1) (fun r_8 σ_7 => some (r_8, σ_7)))))
set_option maxHeartbeats 4000000 in
set_option maxRecDepth 100000 in
theorem wX4_bestLikely {p : Program} {l : Launch} {e : Env} {s : State} {m : MethodId} {args : Array Value} {below : List Frame} {meth : Method} {c : Code} {E : EN} (C : zC E xW p s m args meth c cX4_bestLikely 4 RX4 (some .long) wsX4_bestLikely) {F : Int64 × ST}   (x1 : Int32) (x2 : Int32) (σ : ST) (H : Heap) (locs : List Loc) (ls : Array Slot) (hl : lv_has ls 4 [(0, .ref (ea E 0)), (1, .int x1), (2, .int x2)]) (hP : va_P (eD E) vwCl (xW E σ) H) (hS : va_S (eA E) s.heap H locs) (hE : fX4_bestLikely  x1 x2 σ = some F) : zWl E xW p l e r_X4_bestLikely s m args below meth c F H locs (F0 m 0 ls []) := by
  obtain ⟨hx, hb, hml, hown, hts, hr, hlk, hK, hD⟩ := id C
  have hwX3 : ∀ w ∈ wsX30, w.before args s = true := fun w h => hts w (List.mem_cons_of_mem _ (List.mem_append_left _ (List.mem_append_left _ (List.mem_append_right _ h))))
  have hwX4 : ∀ w ∈ wsX40, w.before args s = true := fun w h => hts w (List.mem_cons_of_mem _ (List.mem_append_left _ (List.mem_append_left _ (List.mem_append_left _ (List.mem_append_right _ h)))))
  unfold fX4_bestLikely at hE
  refine lv_aload_n hx hb dX4_bestLikely_0 rfl (lv_at hl 0 rfl) ?_
  refine lv_iload_n hx hb dX4_bestLikely_1 rfl (lv_at hl 1 rfl) ?_
  refine lv_iload_n hx hb dX4_bestLikely_2 rfl (lv_at hl 2 rfl) ?_
  refine z_goi (wf := xW) hS hE (fun F1 h1 => (va_runV (As := [.int x1, .int x2]) (rest := []) ⟨hx, hb, hml, hown, hts⟩ (kX4_refusalOfBestPart l E hD x1 x2 σ F1 h1) (cwV 2 hts gX4_bestLikely_X4_refusalOfBestPart rfl rfl rfl q_X4_refusalOfBestPart ⟨Nat.le_of_ble_eq_true rfl, Nat.le_of_ble_eq_true rfl⟩) (z_preV hK hP hS (ci := 4) (q0 := 0) rfl rfl rfl) rfl rfl hl.1 rfl (lv_room (Nat.le_of_ble_eq_true rfl)) dX4_bestLikely_3 ⟨Nat.le_of_ble_eq_true rfl, Nat.le_of_ble_eq_true rfl⟩)) (fun r_2 σ_1 H locs hP hS hE => ?_)
  refine z_istore_n hx hb (fun x3_3 => [(3, .int x3_3), (0, .ref (ea E 0)), (1, .int x1), (2, .int x2)]) dX4_bestLikely_6 rfl hl (by decide) rfl hE (fun x3_3 ls hl hE => ?_)
  refine lv_iload_n hx hb dX4_bestLikely_7 rfl (lv_at hl 0 rfl) ?_
  refine z_if_ge (tgt := 17) hx hb dX4_bestLikely_8 (by decide) hE (fun hE => ?_) (fun hE => ?_)
  · refine lv_aload_n hx hb dX4_bestLikely_17 rfl (lv_at hl 1 rfl) ?_
    refine lv_iload_n hx hb dX4_bestLikely_18 rfl (lv_at hl 2 rfl) ?_
    refine z_gov (wf := xW) hS hE (fun F1 h1 => (va_runV (As := [.int x1]) (rest := []) ⟨hx, hb, hml, hown, hts⟩ (kX4_goByBest l E hD x1 σ_1 F1 h1) (cwV 1 hts gX4_bestLikely_X4_goByBest rfl rfl rfl q_X4_goByBest ⟨Nat.le_of_ble_eq_true rfl, Nat.le_of_ble_eq_true rfl⟩) (z_preV hK hP hS (ci := 4) (q0 := 0) rfl rfl rfl) rfl rfl hl.1 rfl (lv_room (Nat.le_of_ble_eq_true rfl)) dX4_bestLikely_19 ⟨Nat.le_of_ble_eq_true rfl, Nat.le_of_ble_eq_true rfl⟩)) (fun σ_4 H locs hP hS hE => ?_)
    refine lv_aload_n hx hb dX4_bestLikely_22 rfl (lv_at hl 1 rfl) ?_
    refine xg_0_0 hx hb hown hwX4 (hts _ (List.mem_of_getElem? (i := 1) rfl)) hK hP dX4_bestLikely_23 ?_
    refine xg_1_13 hx hb hown hwX3 (hts _ (List.mem_of_getElem? (i := 2) rfl)) hK hP dX4_bestLikely_26 ?_
    refine lv_iload_n hx hb dX4_bestLikely_29 rfl (lv_at hl 3 rfl) ?_
    refine z_gol (wf := xW) hS hE (fun F1 h1 => (va_runS (As := [.long (gL σ_4 0), .int x2]) (rest := []) ⟨hx, hb, hml, hown, hts⟩ (kX4_partOf l E hD (gL σ_4 0) x2 σ_4 F1 h1) (va_cwS 2 hts gX4_bestLikely_X4_partOf rfl rfl rfl q_X4_partOf ⟨Nat.le_of_ble_eq_true rfl, Nat.le_of_ble_eq_true rfl⟩) (z_preS hK hP hS) rfl rfl hl.1 rfl (lv_room (Nat.le_of_ble_eq_true rfl)) dX4_bestLikely_30 ⟨Nat.le_of_ble_eq_true rfl, Nat.le_of_ble_eq_true rfl⟩)) (fun r_6 σ_5 H locs hP hS hE => ?_)
    exact z_lret hx hb hr hlk hP hS dX4_bestLikely_33 hE
  refine lv_aload_n hx hb dX4_bestLikely_11 rfl (lv_at hl 1 rfl) ?_
  refine lv_iload_n hx hb dX4_bestLikely_12 rfl (lv_at hl 0 rfl) ?_
  refine z_gol (wf := xW) hS hE (fun F1 h1 => (va_runV (As := [.int x3_3]) (rest := []) ⟨hx, hb, hml, hown, hts⟩ (kX4_refuseLong l E hD x3_3 σ_1 F1 h1) (cwV 1 hts gX4_bestLikely_X4_refuseLong rfl rfl rfl q_X4_refuseLong ⟨Nat.le_of_ble_eq_true rfl, Nat.le_of_ble_eq_true rfl⟩) (z_preV hK hP hS (ci := 4) (q0 := 0) rfl rfl rfl) rfl rfl hl.1 rfl (lv_room (Nat.le_of_ble_eq_true rfl)) dX4_bestLikely_13 ⟨Nat.le_of_ble_eq_true rfl, Nat.le_of_ble_eq_true rfl⟩)) (fun r_8 σ_7 H locs hP hS hE => ?_)
  exact z_lret hx hb hr hlk hP hS dX4_bestLikely_16 hE
theorem kX4_bestLikely (l : Launch) (E : EN) (hD : ∀ σ, va_D (eA E) (xW E σ)) (x1 : Int32) (x2 : Int32) (σ : ST) (F : Int64 × ST) (hE : fX4_bestLikely x1 x2 σ = some F) : Met l yX4_bestLikely wsX4_bestLikely r_X4_bestLikely (zPc E xW [.ref (ea E 0), .int x1, .int x2] σ) (zQl E xW F) 0 0 (eA E) := by
  refine Met.ofW (cc := cX4_bestLikely) (maxL := 4) (ret := (some .long)) (by decide) rfl ?_
  intro p e s m args below meth c s₁ B hml hv
  obtain ⟨rfl, hP, hK⟩ := hv
  have hl := lv_entry ([.ref (ea E 0), .int x1, .int x2]) (n := 4) (Nat.le_of_ble_eq_true rfl)
  rw [lg_entry_eq]
  generalize (lg_sl ([.ref (ea E 0), .int x1, .int x2]) ++ List.replicate (4 - (lg_sl ([.ref (ea E 0), .int x1, .int x2])).length) Slot.unset).toArray = ls at hl ⊢
  exact wX4_bestLikely ⟨B.exec, B.bytes, hml, findClass_of_methodNamed B.named, atoms_spec (ws := wsX4_bestLikely) B.pre, B.returns, B.notSynchronized, hK, hD⟩ x1 x2 σ s.heap [] ls hl hP va_S.rf hE
def fX4_bestWorth  (x1 : Int32) (x2 : Int32) (σ : ST) : Option (Int64 × ST) :=
  cali (fX4_refusalOfBestPart x1 x2 σ) (fun r_2 σ_1 => bnd (r_2 : Int32) (fun x3_3 => (if 0 ≤ x3_3 then calv (fX4_goByBest x1 σ_1) (fun σ_4 => call (fX4_partOf (gL σ_4 1) x2 σ_4) (fun r_6 σ_5 => some (r_6, σ_5))) else call (fX4_refuseLong x3_3 σ_1) (fun r_8 σ_7 => some (r_8, σ_7)))))
set_option maxHeartbeats 4000000 in
set_option maxRecDepth 100000 in
theorem wX4_bestWorth {p : Program} {l : Launch} {e : Env} {s : State} {m : MethodId} {args : Array Value} {below : List Frame} {meth : Method} {c : Code} {E : EN} (C : zC E xW p s m args meth c cX4_bestWorth 4 RX4 (some .long) wsX4_bestWorth) {F : Int64 × ST}   (x1 : Int32) (x2 : Int32) (σ : ST) (H : Heap) (locs : List Loc) (ls : Array Slot) (hl : lv_has ls 4 [(0, .ref (ea E 0)), (1, .int x1), (2, .int x2)]) (hP : va_P (eD E) vwCl (xW E σ) H) (hS : va_S (eA E) s.heap H locs) (hE : fX4_bestWorth  x1 x2 σ = some F) : zWl E xW p l e r_X4_bestWorth s m args below meth c F H locs (F0 m 0 ls []) := by
  obtain ⟨hx, hb, hml, hown, hts, hr, hlk, hK, hD⟩ := id C
  have hwX3 : ∀ w ∈ wsX30, w.before args s = true := fun w h => hts w (List.mem_cons_of_mem _ (List.mem_append_left _ (List.mem_append_left _ (List.mem_append_right _ h))))
  have hwX4 : ∀ w ∈ wsX40, w.before args s = true := fun w h => hts w (List.mem_cons_of_mem _ (List.mem_append_left _ (List.mem_append_left _ (List.mem_append_left _ (List.mem_append_right _ h)))))
  unfold fX4_bestWorth at hE
  refine lv_aload_n hx hb dX4_bestWorth_0 rfl (lv_at hl 0 rfl) ?_
  refine lv_iload_n hx hb dX4_bestWorth_1 rfl (lv_at hl 1 rfl) ?_
  refine lv_iload_n hx hb dX4_bestWorth_2 rfl (lv_at hl 2 rfl) ?_
  refine z_goi (wf := xW) hS hE (fun F1 h1 => (va_runV (As := [.int x1, .int x2]) (rest := []) ⟨hx, hb, hml, hown, hts⟩ (kX4_refusalOfBestPart l E hD x1 x2 σ F1 h1) (cwV 2 hts gX4_bestWorth_X4_refusalOfBestPart rfl rfl rfl q_X4_refusalOfBestPart ⟨Nat.le_of_ble_eq_true rfl, Nat.le_of_ble_eq_true rfl⟩) (z_preV hK hP hS (ci := 4) (q0 := 0) rfl rfl rfl) rfl rfl hl.1 rfl (lv_room (Nat.le_of_ble_eq_true rfl)) dX4_bestWorth_3 ⟨Nat.le_of_ble_eq_true rfl, Nat.le_of_ble_eq_true rfl⟩)) (fun r_2 σ_1 H locs hP hS hE => ?_)
  refine z_istore_n hx hb (fun x3_3 => [(3, .int x3_3), (0, .ref (ea E 0)), (1, .int x1), (2, .int x2)]) dX4_bestWorth_6 rfl hl (by decide) rfl hE (fun x3_3 ls hl hE => ?_)
  refine lv_iload_n hx hb dX4_bestWorth_7 rfl (lv_at hl 0 rfl) ?_
  refine z_if_ge (tgt := 17) hx hb dX4_bestWorth_8 (by decide) hE (fun hE => ?_) (fun hE => ?_)
  · refine lv_aload_n hx hb dX4_bestWorth_17 rfl (lv_at hl 1 rfl) ?_
    refine lv_iload_n hx hb dX4_bestWorth_18 rfl (lv_at hl 2 rfl) ?_
    refine z_gov (wf := xW) hS hE (fun F1 h1 => (va_runV (As := [.int x1]) (rest := []) ⟨hx, hb, hml, hown, hts⟩ (kX4_goByBest l E hD x1 σ_1 F1 h1) (cwV 1 hts gX4_bestWorth_X4_goByBest rfl rfl rfl q_X4_goByBest ⟨Nat.le_of_ble_eq_true rfl, Nat.le_of_ble_eq_true rfl⟩) (z_preV hK hP hS (ci := 4) (q0 := 0) rfl rfl rfl) rfl rfl hl.1 rfl (lv_room (Nat.le_of_ble_eq_true rfl)) dX4_bestWorth_19 ⟨Nat.le_of_ble_eq_true rfl, Nat.le_of_ble_eq_true rfl⟩)) (fun σ_4 H locs hP hS hE => ?_)
    refine lv_aload_n hx hb dX4_bestWorth_22 rfl (lv_at hl 1 rfl) ?_
    refine xg_0_0 hx hb hown hwX4 (hts _ (List.mem_of_getElem? (i := 1) rfl)) hK hP dX4_bestWorth_23 ?_
    refine xg_1_14 hx hb hown hwX3 (hts _ (List.mem_of_getElem? (i := 2) rfl)) hK hP dX4_bestWorth_26 ?_
    refine lv_iload_n hx hb dX4_bestWorth_29 rfl (lv_at hl 3 rfl) ?_
    refine z_gol (wf := xW) hS hE (fun F1 h1 => (va_runS (As := [.long (gL σ_4 1), .int x2]) (rest := []) ⟨hx, hb, hml, hown, hts⟩ (kX4_partOf l E hD (gL σ_4 1) x2 σ_4 F1 h1) (va_cwS 2 hts gX4_bestWorth_X4_partOf rfl rfl rfl q_X4_partOf ⟨Nat.le_of_ble_eq_true rfl, Nat.le_of_ble_eq_true rfl⟩) (z_preS hK hP hS) rfl rfl hl.1 rfl (lv_room (Nat.le_of_ble_eq_true rfl)) dX4_bestWorth_30 ⟨Nat.le_of_ble_eq_true rfl, Nat.le_of_ble_eq_true rfl⟩)) (fun r_6 σ_5 H locs hP hS hE => ?_)
    exact z_lret hx hb hr hlk hP hS dX4_bestWorth_33 hE
  refine lv_aload_n hx hb dX4_bestWorth_11 rfl (lv_at hl 1 rfl) ?_
  refine lv_iload_n hx hb dX4_bestWorth_12 rfl (lv_at hl 0 rfl) ?_
  refine z_gol (wf := xW) hS hE (fun F1 h1 => (va_runV (As := [.int x3_3]) (rest := []) ⟨hx, hb, hml, hown, hts⟩ (kX4_refuseLong l E hD x3_3 σ_1 F1 h1) (cwV 1 hts gX4_bestWorth_X4_refuseLong rfl rfl rfl q_X4_refuseLong ⟨Nat.le_of_ble_eq_true rfl, Nat.le_of_ble_eq_true rfl⟩) (z_preV hK hP hS (ci := 4) (q0 := 0) rfl rfl rfl) rfl rfl hl.1 rfl (lv_room (Nat.le_of_ble_eq_true rfl)) dX4_bestWorth_13 ⟨Nat.le_of_ble_eq_true rfl, Nat.le_of_ble_eq_true rfl⟩)) (fun r_8 σ_7 H locs hP hS hE => ?_)
  exact z_lret hx hb hr hlk hP hS dX4_bestWorth_16 hE
theorem kX4_bestWorth (l : Launch) (E : EN) (hD : ∀ σ, va_D (eA E) (xW E σ)) (x1 : Int32) (x2 : Int32) (σ : ST) (F : Int64 × ST) (hE : fX4_bestWorth x1 x2 σ = some F) : Met l yX4_bestWorth wsX4_bestWorth r_X4_bestWorth (zPc E xW [.ref (ea E 0), .int x1, .int x2] σ) (zQl E xW F) 0 0 (eA E) := by
  refine Met.ofW (cc := cX4_bestWorth) (maxL := 4) (ret := (some .long)) (by decide) rfl ?_
  intro p e s m args below meth c s₁ B hml hv
  obtain ⟨rfl, hP, hK⟩ := hv
  have hl := lv_entry ([.ref (ea E 0), .int x1, .int x2]) (n := 4) (Nat.le_of_ble_eq_true rfl)
  rw [lg_entry_eq]
  generalize (lg_sl ([.ref (ea E 0), .int x1, .int x2]) ++ List.replicate (4 - (lg_sl ([.ref (ea E 0), .int x1, .int x2])).length) Slot.unset).toArray = ls at hl ⊢
  exact wX4_bestWorth ⟨B.exec, B.bytes, hml, findClass_of_methodNamed B.named, atoms_spec (ws := wsX4_bestWorth) B.pre, B.returns, B.notSynchronized, hK, hD⟩ x1 x2 σ s.heap [] ls hl hP va_S.rf hE
def fX4_sure_L28 (ke : Int32 → ST → Option (Int32 × ST)) : Nat → Int32 → Int32 → ST → Option (Int32 × ST)
  | 0, _, _, _ => none
  | n + 1, x1, x2, σ => (if (gI σ 5) ≤ x2 then ke x1 σ else ast σ 44 5 0 x2 (fun σ_4 => calv (fX3_goBy_51 1 σ_4) (fun σ_5 => (if (lg_cmp (gL σ_5 0) 1000000000000) = 0 then bnd ((x1 ||| (gI σ_5 26)) : Int32) (fun x1_7 => bnd (x2 + 1) (fun x2_8 => fX4_sure_L28 ke n x1_7 x2_8 σ_5)) else bnd (x2 + 1) (fun x2_6 => fX4_sure_L28 ke n x1 x2_6 σ_5)))))
set_option maxHeartbeats 4000000 in
set_option maxRecDepth 100000 in
theorem wX4_sure_L28 {p : Program} {l : Launch} {e : Env} {s : State} {m : MethodId} {args : Array Value} {below : List Frame} {meth : Method} {c : Code} {E : EN} (C : zC E xW p s m args meth c cX4_sure 3 RX4 (some .int) wsX4_sure) {F : Int32 × ST} {ke : Int32 → ST → Option (Int32 × ST)} (hke : ∀ (x1 : Int32) (σ : ST) (H : Heap) (locs : List Loc) (ls : Array Slot), lv_has ls 3 [(1, .int x1)] → va_P (eD E) vwCl (xW E σ) H → va_S (eA E) s.heap H locs → ke x1 σ = some F → zWi E xW p l e r_X4_sure s m args below meth c F H locs (F0 m 88 ls [])) : ∀ (n : Nat) (x1 : Int32) (x2 : Int32) (σ : ST) (H : Heap) (locs : List Loc) (ls : Array Slot), lv_has ls 3 [(0, .ref (ea E 0)), (1, .int x1), (2, .int x2)] → va_P (eD E) vwCl (xW E σ) H → va_S (eA E) s.heap H locs → fX4_sure_L28 ke n x1 x2 σ = some F → zWi E xW p l e r_X4_sure s m args below meth c F H locs (F0 m 28 ls []) := by
  obtain ⟨hx, hb, hml, hown, hts, hr, hlk, hK, hD⟩ := id C
  have hwX2 : ∀ w ∈ wsX20, w.before args s = true := fun w h => hts w (List.mem_cons_of_mem _ (List.mem_append_left _ (List.mem_append_left _ (List.mem_append_right _ h))))
  have hwX3 : ∀ w ∈ wsX30, w.before args s = true := fun w h => hts w (List.mem_cons_of_mem _ (List.mem_append_left _ (List.mem_append_right _ h)))
  have hwX4 : ∀ w ∈ wsX40, w.before args s = true := fun w h => hts w (List.mem_cons_of_mem _ (List.mem_append_left _ (List.mem_append_left _ (List.mem_append_left _ (List.mem_append_right _ h)))))
  intro n
  induction n with
  | zero => intro x1 x2 σ H locs ls hl hP hS hE; rw [fX4_sure_L28] at hE; cases hE
  | succ n ih =>
    intro x1 x2 σ H locs ls hl hP hS hE
    rw [fX4_sure_L28] at hE
    refine lv_iload_n hx hb dX4_sure_28 rfl (lv_at hl 2 rfl) ?_
    refine lv_aload_n hx hb dX4_sure_29 rfl (lv_at hl 0 rfl) ?_
    refine xg_0_1 hx hb hown hwX4 (hts _ (List.mem_of_getElem? (i := 1) rfl)) hK hP dX4_sure_30 ?_
    refine xg_4_13 hx hb hown hwX2 (hts _ (List.mem_of_getElem? (i := 4) rfl)) hK hP dX4_sure_33 ?_
    refine z_icmp_ge (tgt := 88) hx hb dX4_sure_36 (by decide) hE (fun hE => ?_) (fun hE => ?_)
    · exact hke x1 σ _ _ _ (lv_sub hl [1] rfl) hP hS hE
    refine lv_aload_n hx hb dX4_sure_39 rfl (lv_at hl 0 rfl) ?_
    refine xg_0_7 hx hb hown hwX4 (hts _ (List.mem_of_getElem? (i := 5) rfl)) hK hP dX4_sure_40 ?_
    refine lv_iconst (v := 0) hx hb dX4_sure_43 (by decide) ?_
    refine lv_iload_n hx hb dX4_sure_44 rfl (lv_at hl 2 rfl) ?_
    refine xs_51 hx hb hK hD hP hS dX4_sure_45 hE (fun σ_4 H locs hP hS hE => ?_)
    refine lv_aload_n hx hb dX4_sure_46 rfl (lv_at hl 0 rfl) ?_
    refine xg_0_0 hx hb hown hwX4 (hts _ (List.mem_of_getElem? (i := 3) rfl)) hK hP dX4_sure_47 ?_
    refine lv_aload_n hx hb dX4_sure_50 rfl (lv_at hl 0 rfl) ?_
    refine xg_0_7 hx hb hown hwX4 (hts _ (List.mem_of_getElem? (i := 5) rfl)) hK hP dX4_sure_51 ?_
    refine lv_iconst (v := 1) hx hb dX4_sure_54 (by decide) ?_
    refine z_gov (wf := xW) hS hE (fun F1 h1 => (va_runV (As := [.ref (ea E 51), .int 1]) (rest := []) ⟨hx, hb, hml, hown, hts⟩ (kX3_goBy_51 l E hD 1 σ_4 F1 h1) (cwV 2 hts gX4_sure_X3_goBy rfl rfl rfl q_X3_goBy ⟨Nat.le_of_ble_eq_true rfl, Nat.le_of_ble_eq_true rfl⟩) (z_preV hK hP hS (ci := 3) (q0 := 1) rfl rfl rfl) rfl rfl hl.1 rfl (lv_room (Nat.le_of_ble_eq_true rfl)) dX4_sure_55 ⟨Nat.le_of_ble_eq_true rfl, Nat.le_of_ble_eq_true rfl⟩)) (fun σ_5 H locs hP hS hE => ?_)
    refine lv_aload_n hx hb dX4_sure_58 rfl (lv_at hl 0 rfl) ?_
    refine xg_0_0 hx hb hown hwX4 (hts _ (List.mem_of_getElem? (i := 3) rfl)) hK hP dX4_sure_59 ?_
    refine xg_1_13 hx hb hown hwX3 (hts _ (List.mem_of_getElem? (i := 6) rfl)) hK hP dX4_sure_62 ?_
    refine lv_ldc2 (v := 1000000000000) hx hb hown (hts _ (List.mem_of_getElem? (i := 7) rfl)) dX4_sure_65 ?_
    refine W.lcmp hx hb dX4_sure_68 ?_
    refine z_if_ne (tgt := 82) hx hb dX4_sure_69 (by decide) hE (fun hE => ?_) (fun hE => ?_)
    · refine z_iinc hx hb (v := (x2 + 1)) (k := 2) (fun x2_6 => [(2, .int x2_6), (0, .ref (ea E 0)), (1, .int x1)]) dX4_sure_82 hl rfl (by rfl) (by decide) rfl hE (fun x2_6 ls hl hE => ?_)
      refine lv_goto (tgt := 28) hx hb dX4_sure_85 (by decide) ?_
      exact ih x1 x2_6 σ_5 _ _ _ (lv_sub hl [1, 2, 0] rfl) hP hS hE
    refine lv_iload_n hx hb dX4_sure_72 rfl (lv_at hl 1 rfl) ?_
    refine lv_aload_n hx hb dX4_sure_73 rfl (lv_at hl 0 rfl) ?_
    refine xg_0_0 hx hb hown hwX4 (hts _ (List.mem_of_getElem? (i := 3) rfl)) hK hP dX4_sure_74 ?_
    refine xg_1_11 hx hb hown hwX3 (hts _ (List.mem_of_getElem? (i := 8) rfl)) hK hP dX4_sure_77 ?_
    refine lv_ior hx hb dX4_sure_80 ?_
    refine z_istore_n hx hb (fun x1_7 => [(1, .int x1_7), (0, .ref (ea E 0)), (2, .int x2)]) dX4_sure_81 rfl hl (by decide) rfl hE (fun x1_7 ls hl hE => ?_)
    refine z_iinc hx hb (v := (x2 + 1)) (k := 2) (fun x2_8 => [(2, .int x2_8), (1, .int x1_7), (0, .ref (ea E 0))]) dX4_sure_82 hl rfl (by rfl) (by decide) rfl hE (fun x2_8 ls hl hE => ?_)
    refine lv_goto (tgt := 28) hx hb dX4_sure_85 (by decide) ?_
    exact ih x1_7 x2_8 σ_5 _ _ _ (lv_sub hl [2, 1, 0] rfl) hP hS hE
def fX4_sure   (σ : ST) : Option (Int32 × ST) :=
  (if (gI σ 3) = 0 then cali (fX4_refuse (-3) σ) (fun r_12 σ_11 => some (r_12, σ_11)) else calv (fX3_supposeAsItIs σ) (fun σ_1 => bnd (0 : Int32) (fun x1_2 => bnd (0 : Int32) (fun x2_3 => fX4_sure_L28 (fun x1_9 σ_10 => some (x1_9, σ_10)) FU x1_2 x2_3 σ_1))))
set_option maxHeartbeats 4000000 in
set_option maxRecDepth 100000 in
theorem wX4_sure {p : Program} {l : Launch} {e : Env} {s : State} {m : MethodId} {args : Array Value} {below : List Frame} {meth : Method} {c : Code} {E : EN} (C : zC E xW p s m args meth c cX4_sure 3 RX4 (some .int) wsX4_sure) {F : Int32 × ST}    (σ : ST) (H : Heap) (locs : List Loc) (ls : Array Slot) (hl : lv_has ls 3 [(0, .ref (ea E 0))]) (hP : va_P (eD E) vwCl (xW E σ) H) (hS : va_S (eA E) s.heap H locs) (hE : fX4_sure   σ = some F) : zWi E xW p l e r_X4_sure s m args below meth c F H locs (F0 m 0 ls []) := by
  obtain ⟨hx, hb, hml, hown, hts, hr, hlk, hK, hD⟩ := id C
  have hwX2 : ∀ w ∈ wsX20, w.before args s = true := fun w h => hts w (List.mem_cons_of_mem _ (List.mem_append_left _ (List.mem_append_left _ (List.mem_append_right _ h))))
  have hwX4 : ∀ w ∈ wsX40, w.before args s = true := fun w h => hts w (List.mem_cons_of_mem _ (List.mem_append_left _ (List.mem_append_left _ (List.mem_append_left _ (List.mem_append_right _ h)))))
  unfold fX4_sure at hE
  refine lv_aload_n hx hb dX4_sure_0 rfl (lv_at hl 0 rfl) ?_
  refine xg_0_1 hx hb hown hwX4 (hts _ (List.mem_of_getElem? (i := 1) rfl)) hK hP dX4_sure_1 ?_
  refine xg_4_11 hx hb hown hwX2 (hts _ (List.mem_of_getElem? (i := 2) rfl)) hK hP dX4_sure_4 ?_
  refine z_if_ne (tgt := 17) hx hb dX4_sure_7 (by decide) hE (fun hE => ?_) (fun hE => ?_)
  · refine lv_aload_n hx hb dX4_sure_17 rfl (lv_at hl 0 rfl) ?_
    refine xg_0_0 hx hb hown hwX4 (hts _ (List.mem_of_getElem? (i := 3) rfl)) hK hP dX4_sure_18 ?_
    refine z_gov (wf := xW) hS hE (fun F1 h1 => (va_runV (As := []) (rest := []) ⟨hx, hb, hml, hown, hts⟩ (kX3_supposeAsItIs l E hD  σ F1 h1) (cwV 0 hts gX4_sure_X3_supposeAsItIs rfl rfl rfl q_X3_supposeAsItIs ⟨Nat.le_of_ble_eq_true rfl, Nat.le_of_ble_eq_true rfl⟩) (z_preV hK hP hS (ci := 3) (q0 := 1) rfl rfl rfl) rfl rfl hl.1 rfl (lv_room (Nat.le_of_ble_eq_true rfl)) dX4_sure_21 ⟨Nat.le_of_ble_eq_true rfl, Nat.le_of_ble_eq_true rfl⟩)) (fun σ_1 H locs hP hS hE => ?_)
    refine lv_iconst (v := 0) hx hb dX4_sure_24 (by decide) ?_
    refine z_istore_n hx hb (fun x1_2 => [(1, .int x1_2), (0, .ref (ea E 0))]) dX4_sure_25 rfl hl (by decide) rfl hE (fun x1_2 ls hl hE => ?_)
    refine lv_iconst (v := 0) hx hb dX4_sure_26 (by decide) ?_
    refine z_istore_n hx hb (fun x2_3 => [(2, .int x2_3), (1, .int x1_2), (0, .ref (ea E 0))]) dX4_sure_27 rfl hl (by decide) rfl hE (fun x2_3 ls hl hE => ?_)
    refine wX4_sure_L28 C ?_ FU x1_2 x2_3 σ_1 _ _ _ (lv_sub hl [2, 1, 0] rfl) hP hS hE
    intro x1_9 σ_10 H locs ls hl hP hS hE
    refine lv_iload_n hx hb dX4_sure_88 rfl (lv_at hl 0 rfl) ?_
    exact z_iret hx hb hr hlk hP hS dX4_sure_89 hE
  refine lv_aload_n hx hb dX4_sure_10 rfl (lv_at hl 0 rfl) ?_
  refine lv_bipush (v := -3) hx hb dX4_sure_11 (by decide) ?_
  refine z_goi (wf := xW) hS hE (fun F1 h1 => (va_runV (As := [.int (-3)]) (rest := []) ⟨hx, hb, hml, hown, hts⟩ (kX4_refuse l E hD (-3) σ F1 h1) (cwV 1 hts gX4_sure_X4_refuse rfl rfl rfl q_X4_refuse ⟨Nat.le_of_ble_eq_true rfl, Nat.le_of_ble_eq_true rfl⟩) (z_preV hK hP hS (ci := 4) (q0 := 0) rfl rfl rfl) rfl rfl hl.1 rfl (lv_room (Nat.le_of_ble_eq_true rfl)) dX4_sure_13 ⟨Nat.le_of_ble_eq_true rfl, Nat.le_of_ble_eq_true rfl⟩)) (fun r_12 σ_11 H locs hP hS hE => ?_)
  exact z_iret hx hb hr hlk hP hS dX4_sure_16 hE
theorem kX4_sure (l : Launch) (E : EN) (hD : ∀ σ, va_D (eA E) (xW E σ))  (σ : ST) (F : Int32 × ST) (hE : fX4_sure  σ = some F) : Met l yX4_sure wsX4_sure r_X4_sure (zPc E xW [.ref (ea E 0)] σ) (zQi E xW F) 0 0 (eA E) := by
  refine Met.ofW (cc := cX4_sure) (maxL := 3) (ret := (some .int)) (by decide) rfl ?_
  intro p e s m args below meth c s₁ B hml hv
  obtain ⟨rfl, hP, hK⟩ := hv
  have hl := lv_entry ([.ref (ea E 0)]) (n := 3) (Nat.le_of_ble_eq_true rfl)
  rw [lg_entry_eq]
  generalize (lg_sl ([.ref (ea E 0)]) ++ List.replicate (3 - (lg_sl ([.ref (ea E 0)])).length) Slot.unset).toArray = ls at hl ⊢
  exact wX4_sure ⟨B.exec, B.bytes, hml, findClass_of_methodNamed B.named, atoms_spec (ws := wsX4_sure) B.pre, B.returns, B.notSynchronized, hK, hD⟩  σ s.heap [] ls hl hP va_S.rf hE
def fX4_bestDriver_L38 (ke : Int32 → ST → Option (Int32 × ST)) : Nat → Int32 → Int32 → Int64 → Int32 → ST → Option (Int32 × ST)
  | 0, _, _, _, _, _ => none
  | n + 1, x1, x2, x3, x5, σ => (if 5 < x5 then ke x2 σ else bnd (sI σ 23 x5) (fun σ_8 => calv (fX3_goBy_51 x1 σ_8) (fun σ_9 => (if x5 = 0 then bnd (x5 : Int32) (fun x2_10 => bnd ((gL σ_9 1) : Int64) (fun x3_11 => bnd (x5 + 1) (fun x5_12 => fX4_bestDriver_L38 ke n x1 x2_10 x3_11 x5_12 σ_9))) else (if (lg_cmp (gL σ_9 1) x3) ≤ 0 then bnd (x5 + 1) (fun x5_13 => fX4_bestDriver_L38 ke n x1 x2 x3 x5_13 σ_9) else bnd (x5 : Int32) (fun x2_14 => bnd ((gL σ_9 1) : Int64) (fun x3_15 => bnd (x5 + 1) (fun x5_16 => fX4_bestDriver_L38 ke n x1 x2_14 x3_15 x5_16 σ_9))))))))
set_option maxHeartbeats 4000000 in
set_option maxRecDepth 100000 in
theorem wX4_bestDriver_L38 {p : Program} {l : Launch} {e : Env} {s : State} {m : MethodId} {args : Array Value} {below : List Frame} {meth : Method} {c : Code} {E : EN} (C : zC E xW p s m args meth c cX4_bestDriver 6 RX4 (some .int) wsX4_bestDriver) {F : Int32 × ST} {ke : Int32 → ST → Option (Int32 × ST)} (hke : ∀ (x2 : Int32) (σ : ST) (H : Heap) (locs : List Loc) (ls : Array Slot), lv_has ls 6 [(2, .int x2)] → va_P (eD E) vwCl (xW E σ) H → va_S (eA E) s.heap H locs → ke x2 σ = some F → zWi E xW p l e r_X4_bestDriver s m args below meth c F H locs (F0 m 99 ls [])) : ∀ (n : Nat) (x1 : Int32) (x2 : Int32) (x3 : Int64) (x5 : Int32) (σ : ST) (H : Heap) (locs : List Loc) (ls : Array Slot), lv_has ls 6 [(0, .ref (ea E 0)), (1, .int x1), (2, .int x2), (3, .long x3), (5, .int x5)] → va_P (eD E) vwCl (xW E σ) H → va_S (eA E) s.heap H locs → fX4_bestDriver_L38 ke n x1 x2 x3 x5 σ = some F → zWi E xW p l e r_X4_bestDriver s m args below meth c F H locs (F0 m 38 ls []) := by
  obtain ⟨hx, hb, hml, hown, hts, hr, hlk, hK, hD⟩ := id C
  have hwX3 : ∀ w ∈ wsX30, w.before args s = true := fun w h => hts w (List.mem_cons_of_mem _ (List.mem_append_left _ (List.mem_append_right _ h)))
  have hwX4 : ∀ w ∈ wsX40, w.before args s = true := fun w h => hts w (List.mem_cons_of_mem _ (List.mem_append_left _ (List.mem_append_left _ (List.mem_append_left _ (List.mem_append_right _ h)))))
  intro n
  induction n with
  | zero => intro x1 x2 x3 x5 σ H locs ls hl hP hS hE; rw [fX4_bestDriver_L38] at hE; cases hE
  | succ n ih =>
    intro x1 x2 x3 x5 σ H locs ls hl hP hS hE
    rw [fX4_bestDriver_L38] at hE
    refine lv_iload hx hb dX4_bestDriver_38 (lv_at hl 4 rfl) ?_
    refine lv_iconst (v := 5) hx hb dX4_bestDriver_40 (by decide) ?_
    refine z_icmp_gt (tgt := 99) hx hb dX4_bestDriver_41 (by decide) hE (fun hE => ?_) (fun hE => ?_)
    · exact hke x2 σ _ _ _ (lv_sub hl [2] rfl) hP hS hE
    refine lv_aload_n hx hb dX4_bestDriver_44 rfl (lv_at hl 0 rfl) ?_
    refine xg_0_0 hx hb hown hwX4 (hts _ (List.mem_of_getElem? (i := 3) rfl)) hK hP dX4_bestDriver_45 ?_
    refine lv_iload hx hb dX4_bestDriver_48 (lv_at hl 4 rfl) ?_
    refine xp_1_8 hx hb hown hwX3 (hts _ (List.mem_of_getElem? (i := 4) rfl)) hK hD hP hS dX4_bestDriver_50 hE (fun σ_8 H locs hP hS hE => ?_)
    refine lv_aload_n hx hb dX4_bestDriver_53 rfl (lv_at hl 0 rfl) ?_
    refine xg_0_0 hx hb hown hwX4 (hts _ (List.mem_of_getElem? (i := 3) rfl)) hK hP dX4_bestDriver_54 ?_
    refine lv_aload_n hx hb dX4_bestDriver_57 rfl (lv_at hl 0 rfl) ?_
    refine xg_0_7 hx hb hown hwX4 (hts _ (List.mem_of_getElem? (i := 5) rfl)) hK hP dX4_bestDriver_58 ?_
    refine lv_iload_n hx hb dX4_bestDriver_61 rfl (lv_at hl 1 rfl) ?_
    refine z_gov (wf := xW) hS hE (fun F1 h1 => (va_runV (As := [.ref (ea E 51), .int x1]) (rest := []) ⟨hx, hb, hml, hown, hts⟩ (kX3_goBy_51 l E hD x1 σ_8 F1 h1) (cwV 2 hts gX4_bestDriver_X3_goBy rfl rfl rfl q_X3_goBy ⟨Nat.le_of_ble_eq_true rfl, Nat.le_of_ble_eq_true rfl⟩) (z_preV hK hP hS (ci := 3) (q0 := 1) rfl rfl rfl) rfl rfl hl.1 rfl (lv_room (Nat.le_of_ble_eq_true rfl)) dX4_bestDriver_62 ⟨Nat.le_of_ble_eq_true rfl, Nat.le_of_ble_eq_true rfl⟩)) (fun σ_9 H locs hP hS hE => ?_)
    refine lv_iload hx hb dX4_bestDriver_65 (lv_at hl 4 rfl) ?_
    refine z_if_eq (tgt := 82) hx hb dX4_bestDriver_67 (by decide) hE (fun hE => ?_) (fun hE => ?_)
    · refine lv_iload hx hb dX4_bestDriver_82 (lv_at hl 4 rfl) ?_
      refine z_istore_n hx hb (fun x2_10 => [(2, .int x2_10), (0, .ref (ea E 0)), (1, .int x1), (3, .long x3), (5, .int x5)]) dX4_bestDriver_84 rfl hl (by decide) rfl hE (fun x2_10 ls hl hE => ?_)
      refine lv_aload_n hx hb dX4_bestDriver_85 rfl (lv_at hl 1 rfl) ?_
      refine xg_0_0 hx hb hown hwX4 (hts _ (List.mem_of_getElem? (i := 3) rfl)) hK hP dX4_bestDriver_86 ?_
      refine xg_1_14 hx hb hown hwX3 (hts _ (List.mem_of_getElem? (i := 6) rfl)) hK hP dX4_bestDriver_89 ?_
      refine z_lstore_n hx hb (fun x3_11 => [(3, .long x3_11), (2, .int x2_10), (0, .ref (ea E 0)), (1, .int x1), (5, .int x5)]) dX4_bestDriver_92 rfl hl (by decide) rfl hE (fun x3_11 ls hl hE => ?_)
      refine z_iinc hx hb (v := (x5 + 1)) (k := 4) (fun x5_12 => [(5, .int x5_12), (3, .long x3_11), (2, .int x2_10), (0, .ref (ea E 0)), (1, .int x1)]) dX4_bestDriver_93 hl rfl (by rfl) (by decide) rfl hE (fun x5_12 ls hl hE => ?_)
      refine lv_goto (tgt := 38) hx hb dX4_bestDriver_96 (by decide) ?_
      exact ih x1 x2_10 x3_11 x5_12 σ_9 _ _ _ (lv_sub hl [3, 4, 2, 1, 0] rfl) hP hS hE
    refine lv_aload_n hx hb dX4_bestDriver_70 rfl (lv_at hl 0 rfl) ?_
    refine xg_0_0 hx hb hown hwX4 (hts _ (List.mem_of_getElem? (i := 3) rfl)) hK hP dX4_bestDriver_71 ?_
    refine xg_1_14 hx hb hown hwX3 (hts _ (List.mem_of_getElem? (i := 6) rfl)) hK hP dX4_bestDriver_74 ?_
    refine lv_lload_n hx hb dX4_bestDriver_77 rfl (lv_at hl 3 rfl) ?_
    refine W.lcmp hx hb dX4_bestDriver_78 ?_
    refine z_if_le (tgt := 93) hx hb dX4_bestDriver_79 (by decide) hE (fun hE => ?_) (fun hE => ?_)
    · refine z_iinc hx hb (v := (x5 + 1)) (k := 4) (fun x5_13 => [(5, .int x5_13), (0, .ref (ea E 0)), (1, .int x1), (2, .int x2), (3, .long x3)]) dX4_bestDriver_93 hl rfl (by rfl) (by decide) rfl hE (fun x5_13 ls hl hE => ?_)
      refine lv_goto (tgt := 38) hx hb dX4_bestDriver_96 (by decide) ?_
      exact ih x1 x2 x3 x5_13 σ_9 _ _ _ (lv_sub hl [1, 2, 3, 4, 0] rfl) hP hS hE
    refine lv_iload hx hb dX4_bestDriver_82 (lv_at hl 4 rfl) ?_
    refine z_istore_n hx hb (fun x2_14 => [(2, .int x2_14), (0, .ref (ea E 0)), (1, .int x1), (3, .long x3), (5, .int x5)]) dX4_bestDriver_84 rfl hl (by decide) rfl hE (fun x2_14 ls hl hE => ?_)
    refine lv_aload_n hx hb dX4_bestDriver_85 rfl (lv_at hl 1 rfl) ?_
    refine xg_0_0 hx hb hown hwX4 (hts _ (List.mem_of_getElem? (i := 3) rfl)) hK hP dX4_bestDriver_86 ?_
    refine xg_1_14 hx hb hown hwX3 (hts _ (List.mem_of_getElem? (i := 6) rfl)) hK hP dX4_bestDriver_89 ?_
    refine z_lstore_n hx hb (fun x3_15 => [(3, .long x3_15), (2, .int x2_14), (0, .ref (ea E 0)), (1, .int x1), (5, .int x5)]) dX4_bestDriver_92 rfl hl (by decide) rfl hE (fun x3_15 ls hl hE => ?_)
    refine z_iinc hx hb (v := (x5 + 1)) (k := 4) (fun x5_16 => [(5, .int x5_16), (3, .long x3_15), (2, .int x2_14), (0, .ref (ea E 0)), (1, .int x1)]) dX4_bestDriver_93 hl rfl (by rfl) (by decide) rfl hE (fun x5_16 ls hl hE => ?_)
    refine lv_goto (tgt := 38) hx hb dX4_bestDriver_96 (by decide) ?_
    exact ih x1 x2_14 x3_15 x5_16 σ_9 _ _ _ (lv_sub hl [3, 4, 2, 1, 0] rfl) hP hS hE
def fX4_bestDriver   (σ : ST) : Option (Int32 × ST) :=
  (if (gI σ 3) = 0 then cali (fX4_refuse (-3) σ) (fun r_20 σ_19 => some (r_20, σ_19)) else cali (fX4_orderOfRow (-9) σ) (fun r_2 σ_1 => bnd (r_2 : Int32) (fun x1_3 => bnd (0 : Int32) (fun x2_4 => bnd (0 : Int64) (fun x3_5 => calv (fX3_supposeAsItIs σ_1) (fun σ_6 => bnd (0 : Int32) (fun x5_7 => fX4_bestDriver_L38 (fun x2_17 σ_18 => some (x2_17, σ_18)) FU x1_3 x2_4 x3_5 x5_7 σ_6)))))))
set_option maxHeartbeats 4000000 in
set_option maxRecDepth 100000 in
theorem wX4_bestDriver {p : Program} {l : Launch} {e : Env} {s : State} {m : MethodId} {args : Array Value} {below : List Frame} {meth : Method} {c : Code} {E : EN} (C : zC E xW p s m args meth c cX4_bestDriver 6 RX4 (some .int) wsX4_bestDriver) {F : Int32 × ST}    (σ : ST) (H : Heap) (locs : List Loc) (ls : Array Slot) (hl : lv_has ls 6 [(0, .ref (ea E 0))]) (hP : va_P (eD E) vwCl (xW E σ) H) (hS : va_S (eA E) s.heap H locs) (hE : fX4_bestDriver   σ = some F) : zWi E xW p l e r_X4_bestDriver s m args below meth c F H locs (F0 m 0 ls []) := by
  obtain ⟨hx, hb, hml, hown, hts, hr, hlk, hK, hD⟩ := id C
  have hwX2 : ∀ w ∈ wsX20, w.before args s = true := fun w h => hts w (List.mem_cons_of_mem _ (List.mem_append_left _ (List.mem_append_left _ (List.mem_append_right _ h))))
  have hwX4 : ∀ w ∈ wsX40, w.before args s = true := fun w h => hts w (List.mem_cons_of_mem _ (List.mem_append_left _ (List.mem_append_left _ (List.mem_append_left _ (List.mem_append_right _ h)))))
  unfold fX4_bestDriver at hE
  refine lv_aload_n hx hb dX4_bestDriver_0 rfl (lv_at hl 0 rfl) ?_
  refine xg_0_1 hx hb hown hwX4 (hts _ (List.mem_of_getElem? (i := 1) rfl)) hK hP dX4_bestDriver_1 ?_
  refine xg_4_11 hx hb hown hwX2 (hts _ (List.mem_of_getElem? (i := 2) rfl)) hK hP dX4_bestDriver_4 ?_
  refine z_if_ne (tgt := 17) hx hb dX4_bestDriver_7 (by decide) hE (fun hE => ?_) (fun hE => ?_)
  · refine lv_aload_n hx hb dX4_bestDriver_17 rfl (lv_at hl 0 rfl) ?_
    refine lv_bipush (v := -9) hx hb dX4_bestDriver_18 (by decide) ?_
    refine z_goi (wf := xW) hS hE (fun F1 h1 => (va_runV (As := [.int (-9)]) (rest := []) ⟨hx, hb, hml, hown, hts⟩ (kX4_orderOfRow l E hD (-9) σ F1 h1) (cwV 1 hts gX4_bestDriver_X4_orderOfRow rfl rfl rfl q_X4_orderOfRow ⟨Nat.le_of_ble_eq_true rfl, Nat.le_of_ble_eq_true rfl⟩) (z_preV hK hP hS (ci := 4) (q0 := 0) rfl rfl rfl) rfl rfl hl.1 rfl (lv_room (Nat.le_of_ble_eq_true rfl)) dX4_bestDriver_20 ⟨Nat.le_of_ble_eq_true rfl, Nat.le_of_ble_eq_true rfl⟩)) (fun r_2 σ_1 H locs hP hS hE => ?_)
    refine z_istore_n hx hb (fun x1_3 => [(1, .int x1_3), (0, .ref (ea E 0))]) dX4_bestDriver_23 rfl hl (by decide) rfl hE (fun x1_3 ls hl hE => ?_)
    refine lv_iconst (v := 0) hx hb dX4_bestDriver_24 (by decide) ?_
    refine z_istore_n hx hb (fun x2_4 => [(2, .int x2_4), (1, .int x1_3), (0, .ref (ea E 0))]) dX4_bestDriver_25 rfl hl (by decide) rfl hE (fun x2_4 ls hl hE => ?_)
    refine lv_lconst (v := 0) hx hb dX4_bestDriver_26 (by decide) ?_
    refine z_lstore_n hx hb (fun x3_5 => [(3, .long x3_5), (2, .int x2_4), (1, .int x1_3), (0, .ref (ea E 0))]) dX4_bestDriver_27 rfl hl (by decide) rfl hE (fun x3_5 ls hl hE => ?_)
    refine lv_aload_n hx hb dX4_bestDriver_28 rfl (lv_at hl 3 rfl) ?_
    refine xg_0_0 hx hb hown hwX4 (hts _ (List.mem_of_getElem? (i := 3) rfl)) hK hP dX4_bestDriver_29 ?_
    refine z_gov (wf := xW) hS hE (fun F1 h1 => (va_runV (As := []) (rest := []) ⟨hx, hb, hml, hown, hts⟩ (kX3_supposeAsItIs l E hD  σ_1 F1 h1) (cwV 0 hts gX4_bestDriver_X3_supposeAsItIs rfl rfl rfl q_X3_supposeAsItIs ⟨Nat.le_of_ble_eq_true rfl, Nat.le_of_ble_eq_true rfl⟩) (z_preV hK hP hS (ci := 3) (q0 := 1) rfl rfl rfl) rfl rfl hl.1 rfl (lv_room (Nat.le_of_ble_eq_true rfl)) dX4_bestDriver_32 ⟨Nat.le_of_ble_eq_true rfl, Nat.le_of_ble_eq_true rfl⟩)) (fun σ_6 H locs hP hS hE => ?_)
    refine lv_iconst (v := 0) hx hb dX4_bestDriver_35 (by decide) ?_
    refine z_istore hx hb (fun x5_7 => [(5, .int x5_7), (3, .long x3_5), (2, .int x2_4), (1, .int x1_3), (0, .ref (ea E 0))]) dX4_bestDriver_36 hl (by decide) rfl hE (fun x5_7 ls hl hE => ?_)
    refine wX4_bestDriver_L38 C ?_ FU x1_3 x2_4 x3_5 x5_7 σ_6 _ _ _ (lv_sub hl [4, 3, 2, 1, 0] rfl) hP hS hE
    intro x2_17 σ_18 H locs ls hl hP hS hE
    refine lv_iload_n hx hb dX4_bestDriver_99 rfl (lv_at hl 0 rfl) ?_
    exact z_iret hx hb hr hlk hP hS dX4_bestDriver_100 hE
  refine lv_aload_n hx hb dX4_bestDriver_10 rfl (lv_at hl 0 rfl) ?_
  refine lv_bipush (v := -3) hx hb dX4_bestDriver_11 (by decide) ?_
  refine z_goi (wf := xW) hS hE (fun F1 h1 => (va_runV (As := [.int (-3)]) (rest := []) ⟨hx, hb, hml, hown, hts⟩ (kX4_refuse l E hD (-3) σ F1 h1) (cwV 1 hts gX4_bestDriver_X4_refuse rfl rfl rfl q_X4_refuse ⟨Nat.le_of_ble_eq_true rfl, Nat.le_of_ble_eq_true rfl⟩) (z_preV hK hP hS (ci := 4) (q0 := 0) rfl rfl rfl) rfl rfl hl.1 rfl (lv_room (Nat.le_of_ble_eq_true rfl)) dX4_bestDriver_13 ⟨Nat.le_of_ble_eq_true rfl, Nat.le_of_ble_eq_true rfl⟩)) (fun r_20 σ_19 H locs hP hS hE => ?_)
  exact z_iret hx hb hr hlk hP hS dX4_bestDriver_16 hE
theorem kX4_bestDriver (l : Launch) (E : EN) (hD : ∀ σ, va_D (eA E) (xW E σ))  (σ : ST) (F : Int32 × ST) (hE : fX4_bestDriver  σ = some F) : Met l yX4_bestDriver wsX4_bestDriver r_X4_bestDriver (zPc E xW [.ref (ea E 0)] σ) (zQi E xW F) 0 0 (eA E) := by
  refine Met.ofW (cc := cX4_bestDriver) (maxL := 6) (ret := (some .int)) (by decide) rfl ?_
  intro p e s m args below meth c s₁ B hml hv
  obtain ⟨rfl, hP, hK⟩ := hv
  have hl := lv_entry ([.ref (ea E 0)]) (n := 6) (Nat.le_of_ble_eq_true rfl)
  rw [lg_entry_eq]
  generalize (lg_sl ([.ref (ea E 0)]) ++ List.replicate (6 - (lg_sl ([.ref (ea E 0)])).length) Slot.unset).toArray = ls at hl ⊢
  exact wX4_bestDriver ⟨B.exec, B.bytes, hml, findClass_of_methodNamed B.named, atoms_spec (ws := wsX4_bestDriver) B.pre, B.returns, B.notSynchronized, hK, hD⟩  σ s.heap [] ls hl hP va_S.rf hE
