def fX4_onFoot_L49 (ke : Int32 → Int32 → Int32 → ST → Option (Int32 × ST)) : Nat → Int32 → Int32 → Int32 → Int32 → Int32 → Int32 → ST → Option (Int32 × ST)
  | 0, _, _, _, _, _, _, _ => none
  | n + 1, x1, x2, x3, x4, x5, x6, σ => (if (gI σ 3) ≤ x6 then ke x3 x4 x5 σ else cali (fX4_walkedFrom x6 x1 x2 σ) (fun r_13 σ_12 => bnd (r_13 : Int32) (fun x7_14 => (if x7_14 < 0 then bnd (x6 + 1) (fun x6_15 => fX4_onFoot_L49 ke n x1 x2 x3 x4 x5 x6_15 σ_12) else cali (fX2_startsAt_4 x6 σ_12) (fun r_17 σ_16 => (if r_17 = 10 then (if x4 = (-9) then bnd (x6 : Int32) (fun x4_19 => bnd (x7_14 : Int32) (fun x5_20 => bnd (x6 + 1) (fun x6_21 => fX4_onFoot_L49 ke n x1 x2 x3 x4_19 x5_20 x6_21 σ_16))) else (if x5 ≤ x7_14 then bnd (x6 + 1) (fun x6_22 => fX4_onFoot_L49 ke n x1 x2 x3 x4 x5 x6_22 σ_16) else bnd (x6 : Int32) (fun x4_23 => bnd (x7_14 : Int32) (fun x5_24 => bnd (x6 + 1) (fun x6_25 => fX4_onFoot_L49 ke n x1 x2 x3 x4_23 x5_24 x6_25 σ_16))))) else bnd (x6 + 1) (fun x6_18 => fX4_onFoot_L49 ke n x1 x2 x3 x4 x5 x6_18 σ_16)))))))
set_option maxHeartbeats 4000000 in
set_option maxRecDepth 100000 in
theorem wX4_onFoot_L49 {p : Program} {l : Launch} {e : Env} {s : State} {m : MethodId} {args : Array Value} {below : List Frame} {meth : Method} {c : Code} {E : EN} (C : zC E xW p s m args meth c cX4_onFoot 8 RX4 (some .int) wsL_law) {F : Int32 × ST} {ke : Int32 → Int32 → Int32 → ST → Option (Int32 × ST)} (hke : ∀ (x3 : Int32) (x4 : Int32) (x5 : Int32) (σ : ST) (H : Heap) (locs : List Loc) (ls : Array Slot), lv_has ls 8 [(3, .int x3), (4, .int x4), (5, .int x5)] → va_P (eD E) vwCl (xW E σ) H → va_S (eA E) s.heap H locs → ke x3 x4 x5 σ = some F → zWi E xW p l e r_X4_onFoot s m args below meth c F H locs (F0 m 118 ls [])) : ∀ (n : Nat) (x1 : Int32) (x2 : Int32) (x3 : Int32) (x4 : Int32) (x5 : Int32) (x6 : Int32) (σ : ST) (H : Heap) (locs : List Loc) (ls : Array Slot), lv_has ls 8 [(0, .ref (ea E 0)), (1, .int x1), (2, .int x2), (3, .int x3), (4, .int x4), (5, .int x5), (6, .int x6)] → va_P (eD E) vwCl (xW E σ) H → va_S (eA E) s.heap H locs → fX4_onFoot_L49 ke n x1 x2 x3 x4 x5 x6 σ = some F → zWi E xW p l e r_X4_onFoot s m args below meth c F H locs (F0 m 49 ls []) := by
  obtain ⟨hx, hb, hml, hown, hts, hr, hlk, hK, hD⟩ := id C
  have hwX2 : ∀ w ∈ wsX20, w.before args s = true := fun w h => hts w (inlX2 w h)
  have hwX4 : ∀ w ∈ wsX40, w.before args s = true := fun w h => hts w (inlX4 w h)
  intro n
  induction n with
  | zero => intro x1 x2 x3 x4 x5 x6 σ H locs ls hl hP hS hE; rw [fX4_onFoot_L49] at hE; cases hE
  | succ n ih =>
    intro x1 x2 x3 x4 x5 x6 σ H locs ls hl hP hS hE
    rw [fX4_onFoot_L49] at hE
    refine lv_iload hx hb dX4_onFoot_49 (lv_at hl 6 rfl) ?_
    refine lv_aload_n hx hb dX4_onFoot_51 rfl (lv_at hl 0 rfl) ?_
    refine xg_0_1 hx hb hown hwX4 (hts _ u_17) hK hP dX4_onFoot_52 ?_
    refine xg_4_11 hx hb hown hwX2 (hts _ u_387) hK hP dX4_onFoot_55 ?_
    refine z_icmp_ge (tgt := 118) hx hb dX4_onFoot_58 (by decide) hE (fun hE => ?_) (fun hE => ?_)
    · exact hke x3 x4 x5 σ _ _ _ (lv_sub hl [3, 4, 5] rfl) hP hS hE
    refine lv_aload_n hx hb dX4_onFoot_61 rfl (lv_at hl 0 rfl) ?_
    refine lv_iload hx hb dX4_onFoot_62 (lv_at hl 6 rfl) ?_
    refine lv_iload_n hx hb dX4_onFoot_64 rfl (lv_at hl 1 rfl) ?_
    refine lv_iload_n hx hb dX4_onFoot_65 rfl (lv_at hl 2 rfl) ?_
    refine z_goi (wf := xW) hS hE (fun F1 h1 => (va_runV (As := [.int x6, .int x1, .int x2]) (rest := []) ⟨hx, hb, hml, hown, hts⟩ (kX4_walkedFrom l E hD x6 x1 x2 σ F1 h1) (cwV 3 hts (gU_V u_851 u_852 u_853 u_2 u_854) rfl rfl rfl q_X4_walkedFrom ⟨Nat.le_of_ble_eq_true rfl, Nat.le_of_ble_eq_true rfl⟩) (z_preV hK hP hS (ci := 4) (q0 := 0) rfl rfl rfl) rfl rfl hl.1 rfl (lv_room (Nat.le_of_ble_eq_true rfl)) dX4_onFoot_66 ⟨Nat.le_of_ble_eq_true rfl, Nat.le_of_ble_eq_true rfl⟩)) (fun r_13 σ_12 H locs hP hS hE => ?_)
    refine z_istore hx hb (fun x7_14 => [(7, .int x7_14), (0, .ref (ea E 0)), (1, .int x1), (2, .int x2), (3, .int x3), (4, .int x4), (5, .int x5), (6, .int x6)]) dX4_onFoot_69 hl (by decide) rfl hE (fun x7_14 ls hl hE => ?_)
    refine lv_iload hx hb dX4_onFoot_71 (lv_at hl 0 rfl) ?_
    refine z_if_lt (tgt := 112) hx hb dX4_onFoot_73 (by decide) hE (fun hE => ?_) (fun hE => ?_)
    · refine z_iinc hx hb (v := (x6 + 1)) (k := 7) (fun x6_15 => [(6, .int x6_15), (7, .int x7_14), (0, .ref (ea E 0)), (1, .int x1), (2, .int x2), (3, .int x3), (4, .int x4), (5, .int x5)]) dX4_onFoot_112 hl rfl (by rfl) (by decide) rfl hE (fun x6_15 ls hl hE => ?_)
      refine lv_goto (tgt := 49) hx hb dX4_onFoot_115 (by decide) ?_
      exact ih x1 x2 x3 x4 x5 x6_15 σ_12 _ _ _ (lv_sub hl [2, 3, 4, 5, 6, 7, 0] rfl) hP hS hE
    refine lv_aload_n hx hb dX4_onFoot_76 rfl (lv_at hl 1 rfl) ?_
    refine xg_0_1 hx hb hown hwX4 (hts _ u_17) hK hP dX4_onFoot_77 ?_
    refine lv_iload hx hb dX4_onFoot_80 (lv_at hl 7 rfl) ?_
    refine z_goi (wf := xW) hS hE (fun F1 h1 => (va_runV (As := [.int x6]) (rest := []) ⟨hx, hb, hml, hown, hts⟩ (kX2_startsAt_4 l E hD x6 σ_12 F1 h1) (cwV 1 hts (gU_V u_388 u_389 u_390 u_22 u_391) rfl rfl rfl q_X2_startsAt ⟨Nat.le_of_ble_eq_true rfl, Nat.le_of_ble_eq_true rfl⟩) (z_preV hK hP hS (ci := 2) (q0 := 4) rfl rfl rfl) rfl rfl hl.1 rfl (lv_room (Nat.le_of_ble_eq_true rfl)) dX4_onFoot_82 ⟨Nat.le_of_ble_eq_true rfl, Nat.le_of_ble_eq_true rfl⟩)) (fun r_17 σ_16 H locs hP hS hE => ?_)
    refine lv_bipush (v := 10) hx hb dX4_onFoot_85 (by decide) ?_
    refine z_icmp_ne (tgt := 112) hx hb dX4_onFoot_87 (by decide) hE (fun hE => ?_) (fun hE => ?_)
    · refine z_iinc hx hb (v := (x6 + 1)) (k := 7) (fun x6_18 => [(6, .int x6_18), (7, .int x7_14), (0, .ref (ea E 0)), (1, .int x1), (2, .int x2), (3, .int x3), (4, .int x4), (5, .int x5)]) dX4_onFoot_112 hl rfl (by rfl) (by decide) rfl hE (fun x6_18 ls hl hE => ?_)
      refine lv_goto (tgt := 49) hx hb dX4_onFoot_115 (by decide) ?_
      exact ih x1 x2 x3 x4 x5 x6_18 σ_16 _ _ _ (lv_sub hl [2, 3, 4, 5, 6, 7, 0] rfl) hP hS hE
    refine lv_iload hx hb dX4_onFoot_90 (lv_at hl 5 rfl) ?_
    refine lv_bipush (v := -9) hx hb dX4_onFoot_92 (by decide) ?_
    refine z_icmp_eq (tgt := 104) hx hb dX4_onFoot_94 (by decide) hE (fun hE => ?_) (fun hE => ?_)
    · refine lv_iload hx hb dX4_onFoot_104 (lv_at hl 7 rfl) ?_
      refine z_istore hx hb (fun x4_19 => [(4, .int x4_19), (7, .int x7_14), (0, .ref (ea E 0)), (1, .int x1), (2, .int x2), (3, .int x3), (5, .int x5), (6, .int x6)]) dX4_onFoot_106 hl (by decide) rfl hE (fun x4_19 ls hl hE => ?_)
      refine lv_iload hx hb dX4_onFoot_108 (lv_at hl 1 rfl) ?_
      refine z_istore hx hb (fun x5_20 => [(5, .int x5_20), (4, .int x4_19), (7, .int x7_14), (0, .ref (ea E 0)), (1, .int x1), (2, .int x2), (3, .int x3), (6, .int x6)]) dX4_onFoot_110 hl (by decide) rfl hE (fun x5_20 ls hl hE => ?_)
      refine z_iinc hx hb (v := (x6 + 1)) (k := 7) (fun x6_21 => [(6, .int x6_21), (5, .int x5_20), (4, .int x4_19), (7, .int x7_14), (0, .ref (ea E 0)), (1, .int x1), (2, .int x2), (3, .int x3)]) dX4_onFoot_112 hl rfl (by rfl) (by decide) rfl hE (fun x6_21 ls hl hE => ?_)
      refine lv_goto (tgt := 49) hx hb dX4_onFoot_115 (by decide) ?_
      exact ih x1 x2 x3 x4_19 x5_20 x6_21 σ_16 _ _ _ (lv_sub hl [4, 5, 6, 7, 2, 1, 0] rfl) hP hS hE
    refine lv_iload hx hb dX4_onFoot_97 (lv_at hl 0 rfl) ?_
    refine lv_iload hx hb dX4_onFoot_99 (lv_at hl 6 rfl) ?_
    refine z_icmp_ge (tgt := 112) hx hb dX4_onFoot_101 (by decide) hE (fun hE => ?_) (fun hE => ?_)
    · refine z_iinc hx hb (v := (x6 + 1)) (k := 7) (fun x6_22 => [(6, .int x6_22), (7, .int x7_14), (0, .ref (ea E 0)), (1, .int x1), (2, .int x2), (3, .int x3), (4, .int x4), (5, .int x5)]) dX4_onFoot_112 hl rfl (by rfl) (by decide) rfl hE (fun x6_22 ls hl hE => ?_)
      refine lv_goto (tgt := 49) hx hb dX4_onFoot_115 (by decide) ?_
      exact ih x1 x2 x3 x4 x5 x6_22 σ_16 _ _ _ (lv_sub hl [2, 3, 4, 5, 6, 7, 0] rfl) hP hS hE
    refine lv_iload hx hb dX4_onFoot_104 (lv_at hl 7 rfl) ?_
    refine z_istore hx hb (fun x4_23 => [(4, .int x4_23), (7, .int x7_14), (0, .ref (ea E 0)), (1, .int x1), (2, .int x2), (3, .int x3), (5, .int x5), (6, .int x6)]) dX4_onFoot_106 hl (by decide) rfl hE (fun x4_23 ls hl hE => ?_)
    refine lv_iload hx hb dX4_onFoot_108 (lv_at hl 1 rfl) ?_
    refine z_istore hx hb (fun x5_24 => [(5, .int x5_24), (4, .int x4_23), (7, .int x7_14), (0, .ref (ea E 0)), (1, .int x1), (2, .int x2), (3, .int x3), (6, .int x6)]) dX4_onFoot_110 hl (by decide) rfl hE (fun x5_24 ls hl hE => ?_)
    refine z_iinc hx hb (v := (x6 + 1)) (k := 7) (fun x6_25 => [(6, .int x6_25), (5, .int x5_24), (4, .int x4_23), (7, .int x7_14), (0, .ref (ea E 0)), (1, .int x1), (2, .int x2), (3, .int x3)]) dX4_onFoot_112 hl rfl (by rfl) (by decide) rfl hE (fun x6_25 ls hl hE => ?_)
    refine lv_goto (tgt := 49) hx hb dX4_onFoot_115 (by decide) ?_
    exact ih x1 x2 x3 x4_23 x5_24 x6_25 σ_16 _ _ _ (lv_sub hl [4, 5, 6, 7, 2, 1, 0] rfl) hP hS hE
def fX4_onFoot  (x1 : Int32) (x2 : Int32) (x3 : Int32) (σ : ST) : Option (Int32 × ST) :=
  cali (fX4_isPlace x1 σ) (fun r_2 σ_1 => (if r_2 = 0 then cali (fX4_refuse (-1) σ_1) (fun r_4 σ_3 => some (r_4, σ_3)) else cali (fX4_isPlace x2 σ_1) (fun r_6 σ_5 => (if r_6 = 0 then cali (fX4_refuse (-1) σ_5) (fun r_33 σ_32 => some (r_33, σ_32)) else (if x3 < 0 then cali (fX4_refuse (-2) σ_5) (fun r_8 σ_7 => some (r_8, σ_7)) else (if x3 ≤ 1 then bnd ((-9) : Int32) (fun x4_9 => bnd ((-9) : Int32) (fun x5_10 => bnd (0 : Int32) (fun x6_11 => fX4_onFoot_L49 (fun x3_26 x4_27 x5_28 σ_29 => (if x3_26 = 0 then some (x4_27, σ_29) else some (x5_28, σ_29))) FU x1 x2 x3 x4_9 x5_10 x6_11 σ_5))) else cali (fX4_refuse (-2) σ_5) (fun r_31 σ_30 => some (r_31, σ_30))))))))
set_option maxHeartbeats 4000000 in
set_option maxRecDepth 100000 in
theorem wX4_onFoot {p : Program} {l : Launch} {e : Env} {s : State} {m : MethodId} {args : Array Value} {below : List Frame} {meth : Method} {c : Code} {E : EN} (C : zC E xW p s m args meth c cX4_onFoot 8 RX4 (some .int) wsL_law) {F : Int32 × ST}   (x1 : Int32) (x2 : Int32) (x3 : Int32) (σ : ST) (H : Heap) (locs : List Loc) (ls : Array Slot) (hl : lv_has ls 8 [(0, .ref (ea E 0)), (1, .int x1), (2, .int x2), (3, .int x3)]) (hP : va_P (eD E) vwCl (xW E σ) H) (hS : va_S (eA E) s.heap H locs) (hE : fX4_onFoot  x1 x2 x3 σ = some F) : zWi E xW p l e r_X4_onFoot s m args below meth c F H locs (F0 m 0 ls []) := by
  obtain ⟨hx, hb, hml, hown, hts, hr, hlk, hK, hD⟩ := id C
  unfold fX4_onFoot at hE
  refine lv_aload_n hx hb dX4_onFoot_0 rfl (lv_at hl 0 rfl) ?_
  refine lv_iload_n hx hb dX4_onFoot_1 rfl (lv_at hl 1 rfl) ?_
  refine z_goi (wf := xW) hS hE (fun F1 h1 => (va_runV (As := [.int x1]) (rest := []) ⟨hx, hb, hml, hown, hts⟩ (kX4_isPlace l E hD x1 σ F1 h1) (cwV 1 hts (gU_V u_383 u_384 u_385 u_2 u_386) rfl rfl rfl q_X4_isPlace ⟨Nat.le_of_ble_eq_true rfl, Nat.le_of_ble_eq_true rfl⟩) (z_preV hK hP hS (ci := 4) (q0 := 0) rfl rfl rfl) rfl rfl hl.1 rfl (lv_room (Nat.le_of_ble_eq_true rfl)) dX4_onFoot_2 ⟨Nat.le_of_ble_eq_true rfl, Nat.le_of_ble_eq_true rfl⟩)) (fun r_2 σ_1 H locs hP hS hE => ?_)
  refine z_if_eq (tgt := 16) hx hb dX4_onFoot_5 (by decide) hE (fun hE => ?_) (fun hE => ?_)
  · refine lv_aload_n hx hb dX4_onFoot_16 rfl (lv_at hl 0 rfl) ?_
    refine lv_iconst (v := -1) hx hb dX4_onFoot_17 (by decide) ?_
    refine z_goi (wf := xW) hS hE (fun F1 h1 => (va_runV (As := [.int (-1)]) (rest := []) ⟨hx, hb, hml, hown, hts⟩ (kX4_refuse l E hD (-1) σ_1 F1 h1) (cwV 1 hts (gU_V u_118 u_119 u_120 u_2 u_121) rfl rfl rfl q_X4_refuse ⟨Nat.le_of_ble_eq_true rfl, Nat.le_of_ble_eq_true rfl⟩) (z_preV hK hP hS (ci := 4) (q0 := 0) rfl rfl rfl) rfl rfl hl.1 rfl (lv_room (Nat.le_of_ble_eq_true rfl)) dX4_onFoot_18 ⟨Nat.le_of_ble_eq_true rfl, Nat.le_of_ble_eq_true rfl⟩)) (fun r_4 σ_3 H locs hP hS hE => ?_)
    exact z_iret hx hb hr hlk hP hS dX4_onFoot_21 hE
  refine lv_aload_n hx hb dX4_onFoot_8 rfl (lv_at hl 0 rfl) ?_
  refine lv_iload_n hx hb dX4_onFoot_9 rfl (lv_at hl 2 rfl) ?_
  refine z_goi (wf := xW) hS hE (fun F1 h1 => (va_runV (As := [.int x2]) (rest := []) ⟨hx, hb, hml, hown, hts⟩ (kX4_isPlace l E hD x2 σ_1 F1 h1) (cwV 1 hts (gU_V u_383 u_384 u_385 u_2 u_386) rfl rfl rfl q_X4_isPlace ⟨Nat.le_of_ble_eq_true rfl, Nat.le_of_ble_eq_true rfl⟩) (z_preV hK hP hS (ci := 4) (q0 := 0) rfl rfl rfl) rfl rfl hl.1 rfl (lv_room (Nat.le_of_ble_eq_true rfl)) dX4_onFoot_10 ⟨Nat.le_of_ble_eq_true rfl, Nat.le_of_ble_eq_true rfl⟩)) (fun r_6 σ_5 H locs hP hS hE => ?_)
  refine z_if_ne (tgt := 22) hx hb dX4_onFoot_13 (by decide) hE (fun hE => ?_) (fun hE => ?_)
  · refine lv_iload_n hx hb dX4_onFoot_22 rfl (lv_at hl 3 rfl) ?_
    refine z_if_lt (tgt := 31) hx hb dX4_onFoot_23 (by decide) hE (fun hE => ?_) (fun hE => ?_)
    · refine lv_aload_n hx hb dX4_onFoot_31 rfl (lv_at hl 0 rfl) ?_
      refine lv_bipush (v := -2) hx hb dX4_onFoot_32 (by decide) ?_
      refine z_goi (wf := xW) hS hE (fun F1 h1 => (va_runV (As := [.int (-2)]) (rest := []) ⟨hx, hb, hml, hown, hts⟩ (kX4_refuse l E hD (-2) σ_5 F1 h1) (cwV 1 hts (gU_V u_118 u_119 u_120 u_2 u_121) rfl rfl rfl q_X4_refuse ⟨Nat.le_of_ble_eq_true rfl, Nat.le_of_ble_eq_true rfl⟩) (z_preV hK hP hS (ci := 4) (q0 := 0) rfl rfl rfl) rfl rfl hl.1 rfl (lv_room (Nat.le_of_ble_eq_true rfl)) dX4_onFoot_34 ⟨Nat.le_of_ble_eq_true rfl, Nat.le_of_ble_eq_true rfl⟩)) (fun r_8 σ_7 H locs hP hS hE => ?_)
      exact z_iret hx hb hr hlk hP hS dX4_onFoot_37 hE
    refine lv_iload_n hx hb dX4_onFoot_26 rfl (lv_at hl 3 rfl) ?_
    refine lv_iconst (v := 1) hx hb dX4_onFoot_27 (by decide) ?_
    refine z_icmp_le (tgt := 38) hx hb dX4_onFoot_28 (by decide) hE (fun hE => ?_) (fun hE => ?_)
    · refine lv_bipush (v := -9) hx hb dX4_onFoot_38 (by decide) ?_
      refine z_istore hx hb (fun x4_9 => [(4, .int x4_9), (0, .ref (ea E 0)), (1, .int x1), (2, .int x2), (3, .int x3)]) dX4_onFoot_40 hl (by decide) rfl hE (fun x4_9 ls hl hE => ?_)
      refine lv_bipush (v := -9) hx hb dX4_onFoot_42 (by decide) ?_
      refine z_istore hx hb (fun x5_10 => [(5, .int x5_10), (4, .int x4_9), (0, .ref (ea E 0)), (1, .int x1), (2, .int x2), (3, .int x3)]) dX4_onFoot_44 hl (by decide) rfl hE (fun x5_10 ls hl hE => ?_)
      refine lv_iconst (v := 0) hx hb dX4_onFoot_46 (by decide) ?_
      refine z_istore hx hb (fun x6_11 => [(6, .int x6_11), (5, .int x5_10), (4, .int x4_9), (0, .ref (ea E 0)), (1, .int x1), (2, .int x2), (3, .int x3)]) dX4_onFoot_47 hl (by decide) rfl hE (fun x6_11 ls hl hE => ?_)
      refine wX4_onFoot_L49 C ?_ FU x1 x2 x3 x4_9 x5_10 x6_11 σ_5 _ _ _ (lv_sub hl [3, 4, 5, 6, 2, 1, 0] rfl) hP hS hE
      intro x3_26 x4_27 x5_28 σ_29 H locs ls hl hP hS hE
      refine lv_iload_n hx hb dX4_onFoot_118 rfl (lv_at hl 0 rfl) ?_
      refine z_if_ne (tgt := 127) hx hb dX4_onFoot_119 (by decide) hE (fun hE => ?_) (fun hE => ?_)
      · refine lv_iload hx hb dX4_onFoot_127 (lv_at hl 2 rfl) ?_
        exact z_iret hx hb hr hlk hP hS dX4_onFoot_129 hE
      refine lv_iload hx hb dX4_onFoot_122 (lv_at hl 1 rfl) ?_
      refine lv_goto (tgt := 129) hx hb dX4_onFoot_124 (by decide) ?_
      exact z_iret hx hb hr hlk hP hS dX4_onFoot_129 hE
    refine lv_aload_n hx hb dX4_onFoot_31 rfl (lv_at hl 0 rfl) ?_
    refine lv_bipush (v := -2) hx hb dX4_onFoot_32 (by decide) ?_
    refine z_goi (wf := xW) hS hE (fun F1 h1 => (va_runV (As := [.int (-2)]) (rest := []) ⟨hx, hb, hml, hown, hts⟩ (kX4_refuse l E hD (-2) σ_5 F1 h1) (cwV 1 hts (gU_V u_118 u_119 u_120 u_2 u_121) rfl rfl rfl q_X4_refuse ⟨Nat.le_of_ble_eq_true rfl, Nat.le_of_ble_eq_true rfl⟩) (z_preV hK hP hS (ci := 4) (q0 := 0) rfl rfl rfl) rfl rfl hl.1 rfl (lv_room (Nat.le_of_ble_eq_true rfl)) dX4_onFoot_34 ⟨Nat.le_of_ble_eq_true rfl, Nat.le_of_ble_eq_true rfl⟩)) (fun r_31 σ_30 H locs hP hS hE => ?_)
    exact z_iret hx hb hr hlk hP hS dX4_onFoot_37 hE
  refine lv_aload_n hx hb dX4_onFoot_16 rfl (lv_at hl 0 rfl) ?_
  refine lv_iconst (v := -1) hx hb dX4_onFoot_17 (by decide) ?_
  refine z_goi (wf := xW) hS hE (fun F1 h1 => (va_runV (As := [.int (-1)]) (rest := []) ⟨hx, hb, hml, hown, hts⟩ (kX4_refuse l E hD (-1) σ_5 F1 h1) (cwV 1 hts (gU_V u_118 u_119 u_120 u_2 u_121) rfl rfl rfl q_X4_refuse ⟨Nat.le_of_ble_eq_true rfl, Nat.le_of_ble_eq_true rfl⟩) (z_preV hK hP hS (ci := 4) (q0 := 0) rfl rfl rfl) rfl rfl hl.1 rfl (lv_room (Nat.le_of_ble_eq_true rfl)) dX4_onFoot_18 ⟨Nat.le_of_ble_eq_true rfl, Nat.le_of_ble_eq_true rfl⟩)) (fun r_33 σ_32 H locs hP hS hE => ?_)
  exact z_iret hx hb hr hlk hP hS dX4_onFoot_21 hE
theorem kX4_onFoot (l : Launch) (E : EN) (hD : ∀ σ, va_D (eA E) (xW E σ)) (x1 : Int32) (x2 : Int32) (x3 : Int32) (σ : ST) (F : Int32 × ST) (hE : fX4_onFoot x1 x2 x3 σ = some F) : Met l yX4_onFoot wu_X4_onFoot r_X4_onFoot (zPc E xW [.ref (ea E 0), .int x1, .int x2, .int x3] σ) (zQi E xW F) 0 0 (eA E) := by
  refine Met.ofW (cc := cX4_onFoot) (maxL := 8) (ret := (some .int)) (by decide) rfl ?_
  intro p e s m args below meth c s₁ B hml hv
  obtain ⟨rfl, hP, hK⟩ := hv
  have hl := lv_entry ([.ref (ea E 0), .int x1, .int x2, .int x3]) (n := 8) (Nat.le_of_ble_eq_true rfl)
  rw [lg_entry_eq]
  generalize (lg_sl ([.ref (ea E 0), .int x1, .int x2, .int x3]) ++ List.replicate (8 - (lg_sl ([.ref (ea E 0), .int x1, .int x2, .int x3])).length) Slot.unset).toArray = ls at hl ⊢
  exact wX4_onFoot ⟨B.exec, B.bytes, hml, findClass_of_methodNamed B.named, fun w h => atoms_spec (ws := wu_X4_onFoot) B.pre w (List.mem_cons_of_mem _ h), B.returns, B.notSynchronized, hK, hD⟩ x1 x2 x3 σ s.heap [] ls hl hP va_S.rf hE
def fX4_onTheWay  (x1 : Int32) (x2 : Int32) (x3 : Int32) (σ : ST) : Option (Int32 × ST) :=
  cali (fX4_isPlace x1 σ) (fun r_2 σ_1 => (if r_2 = 0 then cali (fX4_refuse (-1) σ_1) (fun r_4 σ_3 => some (r_4, σ_3)) else cali (fX4_isPlace x2 σ_1) (fun r_6 σ_5 => (if r_6 = 0 then cali (fX4_refuse (-1) σ_5) (fun r_8 σ_7 => some (r_8, σ_7)) else cali (fX4_isPlace x3 σ_5) (fun r_10 σ_9 => (if r_10 = 0 then cali (fX4_refuse (-1) σ_9) (fun r_20 σ_19 => some (r_20, σ_19)) else cali (fX0_minutesOf x2 x1 0 σ_9) (fun r_12 σ_11 => bnd (r_12 : Int32) (fun x4_13 => cali (fX0_minutesOf x1 x3 0 σ_11) (fun r_15 σ_14 => bnd (r_15 : Int32) (fun x5_16 => (if x4_13 < 0 then some (0, σ_14) else (if 0 ≤ x5_16 then cali (fX0_minutesOf x2 x3 0 σ_14) (fun r_18 σ_17 => (if (x4_13 + x5_16) = r_18 then some (1, σ_17) else some (0, σ_17))) else some (0, σ_14)))))))))))))
set_option maxHeartbeats 4000000 in
set_option maxRecDepth 100000 in
theorem wX4_onTheWay {p : Program} {l : Launch} {e : Env} {s : State} {m : MethodId} {args : Array Value} {below : List Frame} {meth : Method} {c : Code} {E : EN} (C : zC E xW p s m args meth c cX4_onTheWay 6 RX4 (some .int) wsL_law) {F : Int32 × ST}   (x1 : Int32) (x2 : Int32) (x3 : Int32) (σ : ST) (H : Heap) (locs : List Loc) (ls : Array Slot) (hl : lv_has ls 6 [(0, .ref (ea E 0)), (1, .int x1), (2, .int x2), (3, .int x3)]) (hP : va_P (eD E) vwCl (xW E σ) H) (hS : va_S (eA E) s.heap H locs) (hE : fX4_onTheWay  x1 x2 x3 σ = some F) : zWi E xW p l e r_X4_onTheWay s m args below meth c F H locs (F0 m 0 ls []) := by
  obtain ⟨hx, hb, hml, hown, hts, hr, hlk, hK, hD⟩ := id C
  have hwX4 : ∀ w ∈ wsX40, w.before args s = true := fun w h => hts w (inlX4 w h)
  unfold fX4_onTheWay at hE
  refine lv_aload_n hx hb dX4_onTheWay_0 rfl (lv_at hl 0 rfl) ?_
  refine lv_iload_n hx hb dX4_onTheWay_1 rfl (lv_at hl 1 rfl) ?_
  refine z_goi (wf := xW) hS hE (fun F1 h1 => (va_runV (As := [.int x1]) (rest := []) ⟨hx, hb, hml, hown, hts⟩ (kX4_isPlace l E hD x1 σ F1 h1) (cwV 1 hts (gU_V u_383 u_384 u_385 u_2 u_386) rfl rfl rfl q_X4_isPlace ⟨Nat.le_of_ble_eq_true rfl, Nat.le_of_ble_eq_true rfl⟩) (z_preV hK hP hS (ci := 4) (q0 := 0) rfl rfl rfl) rfl rfl hl.1 rfl (lv_room (Nat.le_of_ble_eq_true rfl)) dX4_onTheWay_2 ⟨Nat.le_of_ble_eq_true rfl, Nat.le_of_ble_eq_true rfl⟩)) (fun r_2 σ_1 H locs hP hS hE => ?_)
  refine z_if_eq (tgt := 24) hx hb dX4_onTheWay_5 (by decide) hE (fun hE => ?_) (fun hE => ?_)
  · refine lv_aload_n hx hb dX4_onTheWay_24 rfl (lv_at hl 0 rfl) ?_
    refine lv_iconst (v := -1) hx hb dX4_onTheWay_25 (by decide) ?_
    refine z_goi (wf := xW) hS hE (fun F1 h1 => (va_runV (As := [.int (-1)]) (rest := []) ⟨hx, hb, hml, hown, hts⟩ (kX4_refuse l E hD (-1) σ_1 F1 h1) (cwV 1 hts (gU_V u_118 u_119 u_120 u_2 u_121) rfl rfl rfl q_X4_refuse ⟨Nat.le_of_ble_eq_true rfl, Nat.le_of_ble_eq_true rfl⟩) (z_preV hK hP hS (ci := 4) (q0 := 0) rfl rfl rfl) rfl rfl hl.1 rfl (lv_room (Nat.le_of_ble_eq_true rfl)) dX4_onTheWay_26 ⟨Nat.le_of_ble_eq_true rfl, Nat.le_of_ble_eq_true rfl⟩)) (fun r_4 σ_3 H locs hP hS hE => ?_)
    exact z_iret hx hb hr hlk hP hS dX4_onTheWay_29 hE
  refine lv_aload_n hx hb dX4_onTheWay_8 rfl (lv_at hl 0 rfl) ?_
  refine lv_iload_n hx hb dX4_onTheWay_9 rfl (lv_at hl 2 rfl) ?_
  refine z_goi (wf := xW) hS hE (fun F1 h1 => (va_runV (As := [.int x2]) (rest := []) ⟨hx, hb, hml, hown, hts⟩ (kX4_isPlace l E hD x2 σ_1 F1 h1) (cwV 1 hts (gU_V u_383 u_384 u_385 u_2 u_386) rfl rfl rfl q_X4_isPlace ⟨Nat.le_of_ble_eq_true rfl, Nat.le_of_ble_eq_true rfl⟩) (z_preV hK hP hS (ci := 4) (q0 := 0) rfl rfl rfl) rfl rfl hl.1 rfl (lv_room (Nat.le_of_ble_eq_true rfl)) dX4_onTheWay_10 ⟨Nat.le_of_ble_eq_true rfl, Nat.le_of_ble_eq_true rfl⟩)) (fun r_6 σ_5 H locs hP hS hE => ?_)
  refine z_if_eq (tgt := 24) hx hb dX4_onTheWay_13 (by decide) hE (fun hE => ?_) (fun hE => ?_)
  · refine lv_aload_n hx hb dX4_onTheWay_24 rfl (lv_at hl 0 rfl) ?_
    refine lv_iconst (v := -1) hx hb dX4_onTheWay_25 (by decide) ?_
    refine z_goi (wf := xW) hS hE (fun F1 h1 => (va_runV (As := [.int (-1)]) (rest := []) ⟨hx, hb, hml, hown, hts⟩ (kX4_refuse l E hD (-1) σ_5 F1 h1) (cwV 1 hts (gU_V u_118 u_119 u_120 u_2 u_121) rfl rfl rfl q_X4_refuse ⟨Nat.le_of_ble_eq_true rfl, Nat.le_of_ble_eq_true rfl⟩) (z_preV hK hP hS (ci := 4) (q0 := 0) rfl rfl rfl) rfl rfl hl.1 rfl (lv_room (Nat.le_of_ble_eq_true rfl)) dX4_onTheWay_26 ⟨Nat.le_of_ble_eq_true rfl, Nat.le_of_ble_eq_true rfl⟩)) (fun r_8 σ_7 H locs hP hS hE => ?_)
    exact z_iret hx hb hr hlk hP hS dX4_onTheWay_29 hE
  refine lv_aload_n hx hb dX4_onTheWay_16 rfl (lv_at hl 0 rfl) ?_
  refine lv_iload_n hx hb dX4_onTheWay_17 rfl (lv_at hl 3 rfl) ?_
  refine z_goi (wf := xW) hS hE (fun F1 h1 => (va_runV (As := [.int x3]) (rest := []) ⟨hx, hb, hml, hown, hts⟩ (kX4_isPlace l E hD x3 σ_5 F1 h1) (cwV 1 hts (gU_V u_383 u_384 u_385 u_2 u_386) rfl rfl rfl q_X4_isPlace ⟨Nat.le_of_ble_eq_true rfl, Nat.le_of_ble_eq_true rfl⟩) (z_preV hK hP hS (ci := 4) (q0 := 0) rfl rfl rfl) rfl rfl hl.1 rfl (lv_room (Nat.le_of_ble_eq_true rfl)) dX4_onTheWay_18 ⟨Nat.le_of_ble_eq_true rfl, Nat.le_of_ble_eq_true rfl⟩)) (fun r_10 σ_9 H locs hP hS hE => ?_)
  refine z_if_ne (tgt := 30) hx hb dX4_onTheWay_21 (by decide) hE (fun hE => ?_) (fun hE => ?_)
  · refine lv_aload_n hx hb dX4_onTheWay_30 rfl (lv_at hl 0 rfl) ?_
    refine xg_0_2 hx hb hown hwX4 (hts _ u_19) hK hP dX4_onTheWay_31 ?_
    refine lv_iload_n hx hb dX4_onTheWay_34 rfl (lv_at hl 2 rfl) ?_
    refine lv_iload_n hx hb dX4_onTheWay_35 rfl (lv_at hl 1 rfl) ?_
    refine lv_iconst (v := 0) hx hb dX4_onTheWay_36 (by decide) ?_
    refine z_goi (wf := xW) hS hE (fun F1 h1 => (va_runV (As := [.int x2, .int x1, .int 0]) (rest := []) ⟨hx, hb, hml, hown, hts⟩ (kX0_minutesOf l E hD x2 x1 0 σ_9 F1 h1) (cwV 3 hts (gU_V u_481 u_482 u_483 u_43 u_484) rfl rfl rfl q_X0_minutesOf ⟨Nat.le_of_ble_eq_true rfl, Nat.le_of_ble_eq_true rfl⟩) (z_preV hK hP hS (ci := 0) (q0 := 2) rfl rfl rfl) rfl rfl hl.1 rfl (lv_room (Nat.le_of_ble_eq_true rfl)) dX4_onTheWay_37 ⟨Nat.le_of_ble_eq_true rfl, Nat.le_of_ble_eq_true rfl⟩)) (fun r_12 σ_11 H locs hP hS hE => ?_)
    refine z_istore hx hb (fun x4_13 => [(4, .int x4_13), (0, .ref (ea E 0)), (1, .int x1), (2, .int x2), (3, .int x3)]) dX4_onTheWay_40 hl (by decide) rfl hE (fun x4_13 ls hl hE => ?_)
    refine lv_aload_n hx hb dX4_onTheWay_42 rfl (lv_at hl 1 rfl) ?_
    refine xg_0_2 hx hb hown hwX4 (hts _ u_19) hK hP dX4_onTheWay_43 ?_
    refine lv_iload_n hx hb dX4_onTheWay_46 rfl (lv_at hl 2 rfl) ?_
    refine lv_iload_n hx hb dX4_onTheWay_47 rfl (lv_at hl 4 rfl) ?_
    refine lv_iconst (v := 0) hx hb dX4_onTheWay_48 (by decide) ?_
    refine z_goi (wf := xW) hS hE (fun F1 h1 => (va_runV (As := [.int x1, .int x3, .int 0]) (rest := []) ⟨hx, hb, hml, hown, hts⟩ (kX0_minutesOf l E hD x1 x3 0 σ_11 F1 h1) (cwV 3 hts (gU_V u_481 u_482 u_483 u_43 u_484) rfl rfl rfl q_X0_minutesOf ⟨Nat.le_of_ble_eq_true rfl, Nat.le_of_ble_eq_true rfl⟩) (z_preV hK hP hS (ci := 0) (q0 := 2) rfl rfl rfl) rfl rfl hl.1 rfl (lv_room (Nat.le_of_ble_eq_true rfl)) dX4_onTheWay_49 ⟨Nat.le_of_ble_eq_true rfl, Nat.le_of_ble_eq_true rfl⟩)) (fun r_15 σ_14 H locs hP hS hE => ?_)
    refine z_istore hx hb (fun x5_16 => [(5, .int x5_16), (4, .int x4_13), (0, .ref (ea E 0)), (1, .int x1), (2, .int x2), (3, .int x3)]) dX4_onTheWay_52 hl (by decide) rfl hE (fun x5_16 ls hl hE => ?_)
    refine lv_iload hx hb dX4_onTheWay_54 (lv_at hl 1 rfl) ?_
    refine z_if_lt (tgt := 64) hx hb dX4_onTheWay_56 (by decide) hE (fun hE => ?_) (fun hE => ?_)
    · refine lv_iconst (v := 0) hx hb dX4_onTheWay_64 (by decide) ?_
      exact z_iret hx hb hr hlk hP hS dX4_onTheWay_65 hE
    refine lv_iload hx hb dX4_onTheWay_59 (lv_at hl 0 rfl) ?_
    refine z_if_ge (tgt := 66) hx hb dX4_onTheWay_61 (by decide) hE (fun hE => ?_) (fun hE => ?_)
    · refine lv_iload hx hb dX4_onTheWay_66 (lv_at hl 1 rfl) ?_
      refine lv_iload hx hb dX4_onTheWay_68 (lv_at hl 0 rfl) ?_
      refine lv_iadd hx hb dX4_onTheWay_70 ?_
      refine lv_aload_n hx hb dX4_onTheWay_71 rfl (lv_at hl 2 rfl) ?_
      refine xg_0_2 hx hb hown hwX4 (hts _ u_19) hK hP dX4_onTheWay_72 ?_
      refine lv_iload_n hx hb dX4_onTheWay_75 rfl (lv_at hl 4 rfl) ?_
      refine lv_iload_n hx hb dX4_onTheWay_76 rfl (lv_at hl 5 rfl) ?_
      refine lv_iconst (v := 0) hx hb dX4_onTheWay_77 (by decide) ?_
      refine z_goi (wf := xW) hS hE (fun F1 h1 => (va_runV (As := [.int x2, .int x3, .int 0]) (rest := [.int (x4_13 + x5_16)]) ⟨hx, hb, hml, hown, hts⟩ (kX0_minutesOf l E hD x2 x3 0 σ_14 F1 h1) (cwV 3 hts (gU_V u_481 u_482 u_483 u_43 u_484) rfl rfl rfl q_X0_minutesOf ⟨Nat.le_of_ble_eq_true rfl, Nat.le_of_ble_eq_true rfl⟩) (z_preV hK hP hS (ci := 0) (q0 := 2) rfl rfl rfl) rfl rfl hl.1 rfl (lv_room (Nat.le_of_ble_eq_true rfl)) dX4_onTheWay_78 ⟨Nat.le_of_ble_eq_true rfl, Nat.le_of_ble_eq_true rfl⟩)) (fun r_18 σ_17 H locs hP hS hE => ?_)
      refine z_icmp_ne (tgt := 88) hx hb dX4_onTheWay_81 (by decide) hE (fun hE => ?_) (fun hE => ?_)
      · refine lv_iconst (v := 0) hx hb dX4_onTheWay_88 (by decide) ?_
        exact z_iret hx hb hr hlk hP hS dX4_onTheWay_89 hE
      refine lv_iconst (v := 1) hx hb dX4_onTheWay_84 (by decide) ?_
      refine lv_goto (tgt := 89) hx hb dX4_onTheWay_85 (by decide) ?_
      exact z_iret hx hb hr hlk hP hS dX4_onTheWay_89 hE
    refine lv_iconst (v := 0) hx hb dX4_onTheWay_64 (by decide) ?_
    exact z_iret hx hb hr hlk hP hS dX4_onTheWay_65 hE
  refine lv_aload_n hx hb dX4_onTheWay_24 rfl (lv_at hl 0 rfl) ?_
  refine lv_iconst (v := -1) hx hb dX4_onTheWay_25 (by decide) ?_
  refine z_goi (wf := xW) hS hE (fun F1 h1 => (va_runV (As := [.int (-1)]) (rest := []) ⟨hx, hb, hml, hown, hts⟩ (kX4_refuse l E hD (-1) σ_9 F1 h1) (cwV 1 hts (gU_V u_118 u_119 u_120 u_2 u_121) rfl rfl rfl q_X4_refuse ⟨Nat.le_of_ble_eq_true rfl, Nat.le_of_ble_eq_true rfl⟩) (z_preV hK hP hS (ci := 4) (q0 := 0) rfl rfl rfl) rfl rfl hl.1 rfl (lv_room (Nat.le_of_ble_eq_true rfl)) dX4_onTheWay_26 ⟨Nat.le_of_ble_eq_true rfl, Nat.le_of_ble_eq_true rfl⟩)) (fun r_20 σ_19 H locs hP hS hE => ?_)
  exact z_iret hx hb hr hlk hP hS dX4_onTheWay_29 hE
theorem kX4_onTheWay (l : Launch) (E : EN) (hD : ∀ σ, va_D (eA E) (xW E σ)) (x1 : Int32) (x2 : Int32) (x3 : Int32) (σ : ST) (F : Int32 × ST) (hE : fX4_onTheWay x1 x2 x3 σ = some F) : Met l yX4_onTheWay wu_X4_onTheWay r_X4_onTheWay (zPc E xW [.ref (ea E 0), .int x1, .int x2, .int x3] σ) (zQi E xW F) 0 0 (eA E) := by
  refine Met.ofW (cc := cX4_onTheWay) (maxL := 6) (ret := (some .int)) (by decide) rfl ?_
  intro p e s m args below meth c s₁ B hml hv
  obtain ⟨rfl, hP, hK⟩ := hv
  have hl := lv_entry ([.ref (ea E 0), .int x1, .int x2, .int x3]) (n := 6) (Nat.le_of_ble_eq_true rfl)
  rw [lg_entry_eq]
  generalize (lg_sl ([.ref (ea E 0), .int x1, .int x2, .int x3]) ++ List.replicate (6 - (lg_sl ([.ref (ea E 0), .int x1, .int x2, .int x3])).length) Slot.unset).toArray = ls at hl ⊢
  exact wX4_onTheWay ⟨B.exec, B.bytes, hml, findClass_of_methodNamed B.named, fun w h => atoms_spec (ws := wu_X4_onTheWay) B.pre w (List.mem_cons_of_mem _ h), B.returns, B.notSynchronized, hK, hD⟩ x1 x2 x3 σ s.heap [] ls hl hP va_S.rf hE
def fX4_row  (x1 : Int32) (σ : ST) : Option (Int32 × ST) :=
  (if 0 ≤ x1 then (if 9 < x1 then cali (fX4_refuse (-6) σ) (fun r_2 σ_1 => some (r_2, σ_1)) else (if (gI σ 0) < 10 then ast σ 43 10 (gI σ 0) x1 (fun σ_3 => bnd (sI σ_3 0 ((gI σ_3 0) + 1)) (fun σ_4 => some ((gI σ_4 0), σ_4))) else cali (fX4_refuse (-6) σ) (fun r_6 σ_5 => some (r_6, σ_5)))) else cali (fX4_refuse (-4) σ) (fun r_8 σ_7 => some (r_8, σ_7)))
set_option maxHeartbeats 4000000 in
set_option maxRecDepth 100000 in
theorem wX4_row {p : Program} {l : Launch} {e : Env} {s : State} {m : MethodId} {args : Array Value} {below : List Frame} {meth : Method} {c : Code} {E : EN} (C : zC E xW p s m args meth c cX4_row 2 RX4 (some .int) wsL_law) {F : Int32 × ST}   (x1 : Int32) (σ : ST) (H : Heap) (locs : List Loc) (ls : Array Slot) (hl : lv_has ls 2 [(0, .ref (ea E 0)), (1, .int x1)]) (hP : va_P (eD E) vwCl (xW E σ) H) (hS : va_S (eA E) s.heap H locs) (hE : fX4_row  x1 σ = some F) : zWi E xW p l e r_X4_row s m args below meth c F H locs (F0 m 0 ls []) := by
  obtain ⟨hx, hb, hml, hown, hts, hr, hlk, hK, hD⟩ := id C
  have hwX4 : ∀ w ∈ wsX40, w.before args s = true := fun w h => hts w (inlX4 w h)
  unfold fX4_row at hE
  refine lv_iload_n hx hb dX4_row_0 rfl (lv_at hl 1 rfl) ?_
  refine z_if_ge (tgt := 11) hx hb dX4_row_1 (by decide) hE (fun hE => ?_) (fun hE => ?_)
  · refine lv_iload_n hx hb dX4_row_11 rfl (lv_at hl 1 rfl) ?_
    refine lv_bipush (v := 9) hx hb dX4_row_12 (by decide) ?_
    refine z_icmp_gt (tgt := 26) hx hb dX4_row_14 (by decide) hE (fun hE => ?_) (fun hE => ?_)
    · refine lv_aload_n hx hb dX4_row_26 rfl (lv_at hl 0 rfl) ?_
      refine lv_bipush (v := -6) hx hb dX4_row_27 (by decide) ?_
      refine z_goi (wf := xW) hS hE (fun F1 h1 => (va_runV (As := [.int (-6)]) (rest := []) ⟨hx, hb, hml, hown, hts⟩ (kX4_refuse l E hD (-6) σ F1 h1) (cwV 1 hts (gU_V u_118 u_119 u_120 u_2 u_121) rfl rfl rfl q_X4_refuse ⟨Nat.le_of_ble_eq_true rfl, Nat.le_of_ble_eq_true rfl⟩) (z_preV hK hP hS (ci := 4) (q0 := 0) rfl rfl rfl) rfl rfl hl.1 rfl (lv_room (Nat.le_of_ble_eq_true rfl)) dX4_row_29 ⟨Nat.le_of_ble_eq_true rfl, Nat.le_of_ble_eq_true rfl⟩)) (fun r_2 σ_1 H locs hP hS hE => ?_)
      exact z_iret hx hb hr hlk hP hS dX4_row_32 hE
    refine lv_aload_n hx hb dX4_row_17 rfl (lv_at hl 0 rfl) ?_
    refine xg_0_10 hx hb hown hwX4 (hts _ u_34) hK hP dX4_row_18 ?_
    refine lv_bipush (v := 10) hx hb dX4_row_21 (by decide) ?_
    refine z_icmp_lt (tgt := 33) hx hb dX4_row_23 (by decide) hE (fun hE => ?_) (fun hE => ?_)
    · refine lv_aload_n hx hb dX4_row_33 rfl (lv_at hl 0 rfl) ?_
      refine xg_0_6 hx hb hown hwX4 (hts _ u_30) hK hP dX4_row_34 ?_
      refine lv_aload_n hx hb dX4_row_37 rfl (lv_at hl 0 rfl) ?_
      refine xg_0_10 hx hb hown hwX4 (hts _ u_34) hK hP dX4_row_38 ?_
      refine lv_iload_n hx hb dX4_row_41 rfl (lv_at hl 1 rfl) ?_
      refine xs_50 hx hb hK hD hP hS dX4_row_42 hE (fun σ_3 H locs hP hS hE => ?_)
      refine lv_aload_n hx hb dX4_row_43 rfl (lv_at hl 0 rfl) ?_
      refine lv_dup hx hb dX4_row_44 rfl ?_
      refine xg_0_10 hx hb hown hwX4 (hts _ u_34) hK hP dX4_row_45 ?_
      refine lv_iconst (v := 1) hx hb dX4_row_48 (by decide) ?_
      refine lv_iadd hx hb dX4_row_49 ?_
      refine xp_0_10 hx hb hown hwX4 (hts _ u_34) hK hD hP hS dX4_row_50 hE (fun σ_4 H locs hP hS hE => ?_)
      refine lv_aload_n hx hb dX4_row_53 rfl (lv_at hl 0 rfl) ?_
      refine xg_0_10 hx hb hown hwX4 (hts _ u_34) hK hP dX4_row_54 ?_
      exact z_iret hx hb hr hlk hP hS dX4_row_57 hE
    refine lv_aload_n hx hb dX4_row_26 rfl (lv_at hl 0 rfl) ?_
    refine lv_bipush (v := -6) hx hb dX4_row_27 (by decide) ?_
    refine z_goi (wf := xW) hS hE (fun F1 h1 => (va_runV (As := [.int (-6)]) (rest := []) ⟨hx, hb, hml, hown, hts⟩ (kX4_refuse l E hD (-6) σ F1 h1) (cwV 1 hts (gU_V u_118 u_119 u_120 u_2 u_121) rfl rfl rfl q_X4_refuse ⟨Nat.le_of_ble_eq_true rfl, Nat.le_of_ble_eq_true rfl⟩) (z_preV hK hP hS (ci := 4) (q0 := 0) rfl rfl rfl) rfl rfl hl.1 rfl (lv_room (Nat.le_of_ble_eq_true rfl)) dX4_row_29 ⟨Nat.le_of_ble_eq_true rfl, Nat.le_of_ble_eq_true rfl⟩)) (fun r_6 σ_5 H locs hP hS hE => ?_)
    exact z_iret hx hb hr hlk hP hS dX4_row_32 hE
  refine lv_aload_n hx hb dX4_row_4 rfl (lv_at hl 0 rfl) ?_
  refine lv_bipush (v := -4) hx hb dX4_row_5 (by decide) ?_
  refine z_goi (wf := xW) hS hE (fun F1 h1 => (va_runV (As := [.int (-4)]) (rest := []) ⟨hx, hb, hml, hown, hts⟩ (kX4_refuse l E hD (-4) σ F1 h1) (cwV 1 hts (gU_V u_118 u_119 u_120 u_2 u_121) rfl rfl rfl q_X4_refuse ⟨Nat.le_of_ble_eq_true rfl, Nat.le_of_ble_eq_true rfl⟩) (z_preV hK hP hS (ci := 4) (q0 := 0) rfl rfl rfl) rfl rfl hl.1 rfl (lv_room (Nat.le_of_ble_eq_true rfl)) dX4_row_7 ⟨Nat.le_of_ble_eq_true rfl, Nat.le_of_ble_eq_true rfl⟩)) (fun r_8 σ_7 H locs hP hS hE => ?_)
  exact z_iret hx hb hr hlk hP hS dX4_row_10 hE
theorem kX4_row (l : Launch) (E : EN) (hD : ∀ σ, va_D (eA E) (xW E σ)) (x1 : Int32) (σ : ST) (F : Int32 × ST) (hE : fX4_row x1 σ = some F) : Met l yX4_row wu_X4_row r_X4_row (zPc E xW [.ref (ea E 0), .int x1] σ) (zQi E xW F) 0 0 (eA E) := by
  refine Met.ofW (cc := cX4_row) (maxL := 2) (ret := (some .int)) (by decide) rfl ?_
  intro p e s m args below meth c s₁ B hml hv
  obtain ⟨rfl, hP, hK⟩ := hv
  have hl := lv_entry ([.ref (ea E 0), .int x1]) (n := 2) (Nat.le_of_ble_eq_true rfl)
  rw [lg_entry_eq]
  generalize (lg_sl ([.ref (ea E 0), .int x1]) ++ List.replicate (2 - (lg_sl ([.ref (ea E 0), .int x1])).length) Slot.unset).toArray = ls at hl ⊢
  exact wX4_row ⟨B.exec, B.bytes, hml, findClass_of_methodNamed B.named, fun w h => atoms_spec (ws := wu_X4_row) B.pre w (List.mem_cons_of_mem _ h), B.returns, B.notSynchronized, hK, hD⟩ x1 σ s.heap [] ls hl hP va_S.rf hE
def fX4_clear   (σ : ST) : Option (Int32 × ST) :=
  bnd ((gI σ 0) : Int32) (fun x1_1 => bnd (sI σ 0 0) (fun σ_2 => some (x1_1, σ_2)))
set_option maxHeartbeats 4000000 in
set_option maxRecDepth 100000 in
theorem wX4_clear {p : Program} {l : Launch} {e : Env} {s : State} {m : MethodId} {args : Array Value} {below : List Frame} {meth : Method} {c : Code} {E : EN} (C : zC E xW p s m args meth c cX4_clear 2 RX4 (some .int) wsL_law) {F : Int32 × ST}    (σ : ST) (H : Heap) (locs : List Loc) (ls : Array Slot) (hl : lv_has ls 2 [(0, .ref (ea E 0))]) (hP : va_P (eD E) vwCl (xW E σ) H) (hS : va_S (eA E) s.heap H locs) (hE : fX4_clear   σ = some F) : zWi E xW p l e r_X4_clear s m args below meth c F H locs (F0 m 0 ls []) := by
  obtain ⟨hx, hb, hml, hown, hts, hr, hlk, hK, hD⟩ := id C
  have hwX4 : ∀ w ∈ wsX40, w.before args s = true := fun w h => hts w (inlX4 w h)
  unfold fX4_clear at hE
  refine lv_aload_n hx hb dX4_clear_0 rfl (lv_at hl 0 rfl) ?_
  refine xg_0_10 hx hb hown hwX4 (hts _ u_34) hK hP dX4_clear_1 ?_
  refine z_istore_n hx hb (fun x1_1 => [(1, .int x1_1), (0, .ref (ea E 0))]) dX4_clear_4 rfl hl (by decide) rfl hE (fun x1_1 ls hl hE => ?_)
  refine lv_aload_n hx hb dX4_clear_5 rfl (lv_at hl 1 rfl) ?_
  refine lv_iconst (v := 0) hx hb dX4_clear_6 (by decide) ?_
  refine xp_0_10 hx hb hown hwX4 (hts _ u_34) hK hD hP hS dX4_clear_7 hE (fun σ_2 H locs hP hS hE => ?_)
  refine lv_iload_n hx hb dX4_clear_10 rfl (lv_at hl 0 rfl) ?_
  exact z_iret hx hb hr hlk hP hS dX4_clear_11 hE
theorem kX4_clear (l : Launch) (E : EN) (hD : ∀ σ, va_D (eA E) (xW E σ))  (σ : ST) (F : Int32 × ST) (hE : fX4_clear  σ = some F) : Met l yX4_clear wu_X4_clear r_X4_clear (zPc E xW [.ref (ea E 0)] σ) (zQi E xW F) 0 0 (eA E) := by
  refine Met.ofW (cc := cX4_clear) (maxL := 2) (ret := (some .int)) (by decide) rfl ?_
  intro p e s m args below meth c s₁ B hml hv
  obtain ⟨rfl, hP, hK⟩ := hv
  have hl := lv_entry ([.ref (ea E 0)]) (n := 2) (Nat.le_of_ble_eq_true rfl)
  rw [lg_entry_eq]
  generalize (lg_sl ([.ref (ea E 0)]) ++ List.replicate (2 - (lg_sl ([.ref (ea E 0)])).length) Slot.unset).toArray = ls at hl ⊢
  exact wX4_clear ⟨B.exec, B.bytes, hml, findClass_of_methodNamed B.named, fun w h => atoms_spec (ws := wu_X4_clear) B.pre w (List.mem_cons_of_mem _ h), B.returns, B.notSynchronized, hK, hD⟩  σ s.heap [] ls hl hP va_S.rf hE
def fX4_judge_L31 (ke : ST → Option (Int32 × ST)) : Nat → Int32 → Int32 → ST → Option (Int32 × ST)
  | 0, _, _, _ => none
  | n + 1, x1, x2, σ => (if (gI σ 0) ≤ x2 then ke  σ else ald (gA σ 43) 10 x2 (fun v_4 => bnd ((1 <<< (v_4 &&& 31)) : Int32) (fun x3_5 => (if (x1 &&& x3_5) = 0 then some (x2, σ) else bnd ((x1 &&& (x3_5 ^^^ (-1))) : Int32) (fun x1_6 => bnd (x2 + 1) (fun x2_7 => fX4_judge_L31 ke n x1_6 x2_7 σ))))))
set_option maxHeartbeats 4000000 in
set_option maxRecDepth 100000 in
theorem wX4_judge_L31 {p : Program} {l : Launch} {e : Env} {s : State} {m : MethodId} {args : Array Value} {below : List Frame} {meth : Method} {c : Code} {E : EN} (C : zC E xW p s m args meth c cX4_judge 4 RX4 (some .int) wsL_law) {F : Int32 × ST} {ke : ST → Option (Int32 × ST)} (hke : ∀  (σ : ST) (H : Heap) (locs : List Loc) (ls : Array Slot), lv_has ls 4 [] → va_P (eD E) vwCl (xW E σ) H → va_S (eA E) s.heap H locs → ke  σ = some F → zWi E xW p l e r_X4_judge s m args below meth c F H locs (F0 m 68 ls [])) : ∀ (n : Nat) (x1 : Int32) (x2 : Int32) (σ : ST) (H : Heap) (locs : List Loc) (ls : Array Slot), lv_has ls 4 [(0, .ref (ea E 0)), (1, .int x1), (2, .int x2)] → va_P (eD E) vwCl (xW E σ) H → va_S (eA E) s.heap H locs → fX4_judge_L31 ke n x1 x2 σ = some F → zWi E xW p l e r_X4_judge s m args below meth c F H locs (F0 m 31 ls []) := by
  obtain ⟨hx, hb, hml, hown, hts, hr, hlk, hK, hD⟩ := id C
  have hwX4 : ∀ w ∈ wsX40, w.before args s = true := fun w h => hts w (inlX4 w h)
  intro n
  induction n with
  | zero => intro x1 x2 σ H locs ls hl hP hS hE; rw [fX4_judge_L31] at hE; cases hE
  | succ n ih =>
    intro x1 x2 σ H locs ls hl hP hS hE
    rw [fX4_judge_L31] at hE
    refine lv_iload_n hx hb dX4_judge_31 rfl (lv_at hl 2 rfl) ?_
    refine lv_aload_n hx hb dX4_judge_32 rfl (lv_at hl 0 rfl) ?_
    refine xg_0_10 hx hb hown hwX4 (hts _ u_34) hK hP dX4_judge_33 ?_
    refine z_icmp_ge (tgt := 68) hx hb dX4_judge_36 (by decide) hE (fun hE => ?_) (fun hE => ?_)
    · exact hke  σ _ _ _ (lv_sub hl [] rfl) hP hS hE
    refine lv_iconst (v := 1) hx hb dX4_judge_39 (by decide) ?_
    refine lv_aload_n hx hb dX4_judge_40 rfl (lv_at hl 0 rfl) ?_
    refine xg_0_6 hx hb hown hwX4 (hts _ u_30) hK hP dX4_judge_41 ?_
    refine lv_iload_n hx hb dX4_judge_44 rfl (lv_at hl 2 rfl) ?_
    refine xa_50 hx hb hK hP dX4_judge_45 hE (fun v_4 hE => ?_)
    refine lv_ishl hx hb dX4_judge_46 ?_
    refine z_istore_n hx hb (fun x3_5 => [(3, .int x3_5), (0, .ref (ea E 0)), (1, .int x1), (2, .int x2)]) dX4_judge_47 rfl hl (by decide) rfl hE (fun x3_5 ls hl hE => ?_)
    refine lv_iload_n hx hb dX4_judge_48 rfl (lv_at hl 2 rfl) ?_
    refine lv_iload_n hx hb dX4_judge_49 rfl (lv_at hl 0 rfl) ?_
    refine lv_iand hx hb dX4_judge_50 ?_
    refine z_if_ne (tgt := 56) hx hb dX4_judge_51 (by decide) hE (fun hE => ?_) (fun hE => ?_)
    · refine lv_iload_n hx hb dX4_judge_56 rfl (lv_at hl 2 rfl) ?_
      refine lv_iload_n hx hb dX4_judge_57 rfl (lv_at hl 0 rfl) ?_
      refine lv_iconst (v := -1) hx hb dX4_judge_58 (by decide) ?_
      refine lv_ixor hx hb dX4_judge_59 ?_
      refine lv_iand hx hb dX4_judge_60 ?_
      refine z_istore_n hx hb (fun x1_6 => [(1, .int x1_6), (3, .int x3_5), (0, .ref (ea E 0)), (2, .int x2)]) dX4_judge_61 rfl hl (by decide) rfl hE (fun x1_6 ls hl hE => ?_)
      refine z_iinc hx hb (v := (x2 + 1)) (k := 3) (fun x2_7 => [(2, .int x2_7), (1, .int x1_6), (3, .int x3_5), (0, .ref (ea E 0))]) dX4_judge_62 hl rfl (by rfl) (by decide) rfl hE (fun x2_7 ls hl hE => ?_)
      refine lv_goto (tgt := 31) hx hb dX4_judge_65 (by decide) ?_
      exact ih x1_6 x2_7 σ _ _ _ (lv_sub hl [3, 1, 0] rfl) hP hS hE
    refine lv_iload_n hx hb dX4_judge_54 rfl (lv_at hl 3 rfl) ?_
    exact z_iret hx hb hr hlk hP hS dX4_judge_55 hE
def fX4_judge   (σ : ST) : Option (Int32 × ST) :=
  (if (gI σ 3) = 0 then cali (fX4_refuse (-3) σ) (fun r_10 σ_9 => some (r_10, σ_9)) else calv (fX4_goByRow σ) (fun σ_1 => bnd ((gI σ_1 26) : Int32) (fun x1_2 => bnd (0 : Int32) (fun x2_3 => fX4_judge_L31 (fun σ_8 => some ((-9), σ_8)) FU x1_2 x2_3 σ_1))))
set_option maxHeartbeats 4000000 in
set_option maxRecDepth 100000 in
theorem wX4_judge {p : Program} {l : Launch} {e : Env} {s : State} {m : MethodId} {args : Array Value} {below : List Frame} {meth : Method} {c : Code} {E : EN} (C : zC E xW p s m args meth c cX4_judge 4 RX4 (some .int) wsL_law) {F : Int32 × ST}    (σ : ST) (H : Heap) (locs : List Loc) (ls : Array Slot) (hl : lv_has ls 4 [(0, .ref (ea E 0))]) (hP : va_P (eD E) vwCl (xW E σ) H) (hS : va_S (eA E) s.heap H locs) (hE : fX4_judge   σ = some F) : zWi E xW p l e r_X4_judge s m args below meth c F H locs (F0 m 0 ls []) := by
  obtain ⟨hx, hb, hml, hown, hts, hr, hlk, hK, hD⟩ := id C
  have hwX2 : ∀ w ∈ wsX20, w.before args s = true := fun w h => hts w (inlX2 w h)
  have hwX3 : ∀ w ∈ wsX30, w.before args s = true := fun w h => hts w (inlX3 w h)
  have hwX4 : ∀ w ∈ wsX40, w.before args s = true := fun w h => hts w (inlX4 w h)
  unfold fX4_judge at hE
  refine lv_aload_n hx hb dX4_judge_0 rfl (lv_at hl 0 rfl) ?_
  refine xg_0_1 hx hb hown hwX4 (hts _ u_17) hK hP dX4_judge_1 ?_
  refine xg_4_11 hx hb hown hwX2 (hts _ u_387) hK hP dX4_judge_4 ?_
  refine z_if_ne (tgt := 17) hx hb dX4_judge_7 (by decide) hE (fun hE => ?_) (fun hE => ?_)
  · refine lv_aload_n hx hb dX4_judge_17 rfl (lv_at hl 0 rfl) ?_
    refine z_gov (wf := xW) hS hE (fun F1 h1 => (va_runV (As := []) (rest := []) ⟨hx, hb, hml, hown, hts⟩ (kX4_goByRow l E hD  σ F1 h1) (cwV 0 hts (gU_V u_521 u_522 u_523 u_2 u_524) rfl rfl rfl q_X4_goByRow ⟨Nat.le_of_ble_eq_true rfl, Nat.le_of_ble_eq_true rfl⟩) (z_preV hK hP hS (ci := 4) (q0 := 0) rfl rfl rfl) rfl rfl hl.1 rfl (lv_room (Nat.le_of_ble_eq_true rfl)) dX4_judge_18 ⟨Nat.le_of_ble_eq_true rfl, Nat.le_of_ble_eq_true rfl⟩)) (fun σ_1 H locs hP hS hE => ?_)
    refine lv_aload_n hx hb dX4_judge_21 rfl (lv_at hl 0 rfl) ?_
    refine xg_0_0 hx hb hown hwX4 (hts _ u_15) hK hP dX4_judge_22 ?_
    refine xg_1_11 hx hb hown hwX3 (hts _ u_519) hK hP dX4_judge_25 ?_
    refine z_istore_n hx hb (fun x1_2 => [(1, .int x1_2), (0, .ref (ea E 0))]) dX4_judge_28 rfl hl (by decide) rfl hE (fun x1_2 ls hl hE => ?_)
    refine lv_iconst (v := 0) hx hb dX4_judge_29 (by decide) ?_
    refine z_istore_n hx hb (fun x2_3 => [(2, .int x2_3), (1, .int x1_2), (0, .ref (ea E 0))]) dX4_judge_30 rfl hl (by decide) rfl hE (fun x2_3 ls hl hE => ?_)
    refine wX4_judge_L31 C ?_ FU x1_2 x2_3 σ_1 _ _ _ (lv_sub hl [2, 1, 0] rfl) hP hS hE
    intro σ_8 H locs ls hl hP hS hE
    refine lv_bipush (v := -9) hx hb dX4_judge_68 (by decide) ?_
    exact z_iret hx hb hr hlk hP hS dX4_judge_70 hE
  refine lv_aload_n hx hb dX4_judge_10 rfl (lv_at hl 0 rfl) ?_
  refine lv_bipush (v := -3) hx hb dX4_judge_11 (by decide) ?_
  refine z_goi (wf := xW) hS hE (fun F1 h1 => (va_runV (As := [.int (-3)]) (rest := []) ⟨hx, hb, hml, hown, hts⟩ (kX4_refuse l E hD (-3) σ F1 h1) (cwV 1 hts (gU_V u_118 u_119 u_120 u_2 u_121) rfl rfl rfl q_X4_refuse ⟨Nat.le_of_ble_eq_true rfl, Nat.le_of_ble_eq_true rfl⟩) (z_preV hK hP hS (ci := 4) (q0 := 0) rfl rfl rfl) rfl rfl hl.1 rfl (lv_room (Nat.le_of_ble_eq_true rfl)) dX4_judge_13 ⟨Nat.le_of_ble_eq_true rfl, Nat.le_of_ble_eq_true rfl⟩)) (fun r_10 σ_9 H locs hP hS hE => ?_)
  exact z_iret hx hb hr hlk hP hS dX4_judge_16 hE
theorem kX4_judge (l : Launch) (E : EN) (hD : ∀ σ, va_D (eA E) (xW E σ))  (σ : ST) (F : Int32 × ST) (hE : fX4_judge  σ = some F) : Met l yX4_judge wu_X4_judge r_X4_judge (zPc E xW [.ref (ea E 0)] σ) (zQi E xW F) 0 0 (eA E) := by
  refine Met.ofW (cc := cX4_judge) (maxL := 4) (ret := (some .int)) (by decide) rfl ?_
  intro p e s m args below meth c s₁ B hml hv
  obtain ⟨rfl, hP, hK⟩ := hv
  have hl := lv_entry ([.ref (ea E 0)]) (n := 4) (Nat.le_of_ble_eq_true rfl)
  rw [lg_entry_eq]
  generalize (lg_sl ([.ref (ea E 0)]) ++ List.replicate (4 - (lg_sl ([.ref (ea E 0)])).length) Slot.unset).toArray = ls at hl ⊢
  exact wX4_judge ⟨B.exec, B.bytes, hml, findClass_of_methodNamed B.named, fun w h => atoms_spec (ws := wu_X4_judge) B.pre w (List.mem_cons_of_mem _ h), B.returns, B.notSynchronized, hK, hD⟩  σ s.heap [] ls hl hP va_S.rf hE
def fX3_timesHome_J100 (kb : Int32 → Int32 → Int32 → Int32 → Int32 → Int32 → ST → Option (Int32 × ST)) (x1 : Int32) (x3 : Int32) (x4 : Int32) (x5 : Int32) (x7 : Int32) (x9 : Int32) (σ : ST) : Option (Int32 × ST) :=
  ald (gA σ 42) 12 x7 (fun v_9 => (if x9 = v_9 then bnd (0 : Int32) (fun x6_10 => bnd (x7 + 1) (fun x7_11 => kb x1 x3 x4 x5 x6_10 x7_11 σ)) else bnd (1 : Int32) (fun x6_12 => bnd (x7 + 1) (fun x7_13 => kb x1 x3 x4 x5 x6_12 x7_13 σ))))
set_option maxHeartbeats 4000000 in
set_option maxRecDepth 100000 in
theorem wX3_timesHome_J100 {p : Program} {l : Launch} {e : Env} {s : State} {m : MethodId} {args : Array Value} {below : List Frame} {meth : Method} {c : Code} {E : EN} (C : zC E xW p s m args meth c cX3_timesHome 10 RX3 (some .int) wsL_law) {F : Int32 × ST} {kb : Int32 → Int32 → Int32 → Int32 → Int32 → Int32 → ST → Option (Int32 × ST)} (hkb : ∀ (x1 : Int32) (x3 : Int32) (x4 : Int32) (x5 : Int32) (x6 : Int32) (x7 : Int32) (σ : ST) (H : Heap) (locs : List Loc) (ls : Array Slot), lv_has ls 10 [(0, .ref (ea E 1)), (1, .int x1), (3, .int x3), (4, .int x4), (5, .int x5), (6, .int x6), (7, .int x7)] → va_P (eD E) vwCl (xW E σ) H → va_S (eA E) s.heap H locs → kb x1 x3 x4 x5 x6 x7 σ = some F → zWi E xW p l e r_X3_timesHome s m args below meth c F H locs (F0 m 20 ls [])) (x1 : Int32) (x3 : Int32) (x4 : Int32) (x5 : Int32) (x7 : Int32) (x9 : Int32) (σ : ST) (H : Heap) (locs : List Loc) (ls : Array Slot) (hl : lv_has ls 10 [(0, .ref (ea E 1)), (1, .int x1), (3, .int x3), (4, .int x4), (5, .int x5), (7, .int x7), (9, .int x9)]) (hP : va_P (eD E) vwCl (xW E σ) H) (hS : va_S (eA E) s.heap H locs) (hE : fX3_timesHome_J100 kb x1 x3 x4 x5 x7 x9 σ = some F) : zWi E xW p l e r_X3_timesHome s m args below meth c F H locs (F0 m 100 ls []) := by
  obtain ⟨hx, hb, hml, hown, hts, hr, hlk, hK, hD⟩ := id C
  have hwX3 : ∀ w ∈ wsX30, w.before args s = true := fun w h => hts w (inlX3 w h)
  unfold fX3_timesHome_J100 at hE
  refine lv_iload hx hb dX3_timesHome_100 (lv_at hl 6 rfl) ?_
  refine lv_aload_n hx hb dX3_timesHome_102 rfl (lv_at hl 0 rfl) ?_
  refine xg_1_5 hx hb hown hwX3 (hts _ u_49) hK hP dX3_timesHome_103 ?_
  refine lv_iload hx hb dX3_timesHome_106 (lv_at hl 5 rfl) ?_
  refine xa_49 hx hb hK hP dX3_timesHome_108 hE (fun v_9 hE => ?_)
  refine z_icmp_eq (tgt := 116) hx hb dX3_timesHome_109 (by decide) hE (fun hE => ?_) (fun hE => ?_)
  · refine lv_iconst (v := 0) hx hb dX3_timesHome_116 (by decide) ?_
    refine z_istore hx hb (fun x6_10 => [(6, .int x6_10), (0, .ref (ea E 1)), (1, .int x1), (3, .int x3), (4, .int x4), (5, .int x5), (7, .int x7), (9, .int x9)]) dX3_timesHome_117 hl (by decide) rfl hE (fun x6_10 ls hl hE => ?_)
    refine z_iinc hx hb (v := (x7 + 1)) (k := 6) (fun x7_11 => [(7, .int x7_11), (6, .int x6_10), (0, .ref (ea E 1)), (1, .int x1), (3, .int x3), (4, .int x4), (5, .int x5), (9, .int x9)]) dX3_timesHome_119 hl rfl (by rfl) (by decide) rfl hE (fun x7_11 ls hl hE => ?_)
    refine lv_goto (tgt := 20) hx hb dX3_timesHome_122 (by decide) ?_
    exact hkb x1 x3 x4 x5 x6_10 x7_11 σ _ _ _ (lv_sub hl [2, 3, 4, 5, 6, 1, 0] rfl) hP hS hE
  refine lv_iconst (v := 1) hx hb dX3_timesHome_112 (by decide) ?_
  refine lv_goto (tgt := 117) hx hb dX3_timesHome_113 (by decide) ?_
  refine z_istore hx hb (fun x6_12 => [(6, .int x6_12), (0, .ref (ea E 1)), (1, .int x1), (3, .int x3), (4, .int x4), (5, .int x5), (7, .int x7), (9, .int x9)]) dX3_timesHome_117 hl (by decide) rfl hE (fun x6_12 ls hl hE => ?_)
  refine z_iinc hx hb (v := (x7 + 1)) (k := 6) (fun x7_13 => [(7, .int x7_13), (6, .int x6_12), (0, .ref (ea E 1)), (1, .int x1), (3, .int x3), (4, .int x4), (5, .int x5), (9, .int x9)]) dX3_timesHome_119 hl rfl (by rfl) (by decide) rfl hE (fun x7_13 ls hl hE => ?_)
  refine lv_goto (tgt := 20) hx hb dX3_timesHome_122 (by decide) ?_
  exact hkb x1 x3 x4 x5 x6_12 x7_13 σ _ _ _ (lv_sub hl [2, 3, 4, 5, 6, 1, 0] rfl) hP hS hE
def fX3_timesHome_J98 (kb : Int32 → Int32 → Int32 → Int32 → Int32 → Int32 → ST → Option (Int32 × ST)) (x1 : Int32) (x3 : Int32) (x4 : Int32) (x5 : Int32) (x7 : Int32) (t0 : Int32) (σ : ST) : Option (Int32 × ST) :=
  bnd (t0 : Int32) (fun x9_17 => fX3_timesHome_J100 kb x1 x3 x4 x5 x7 x9_17 σ)
set_option maxHeartbeats 4000000 in
set_option maxRecDepth 100000 in
theorem wX3_timesHome_J98 {p : Program} {l : Launch} {e : Env} {s : State} {m : MethodId} {args : Array Value} {below : List Frame} {meth : Method} {c : Code} {E : EN} (C : zC E xW p s m args meth c cX3_timesHome 10 RX3 (some .int) wsL_law) {F : Int32 × ST} {kb : Int32 → Int32 → Int32 → Int32 → Int32 → Int32 → ST → Option (Int32 × ST)} (hkb : ∀ (x1 : Int32) (x3 : Int32) (x4 : Int32) (x5 : Int32) (x6 : Int32) (x7 : Int32) (σ : ST) (H : Heap) (locs : List Loc) (ls : Array Slot), lv_has ls 10 [(0, .ref (ea E 1)), (1, .int x1), (3, .int x3), (4, .int x4), (5, .int x5), (6, .int x6), (7, .int x7)] → va_P (eD E) vwCl (xW E σ) H → va_S (eA E) s.heap H locs → kb x1 x3 x4 x5 x6 x7 σ = some F → zWi E xW p l e r_X3_timesHome s m args below meth c F H locs (F0 m 20 ls [])) (x1 : Int32) (x3 : Int32) (x4 : Int32) (x5 : Int32) (x7 : Int32) (t0 : Int32) (σ : ST) (H : Heap) (locs : List Loc) (ls : Array Slot) (hl : lv_has ls 10 [(0, .ref (ea E 1)), (1, .int x1), (3, .int x3), (4, .int x4), (5, .int x5), (7, .int x7)]) (hP : va_P (eD E) vwCl (xW E σ) H) (hS : va_S (eA E) s.heap H locs) (hE : fX3_timesHome_J98 kb x1 x3 x4 x5 x7 t0 σ = some F) : zWi E xW p l e r_X3_timesHome s m args below meth c F H locs (F0 m 98 ls [.int t0]) := by
  obtain ⟨hx, hb, hml, hown, hts, hr, hlk, hK, hD⟩ := id C
  unfold fX3_timesHome_J98 at hE
  refine z_istore hx hb (fun x9_17 => [(9, .int x9_17), (0, .ref (ea E 1)), (1, .int x1), (3, .int x3), (4, .int x4), (5, .int x5), (7, .int x7)]) dX3_timesHome_98 hl (by decide) rfl hE (fun x9_17 ls hl hE => ?_)
  exact wX3_timesHome_J100 C hkb x1 x3 x4 x5 x7 x9_17 σ _ _ _ (lv_sub hl [1, 2, 3, 4, 5, 6, 0] rfl) hP hS hE
def fX3_timesHome_J55 (kb : Int32 → Int32 → Int32 → Int32 → Int32 → Int32 → ST → Option (Int32 × ST)) (x1 : Int32) (x3 : Int32) (x4 : Int32) (x5 : Int32) (x7 : Int32) (x8 : Int32) (t0 : Int32) (σ : ST) : Option (Int32 × ST) :=
  bnd (t0 : Int32) (fun x9_8 => (if x8 ≤ 0 then fX3_timesHome_J100 kb x1 x3 x4 x5 x7 x9_8 σ else (if 10 ≤ x8 then fX3_timesHome_J100 kb x1 x3 x4 x5 x7 x9_8 σ else bnd (((x3 * 1664525) + 1013904223) : Int32) (fun x3_14 => dvi (x3_14 &&& 2147483647) 256 (fun v_15 => rmi v_15 10 (fun v_16 => (if x8 ≤ v_16 then fX3_timesHome_J98 kb x1 x3_14 x4 x5 x7 0 σ else fX3_timesHome_J98 kb x1 x3_14 x4 x5 x7 1 σ)))))))
set_option maxHeartbeats 4000000 in
set_option maxRecDepth 100000 in
theorem wX3_timesHome_J55 {p : Program} {l : Launch} {e : Env} {s : State} {m : MethodId} {args : Array Value} {below : List Frame} {meth : Method} {c : Code} {E : EN} (C : zC E xW p s m args meth c cX3_timesHome 10 RX3 (some .int) wsL_law) {F : Int32 × ST} {kb : Int32 → Int32 → Int32 → Int32 → Int32 → Int32 → ST → Option (Int32 × ST)} (hkb : ∀ (x1 : Int32) (x3 : Int32) (x4 : Int32) (x5 : Int32) (x6 : Int32) (x7 : Int32) (σ : ST) (H : Heap) (locs : List Loc) (ls : Array Slot), lv_has ls 10 [(0, .ref (ea E 1)), (1, .int x1), (3, .int x3), (4, .int x4), (5, .int x5), (6, .int x6), (7, .int x7)] → va_P (eD E) vwCl (xW E σ) H → va_S (eA E) s.heap H locs → kb x1 x3 x4 x5 x6 x7 σ = some F → zWi E xW p l e r_X3_timesHome s m args below meth c F H locs (F0 m 20 ls [])) (x1 : Int32) (x3 : Int32) (x4 : Int32) (x5 : Int32) (x7 : Int32) (x8 : Int32) (t0 : Int32) (σ : ST) (H : Heap) (locs : List Loc) (ls : Array Slot) (hl : lv_has ls 10 [(0, .ref (ea E 1)), (1, .int x1), (3, .int x3), (4, .int x4), (5, .int x5), (7, .int x7), (8, .int x8)]) (hP : va_P (eD E) vwCl (xW E σ) H) (hS : va_S (eA E) s.heap H locs) (hE : fX3_timesHome_J55 kb x1 x3 x4 x5 x7 x8 t0 σ = some F) : zWi E xW p l e r_X3_timesHome s m args below meth c F H locs (F0 m 55 ls [.int t0]) := by
  obtain ⟨hx, hb, hml, hown, hts, hr, hlk, hK, hD⟩ := id C
  unfold fX3_timesHome_J55 at hE
  refine z_istore hx hb (fun x9_8 => [(9, .int x9_8), (0, .ref (ea E 1)), (1, .int x1), (3, .int x3), (4, .int x4), (5, .int x5), (7, .int x7), (8, .int x8)]) dX3_timesHome_55 hl (by decide) rfl hE (fun x9_8 ls hl hE => ?_)
  refine lv_iload hx hb dX3_timesHome_57 (lv_at hl 7 rfl) ?_
  refine z_if_le (tgt := 100) hx hb dX3_timesHome_59 (by decide) hE (fun hE => ?_) (fun hE => ?_)
  · exact wX3_timesHome_J100 C hkb x1 x3 x4 x5 x7 x9_8 σ _ _ _ (lv_sub hl [1, 2, 3, 4, 5, 6, 0] rfl) hP hS hE
  refine lv_iload hx hb dX3_timesHome_62 (lv_at hl 7 rfl) ?_
  refine lv_bipush (v := 10) hx hb dX3_timesHome_64 (by decide) ?_
  refine z_icmp_ge (tgt := 100) hx hb dX3_timesHome_66 (by decide) hE (fun hE => ?_) (fun hE => ?_)
  · exact wX3_timesHome_J100 C hkb x1 x3 x4 x5 x7 x9_8 σ _ _ _ (lv_sub hl [1, 2, 3, 4, 5, 6, 0] rfl) hP hS hE
  refine lv_iload_n hx hb dX3_timesHome_69 rfl (lv_at hl 3 rfl) ?_
  refine lv_ldc (v := 1664525) hx hb hown (hts _ u_899) dX3_timesHome_70 ?_
  refine lv_imul hx hb dX3_timesHome_72 ?_
  refine lv_ldc (v := 1013904223) hx hb hown (hts _ u_900) dX3_timesHome_73 ?_
  refine lv_iadd hx hb dX3_timesHome_75 ?_
  refine z_istore_n hx hb (fun x3_14 => [(3, .int x3_14), (9, .int x9_8), (0, .ref (ea E 1)), (1, .int x1), (4, .int x4), (5, .int x5), (7, .int x7), (8, .int x8)]) dX3_timesHome_76 rfl hl (by decide) rfl hE (fun x3_14 ls hl hE => ?_)
  refine lv_iload_n hx hb dX3_timesHome_77 rfl (lv_at hl 0 rfl) ?_
  refine lv_ldc (v := 2147483647) hx hb hown (hts _ u_901) dX3_timesHome_78 ?_
  refine lv_iand hx hb dX3_timesHome_80 ?_
  refine lv_sipush (v := 256) hx hb dX3_timesHome_81 (by decide) ?_
  refine z_idiv hx hb dX3_timesHome_84 hE (fun v_15 hE => ?_)
  refine lv_bipush (v := 10) hx hb dX3_timesHome_85 (by decide) ?_
  refine z_irem hx hb dX3_timesHome_87 hE (fun v_16 hE => ?_)
  refine lv_iload hx hb dX3_timesHome_88 (lv_at hl 7 rfl) ?_
  refine z_icmp_ge (tgt := 97) hx hb dX3_timesHome_90 (by decide) hE (fun hE => ?_) (fun hE => ?_)
  · refine lv_iconst (v := 0) hx hb dX3_timesHome_97 (by decide) ?_
    exact wX3_timesHome_J98 C hkb x1 x3_14 x4 x5 x7 0 σ _ _ _ (lv_sub hl [2, 3, 0, 4, 5, 6] rfl) hP hS hE
  refine lv_iconst (v := 1) hx hb dX3_timesHome_93 (by decide) ?_
  refine lv_goto (tgt := 98) hx hb dX3_timesHome_94 (by decide) ?_
  exact wX3_timesHome_J98 C hkb x1 x3_14 x4 x5 x7 1 σ _ _ _ (lv_sub hl [2, 3, 0, 4, 5, 6] rfl) hP hS hE
def fX3_timesHome_L20 (ke : Int32 → Int32 → Int32 → Int32 → Int32 → ST → Option (Int32 × ST)) : Nat → Int32 → Int32 → Int32 → Int32 → Int32 → Int32 → ST → Option (Int32 × ST)
  | 0, _, _, _, _, _, _, _ => none
  | n + 1, x1, x3, x4, x5, x6, x7, σ => (if (gI σ 21) ≤ x7 then ke x1 x3 x4 x5 x6 σ else (if x6 = 0 then ke x1 x3 x4 x5 x6 σ else ald (gA σ 41) 12 x7 (fun v_6 => bnd (v_6 : Int32) (fun x8_7 => (if x8_7 < 10 then fX3_timesHome_J55 (fX3_timesHome_L20 ke n) x1 x3 x4 x5 x7 x8_7 0 σ else fX3_timesHome_J55 (fX3_timesHome_L20 ke n) x1 x3 x4 x5 x7 x8_7 1 σ)))))
set_option maxHeartbeats 4000000 in
set_option maxRecDepth 100000 in
theorem wX3_timesHome_L20 {p : Program} {l : Launch} {e : Env} {s : State} {m : MethodId} {args : Array Value} {below : List Frame} {meth : Method} {c : Code} {E : EN} (C : zC E xW p s m args meth c cX3_timesHome 10 RX3 (some .int) wsL_law) {F : Int32 × ST} {ke : Int32 → Int32 → Int32 → Int32 → Int32 → ST → Option (Int32 × ST)} (hke : ∀ (x1 : Int32) (x3 : Int32) (x4 : Int32) (x5 : Int32) (x6 : Int32) (σ : ST) (H : Heap) (locs : List Loc) (ls : Array Slot), lv_has ls 10 [(0, .ref (ea E 1)), (1, .int x1), (3, .int x3), (4, .int x4), (5, .int x5), (6, .int x6)] → va_P (eD E) vwCl (xW E σ) H → va_S (eA E) s.heap H locs → ke x1 x3 x4 x5 x6 σ = some F → zWi E xW p l e r_X3_timesHome s m args below meth c F H locs (F0 m 125 ls [])) : ∀ (n : Nat) (x1 : Int32) (x3 : Int32) (x4 : Int32) (x5 : Int32) (x6 : Int32) (x7 : Int32) (σ : ST) (H : Heap) (locs : List Loc) (ls : Array Slot), lv_has ls 10 [(0, .ref (ea E 1)), (1, .int x1), (3, .int x3), (4, .int x4), (5, .int x5), (6, .int x6), (7, .int x7)] → va_P (eD E) vwCl (xW E σ) H → va_S (eA E) s.heap H locs → fX3_timesHome_L20 ke n x1 x3 x4 x5 x6 x7 σ = some F → zWi E xW p l e r_X3_timesHome s m args below meth c F H locs (F0 m 20 ls []) := by
  obtain ⟨hx, hb, hml, hown, hts, hr, hlk, hK, hD⟩ := id C
  have hwX3 : ∀ w ∈ wsX30, w.before args s = true := fun w h => hts w (inlX3 w h)
  intro n
  induction n with
  | zero => intro x1 x3 x4 x5 x6 x7 σ H locs ls hl hP hS hE; rw [fX3_timesHome_L20] at hE; cases hE
  | succ n ih =>
    intro x1 x3 x4 x5 x6 x7 σ H locs ls hl hP hS hE
    rw [fX3_timesHome_L20] at hE
    refine lv_iload hx hb dX3_timesHome_20 (lv_at hl 6 rfl) ?_
    refine lv_aload_n hx hb dX3_timesHome_22 rfl (lv_at hl 0 rfl) ?_
    refine xg_1_6 hx hb hown hwX3 (hts _ u_50) hK hP dX3_timesHome_23 ?_
    refine z_icmp_ge (tgt := 125) hx hb dX3_timesHome_26 (by decide) hE (fun hE => ?_) (fun hE => ?_)
    · exact hke x1 x3 x4 x5 x6 σ _ _ _ (lv_sub hl [0, 1, 2, 3, 4, 5] rfl) hP hS hE
    refine lv_iload hx hb dX3_timesHome_29 (lv_at hl 5 rfl) ?_
    refine z_if_eq (tgt := 125) hx hb dX3_timesHome_31 (by decide) hE (fun hE => ?_) (fun hE => ?_)
    · exact hke x1 x3 x4 x5 x6 σ _ _ _ (lv_sub hl [0, 1, 2, 3, 4, 5] rfl) hP hS hE
    refine lv_aload_n hx hb dX3_timesHome_34 rfl (lv_at hl 0 rfl) ?_
    refine xg_1_4 hx hb hown hwX3 (hts _ u_47) hK hP dX3_timesHome_35 ?_
    refine lv_iload hx hb dX3_timesHome_38 (lv_at hl 6 rfl) ?_
    refine xa_48 hx hb hK hP dX3_timesHome_40 hE (fun v_6 hE => ?_)
    refine z_istore hx hb (fun x8_7 => [(8, .int x8_7), (0, .ref (ea E 1)), (1, .int x1), (3, .int x3), (4, .int x4), (5, .int x5), (6, .int x6), (7, .int x7)]) dX3_timesHome_41 hl (by decide) rfl hE (fun x8_7 ls hl hE => ?_)
    refine lv_iload hx hb dX3_timesHome_43 (lv_at hl 0 rfl) ?_
    refine lv_bipush (v := 10) hx hb dX3_timesHome_45 (by decide) ?_
    refine z_icmp_lt (tgt := 54) hx hb dX3_timesHome_47 (by decide) hE (fun hE => ?_) (fun hE => ?_)
    · refine lv_iconst (v := 0) hx hb dX3_timesHome_54 (by decide) ?_
      exact wX3_timesHome_J55 C ih x1 x3 x4 x5 x7 x8_7 0 σ _ _ _ (lv_sub hl [1, 2, 3, 4, 5, 7, 0] rfl) hP hS hE
    refine lv_iconst (v := 1) hx hb dX3_timesHome_50 (by decide) ?_
    refine lv_goto (tgt := 55) hx hb dX3_timesHome_51 (by decide) ?_
    exact wX3_timesHome_J55 C ih x1 x3 x4 x5 x7 x8_7 1 σ _ _ _ (lv_sub hl [1, 2, 3, 4, 5, 7, 0] rfl) hP hS hE
def fX3_timesHome_L8 (ke : Int32 → ST → Option (Int32 × ST)) : Nat → Int32 → Int32 → Int32 → Int32 → ST → Option (Int32 × ST)
  | 0, _, _, _, _, _ => none
  | n + 1, x1, x3, x4, x5, σ => (if x1 ≤ x5 then ke x4 σ else bnd (1 : Int32) (fun x6_4 => bnd (0 : Int32) (fun x7_5 => fX3_timesHome_L20 (fun x1_18 x3_19 x4_20 x5_21 x6_22 σ_23 => (if x6_22 = 0 then bnd (x5_21 + 1) (fun x5_24 => fX3_timesHome_L8 ke n x1_18 x3_19 x4_20 x5_24 σ_23) else bnd (x4_20 + 1) (fun x4_25 => bnd (x5_21 + 1) (fun x5_26 => fX3_timesHome_L8 ke n x1_18 x3_19 x4_25 x5_26 σ_23)))) FU x1 x3 x4 x5 x6_4 x7_5 σ)))
set_option maxHeartbeats 4000000 in
set_option maxRecDepth 100000 in
theorem wX3_timesHome_L8 {p : Program} {l : Launch} {e : Env} {s : State} {m : MethodId} {args : Array Value} {below : List Frame} {meth : Method} {c : Code} {E : EN} (C : zC E xW p s m args meth c cX3_timesHome 10 RX3 (some .int) wsL_law) {F : Int32 × ST} {ke : Int32 → ST → Option (Int32 × ST)} (hke : ∀ (x4 : Int32) (σ : ST) (H : Heap) (locs : List Loc) (ls : Array Slot), lv_has ls 10 [(4, .int x4)] → va_P (eD E) vwCl (xW E σ) H → va_S (eA E) s.heap H locs → ke x4 σ = some F → zWi E xW p l e r_X3_timesHome s m args below meth c F H locs (F0 m 139 ls [])) : ∀ (n : Nat) (x1 : Int32) (x3 : Int32) (x4 : Int32) (x5 : Int32) (σ : ST) (H : Heap) (locs : List Loc) (ls : Array Slot), lv_has ls 10 [(0, .ref (ea E 1)), (1, .int x1), (3, .int x3), (4, .int x4), (5, .int x5)] → va_P (eD E) vwCl (xW E σ) H → va_S (eA E) s.heap H locs → fX3_timesHome_L8 ke n x1 x3 x4 x5 σ = some F → zWi E xW p l e r_X3_timesHome s m args below meth c F H locs (F0 m 8 ls []) := by
  obtain ⟨hx, hb, hml, hown, hts, hr, hlk, hK, hD⟩ := id C
  intro n
  induction n with
  | zero => intro x1 x3 x4 x5 σ H locs ls hl hP hS hE; rw [fX3_timesHome_L8] at hE; cases hE
  | succ n ih =>
    intro x1 x3 x4 x5 σ H locs ls hl hP hS hE
    rw [fX3_timesHome_L8] at hE
    refine lv_iload hx hb dX3_timesHome_8 (lv_at hl 4 rfl) ?_
    refine lv_iload_n hx hb dX3_timesHome_10 rfl (lv_at hl 1 rfl) ?_
    refine z_icmp_ge (tgt := 139) hx hb dX3_timesHome_11 (by decide) hE (fun hE => ?_) (fun hE => ?_)
    · exact hke x4 σ _ _ _ (lv_sub hl [3] rfl) hP hS hE
    refine lv_iconst (v := 1) hx hb dX3_timesHome_14 (by decide) ?_
    refine z_istore hx hb (fun x6_4 => [(6, .int x6_4), (0, .ref (ea E 1)), (1, .int x1), (3, .int x3), (4, .int x4), (5, .int x5)]) dX3_timesHome_15 hl (by decide) rfl hE (fun x6_4 ls hl hE => ?_)
    refine lv_iconst (v := 0) hx hb dX3_timesHome_17 (by decide) ?_
    refine z_istore hx hb (fun x7_5 => [(7, .int x7_5), (6, .int x6_4), (0, .ref (ea E 1)), (1, .int x1), (3, .int x3), (4, .int x4), (5, .int x5)]) dX3_timesHome_18 hl (by decide) rfl hE (fun x7_5 ls hl hE => ?_)
    refine wX3_timesHome_L20 C ?_ FU x1 x3 x4 x5 x6_4 x7_5 σ _ _ _ (lv_sub hl [2, 3, 4, 5, 6, 1, 0] rfl) hP hS hE
    intro x1_18 x3_19 x4_20 x5_21 x6_22 σ_23 H locs ls hl hP hS hE
    refine lv_iload hx hb dX3_timesHome_125 (lv_at hl 5 rfl) ?_
    refine z_if_eq (tgt := 133) hx hb dX3_timesHome_127 (by decide) hE (fun hE => ?_) (fun hE => ?_)
    · refine z_iinc hx hb (v := (x5_21 + 1)) (k := 4) (fun x5_24 => [(5, .int x5_24), (0, .ref (ea E 1)), (1, .int x1_18), (3, .int x3_19), (4, .int x4_20), (6, .int x6_22)]) dX3_timesHome_133 hl rfl (by rfl) (by decide) rfl hE (fun x5_24 ls hl hE => ?_)
      refine lv_goto (tgt := 8) hx hb dX3_timesHome_136 (by decide) ?_
      exact ih x1_18 x3_19 x4_20 x5_24 σ_23 _ _ _ (lv_sub hl [1, 2, 3, 4, 0] rfl) hP hS hE
    refine z_iinc hx hb (v := (x4_20 + 1)) (k := 3) (fun x4_25 => [(4, .int x4_25), (0, .ref (ea E 1)), (1, .int x1_18), (3, .int x3_19), (5, .int x5_21), (6, .int x6_22)]) dX3_timesHome_130 hl rfl (by rfl) (by decide) rfl hE (fun x4_25 ls hl hE => ?_)
    refine z_iinc hx hb (v := (x5_21 + 1)) (k := 4) (fun x5_26 => [(5, .int x5_26), (4, .int x4_25), (0, .ref (ea E 1)), (1, .int x1_18), (3, .int x3_19), (6, .int x6_22)]) dX3_timesHome_133 hl rfl (by rfl) (by decide) rfl hE (fun x5_26 ls hl hE => ?_)
    refine lv_goto (tgt := 8) hx hb dX3_timesHome_136 (by decide) ?_
    exact ih x1_18 x3_19 x4_25 x5_26 σ_23 _ _ _ (lv_sub hl [2, 3, 4, 1, 0] rfl) hP hS hE
def fX3_timesHome  (x1 : Int32) (x2 : Int32) (σ : ST) : Option (Int32 × ST) :=
  bnd (x2 : Int32) (fun x3_1 => bnd (0 : Int32) (fun x4_2 => bnd (0 : Int32) (fun x5_3 => fX3_timesHome_L8 (fun x4_27 σ_28 => some (x4_27, σ_28)) FU x1 x3_1 x4_2 x5_3 σ)))
set_option maxHeartbeats 4000000 in
set_option maxRecDepth 100000 in
theorem wX3_timesHome {p : Program} {l : Launch} {e : Env} {s : State} {m : MethodId} {args : Array Value} {below : List Frame} {meth : Method} {c : Code} {E : EN} (C : zC E xW p s m args meth c cX3_timesHome 10 RX3 (some .int) wsL_law) {F : Int32 × ST}   (x1 : Int32) (x2 : Int32) (σ : ST) (H : Heap) (locs : List Loc) (ls : Array Slot) (hl : lv_has ls 10 [(0, .ref (ea E 1)), (1, .int x1), (2, .int x2)]) (hP : va_P (eD E) vwCl (xW E σ) H) (hS : va_S (eA E) s.heap H locs) (hE : fX3_timesHome  x1 x2 σ = some F) : zWi E xW p l e r_X3_timesHome s m args below meth c F H locs (F0 m 0 ls []) := by
  obtain ⟨hx, hb, hml, hown, hts, hr, hlk, hK, hD⟩ := id C
  unfold fX3_timesHome at hE
  refine lv_iload_n hx hb dX3_timesHome_0 rfl (lv_at hl 2 rfl) ?_
  refine z_istore_n hx hb (fun x3_1 => [(3, .int x3_1), (0, .ref (ea E 1)), (1, .int x1), (2, .int x2)]) dX3_timesHome_1 rfl hl (by decide) rfl hE (fun x3_1 ls hl hE => ?_)
  refine lv_iconst (v := 0) hx hb dX3_timesHome_2 (by decide) ?_
  refine z_istore hx hb (fun x4_2 => [(4, .int x4_2), (3, .int x3_1), (0, .ref (ea E 1)), (1, .int x1), (2, .int x2)]) dX3_timesHome_3 hl (by decide) rfl hE (fun x4_2 ls hl hE => ?_)
  refine lv_iconst (v := 0) hx hb dX3_timesHome_5 (by decide) ?_
  refine z_istore hx hb (fun x5_3 => [(5, .int x5_3), (4, .int x4_2), (3, .int x3_1), (0, .ref (ea E 1)), (1, .int x1), (2, .int x2)]) dX3_timesHome_6 hl (by decide) rfl hE (fun x5_3 ls hl hE => ?_)
  refine wX3_timesHome_L8 C ?_ FU x1 x3_1 x4_2 x5_3 σ _ _ _ (lv_sub hl [3, 4, 2, 1, 0] rfl) hP hS hE
  intro x4_27 σ_28 H locs ls hl hP hS hE
  refine lv_iload hx hb dX3_timesHome_139 (lv_at hl 0 rfl) ?_
  exact z_iret hx hb hr hlk hP hS dX3_timesHome_141 hE
theorem kX3_timesHome (l : Launch) (E : EN) (hD : ∀ σ, va_D (eA E) (xW E σ)) (x1 : Int32) (x2 : Int32) (σ : ST) (F : Int32 × ST) (hE : fX3_timesHome x1 x2 σ = some F) : Met l yX3_timesHome wu_X3_timesHome r_X3_timesHome (zPc E xW [.ref (ea E 1), .int x1, .int x2] σ) (zQi E xW F) 0 0 (eA E) := by
  refine Met.ofW (cc := cX3_timesHome) (maxL := 10) (ret := (some .int)) (by decide) rfl ?_
  intro p e s m args below meth c s₁ B hml hv
  obtain ⟨rfl, hP, hK⟩ := hv
  have hl := lv_entry ([.ref (ea E 1), .int x1, .int x2]) (n := 10) (Nat.le_of_ble_eq_true rfl)
  rw [lg_entry_eq]
  generalize (lg_sl ([.ref (ea E 1), .int x1, .int x2]) ++ List.replicate (10 - (lg_sl ([.ref (ea E 1), .int x1, .int x2])).length) Slot.unset).toArray = ls at hl ⊢
  exact wX3_timesHome ⟨B.exec, B.bytes, hml, findClass_of_methodNamed B.named, fun w h => atoms_spec (ws := wu_X3_timesHome) B.pre w (List.mem_cons_of_mem _ h), B.returns, B.notSynchronized, hK, hD⟩ x1 x2 σ s.heap [] ls hl hP va_S.rf hE
