def fX4_push_L65 (ke : Int32 → ST → Option (Int32 × ST)) : Nat → Int32 → Int32 → Int64 → Int32 → ST → Option (Int32 × ST)
  | 0, _, _, _, _, _ => none
  | n + 1, x1, x2, x3, x5, σ => (if (gI σ 3) ≤ x5 then ke x2 σ else ald (gA σ 8) 8 x5 (fun v_10 => calv (fX3_supposePushers x5 (jmin 3 (v_10 + 1)) σ) (fun σ_11 => calv (fX3_goBy_51 x1 σ_11) (fun σ_12 => ald (gA σ_12 8) 8 x5 (fun v_13 => calv (fX3_supposePushers x5 v_13 σ_12) (fun σ_14 => (if (lg_cmp (gL σ_14 1) x3) ≤ 0 then bnd (x5 + 1) (fun x5_15 => fX4_push_L65 ke n x1 x2 x3 x5_15 σ_14) else bnd (x5 : Int32) (fun x2_16 => bnd ((gL σ_14 1) : Int64) (fun x3_17 => bnd (x5 + 1) (fun x5_18 => fX4_push_L65 ke n x1 x2_16 x3_17 x5_18 σ_14))))))))))
set_option maxHeartbeats 4000000 in
set_option maxRecDepth 100000 in
theorem wX4_push_L65 {p : Program} {l : Launch} {e : Env} {s : State} {m : MethodId} {args : Array Value} {below : List Frame} {meth : Method} {c : Code} {E : EN} (C : zC E xW p s m args meth c cX4_push 6 RX4 (some .int) wsL_law) {F : Int32 × ST} {ke : Int32 → ST → Option (Int32 × ST)} (hke : ∀ (x2 : Int32) (σ : ST) (H : Heap) (locs : List Loc) (ls : Array Slot), lv_has ls 6 [(2, .int x2)] → va_P (eD E) vwCl (xW E σ) H → va_S (eA E) s.heap H locs → ke x2 σ = some F → zWi E xW p l e r_X4_push s m args below meth c F H locs (F0 m 162 ls [])) : ∀ (n : Nat) (x1 : Int32) (x2 : Int32) (x3 : Int64) (x5 : Int32) (σ : ST) (H : Heap) (locs : List Loc) (ls : Array Slot), lv_has ls 6 [(0, .ref (ea E 0)), (1, .int x1), (2, .int x2), (3, .long x3), (5, .int x5)] → va_P (eD E) vwCl (xW E σ) H → va_S (eA E) s.heap H locs → fX4_push_L65 ke n x1 x2 x3 x5 σ = some F → zWi E xW p l e r_X4_push s m args below meth c F H locs (F0 m 65 ls []) := by
  obtain ⟨hx, hb, hml, hown, hts, hr, hlk, hK, hD⟩ := id C
  have hwX2 : ∀ w ∈ wsX20, w.before args s = true := fun w h => hts w (inlX2 w h)
  have hwX3 : ∀ w ∈ wsX30, w.before args s = true := fun w h => hts w (inlX3 w h)
  have hwX4 : ∀ w ∈ wsX40, w.before args s = true := fun w h => hts w (inlX4 w h)
  intro n
  induction n with
  | zero => intro x1 x2 x3 x5 σ H locs ls hl hP hS hE; rw [fX4_push_L65] at hE; cases hE
  | succ n ih =>
    intro x1 x2 x3 x5 σ H locs ls hl hP hS hE
    rw [fX4_push_L65] at hE
    refine lv_iload hx hb dX4_push_65 (lv_at hl 4 rfl) ?_
    refine lv_aload_n hx hb dX4_push_67 rfl (lv_at hl 0 rfl) ?_
    refine xg_0_1 hx hb hown hwX4 (hts _ u_17) hK hP dX4_push_68 ?_
    refine xg_4_11 hx hb hown hwX2 (hts _ u_387) hK hP dX4_push_71 ?_
    refine z_icmp_ge (tgt := 162) hx hb dX4_push_74 (by decide) hE (fun hE => ?_) (fun hE => ?_)
    · exact hke x2 σ _ _ _ (lv_sub hl [2] rfl) hP hS hE
    refine lv_aload_n hx hb dX4_push_77 rfl (lv_at hl 0 rfl) ?_
    refine xg_0_0 hx hb hown hwX4 (hts _ u_15) hK hP dX4_push_78 ?_
    refine lv_iload hx hb dX4_push_81 (lv_at hl 4 rfl) ?_
    refine lv_iconst (v := 3) hx hb dX4_push_83 (by decide) ?_
    refine lv_aload_n hx hb dX4_push_84 rfl (lv_at hl 0 rfl) ?_
    refine xg_0_1 hx hb hown hwX4 (hts _ u_17) hK hP dX4_push_85 ?_
    refine xg_4_2 hx hb hown hwX2 (hts _ u_382) hK hP dX4_push_88 ?_
    refine lv_iload hx hb dX4_push_91 (lv_at hl 4 rfl) ?_
    refine xa_15 hx hb hK hP dX4_push_93 hE (fun v_10 hE => ?_)
    refine lv_iconst (v := 1) hx hb dX4_push_94 (by decide) ?_
    refine lv_iadd hx hb dX4_push_95 ?_
    refine va_mmin hx hb (hml.trans hl.1.symm) hown (hts _ u_805) (hts _ u_223) (hts _ u_220) (hts _ u_224) (Nat.le_of_ble_eq_true rfl) (Nat.le_of_ble_eq_true rfl) (Nat.zero_le _) (Nat.zero_le _) dX4_push_96 ?_
    refine W.eq (g2 := F0 m 99 ls [.int (jmin 3 (v_10 + 1)), .int x5, .ref (ea E 1)]) rfl ?_
    refine z_gov (wf := xW) hS hE (fun F1 h1 => (va_runV (As := [.int x5, .int (jmin 3 (v_10 + 1))]) (rest := []) ⟨hx, hb, hml, hown, hts⟩ (kX3_supposePushers l E hD x5 (jmin 3 (v_10 + 1)) σ F1 h1) (cwV 2 hts (gU_V u_806 u_534 u_535 u_14 u_536) rfl rfl rfl q_X3_supposePushers ⟨Nat.le_of_ble_eq_true rfl, Nat.le_of_ble_eq_true rfl⟩) (z_preV hK hP hS (ci := 3) (q0 := 1) rfl rfl rfl) rfl rfl hl.1 rfl (lv_room (Nat.le_of_ble_eq_true rfl)) dX4_push_99 ⟨Nat.le_of_ble_eq_true rfl, Nat.le_of_ble_eq_true rfl⟩)) (fun σ_11 H locs hP hS hE => ?_)
    refine lv_aload_n hx hb dX4_push_102 rfl (lv_at hl 0 rfl) ?_
    refine xg_0_0 hx hb hown hwX4 (hts _ u_15) hK hP dX4_push_103 ?_
    refine lv_aload_n hx hb dX4_push_106 rfl (lv_at hl 0 rfl) ?_
    refine xg_0_7 hx hb hown hwX4 (hts _ u_31) hK hP dX4_push_107 ?_
    refine lv_iload_n hx hb dX4_push_110 rfl (lv_at hl 1 rfl) ?_
    refine z_gov (wf := xW) hS hE (fun F1 h1 => (va_runV (As := [.ref (ea E 51), .int x1]) (rest := []) ⟨hx, hb, hml, hown, hts⟩ (kX3_goBy_51 l E hD x1 σ_11 F1 h1) (cwV 2 hts (gU_V u_543 u_544 u_545 u_14 u_546) rfl rfl rfl q_X3_goBy ⟨Nat.le_of_ble_eq_true rfl, Nat.le_of_ble_eq_true rfl⟩) (z_preV hK hP hS (ci := 3) (q0 := 1) rfl rfl rfl) rfl rfl hl.1 rfl (lv_room (Nat.le_of_ble_eq_true rfl)) dX4_push_111 ⟨Nat.le_of_ble_eq_true rfl, Nat.le_of_ble_eq_true rfl⟩)) (fun σ_12 H locs hP hS hE => ?_)
    refine lv_aload_n hx hb dX4_push_114 rfl (lv_at hl 0 rfl) ?_
    refine xg_0_0 hx hb hown hwX4 (hts _ u_15) hK hP dX4_push_115 ?_
    refine lv_iload hx hb dX4_push_118 (lv_at hl 4 rfl) ?_
    refine lv_aload_n hx hb dX4_push_120 rfl (lv_at hl 0 rfl) ?_
    refine xg_0_1 hx hb hown hwX4 (hts _ u_17) hK hP dX4_push_121 ?_
    refine xg_4_2 hx hb hown hwX2 (hts _ u_382) hK hP dX4_push_124 ?_
    refine lv_iload hx hb dX4_push_127 (lv_at hl 4 rfl) ?_
    refine xa_15 hx hb hK hP dX4_push_129 hE (fun v_13 hE => ?_)
    refine z_gov (wf := xW) hS hE (fun F1 h1 => (va_runV (As := [.int x5, .int v_13]) (rest := []) ⟨hx, hb, hml, hown, hts⟩ (kX3_supposePushers l E hD x5 v_13 σ_12 F1 h1) (cwV 2 hts (gU_V u_806 u_534 u_535 u_14 u_536) rfl rfl rfl q_X3_supposePushers ⟨Nat.le_of_ble_eq_true rfl, Nat.le_of_ble_eq_true rfl⟩) (z_preV hK hP hS (ci := 3) (q0 := 1) rfl rfl rfl) rfl rfl hl.1 rfl (lv_room (Nat.le_of_ble_eq_true rfl)) dX4_push_130 ⟨Nat.le_of_ble_eq_true rfl, Nat.le_of_ble_eq_true rfl⟩)) (fun σ_14 H locs hP hS hE => ?_)
    refine lv_aload_n hx hb dX4_push_133 rfl (lv_at hl 0 rfl) ?_
    refine xg_0_0 hx hb hown hwX4 (hts _ u_15) hK hP dX4_push_134 ?_
    refine xg_1_14 hx hb hown hwX3 (hts _ u_680) hK hP dX4_push_137 ?_
    refine lv_lload_n hx hb dX4_push_140 rfl (lv_at hl 3 rfl) ?_
    refine W.lcmp hx hb dX4_push_141 ?_
    refine z_if_le (tgt := 156) hx hb dX4_push_142 (by decide) hE (fun hE => ?_) (fun hE => ?_)
    · refine z_iinc hx hb (v := (x5 + 1)) (k := 4) (fun x5_15 => [(5, .int x5_15), (0, .ref (ea E 0)), (1, .int x1), (2, .int x2), (3, .long x3)]) dX4_push_156 hl rfl (by rfl) (by decide) rfl hE (fun x5_15 ls hl hE => ?_)
      refine lv_goto (tgt := 65) hx hb dX4_push_159 (by decide) ?_
      exact ih x1 x2 x3 x5_15 σ_14 _ _ _ (lv_sub hl [1, 2, 3, 4, 0] rfl) hP hS hE
    refine lv_iload hx hb dX4_push_145 (lv_at hl 4 rfl) ?_
    refine z_istore_n hx hb (fun x2_16 => [(2, .int x2_16), (0, .ref (ea E 0)), (1, .int x1), (3, .long x3), (5, .int x5)]) dX4_push_147 rfl hl (by decide) rfl hE (fun x2_16 ls hl hE => ?_)
    refine lv_aload_n hx hb dX4_push_148 rfl (lv_at hl 1 rfl) ?_
    refine xg_0_0 hx hb hown hwX4 (hts _ u_15) hK hP dX4_push_149 ?_
    refine xg_1_14 hx hb hown hwX3 (hts _ u_680) hK hP dX4_push_152 ?_
    refine z_lstore_n hx hb (fun x3_17 => [(3, .long x3_17), (2, .int x2_16), (0, .ref (ea E 0)), (1, .int x1), (5, .int x5)]) dX4_push_155 rfl hl (by decide) rfl hE (fun x3_17 ls hl hE => ?_)
    refine z_iinc hx hb (v := (x5 + 1)) (k := 4) (fun x5_18 => [(5, .int x5_18), (3, .long x3_17), (2, .int x2_16), (0, .ref (ea E 0)), (1, .int x1)]) dX4_push_156 hl rfl (by rfl) (by decide) rfl hE (fun x5_18 ls hl hE => ?_)
    refine lv_goto (tgt := 65) hx hb dX4_push_159 (by decide) ?_
    exact ih x1 x2_16 x3_17 x5_18 σ_14 _ _ _ (lv_sub hl [3, 4, 2, 1, 0] rfl) hP hS hE
def fX4_push   (σ : ST) : Option (Int32 × ST) :=
  (if (gI σ 3) = 0 then cali (fX4_refuse (-3) σ) (fun r_22 σ_21 => some (r_22, σ_21)) else cali (fX4_orderOfRow (-9) σ) (fun r_2 σ_1 => bnd (r_2 : Int32) (fun x1_3 => calv (fX3_supposeAsItIs σ_1) (fun σ_4 => bnd (sI σ_4 23 3) (fun σ_5 => calv (fX3_goBy_51 x1_3 σ_5) (fun σ_6 => bnd ((-9) : Int32) (fun x2_7 => bnd ((gL σ_6 1) : Int64) (fun x3_8 => bnd (0 : Int32) (fun x5_9 => fX4_push_L65 (fun x2_19 σ_20 => some (x2_19, σ_20)) FU x1_3 x2_7 x3_8 x5_9 σ_6)))))))))
set_option maxHeartbeats 4000000 in
set_option maxRecDepth 100000 in
theorem wX4_push {p : Program} {l : Launch} {e : Env} {s : State} {m : MethodId} {args : Array Value} {below : List Frame} {meth : Method} {c : Code} {E : EN} (C : zC E xW p s m args meth c cX4_push 6 RX4 (some .int) wsL_law) {F : Int32 × ST}    (σ : ST) (H : Heap) (locs : List Loc) (ls : Array Slot) (hl : lv_has ls 6 [(0, .ref (ea E 0))]) (hP : va_P (eD E) vwCl (xW E σ) H) (hS : va_S (eA E) s.heap H locs) (hE : fX4_push   σ = some F) : zWi E xW p l e r_X4_push s m args below meth c F H locs (F0 m 0 ls []) := by
  obtain ⟨hx, hb, hml, hown, hts, hr, hlk, hK, hD⟩ := id C
  have hwX2 : ∀ w ∈ wsX20, w.before args s = true := fun w h => hts w (inlX2 w h)
  have hwX3 : ∀ w ∈ wsX30, w.before args s = true := fun w h => hts w (inlX3 w h)
  have hwX4 : ∀ w ∈ wsX40, w.before args s = true := fun w h => hts w (inlX4 w h)
  unfold fX4_push at hE
  refine lv_aload_n hx hb dX4_push_0 rfl (lv_at hl 0 rfl) ?_
  refine xg_0_1 hx hb hown hwX4 (hts _ u_17) hK hP dX4_push_1 ?_
  refine xg_4_11 hx hb hown hwX2 (hts _ u_387) hK hP dX4_push_4 ?_
  refine z_if_ne (tgt := 17) hx hb dX4_push_7 (by decide) hE (fun hE => ?_) (fun hE => ?_)
  · refine lv_aload_n hx hb dX4_push_17 rfl (lv_at hl 0 rfl) ?_
    refine lv_bipush (v := -9) hx hb dX4_push_18 (by decide) ?_
    refine z_goi (wf := xW) hS hE (fun F1 h1 => (va_runV (As := [.int (-9)]) (rest := []) ⟨hx, hb, hml, hown, hts⟩ (kX4_orderOfRow l E hD (-9) σ F1 h1) (cwV 1 hts (gU_V u_539 u_540 u_541 u_2 u_542) rfl rfl rfl q_X4_orderOfRow ⟨Nat.le_of_ble_eq_true rfl, Nat.le_of_ble_eq_true rfl⟩) (z_preV hK hP hS (ci := 4) (q0 := 0) rfl rfl rfl) rfl rfl hl.1 rfl (lv_room (Nat.le_of_ble_eq_true rfl)) dX4_push_20 ⟨Nat.le_of_ble_eq_true rfl, Nat.le_of_ble_eq_true rfl⟩)) (fun r_2 σ_1 H locs hP hS hE => ?_)
    refine z_istore_n hx hb (fun x1_3 => [(1, .int x1_3), (0, .ref (ea E 0))]) dX4_push_23 rfl hl (by decide) rfl hE (fun x1_3 ls hl hE => ?_)
    refine lv_aload_n hx hb dX4_push_24 rfl (lv_at hl 1 rfl) ?_
    refine xg_0_0 hx hb hown hwX4 (hts _ u_15) hK hP dX4_push_25 ?_
    refine z_gov (wf := xW) hS hE (fun F1 h1 => (va_runV (As := []) (rest := []) ⟨hx, hb, hml, hown, hts⟩ (kX3_supposeAsItIs l E hD  σ_1 F1 h1) (cwV 0 hts (gU_V u_525 u_526 u_527 u_14 u_528) rfl rfl rfl q_X3_supposeAsItIs ⟨Nat.le_of_ble_eq_true rfl, Nat.le_of_ble_eq_true rfl⟩) (z_preV hK hP hS (ci := 3) (q0 := 1) rfl rfl rfl) rfl rfl hl.1 rfl (lv_room (Nat.le_of_ble_eq_true rfl)) dX4_push_28 ⟨Nat.le_of_ble_eq_true rfl, Nat.le_of_ble_eq_true rfl⟩)) (fun σ_4 H locs hP hS hE => ?_)
    refine lv_aload_n hx hb dX4_push_31 rfl (lv_at hl 1 rfl) ?_
    refine xg_0_0 hx hb hown hwX4 (hts _ u_15) hK hP dX4_push_32 ?_
    refine lv_iconst (v := 3) hx hb dX4_push_35 (by decide) ?_
    refine xp_1_8 hx hb hown hwX3 (hts _ u_772) hK hD hP hS dX4_push_36 hE (fun σ_5 H locs hP hS hE => ?_)
    refine lv_aload_n hx hb dX4_push_39 rfl (lv_at hl 1 rfl) ?_
    refine xg_0_0 hx hb hown hwX4 (hts _ u_15) hK hP dX4_push_40 ?_
    refine lv_aload_n hx hb dX4_push_43 rfl (lv_at hl 1 rfl) ?_
    refine xg_0_7 hx hb hown hwX4 (hts _ u_31) hK hP dX4_push_44 ?_
    refine lv_iload_n hx hb dX4_push_47 rfl (lv_at hl 0 rfl) ?_
    refine z_gov (wf := xW) hS hE (fun F1 h1 => (va_runV (As := [.ref (ea E 51), .int x1_3]) (rest := []) ⟨hx, hb, hml, hown, hts⟩ (kX3_goBy_51 l E hD x1_3 σ_5 F1 h1) (cwV 2 hts (gU_V u_543 u_544 u_545 u_14 u_546) rfl rfl rfl q_X3_goBy ⟨Nat.le_of_ble_eq_true rfl, Nat.le_of_ble_eq_true rfl⟩) (z_preV hK hP hS (ci := 3) (q0 := 1) rfl rfl rfl) rfl rfl hl.1 rfl (lv_room (Nat.le_of_ble_eq_true rfl)) dX4_push_48 ⟨Nat.le_of_ble_eq_true rfl, Nat.le_of_ble_eq_true rfl⟩)) (fun σ_6 H locs hP hS hE => ?_)
    refine lv_bipush (v := -9) hx hb dX4_push_51 (by decide) ?_
    refine z_istore_n hx hb (fun x2_7 => [(2, .int x2_7), (1, .int x1_3), (0, .ref (ea E 0))]) dX4_push_53 rfl hl (by decide) rfl hE (fun x2_7 ls hl hE => ?_)
    refine lv_aload_n hx hb dX4_push_54 rfl (lv_at hl 2 rfl) ?_
    refine xg_0_0 hx hb hown hwX4 (hts _ u_15) hK hP dX4_push_55 ?_
    refine xg_1_14 hx hb hown hwX3 (hts _ u_680) hK hP dX4_push_58 ?_
    refine z_lstore_n hx hb (fun x3_8 => [(3, .long x3_8), (2, .int x2_7), (1, .int x1_3), (0, .ref (ea E 0))]) dX4_push_61 rfl hl (by decide) rfl hE (fun x3_8 ls hl hE => ?_)
    refine lv_iconst (v := 0) hx hb dX4_push_62 (by decide) ?_
    refine z_istore hx hb (fun x5_9 => [(5, .int x5_9), (3, .long x3_8), (2, .int x2_7), (1, .int x1_3), (0, .ref (ea E 0))]) dX4_push_63 hl (by decide) rfl hE (fun x5_9 ls hl hE => ?_)
    refine wX4_push_L65 C ?_ FU x1_3 x2_7 x3_8 x5_9 σ_6 _ _ _ (lv_sub hl [4, 3, 2, 1, 0] rfl) hP hS hE
    intro x2_19 σ_20 H locs ls hl hP hS hE
    refine lv_iload_n hx hb dX4_push_162 rfl (lv_at hl 0 rfl) ?_
    exact z_iret hx hb hr hlk hP hS dX4_push_163 hE
  refine lv_aload_n hx hb dX4_push_10 rfl (lv_at hl 0 rfl) ?_
  refine lv_bipush (v := -3) hx hb dX4_push_11 (by decide) ?_
  refine z_goi (wf := xW) hS hE (fun F1 h1 => (va_runV (As := [.int (-3)]) (rest := []) ⟨hx, hb, hml, hown, hts⟩ (kX4_refuse l E hD (-3) σ F1 h1) (cwV 1 hts (gU_V u_118 u_119 u_120 u_2 u_121) rfl rfl rfl q_X4_refuse ⟨Nat.le_of_ble_eq_true rfl, Nat.le_of_ble_eq_true rfl⟩) (z_preV hK hP hS (ci := 4) (q0 := 0) rfl rfl rfl) rfl rfl hl.1 rfl (lv_room (Nat.le_of_ble_eq_true rfl)) dX4_push_13 ⟨Nat.le_of_ble_eq_true rfl, Nat.le_of_ble_eq_true rfl⟩)) (fun r_22 σ_21 H locs hP hS hE => ?_)
  exact z_iret hx hb hr hlk hP hS dX4_push_16 hE
theorem kX4_push (l : Launch) (E : EN) (hD : ∀ σ, va_D (eA E) (xW E σ))  (σ : ST) (F : Int32 × ST) (hE : fX4_push  σ = some F) : Met l yX4_push wu_X4_push r_X4_push (zPc E xW [.ref (ea E 0)] σ) (zQi E xW F) 0 0 (eA E) := by
  refine Met.ofW (cc := cX4_push) (maxL := 6) (ret := (some .int)) (by decide) rfl ?_
  intro p e s m args below meth c s₁ B hml hv
  obtain ⟨rfl, hP, hK⟩ := hv
  have hl := lv_entry ([.ref (ea E 0)]) (n := 6) (Nat.le_of_ble_eq_true rfl)
  rw [lg_entry_eq]
  generalize (lg_sl ([.ref (ea E 0)]) ++ List.replicate (6 - (lg_sl ([.ref (ea E 0)])).length) Slot.unset).toArray = ls at hl ⊢
  exact wX4_push ⟨B.exec, B.bytes, hml, findClass_of_methodNamed B.named, fun w h => atoms_spec (ws := wu_X4_push) B.pre w (List.mem_cons_of_mem _ h), B.returns, B.notSynchronized, hK, hD⟩  σ s.heap [] ls hl hP va_S.rf hE
def fX3_supposeSureStart  (x1 : Int32) (σ : ST) : Option (ST) :=
  ast σ 39 8 x1 10 (fun σ_1 => ast σ_1 40 8 x1 10 (fun σ_2 => some σ_2))
set_option maxHeartbeats 4000000 in
set_option maxRecDepth 100000 in
theorem wX3_supposeSureStart {p : Program} {l : Launch} {e : Env} {s : State} {m : MethodId} {args : Array Value} {below : List Frame} {meth : Method} {c : Code} {E : EN} (C : zC E xW p s m args meth c cX3_supposeSureStart 2 RX3 none wsL_law) {F : ST}   (x1 : Int32) (σ : ST) (H : Heap) (locs : List Loc) (ls : Array Slot) (hl : lv_has ls 2 [(0, .ref (ea E 1)), (1, .int x1)]) (hP : va_P (eD E) vwCl (xW E σ) H) (hS : va_S (eA E) s.heap H locs) (hE : fX3_supposeSureStart  x1 σ = some F) : zWv E xW p l e r_X3_supposeSureStart s m args below meth c F H locs (F0 m 0 ls []) := by
  obtain ⟨hx, hb, hml, hown, hts, hr, hlk, hK, hD⟩ := id C
  have hwX3 : ∀ w ∈ wsX30, w.before args s = true := fun w h => hts w (inlX3 w h)
  unfold fX3_supposeSureStart at hE
  refine lv_aload_n hx hb dX3_supposeSureStart_0 rfl (lv_at hl 0 rfl) ?_
  refine xg_1_2 hx hb hown hwX3 (hts _ u_45) hK hP dX3_supposeSureStart_1 ?_
  refine lv_iload_n hx hb dX3_supposeSureStart_4 rfl (lv_at hl 1 rfl) ?_
  refine lv_bipush (v := 10) hx hb dX3_supposeSureStart_5 (by decide) ?_
  refine xs_46 hx hb hK hD hP hS dX3_supposeSureStart_7 hE (fun σ_1 H locs hP hS hE => ?_)
  refine lv_aload_n hx hb dX3_supposeSureStart_8 rfl (lv_at hl 0 rfl) ?_
  refine xg_1_3 hx hb hown hwX3 (hts _ u_46) hK hP dX3_supposeSureStart_9 ?_
  refine lv_iload_n hx hb dX3_supposeSureStart_12 rfl (lv_at hl 1 rfl) ?_
  refine lv_bipush (v := 10) hx hb dX3_supposeSureStart_13 (by decide) ?_
  refine xs_47 hx hb hK hD hP hS dX3_supposeSureStart_15 hE (fun σ_2 H locs hP hS hE => ?_)
  exact z_vret hx hb hr hlk hP hS dX3_supposeSureStart_16 hE
theorem kX3_supposeSureStart (l : Launch) (E : EN) (hD : ∀ σ, va_D (eA E) (xW E σ)) (x1 : Int32) (σ : ST) (F : ST) (hE : fX3_supposeSureStart x1 σ = some F) : Met l yX3_supposeSureStart wu_X3_supposeSureStart r_X3_supposeSureStart (zPc E xW [.ref (ea E 1), .int x1] σ) (zQv E xW F) 0 0 (eA E) := by
  refine Met.ofW (cc := cX3_supposeSureStart) (maxL := 2) (ret := none) (by decide) rfl ?_
  intro p e s m args below meth c s₁ B hml hv
  obtain ⟨rfl, hP, hK⟩ := hv
  have hl := lv_entry ([.ref (ea E 1), .int x1]) (n := 2) (Nat.le_of_ble_eq_true rfl)
  rw [lg_entry_eq]
  generalize (lg_sl ([.ref (ea E 1), .int x1]) ++ List.replicate (2 - (lg_sl ([.ref (ea E 1), .int x1])).length) Slot.unset).toArray = ls at hl ⊢
  exact wX3_supposeSureStart ⟨B.exec, B.bytes, hml, findClass_of_methodNamed B.named, fun w h => atoms_spec (ws := wu_X3_supposeSureStart) B.pre w (List.mem_cons_of_mem _ h), B.returns, B.notSynchronized, hK, hD⟩ x1 σ s.heap [] ls hl hP va_S.rf hE
def fX4_gainIfSureUpTo_L15 (ke : Int64 → ST → Option (Int64 × ST)) : Nat → Int32 → Int64 → Int32 → ST → Option (Int64 × ST)
  | 0, _, _, _, _ => none
  | n + 1, x1, x2, x4, σ => (if x1 < x4 then ke x2 σ else (if (gI σ 3) ≤ x4 then ke x2 σ else calv (fX3_supposeSureStart x4 σ) (fun σ_4 => bnd (x4 + 1) (fun x4_5 => fX4_gainIfSureUpTo_L15 ke n x1 x2 x4_5 σ_4))))
set_option maxHeartbeats 4000000 in
set_option maxRecDepth 100000 in
theorem wX4_gainIfSureUpTo_L15 {p : Program} {l : Launch} {e : Env} {s : State} {m : MethodId} {args : Array Value} {below : List Frame} {meth : Method} {c : Code} {E : EN} (C : zC E xW p s m args meth c cX4_gainIfSureUpTo 5 RX4 (some .long) wsL_law) {F : Int64 × ST} {ke : Int64 → ST → Option (Int64 × ST)} (hke : ∀ (x2 : Int64) (σ : ST) (H : Heap) (locs : List Loc) (ls : Array Slot), lv_has ls 5 [(0, .ref (ea E 0)), (2, .long x2)] → va_P (eD E) vwCl (xW E σ) H → va_S (eA E) s.heap H locs → ke x2 σ = some F → zWl E xW p l e r_X4_gainIfSureUpTo s m args below meth c F H locs (F0 m 48 ls [])) : ∀ (n : Nat) (x1 : Int32) (x2 : Int64) (x4 : Int32) (σ : ST) (H : Heap) (locs : List Loc) (ls : Array Slot), lv_has ls 5 [(0, .ref (ea E 0)), (1, .int x1), (2, .long x2), (4, .int x4)] → va_P (eD E) vwCl (xW E σ) H → va_S (eA E) s.heap H locs → fX4_gainIfSureUpTo_L15 ke n x1 x2 x4 σ = some F → zWl E xW p l e r_X4_gainIfSureUpTo s m args below meth c F H locs (F0 m 15 ls []) := by
  obtain ⟨hx, hb, hml, hown, hts, hr, hlk, hK, hD⟩ := id C
  have hwX2 : ∀ w ∈ wsX20, w.before args s = true := fun w h => hts w (inlX2 w h)
  have hwX4 : ∀ w ∈ wsX40, w.before args s = true := fun w h => hts w (inlX4 w h)
  intro n
  induction n with
  | zero => intro x1 x2 x4 σ H locs ls hl hP hS hE; rw [fX4_gainIfSureUpTo_L15] at hE; cases hE
  | succ n ih =>
    intro x1 x2 x4 σ H locs ls hl hP hS hE
    rw [fX4_gainIfSureUpTo_L15] at hE
    refine lv_iload hx hb dX4_gainIfSureUpTo_15 (lv_at hl 3 rfl) ?_
    refine lv_iload_n hx hb dX4_gainIfSureUpTo_17 rfl (lv_at hl 1 rfl) ?_
    refine z_icmp_gt (tgt := 48) hx hb dX4_gainIfSureUpTo_18 (by decide) hE (fun hE => ?_) (fun hE => ?_)
    · exact hke x2 σ _ _ _ (lv_sub hl [0, 2] rfl) hP hS hE
    refine lv_iload hx hb dX4_gainIfSureUpTo_21 (lv_at hl 3 rfl) ?_
    refine lv_aload_n hx hb dX4_gainIfSureUpTo_23 rfl (lv_at hl 0 rfl) ?_
    refine xg_0_1 hx hb hown hwX4 (hts _ u_17) hK hP dX4_gainIfSureUpTo_24 ?_
    refine xg_4_11 hx hb hown hwX2 (hts _ u_387) hK hP dX4_gainIfSureUpTo_27 ?_
    refine z_icmp_ge (tgt := 48) hx hb dX4_gainIfSureUpTo_30 (by decide) hE (fun hE => ?_) (fun hE => ?_)
    · exact hke x2 σ _ _ _ (lv_sub hl [0, 2] rfl) hP hS hE
    refine lv_aload_n hx hb dX4_gainIfSureUpTo_33 rfl (lv_at hl 0 rfl) ?_
    refine xg_0_0 hx hb hown hwX4 (hts _ u_15) hK hP dX4_gainIfSureUpTo_34 ?_
    refine lv_iload hx hb dX4_gainIfSureUpTo_37 (lv_at hl 3 rfl) ?_
    refine z_gov (wf := xW) hS hE (fun F1 h1 => (va_runV (As := [.int x4]) (rest := []) ⟨hx, hb, hml, hown, hts⟩ (kX3_supposeSureStart l E hD x4 σ F1 h1) (cwV 1 hts (gU_V u_819 u_820 u_821 u_14 u_822) rfl rfl rfl q_X3_supposeSureStart ⟨Nat.le_of_ble_eq_true rfl, Nat.le_of_ble_eq_true rfl⟩) (z_preV hK hP hS (ci := 3) (q0 := 1) rfl rfl rfl) rfl rfl hl.1 rfl (lv_room (Nat.le_of_ble_eq_true rfl)) dX4_gainIfSureUpTo_39 ⟨Nat.le_of_ble_eq_true rfl, Nat.le_of_ble_eq_true rfl⟩)) (fun σ_4 H locs hP hS hE => ?_)
    refine z_iinc hx hb (v := (x4 + 1)) (k := 3) (fun x4_5 => [(4, .int x4_5), (0, .ref (ea E 0)), (1, .int x1), (2, .long x2)]) dX4_gainIfSureUpTo_42 hl rfl (by rfl) (by decide) rfl hE (fun x4_5 ls hl hE => ?_)
    refine lv_goto (tgt := 15) hx hb dX4_gainIfSureUpTo_45 (by decide) ?_
    exact ih x1 x2 x4_5 σ_4 _ _ _ (lv_sub hl [1, 2, 3, 0] rfl) hP hS hE
def fX4_gainIfSureUpTo_J48  (x2 : Int64) (σ : ST) : Option (Int64 × ST) :=
  cali (fX4_orderOfRow (-9) σ) (fun r_9 σ_8 => calv (fX3_goBy_51 r_9 σ_8) (fun σ_10 => some (((gL σ_10 1) - x2), σ_10)))
set_option maxHeartbeats 4000000 in
set_option maxRecDepth 100000 in
theorem wX4_gainIfSureUpTo_J48 {p : Program} {l : Launch} {e : Env} {s : State} {m : MethodId} {args : Array Value} {below : List Frame} {meth : Method} {c : Code} {E : EN} (C : zC E xW p s m args meth c cX4_gainIfSureUpTo 5 RX4 (some .long) wsL_law) {F : Int64 × ST}   (x2 : Int64) (σ : ST) (H : Heap) (locs : List Loc) (ls : Array Slot) (hl : lv_has ls 5 [(0, .ref (ea E 0)), (2, .long x2)]) (hP : va_P (eD E) vwCl (xW E σ) H) (hS : va_S (eA E) s.heap H locs) (hE : fX4_gainIfSureUpTo_J48  x2 σ = some F) : zWl E xW p l e r_X4_gainIfSureUpTo s m args below meth c F H locs (F0 m 48 ls []) := by
  obtain ⟨hx, hb, hml, hown, hts, hr, hlk, hK, hD⟩ := id C
  have hwX3 : ∀ w ∈ wsX30, w.before args s = true := fun w h => hts w (inlX3 w h)
  have hwX4 : ∀ w ∈ wsX40, w.before args s = true := fun w h => hts w (inlX4 w h)
  unfold fX4_gainIfSureUpTo_J48 at hE
  refine lv_aload_n hx hb dX4_gainIfSureUpTo_48 rfl (lv_at hl 0 rfl) ?_
  refine xg_0_0 hx hb hown hwX4 (hts _ u_15) hK hP dX4_gainIfSureUpTo_49 ?_
  refine lv_aload_n hx hb dX4_gainIfSureUpTo_52 rfl (lv_at hl 0 rfl) ?_
  refine xg_0_7 hx hb hown hwX4 (hts _ u_31) hK hP dX4_gainIfSureUpTo_53 ?_
  refine lv_aload_n hx hb dX4_gainIfSureUpTo_56 rfl (lv_at hl 0 rfl) ?_
  refine lv_bipush (v := -9) hx hb dX4_gainIfSureUpTo_57 (by decide) ?_
  refine z_goi (wf := xW) hS hE (fun F1 h1 => (va_runV (As := [.int (-9)]) (rest := [.ref (ea E 51), .ref (ea E 1)]) ⟨hx, hb, hml, hown, hts⟩ (kX4_orderOfRow l E hD (-9) σ F1 h1) (cwV 1 hts (gU_V u_539 u_540 u_541 u_2 u_542) rfl rfl rfl q_X4_orderOfRow ⟨Nat.le_of_ble_eq_true rfl, Nat.le_of_ble_eq_true rfl⟩) (z_preV hK hP hS (ci := 4) (q0 := 0) rfl rfl rfl) rfl rfl hl.1 rfl (lv_room (Nat.le_of_ble_eq_true rfl)) dX4_gainIfSureUpTo_59 ⟨Nat.le_of_ble_eq_true rfl, Nat.le_of_ble_eq_true rfl⟩)) (fun r_9 σ_8 H locs hP hS hE => ?_)
  refine z_gov (wf := xW) hS hE (fun F1 h1 => (va_runV (As := [.ref (ea E 51), .int r_9]) (rest := []) ⟨hx, hb, hml, hown, hts⟩ (kX3_goBy_51 l E hD r_9 σ_8 F1 h1) (cwV 2 hts (gU_V u_543 u_544 u_545 u_14 u_546) rfl rfl rfl q_X3_goBy ⟨Nat.le_of_ble_eq_true rfl, Nat.le_of_ble_eq_true rfl⟩) (z_preV hK hP hS (ci := 3) (q0 := 1) rfl rfl rfl) rfl rfl hl.1 rfl (lv_room (Nat.le_of_ble_eq_true rfl)) dX4_gainIfSureUpTo_62 ⟨Nat.le_of_ble_eq_true rfl, Nat.le_of_ble_eq_true rfl⟩)) (fun σ_10 H locs hP hS hE => ?_)
  refine lv_aload_n hx hb dX4_gainIfSureUpTo_65 rfl (lv_at hl 0 rfl) ?_
  refine xg_0_0 hx hb hown hwX4 (hts _ u_15) hK hP dX4_gainIfSureUpTo_66 ?_
  refine xg_1_14 hx hb hown hwX3 (hts _ u_680) hK hP dX4_gainIfSureUpTo_69 ?_
  refine lv_lload_n hx hb dX4_gainIfSureUpTo_72 rfl (lv_at hl 1 rfl) ?_
  refine lv_lsub hx hb dX4_gainIfSureUpTo_73 ?_
  exact z_lret hx hb hr hlk hP hS dX4_gainIfSureUpTo_74 hE
def fX4_gainIfSureUpTo  (x1 : Int32) (σ : ST) : Option (Int64 × ST) :=
  calv (fX4_goByRow σ) (fun σ_1 => bnd ((gL σ_1 1) : Int64) (fun x2_2 => bnd (0 : Int32) (fun x4_3 => fX4_gainIfSureUpTo_L15 (fun x2_6 σ_7 => fX4_gainIfSureUpTo_J48  x2_6 σ_7) FU x1 x2_2 x4_3 σ_1)))
set_option maxHeartbeats 4000000 in
set_option maxRecDepth 100000 in
theorem wX4_gainIfSureUpTo {p : Program} {l : Launch} {e : Env} {s : State} {m : MethodId} {args : Array Value} {below : List Frame} {meth : Method} {c : Code} {E : EN} (C : zC E xW p s m args meth c cX4_gainIfSureUpTo 5 RX4 (some .long) wsL_law) {F : Int64 × ST}   (x1 : Int32) (σ : ST) (H : Heap) (locs : List Loc) (ls : Array Slot) (hl : lv_has ls 5 [(0, .ref (ea E 0)), (1, .int x1)]) (hP : va_P (eD E) vwCl (xW E σ) H) (hS : va_S (eA E) s.heap H locs) (hE : fX4_gainIfSureUpTo  x1 σ = some F) : zWl E xW p l e r_X4_gainIfSureUpTo s m args below meth c F H locs (F0 m 0 ls []) := by
  obtain ⟨hx, hb, hml, hown, hts, hr, hlk, hK, hD⟩ := id C
  have hwX3 : ∀ w ∈ wsX30, w.before args s = true := fun w h => hts w (inlX3 w h)
  have hwX4 : ∀ w ∈ wsX40, w.before args s = true := fun w h => hts w (inlX4 w h)
  unfold fX4_gainIfSureUpTo at hE
  refine lv_aload_n hx hb dX4_gainIfSureUpTo_0 rfl (lv_at hl 0 rfl) ?_
  refine z_gov (wf := xW) hS hE (fun F1 h1 => (va_runV (As := []) (rest := []) ⟨hx, hb, hml, hown, hts⟩ (kX4_goByRow l E hD  σ F1 h1) (cwV 0 hts (gU_V u_521 u_522 u_523 u_2 u_524) rfl rfl rfl q_X4_goByRow ⟨Nat.le_of_ble_eq_true rfl, Nat.le_of_ble_eq_true rfl⟩) (z_preV hK hP hS (ci := 4) (q0 := 0) rfl rfl rfl) rfl rfl hl.1 rfl (lv_room (Nat.le_of_ble_eq_true rfl)) dX4_gainIfSureUpTo_1 ⟨Nat.le_of_ble_eq_true rfl, Nat.le_of_ble_eq_true rfl⟩)) (fun σ_1 H locs hP hS hE => ?_)
  refine lv_aload_n hx hb dX4_gainIfSureUpTo_4 rfl (lv_at hl 0 rfl) ?_
  refine xg_0_0 hx hb hown hwX4 (hts _ u_15) hK hP dX4_gainIfSureUpTo_5 ?_
  refine xg_1_14 hx hb hown hwX3 (hts _ u_680) hK hP dX4_gainIfSureUpTo_8 ?_
  refine z_lstore_n hx hb (fun x2_2 => [(2, .long x2_2), (0, .ref (ea E 0)), (1, .int x1)]) dX4_gainIfSureUpTo_11 rfl hl (by decide) rfl hE (fun x2_2 ls hl hE => ?_)
  refine lv_iconst (v := 0) hx hb dX4_gainIfSureUpTo_12 (by decide) ?_
  refine z_istore hx hb (fun x4_3 => [(4, .int x4_3), (2, .long x2_2), (0, .ref (ea E 0)), (1, .int x1)]) dX4_gainIfSureUpTo_13 hl (by decide) rfl hE (fun x4_3 ls hl hE => ?_)
  refine wX4_gainIfSureUpTo_L15 C ?_ FU x1 x2_2 x4_3 σ_1 _ _ _ (lv_sub hl [2, 3, 1, 0] rfl) hP hS hE
  intro x2_6 σ_7 H locs ls hl hP hS hE
  exact wX4_gainIfSureUpTo_J48 C  x2_6 σ_7 _ _ _ (lv_sub hl [0, 1] rfl) hP hS hE
theorem kX4_gainIfSureUpTo (l : Launch) (E : EN) (hD : ∀ σ, va_D (eA E) (xW E σ)) (x1 : Int32) (σ : ST) (F : Int64 × ST) (hE : fX4_gainIfSureUpTo x1 σ = some F) : Met l yX4_gainIfSureUpTo wu_X4_gainIfSureUpTo r_X4_gainIfSureUpTo (zPc E xW [.ref (ea E 0), .int x1] σ) (zQl E xW F) 0 0 (eA E) := by
  refine Met.ofW (cc := cX4_gainIfSureUpTo) (maxL := 5) (ret := (some .long)) (by decide) rfl ?_
  intro p e s m args below meth c s₁ B hml hv
  obtain ⟨rfl, hP, hK⟩ := hv
  have hl := lv_entry ([.ref (ea E 0), .int x1]) (n := 5) (Nat.le_of_ble_eq_true rfl)
  rw [lg_entry_eq]
  generalize (lg_sl ([.ref (ea E 0), .int x1]) ++ List.replicate (5 - (lg_sl ([.ref (ea E 0), .int x1])).length) Slot.unset).toArray = ls at hl ⊢
  exact wX4_gainIfSureUpTo ⟨B.exec, B.bytes, hml, findClass_of_methodNamed B.named, fun w h => atoms_spec (ws := wu_X4_gainIfSureUpTo) B.pre w (List.mem_cons_of_mem _ h), B.returns, B.notSynchronized, hK, hD⟩ x1 σ s.heap [] ls hl hP va_S.rf hE
def fX4_hill  (x1 : Int32) (σ : ST) : Option (Int64 × ST) :=
  cali (fX4_refusalOfPart x1 σ) (fun r_2 σ_1 => bnd (r_2 : Int32) (fun x2_3 => (if 0 ≤ x2_3 then call (fX4_gainIfSureUpTo 0 σ_1) (fun r_5 σ_4 => call (fX4_partOf r_5 x1 σ_4) (fun r_7 σ_6 => some (r_7, σ_6))) else call (fX4_refuseLong x2_3 σ_1) (fun r_9 σ_8 => some (r_9, σ_8)))))
set_option maxHeartbeats 4000000 in
set_option maxRecDepth 100000 in
theorem wX4_hill {p : Program} {l : Launch} {e : Env} {s : State} {m : MethodId} {args : Array Value} {below : List Frame} {meth : Method} {c : Code} {E : EN} (C : zC E xW p s m args meth c cX4_hill 3 RX4 (some .long) wsL_law) {F : Int64 × ST}   (x1 : Int32) (σ : ST) (H : Heap) (locs : List Loc) (ls : Array Slot) (hl : lv_has ls 3 [(0, .ref (ea E 0)), (1, .int x1)]) (hP : va_P (eD E) vwCl (xW E σ) H) (hS : va_S (eA E) s.heap H locs) (hE : fX4_hill  x1 σ = some F) : zWl E xW p l e r_X4_hill s m args below meth c F H locs (F0 m 0 ls []) := by
  obtain ⟨hx, hb, hml, hown, hts, hr, hlk, hK, hD⟩ := id C
  unfold fX4_hill at hE
  refine lv_aload_n hx hb dX4_hill_0 rfl (lv_at hl 0 rfl) ?_
  refine lv_iload_n hx hb dX4_hill_1 rfl (lv_at hl 1 rfl) ?_
  refine z_goi (wf := xW) hS hE (fun F1 h1 => (va_runV (As := [.int x1]) (rest := []) ⟨hx, hb, hml, hown, hts⟩ (kX4_refusalOfPart l E hD x1 σ F1 h1) (cwV 1 hts (gU_V u_643 u_644 u_645 u_2 u_646) rfl rfl rfl q_X4_refusalOfPart ⟨Nat.le_of_ble_eq_true rfl, Nat.le_of_ble_eq_true rfl⟩) (z_preV hK hP hS (ci := 4) (q0 := 0) rfl rfl rfl) rfl rfl hl.1 rfl (lv_room (Nat.le_of_ble_eq_true rfl)) dX4_hill_2 ⟨Nat.le_of_ble_eq_true rfl, Nat.le_of_ble_eq_true rfl⟩)) (fun r_2 σ_1 H locs hP hS hE => ?_)
  refine z_istore_n hx hb (fun x2_3 => [(2, .int x2_3), (0, .ref (ea E 0)), (1, .int x1)]) dX4_hill_5 rfl hl (by decide) rfl hE (fun x2_3 ls hl hE => ?_)
  refine lv_iload_n hx hb dX4_hill_6 rfl (lv_at hl 0 rfl) ?_
  refine z_if_ge (tgt := 16) hx hb dX4_hill_7 (by decide) hE (fun hE => ?_) (fun hE => ?_)
  · refine lv_aload_n hx hb dX4_hill_16 rfl (lv_at hl 1 rfl) ?_
    refine lv_iconst (v := 0) hx hb dX4_hill_17 (by decide) ?_
    refine z_gol (wf := xW) hS hE (fun F1 h1 => (va_runV (As := [.int 0]) (rest := []) ⟨hx, hb, hml, hown, hts⟩ (kX4_gainIfSureUpTo l E hD 0 σ_1 F1 h1) (cwV 1 hts (gU_V u_815 u_816 u_817 u_2 u_818) rfl rfl rfl q_X4_gainIfSureUpTo ⟨Nat.le_of_ble_eq_true rfl, Nat.le_of_ble_eq_true rfl⟩) (z_preV hK hP hS (ci := 4) (q0 := 0) rfl rfl rfl) rfl rfl hl.1 rfl (lv_room (Nat.le_of_ble_eq_true rfl)) dX4_hill_18 ⟨Nat.le_of_ble_eq_true rfl, Nat.le_of_ble_eq_true rfl⟩)) (fun r_5 σ_4 H locs hP hS hE => ?_)
    refine lv_iload_n hx hb dX4_hill_21 rfl (lv_at hl 2 rfl) ?_
    refine z_gol (wf := xW) hS hE (fun F1 h1 => (va_runS (As := [.long r_5, .int x1]) (rest := []) ⟨hx, hb, hml, hown, hts⟩ (kX4_partOf l E hD r_5 x1 σ_4 F1 h1) (va_cwS 2 hts (gU_S u_652 u_653 u_2 u_654) rfl rfl rfl q_X4_partOf ⟨Nat.le_of_ble_eq_true rfl, Nat.le_of_ble_eq_true rfl⟩) (z_preS hK hP hS) rfl rfl hl.1 rfl (lv_room (Nat.le_of_ble_eq_true rfl)) dX4_hill_22 ⟨Nat.le_of_ble_eq_true rfl, Nat.le_of_ble_eq_true rfl⟩)) (fun r_7 σ_6 H locs hP hS hE => ?_)
    exact z_lret hx hb hr hlk hP hS dX4_hill_25 hE
  refine lv_aload_n hx hb dX4_hill_10 rfl (lv_at hl 1 rfl) ?_
  refine lv_iload_n hx hb dX4_hill_11 rfl (lv_at hl 0 rfl) ?_
  refine z_gol (wf := xW) hS hE (fun F1 h1 => (va_runV (As := [.int x2_3]) (rest := []) ⟨hx, hb, hml, hown, hts⟩ (kX4_refuseLong l E hD x2_3 σ_1 F1 h1) (cwV 1 hts (gU_V u_647 u_648 u_649 u_2 u_650) rfl rfl rfl q_X4_refuseLong ⟨Nat.le_of_ble_eq_true rfl, Nat.le_of_ble_eq_true rfl⟩) (z_preV hK hP hS (ci := 4) (q0 := 0) rfl rfl rfl) rfl rfl hl.1 rfl (lv_room (Nat.le_of_ble_eq_true rfl)) dX4_hill_12 ⟨Nat.le_of_ble_eq_true rfl, Nat.le_of_ble_eq_true rfl⟩)) (fun r_9 σ_8 H locs hP hS hE => ?_)
  exact z_lret hx hb hr hlk hP hS dX4_hill_15 hE
theorem kX4_hill (l : Launch) (E : EN) (hD : ∀ σ, va_D (eA E) (xW E σ)) (x1 : Int32) (σ : ST) (F : Int64 × ST) (hE : fX4_hill x1 σ = some F) : Met l yX4_hill wu_X4_hill r_X4_hill (zPc E xW [.ref (ea E 0), .int x1] σ) (zQl E xW F) 0 0 (eA E) := by
  refine Met.ofW (cc := cX4_hill) (maxL := 3) (ret := (some .long)) (by decide) rfl ?_
  intro p e s m args below meth c s₁ B hml hv
  obtain ⟨rfl, hP, hK⟩ := hv
  have hl := lv_entry ([.ref (ea E 0), .int x1]) (n := 3) (Nat.le_of_ble_eq_true rfl)
  rw [lg_entry_eq]
  generalize (lg_sl ([.ref (ea E 0), .int x1]) ++ List.replicate (3 - (lg_sl ([.ref (ea E 0), .int x1])).length) Slot.unset).toArray = ls at hl ⊢
  exact wX4_hill ⟨B.exec, B.bytes, hml, findClass_of_methodNamed B.named, fun w h => atoms_spec (ws := wu_X4_hill) B.pre w (List.mem_cons_of_mem _ h), B.returns, B.notSynchronized, hK, hD⟩ x1 σ s.heap [] ls hl hP va_S.rf hE
def fX4_mend  (x1 : Int32) (x2 : Int32) (σ : ST) : Option (Int32 × ST) :=
  (if x1 < 0 then cali (fX4_refuse (-4) σ) (fun r_2 σ_1 => some (r_2, σ_1)) else (if 1 ≤ x2 then (if 999 < x1 then cali (fX4_refuse (-6) σ) (fun r_4 σ_3 => some (r_4, σ_3)) else (if x2 ≤ 99 then (if (gI σ 3) = 0 then cali (fX4_refuse (-3) σ) (fun r_8 σ_7 => some (r_8, σ_7)) else call (fX4_gainIfSureUpTo ((gI σ 3) - 1) σ) (fun r_6 σ_5 => (if (lg_cmp ((Int32.toInt64 x2) * r_6) ((Int32.toInt64 x1) * 1000000000000)) < 0 then some (0, σ_5) else some (1, σ_5)))) else cali (fX4_refuse (-6) σ) (fun r_10 σ_9 => some (r_10, σ_9)))) else cali (fX4_refuse (-4) σ) (fun r_12 σ_11 => some (r_12, σ_11))))
set_option maxHeartbeats 4000000 in
set_option maxRecDepth 100000 in
theorem wX4_mend {p : Program} {l : Launch} {e : Env} {s : State} {m : MethodId} {args : Array Value} {below : List Frame} {meth : Method} {c : Code} {E : EN} (C : zC E xW p s m args meth c cX4_mend 3 RX4 (some .int) wsL_law) {F : Int32 × ST}   (x1 : Int32) (x2 : Int32) (σ : ST) (H : Heap) (locs : List Loc) (ls : Array Slot) (hl : lv_has ls 3 [(0, .ref (ea E 0)), (1, .int x1), (2, .int x2)]) (hP : va_P (eD E) vwCl (xW E σ) H) (hS : va_S (eA E) s.heap H locs) (hE : fX4_mend  x1 x2 σ = some F) : zWi E xW p l e r_X4_mend s m args below meth c F H locs (F0 m 0 ls []) := by
  obtain ⟨hx, hb, hml, hown, hts, hr, hlk, hK, hD⟩ := id C
  have hwX2 : ∀ w ∈ wsX20, w.before args s = true := fun w h => hts w (inlX2 w h)
  have hwX4 : ∀ w ∈ wsX40, w.before args s = true := fun w h => hts w (inlX4 w h)
  unfold fX4_mend at hE
  refine lv_iload_n hx hb dX4_mend_0 rfl (lv_at hl 1 rfl) ?_
  refine z_if_lt (tgt := 9) hx hb dX4_mend_1 (by decide) hE (fun hE => ?_) (fun hE => ?_)
  · refine lv_aload_n hx hb dX4_mend_9 rfl (lv_at hl 0 rfl) ?_
    refine lv_bipush (v := -4) hx hb dX4_mend_10 (by decide) ?_
    refine z_goi (wf := xW) hS hE (fun F1 h1 => (va_runV (As := [.int (-4)]) (rest := []) ⟨hx, hb, hml, hown, hts⟩ (kX4_refuse l E hD (-4) σ F1 h1) (cwV 1 hts (gU_V u_118 u_119 u_120 u_2 u_121) rfl rfl rfl q_X4_refuse ⟨Nat.le_of_ble_eq_true rfl, Nat.le_of_ble_eq_true rfl⟩) (z_preV hK hP hS (ci := 4) (q0 := 0) rfl rfl rfl) rfl rfl hl.1 rfl (lv_room (Nat.le_of_ble_eq_true rfl)) dX4_mend_12 ⟨Nat.le_of_ble_eq_true rfl, Nat.le_of_ble_eq_true rfl⟩)) (fun r_2 σ_1 H locs hP hS hE => ?_)
    exact z_iret hx hb hr hlk hP hS dX4_mend_15 hE
  refine lv_iload_n hx hb dX4_mend_4 rfl (lv_at hl 2 rfl) ?_
  refine lv_iconst (v := 1) hx hb dX4_mend_5 (by decide) ?_
  refine z_icmp_ge (tgt := 16) hx hb dX4_mend_6 (by decide) hE (fun hE => ?_) (fun hE => ?_)
  · refine lv_iload_n hx hb dX4_mend_16 rfl (lv_at hl 1 rfl) ?_
    refine lv_sipush (v := 999) hx hb dX4_mend_17 (by decide) ?_
    refine z_icmp_gt (tgt := 29) hx hb dX4_mend_20 (by decide) hE (fun hE => ?_) (fun hE => ?_)
    · refine lv_aload_n hx hb dX4_mend_29 rfl (lv_at hl 0 rfl) ?_
      refine lv_bipush (v := -6) hx hb dX4_mend_30 (by decide) ?_
      refine z_goi (wf := xW) hS hE (fun F1 h1 => (va_runV (As := [.int (-6)]) (rest := []) ⟨hx, hb, hml, hown, hts⟩ (kX4_refuse l E hD (-6) σ F1 h1) (cwV 1 hts (gU_V u_118 u_119 u_120 u_2 u_121) rfl rfl rfl q_X4_refuse ⟨Nat.le_of_ble_eq_true rfl, Nat.le_of_ble_eq_true rfl⟩) (z_preV hK hP hS (ci := 4) (q0 := 0) rfl rfl rfl) rfl rfl hl.1 rfl (lv_room (Nat.le_of_ble_eq_true rfl)) dX4_mend_32 ⟨Nat.le_of_ble_eq_true rfl, Nat.le_of_ble_eq_true rfl⟩)) (fun r_4 σ_3 H locs hP hS hE => ?_)
      exact z_iret hx hb hr hlk hP hS dX4_mend_35 hE
    refine lv_iload_n hx hb dX4_mend_23 rfl (lv_at hl 2 rfl) ?_
    refine lv_bipush (v := 99) hx hb dX4_mend_24 (by decide) ?_
    refine z_icmp_le (tgt := 36) hx hb dX4_mend_26 (by decide) hE (fun hE => ?_) (fun hE => ?_)
    · refine lv_aload_n hx hb dX4_mend_36 rfl (lv_at hl 0 rfl) ?_
      refine xg_0_1 hx hb hown hwX4 (hts _ u_17) hK hP dX4_mend_37 ?_
      refine xg_4_11 hx hb hown hwX2 (hts _ u_387) hK hP dX4_mend_40 ?_
      refine z_if_ne (tgt := 53) hx hb dX4_mend_43 (by decide) hE (fun hE => ?_) (fun hE => ?_)
      · refine lv_iload_n hx hb dX4_mend_53 rfl (lv_at hl 2 rfl) ?_
        refine lv_i2l (v := (Int32.toInt64 x2)) hx hb dX4_mend_54 rfl ?_
        refine lv_aload_n hx hb dX4_mend_55 rfl (lv_at hl 0 rfl) ?_
        refine lv_aload_n hx hb dX4_mend_56 rfl (lv_at hl 0 rfl) ?_
        refine xg_0_1 hx hb hown hwX4 (hts _ u_17) hK hP dX4_mend_57 ?_
        refine xg_4_11 hx hb hown hwX2 (hts _ u_387) hK hP dX4_mend_60 ?_
        refine lv_iconst (v := 1) hx hb dX4_mend_63 (by decide) ?_
        refine lv_isub hx hb dX4_mend_64 ?_
        refine z_gol (wf := xW) hS hE (fun F1 h1 => (va_runV (As := [.int ((gI σ 3) - 1)]) (rest := [.long (Int32.toInt64 x2)]) ⟨hx, hb, hml, hown, hts⟩ (kX4_gainIfSureUpTo l E hD ((gI σ 3) - 1) σ F1 h1) (cwV 1 hts (gU_V u_815 u_816 u_817 u_2 u_818) rfl rfl rfl q_X4_gainIfSureUpTo ⟨Nat.le_of_ble_eq_true rfl, Nat.le_of_ble_eq_true rfl⟩) (z_preV hK hP hS (ci := 4) (q0 := 0) rfl rfl rfl) rfl rfl hl.1 rfl (lv_room (Nat.le_of_ble_eq_true rfl)) dX4_mend_65 ⟨Nat.le_of_ble_eq_true rfl, Nat.le_of_ble_eq_true rfl⟩)) (fun r_6 σ_5 H locs hP hS hE => ?_)
        refine lv_lmul hx hb dX4_mend_68 ?_
        refine lv_iload_n hx hb dX4_mend_69 rfl (lv_at hl 1 rfl) ?_
        refine lv_i2l (v := (Int32.toInt64 x1)) hx hb dX4_mend_70 rfl ?_
        refine lv_ldc2 (v := 1000000000000) hx hb hown (hts _ u_655) dX4_mend_71 ?_
        refine lv_lmul hx hb dX4_mend_74 ?_
        refine W.lcmp hx hb dX4_mend_75 ?_
        refine z_if_lt (tgt := 83) hx hb dX4_mend_76 (by decide) hE (fun hE => ?_) (fun hE => ?_)
        · refine lv_iconst (v := 0) hx hb dX4_mend_83 (by decide) ?_
          exact z_iret hx hb hr hlk hP hS dX4_mend_84 hE
        refine lv_iconst (v := 1) hx hb dX4_mend_79 (by decide) ?_
        refine lv_goto (tgt := 84) hx hb dX4_mend_80 (by decide) ?_
        exact z_iret hx hb hr hlk hP hS dX4_mend_84 hE
      refine lv_aload_n hx hb dX4_mend_46 rfl (lv_at hl 0 rfl) ?_
      refine lv_bipush (v := -3) hx hb dX4_mend_47 (by decide) ?_
      refine z_goi (wf := xW) hS hE (fun F1 h1 => (va_runV (As := [.int (-3)]) (rest := []) ⟨hx, hb, hml, hown, hts⟩ (kX4_refuse l E hD (-3) σ F1 h1) (cwV 1 hts (gU_V u_118 u_119 u_120 u_2 u_121) rfl rfl rfl q_X4_refuse ⟨Nat.le_of_ble_eq_true rfl, Nat.le_of_ble_eq_true rfl⟩) (z_preV hK hP hS (ci := 4) (q0 := 0) rfl rfl rfl) rfl rfl hl.1 rfl (lv_room (Nat.le_of_ble_eq_true rfl)) dX4_mend_49 ⟨Nat.le_of_ble_eq_true rfl, Nat.le_of_ble_eq_true rfl⟩)) (fun r_8 σ_7 H locs hP hS hE => ?_)
      exact z_iret hx hb hr hlk hP hS dX4_mend_52 hE
    refine lv_aload_n hx hb dX4_mend_29 rfl (lv_at hl 0 rfl) ?_
    refine lv_bipush (v := -6) hx hb dX4_mend_30 (by decide) ?_
    refine z_goi (wf := xW) hS hE (fun F1 h1 => (va_runV (As := [.int (-6)]) (rest := []) ⟨hx, hb, hml, hown, hts⟩ (kX4_refuse l E hD (-6) σ F1 h1) (cwV 1 hts (gU_V u_118 u_119 u_120 u_2 u_121) rfl rfl rfl q_X4_refuse ⟨Nat.le_of_ble_eq_true rfl, Nat.le_of_ble_eq_true rfl⟩) (z_preV hK hP hS (ci := 4) (q0 := 0) rfl rfl rfl) rfl rfl hl.1 rfl (lv_room (Nat.le_of_ble_eq_true rfl)) dX4_mend_32 ⟨Nat.le_of_ble_eq_true rfl, Nat.le_of_ble_eq_true rfl⟩)) (fun r_10 σ_9 H locs hP hS hE => ?_)
    exact z_iret hx hb hr hlk hP hS dX4_mend_35 hE
  refine lv_aload_n hx hb dX4_mend_9 rfl (lv_at hl 0 rfl) ?_
  refine lv_bipush (v := -4) hx hb dX4_mend_10 (by decide) ?_
  refine z_goi (wf := xW) hS hE (fun F1 h1 => (va_runV (As := [.int (-4)]) (rest := []) ⟨hx, hb, hml, hown, hts⟩ (kX4_refuse l E hD (-4) σ F1 h1) (cwV 1 hts (gU_V u_118 u_119 u_120 u_2 u_121) rfl rfl rfl q_X4_refuse ⟨Nat.le_of_ble_eq_true rfl, Nat.le_of_ble_eq_true rfl⟩) (z_preV hK hP hS (ci := 4) (q0 := 0) rfl rfl rfl) rfl rfl hl.1 rfl (lv_room (Nat.le_of_ble_eq_true rfl)) dX4_mend_12 ⟨Nat.le_of_ble_eq_true rfl, Nat.le_of_ble_eq_true rfl⟩)) (fun r_12 σ_11 H locs hP hS hE => ?_)
  exact z_iret hx hb hr hlk hP hS dX4_mend_15 hE
theorem kX4_mend (l : Launch) (E : EN) (hD : ∀ σ, va_D (eA E) (xW E σ)) (x1 : Int32) (x2 : Int32) (σ : ST) (F : Int32 × ST) (hE : fX4_mend x1 x2 σ = some F) : Met l yX4_mend wu_X4_mend r_X4_mend (zPc E xW [.ref (ea E 0), .int x1, .int x2] σ) (zQi E xW F) 0 0 (eA E) := by
  refine Met.ofW (cc := cX4_mend) (maxL := 3) (ret := (some .int)) (by decide) rfl ?_
  intro p e s m args below meth c s₁ B hml hv
  obtain ⟨rfl, hP, hK⟩ := hv
  have hl := lv_entry ([.ref (ea E 0), .int x1, .int x2]) (n := 3) (Nat.le_of_ble_eq_true rfl)
  rw [lg_entry_eq]
  generalize (lg_sl ([.ref (ea E 0), .int x1, .int x2]) ++ List.replicate (3 - (lg_sl ([.ref (ea E 0), .int x1, .int x2])).length) Slot.unset).toArray = ls at hl ⊢
  exact wX4_mend ⟨B.exec, B.bytes, hml, findClass_of_methodNamed B.named, fun w h => atoms_spec (ws := wu_X4_mend) B.pre w (List.mem_cons_of_mem _ h), B.returns, B.notSynchronized, hK, hD⟩ x1 x2 σ s.heap [] ls hl hP va_S.rf hE
def fX4_mendFrom_L59 (ke : ST → Option (Int32 × ST)) : Nat → Int32 → Int64 → Int32 → ST → Option (Int32 × ST)
  | 0, _, _, _, _ => none
  | n + 1, x1, x2, x4, σ => (if 99 < x4 then ke  σ else (if (lg_cmp ((Int32.toInt64 x4) * x2) ((Int32.toInt64 x1) * 1000000000000)) < 0 then bnd (x4 + 1) (fun x4_5 => fX4_mendFrom_L59 ke n x1 x2 x4_5 σ) else some (x4, σ)))
set_option maxHeartbeats 4000000 in
set_option maxRecDepth 100000 in
theorem wX4_mendFrom_L59 {p : Program} {l : Launch} {e : Env} {s : State} {m : MethodId} {args : Array Value} {below : List Frame} {meth : Method} {c : Code} {E : EN} (C : zC E xW p s m args meth c cX4_mendFrom 5 RX4 (some .int) wsL_law) {F : Int32 × ST} {ke : ST → Option (Int32 × ST)} (hke : ∀  (σ : ST) (H : Heap) (locs : List Loc) (ls : Array Slot), lv_has ls 5 [] → va_P (eD E) vwCl (xW E σ) H → va_S (eA E) s.heap H locs → ke  σ = some F → zWi E xW p l e r_X4_mendFrom s m args below meth c F H locs (F0 m 90 ls [])) : ∀ (n : Nat) (x1 : Int32) (x2 : Int64) (x4 : Int32) (σ : ST) (H : Heap) (locs : List Loc) (ls : Array Slot), lv_has ls 5 [(1, .int x1), (2, .long x2), (4, .int x4)] → va_P (eD E) vwCl (xW E σ) H → va_S (eA E) s.heap H locs → fX4_mendFrom_L59 ke n x1 x2 x4 σ = some F → zWi E xW p l e r_X4_mendFrom s m args below meth c F H locs (F0 m 59 ls []) := by
  obtain ⟨hx, hb, hml, hown, hts, hr, hlk, hK, hD⟩ := id C
  intro n
  induction n with
  | zero => intro x1 x2 x4 σ H locs ls hl hP hS hE; rw [fX4_mendFrom_L59] at hE; cases hE
  | succ n ih =>
    intro x1 x2 x4 σ H locs ls hl hP hS hE
    rw [fX4_mendFrom_L59] at hE
    refine lv_iload hx hb dX4_mendFrom_59 (lv_at hl 2 rfl) ?_
    refine lv_bipush (v := 99) hx hb dX4_mendFrom_61 (by decide) ?_
    refine z_icmp_gt (tgt := 90) hx hb dX4_mendFrom_63 (by decide) hE (fun hE => ?_) (fun hE => ?_)
    · exact hke  σ _ _ _ (lv_sub hl [] rfl) hP hS hE
    refine lv_iload hx hb dX4_mendFrom_66 (lv_at hl 2 rfl) ?_
    refine lv_i2l (v := (Int32.toInt64 x4)) hx hb dX4_mendFrom_68 rfl ?_
    refine lv_lload_n hx hb dX4_mendFrom_69 rfl (lv_at hl 1 rfl) ?_
    refine lv_lmul hx hb dX4_mendFrom_70 ?_
    refine lv_iload_n hx hb dX4_mendFrom_71 rfl (lv_at hl 0 rfl) ?_
    refine lv_i2l (v := (Int32.toInt64 x1)) hx hb dX4_mendFrom_72 rfl ?_
    refine lv_ldc2 (v := 1000000000000) hx hb hown (hts _ u_655) dX4_mendFrom_73 ?_
    refine lv_lmul hx hb dX4_mendFrom_76 ?_
    refine W.lcmp hx hb dX4_mendFrom_77 ?_
    refine z_if_lt (tgt := 84) hx hb dX4_mendFrom_78 (by decide) hE (fun hE => ?_) (fun hE => ?_)
    · refine z_iinc hx hb (v := (x4 + 1)) (k := 2) (fun x4_5 => [(4, .int x4_5), (1, .int x1), (2, .long x2)]) dX4_mendFrom_84 hl rfl (by rfl) (by decide) rfl hE (fun x4_5 ls hl hE => ?_)
      refine lv_goto (tgt := 59) hx hb dX4_mendFrom_87 (by decide) ?_
      exact ih x1 x2 x4_5 σ _ _ _ (lv_sub hl [1, 2, 0] rfl) hP hS hE
    refine lv_iload hx hb dX4_mendFrom_81 (lv_at hl 2 rfl) ?_
    exact z_iret hx hb hr hlk hP hS dX4_mendFrom_83 hE
def fX4_mendFrom  (x1 : Int32) (σ : ST) : Option (Int32 × ST) :=
  (if 0 ≤ x1 then (if x1 ≤ 999 then (if (gI σ 3) = 0 then cali (fX4_refuse (-3) σ) (fun r_8 σ_7 => some (r_8, σ_7)) else call (fX4_gainIfSureUpTo ((gI σ 3) - 1) σ) (fun r_2 σ_1 => bnd (r_2 : Int64) (fun x2_3 => bnd (1 : Int32) (fun x4_4 => fX4_mendFrom_L59 (fun σ_6 => some ((-9), σ_6)) FU x1 x2_3 x4_4 σ_1)))) else cali (fX4_refuse (-6) σ) (fun r_10 σ_9 => some (r_10, σ_9))) else cali (fX4_refuse (-4) σ) (fun r_12 σ_11 => some (r_12, σ_11)))
set_option maxHeartbeats 4000000 in
set_option maxRecDepth 100000 in
theorem wX4_mendFrom {p : Program} {l : Launch} {e : Env} {s : State} {m : MethodId} {args : Array Value} {below : List Frame} {meth : Method} {c : Code} {E : EN} (C : zC E xW p s m args meth c cX4_mendFrom 5 RX4 (some .int) wsL_law) {F : Int32 × ST}   (x1 : Int32) (σ : ST) (H : Heap) (locs : List Loc) (ls : Array Slot) (hl : lv_has ls 5 [(0, .ref (ea E 0)), (1, .int x1)]) (hP : va_P (eD E) vwCl (xW E σ) H) (hS : va_S (eA E) s.heap H locs) (hE : fX4_mendFrom  x1 σ = some F) : zWi E xW p l e r_X4_mendFrom s m args below meth c F H locs (F0 m 0 ls []) := by
  obtain ⟨hx, hb, hml, hown, hts, hr, hlk, hK, hD⟩ := id C
  have hwX2 : ∀ w ∈ wsX20, w.before args s = true := fun w h => hts w (inlX2 w h)
  have hwX4 : ∀ w ∈ wsX40, w.before args s = true := fun w h => hts w (inlX4 w h)
  unfold fX4_mendFrom at hE
  refine lv_iload_n hx hb dX4_mendFrom_0 rfl (lv_at hl 1 rfl) ?_
  refine z_if_ge (tgt := 11) hx hb dX4_mendFrom_1 (by decide) hE (fun hE => ?_) (fun hE => ?_)
  · refine lv_iload_n hx hb dX4_mendFrom_11 rfl (lv_at hl 1 rfl) ?_
    refine lv_sipush (v := 999) hx hb dX4_mendFrom_12 (by decide) ?_
    refine z_icmp_le (tgt := 25) hx hb dX4_mendFrom_15 (by decide) hE (fun hE => ?_) (fun hE => ?_)
    · refine lv_aload_n hx hb dX4_mendFrom_25 rfl (lv_at hl 0 rfl) ?_
      refine xg_0_1 hx hb hown hwX4 (hts _ u_17) hK hP dX4_mendFrom_26 ?_
      refine xg_4_11 hx hb hown hwX2 (hts _ u_387) hK hP dX4_mendFrom_29 ?_
      refine z_if_ne (tgt := 42) hx hb dX4_mendFrom_32 (by decide) hE (fun hE => ?_) (fun hE => ?_)
      · refine lv_aload_n hx hb dX4_mendFrom_42 rfl (lv_at hl 0 rfl) ?_
        refine lv_aload_n hx hb dX4_mendFrom_43 rfl (lv_at hl 0 rfl) ?_
        refine xg_0_1 hx hb hown hwX4 (hts _ u_17) hK hP dX4_mendFrom_44 ?_
        refine xg_4_11 hx hb hown hwX2 (hts _ u_387) hK hP dX4_mendFrom_47 ?_
        refine lv_iconst (v := 1) hx hb dX4_mendFrom_50 (by decide) ?_
        refine lv_isub hx hb dX4_mendFrom_51 ?_
        refine z_gol (wf := xW) hS hE (fun F1 h1 => (va_runV (As := [.int ((gI σ 3) - 1)]) (rest := []) ⟨hx, hb, hml, hown, hts⟩ (kX4_gainIfSureUpTo l E hD ((gI σ 3) - 1) σ F1 h1) (cwV 1 hts (gU_V u_815 u_816 u_817 u_2 u_818) rfl rfl rfl q_X4_gainIfSureUpTo ⟨Nat.le_of_ble_eq_true rfl, Nat.le_of_ble_eq_true rfl⟩) (z_preV hK hP hS (ci := 4) (q0 := 0) rfl rfl rfl) rfl rfl hl.1 rfl (lv_room (Nat.le_of_ble_eq_true rfl)) dX4_mendFrom_52 ⟨Nat.le_of_ble_eq_true rfl, Nat.le_of_ble_eq_true rfl⟩)) (fun r_2 σ_1 H locs hP hS hE => ?_)
        refine z_lstore_n hx hb (fun x2_3 => [(2, .long x2_3), (0, .ref (ea E 0)), (1, .int x1)]) dX4_mendFrom_55 rfl hl (by decide) rfl hE (fun x2_3 ls hl hE => ?_)
        refine lv_iconst (v := 1) hx hb dX4_mendFrom_56 (by decide) ?_
        refine z_istore hx hb (fun x4_4 => [(4, .int x4_4), (2, .long x2_3), (0, .ref (ea E 0)), (1, .int x1)]) dX4_mendFrom_57 hl (by decide) rfl hE (fun x4_4 ls hl hE => ?_)
        refine wX4_mendFrom_L59 C ?_ FU x1 x2_3 x4_4 σ_1 _ _ _ (lv_sub hl [3, 1, 0] rfl) hP hS hE
        intro σ_6 H locs ls hl hP hS hE
        refine lv_bipush (v := -9) hx hb dX4_mendFrom_90 (by decide) ?_
        exact z_iret hx hb hr hlk hP hS dX4_mendFrom_92 hE
      refine lv_aload_n hx hb dX4_mendFrom_35 rfl (lv_at hl 0 rfl) ?_
      refine lv_bipush (v := -3) hx hb dX4_mendFrom_36 (by decide) ?_
      refine z_goi (wf := xW) hS hE (fun F1 h1 => (va_runV (As := [.int (-3)]) (rest := []) ⟨hx, hb, hml, hown, hts⟩ (kX4_refuse l E hD (-3) σ F1 h1) (cwV 1 hts (gU_V u_118 u_119 u_120 u_2 u_121) rfl rfl rfl q_X4_refuse ⟨Nat.le_of_ble_eq_true rfl, Nat.le_of_ble_eq_true rfl⟩) (z_preV hK hP hS (ci := 4) (q0 := 0) rfl rfl rfl) rfl rfl hl.1 rfl (lv_room (Nat.le_of_ble_eq_true rfl)) dX4_mendFrom_38 ⟨Nat.le_of_ble_eq_true rfl, Nat.le_of_ble_eq_true rfl⟩)) (fun r_8 σ_7 H locs hP hS hE => ?_)
      exact z_iret hx hb hr hlk hP hS dX4_mendFrom_41 hE
    refine lv_aload_n hx hb dX4_mendFrom_18 rfl (lv_at hl 0 rfl) ?_
    refine lv_bipush (v := -6) hx hb dX4_mendFrom_19 (by decide) ?_
    refine z_goi (wf := xW) hS hE (fun F1 h1 => (va_runV (As := [.int (-6)]) (rest := []) ⟨hx, hb, hml, hown, hts⟩ (kX4_refuse l E hD (-6) σ F1 h1) (cwV 1 hts (gU_V u_118 u_119 u_120 u_2 u_121) rfl rfl rfl q_X4_refuse ⟨Nat.le_of_ble_eq_true rfl, Nat.le_of_ble_eq_true rfl⟩) (z_preV hK hP hS (ci := 4) (q0 := 0) rfl rfl rfl) rfl rfl hl.1 rfl (lv_room (Nat.le_of_ble_eq_true rfl)) dX4_mendFrom_21 ⟨Nat.le_of_ble_eq_true rfl, Nat.le_of_ble_eq_true rfl⟩)) (fun r_10 σ_9 H locs hP hS hE => ?_)
    exact z_iret hx hb hr hlk hP hS dX4_mendFrom_24 hE
  refine lv_aload_n hx hb dX4_mendFrom_4 rfl (lv_at hl 0 rfl) ?_
  refine lv_bipush (v := -4) hx hb dX4_mendFrom_5 (by decide) ?_
  refine z_goi (wf := xW) hS hE (fun F1 h1 => (va_runV (As := [.int (-4)]) (rest := []) ⟨hx, hb, hml, hown, hts⟩ (kX4_refuse l E hD (-4) σ F1 h1) (cwV 1 hts (gU_V u_118 u_119 u_120 u_2 u_121) rfl rfl rfl q_X4_refuse ⟨Nat.le_of_ble_eq_true rfl, Nat.le_of_ble_eq_true rfl⟩) (z_preV hK hP hS (ci := 4) (q0 := 0) rfl rfl rfl) rfl rfl hl.1 rfl (lv_room (Nat.le_of_ble_eq_true rfl)) dX4_mendFrom_7 ⟨Nat.le_of_ble_eq_true rfl, Nat.le_of_ble_eq_true rfl⟩)) (fun r_12 σ_11 H locs hP hS hE => ?_)
  exact z_iret hx hb hr hlk hP hS dX4_mendFrom_10 hE
theorem kX4_mendFrom (l : Launch) (E : EN) (hD : ∀ σ, va_D (eA E) (xW E σ)) (x1 : Int32) (σ : ST) (F : Int32 × ST) (hE : fX4_mendFrom x1 σ = some F) : Met l yX4_mendFrom wu_X4_mendFrom r_X4_mendFrom (zPc E xW [.ref (ea E 0), .int x1] σ) (zQi E xW F) 0 0 (eA E) := by
  refine Met.ofW (cc := cX4_mendFrom) (maxL := 5) (ret := (some .int)) (by decide) rfl ?_
  intro p e s m args below meth c s₁ B hml hv
  obtain ⟨rfl, hP, hK⟩ := hv
  have hl := lv_entry ([.ref (ea E 0), .int x1]) (n := 5) (Nat.le_of_ble_eq_true rfl)
  rw [lg_entry_eq]
  generalize (lg_sl ([.ref (ea E 0), .int x1]) ++ List.replicate (5 - (lg_sl ([.ref (ea E 0), .int x1])).length) Slot.unset).toArray = ls at hl ⊢
  exact wX4_mendFrom ⟨B.exec, B.bytes, hml, findClass_of_methodNamed B.named, fun w h => atoms_spec (ws := wu_X4_mendFrom) B.pre w (List.mem_cons_of_mem _ h), B.returns, B.notSynchronized, hK, hD⟩ x1 σ s.heap [] ls hl hP va_S.rf hE
def fX4_walkedFrom  (x1 : Int32) (x2 : Int32) (x3 : Int32) (σ : ST) : Option (Int32 × ST) :=
  cali (fX0_minutesOf x1 x2 0 σ) (fun r_2 σ_1 => bnd (r_2 : Int32) (fun x4_3 => cali (fX0_minutesOf x1 x3 0 σ_1) (fun r_5 σ_4 => bnd (r_5 : Int32) (fun x5_6 => (if x4_3 < 0 then some ((-9), σ_4) else (if 0 ≤ x5_6 then some ((5 * ((2 * x4_3) + (2 * x5_6))), σ_4) else some ((-9), σ_4)))))))
set_option maxHeartbeats 4000000 in
set_option maxRecDepth 100000 in
theorem wX4_walkedFrom {p : Program} {l : Launch} {e : Env} {s : State} {m : MethodId} {args : Array Value} {below : List Frame} {meth : Method} {c : Code} {E : EN} (C : zC E xW p s m args meth c cX4_walkedFrom 6 RX4 (some .int) wsL_law) {F : Int32 × ST}   (x1 : Int32) (x2 : Int32) (x3 : Int32) (σ : ST) (H : Heap) (locs : List Loc) (ls : Array Slot) (hl : lv_has ls 6 [(0, .ref (ea E 0)), (1, .int x1), (2, .int x2), (3, .int x3)]) (hP : va_P (eD E) vwCl (xW E σ) H) (hS : va_S (eA E) s.heap H locs) (hE : fX4_walkedFrom  x1 x2 x3 σ = some F) : zWi E xW p l e r_X4_walkedFrom s m args below meth c F H locs (F0 m 0 ls []) := by
  obtain ⟨hx, hb, hml, hown, hts, hr, hlk, hK, hD⟩ := id C
  have hwX4 : ∀ w ∈ wsX40, w.before args s = true := fun w h => hts w (inlX4 w h)
  unfold fX4_walkedFrom at hE
  refine lv_aload_n hx hb dX4_walkedFrom_0 rfl (lv_at hl 0 rfl) ?_
  refine xg_0_2 hx hb hown hwX4 (hts _ u_19) hK hP dX4_walkedFrom_1 ?_
  refine lv_iload_n hx hb dX4_walkedFrom_4 rfl (lv_at hl 1 rfl) ?_
  refine lv_iload_n hx hb dX4_walkedFrom_5 rfl (lv_at hl 2 rfl) ?_
  refine lv_iconst (v := 0) hx hb dX4_walkedFrom_6 (by decide) ?_
  refine z_goi (wf := xW) hS hE (fun F1 h1 => (va_runV (As := [.int x1, .int x2, .int 0]) (rest := []) ⟨hx, hb, hml, hown, hts⟩ (kX0_minutesOf l E hD x1 x2 0 σ F1 h1) (cwV 3 hts (gU_V u_481 u_482 u_483 u_43 u_484) rfl rfl rfl q_X0_minutesOf ⟨Nat.le_of_ble_eq_true rfl, Nat.le_of_ble_eq_true rfl⟩) (z_preV hK hP hS (ci := 0) (q0 := 2) rfl rfl rfl) rfl rfl hl.1 rfl (lv_room (Nat.le_of_ble_eq_true rfl)) dX4_walkedFrom_7 ⟨Nat.le_of_ble_eq_true rfl, Nat.le_of_ble_eq_true rfl⟩)) (fun r_2 σ_1 H locs hP hS hE => ?_)
  refine z_istore hx hb (fun x4_3 => [(4, .int x4_3), (0, .ref (ea E 0)), (1, .int x1), (2, .int x2), (3, .int x3)]) dX4_walkedFrom_10 hl (by decide) rfl hE (fun x4_3 ls hl hE => ?_)
  refine lv_aload_n hx hb dX4_walkedFrom_12 rfl (lv_at hl 1 rfl) ?_
  refine xg_0_2 hx hb hown hwX4 (hts _ u_19) hK hP dX4_walkedFrom_13 ?_
  refine lv_iload_n hx hb dX4_walkedFrom_16 rfl (lv_at hl 2 rfl) ?_
  refine lv_iload_n hx hb dX4_walkedFrom_17 rfl (lv_at hl 4 rfl) ?_
  refine lv_iconst (v := 0) hx hb dX4_walkedFrom_18 (by decide) ?_
  refine z_goi (wf := xW) hS hE (fun F1 h1 => (va_runV (As := [.int x1, .int x3, .int 0]) (rest := []) ⟨hx, hb, hml, hown, hts⟩ (kX0_minutesOf l E hD x1 x3 0 σ_1 F1 h1) (cwV 3 hts (gU_V u_481 u_482 u_483 u_43 u_484) rfl rfl rfl q_X0_minutesOf ⟨Nat.le_of_ble_eq_true rfl, Nat.le_of_ble_eq_true rfl⟩) (z_preV hK hP hS (ci := 0) (q0 := 2) rfl rfl rfl) rfl rfl hl.1 rfl (lv_room (Nat.le_of_ble_eq_true rfl)) dX4_walkedFrom_19 ⟨Nat.le_of_ble_eq_true rfl, Nat.le_of_ble_eq_true rfl⟩)) (fun r_5 σ_4 H locs hP hS hE => ?_)
  refine z_istore hx hb (fun x5_6 => [(5, .int x5_6), (4, .int x4_3), (0, .ref (ea E 0)), (1, .int x1), (2, .int x2), (3, .int x3)]) dX4_walkedFrom_22 hl (by decide) rfl hE (fun x5_6 ls hl hE => ?_)
  refine lv_iload hx hb dX4_walkedFrom_24 (lv_at hl 1 rfl) ?_
  refine z_if_lt (tgt := 34) hx hb dX4_walkedFrom_26 (by decide) hE (fun hE => ?_) (fun hE => ?_)
  · refine lv_bipush (v := -9) hx hb dX4_walkedFrom_34 (by decide) ?_
    exact z_iret hx hb hr hlk hP hS dX4_walkedFrom_36 hE
  refine lv_iload hx hb dX4_walkedFrom_29 (lv_at hl 0 rfl) ?_
  refine z_if_ge (tgt := 37) hx hb dX4_walkedFrom_31 (by decide) hE (fun hE => ?_) (fun hE => ?_)
  · refine lv_iconst (v := 5) hx hb dX4_walkedFrom_37 (by decide) ?_
    refine lv_iconst (v := 2) hx hb dX4_walkedFrom_38 (by decide) ?_
    refine lv_iload hx hb dX4_walkedFrom_39 (lv_at hl 1 rfl) ?_
    refine lv_imul hx hb dX4_walkedFrom_41 ?_
    refine lv_iconst (v := 2) hx hb dX4_walkedFrom_42 (by decide) ?_
    refine lv_iload hx hb dX4_walkedFrom_43 (lv_at hl 0 rfl) ?_
    refine lv_imul hx hb dX4_walkedFrom_45 ?_
    refine lv_iadd hx hb dX4_walkedFrom_46 ?_
    refine lv_imul hx hb dX4_walkedFrom_47 ?_
    exact z_iret hx hb hr hlk hP hS dX4_walkedFrom_48 hE
  refine lv_bipush (v := -9) hx hb dX4_walkedFrom_34 (by decide) ?_
  exact z_iret hx hb hr hlk hP hS dX4_walkedFrom_36 hE
theorem kX4_walkedFrom (l : Launch) (E : EN) (hD : ∀ σ, va_D (eA E) (xW E σ)) (x1 : Int32) (x2 : Int32) (x3 : Int32) (σ : ST) (F : Int32 × ST) (hE : fX4_walkedFrom x1 x2 x3 σ = some F) : Met l yX4_walkedFrom wu_X4_walkedFrom r_X4_walkedFrom (zPc E xW [.ref (ea E 0), .int x1, .int x2, .int x3] σ) (zQi E xW F) 0 0 (eA E) := by
  refine Met.ofW (cc := cX4_walkedFrom) (maxL := 6) (ret := (some .int)) (by decide) rfl ?_
  intro p e s m args below meth c s₁ B hml hv
  obtain ⟨rfl, hP, hK⟩ := hv
  have hl := lv_entry ([.ref (ea E 0), .int x1, .int x2, .int x3]) (n := 6) (Nat.le_of_ble_eq_true rfl)
  rw [lg_entry_eq]
  generalize (lg_sl ([.ref (ea E 0), .int x1, .int x2, .int x3]) ++ List.replicate (6 - (lg_sl ([.ref (ea E 0), .int x1, .int x2, .int x3])).length) Slot.unset).toArray = ls at hl ⊢
  exact wX4_walkedFrom ⟨B.exec, B.bytes, hml, findClass_of_methodNamed B.named, fun w h => atoms_spec (ws := wu_X4_walkedFrom) B.pre w (List.mem_cons_of_mem _ h), B.returns, B.notSynchronized, hK, hD⟩ x1 x2 x3 σ s.heap [] ls hl hP va_S.rf hE
