def fX5_push_L26 (ke : Int32 → ST → Option (Int32 × ST)) : Nat → Int32 → Int64 → Int32 → ST → Option (Int32 × ST)
  | 0, _, _, _, _ => none
  | n + 1, x1, x2, x4, σ => ald (gA σ 1) 200 0 (fun v_8 => (if v_8 ≤ x4 then ke x1 σ else ald (gA σ 1) 200 ((10 + (3 * x4)) + 2) (fun v_9 => (if 3 ≤ v_9 then bnd (x4 + 1) (fun x4_10 => fX5_push_L26 ke n x1 x2 x4_10 σ) else bnd (sI σ 7 x4) (fun σ_11 => call (fX5_worthOfRow 3 σ_11) (fun r_13 σ_12 => bnd (r_13 : Int64) (fun x5_14 => (if (lg_cmp x5_14 x2) ≤ 0 then bnd (x1 : Int32) (fun x1_15 => bnd ((jmaxl x2 x5_14) : Int64) (fun x2_16 => bnd (x4 + 1) (fun x4_17 => fX5_push_L26 ke n x1_15 x2_16 x4_17 σ_12))) else bnd (x4 : Int32) (fun x1_18 => bnd ((jmaxl x2 x5_14) : Int64) (fun x2_19 => bnd (x4 + 1) (fun x4_20 => fX5_push_L26 ke n x1_18 x2_19 x4_20 σ_12)))))))))))
set_option maxHeartbeats 4000000 in
set_option maxRecDepth 100000 in
theorem wX5_push_L26 {p : Program} {l : Launch} {e : Env} {s : State} {m : MethodId} {args : Array Value} {below : List Frame} {meth : Method} {c : Code} {E : EN} (C : zC E mW p s m args meth c cX5_push 7 RX5 (some .int) wsX5_push) {F : Int32 × ST} {ke : Int32 → ST → Option (Int32 × ST)} (hke : ∀ (x1 : Int32) (σ : ST) (H : Heap) (locs : List Loc) (ls : Array Slot), lv_has ls 7 [(0, .ref (ea E 0)), (1, .int x1)] → va_P (eD E) vwCl (mW E σ) H → va_S (eA E) s.heap H locs → ke x1 σ = some F → zWi E mW p l e r_X5_push s m args below meth c F H locs (F0 m 95 ls [])) : ∀ (n : Nat) (x1 : Int32) (x2 : Int64) (x4 : Int32) (σ : ST) (H : Heap) (locs : List Loc) (ls : Array Slot), lv_has ls 7 [(0, .ref (ea E 0)), (1, .int x1), (2, .long x2), (4, .int x4)] → va_P (eD E) vwCl (mW E σ) H → va_S (eA E) s.heap H locs → fX5_push_L26 ke n x1 x2 x4 σ = some F → zWi E mW p l e r_X5_push s m args below meth c F H locs (F0 m 26 ls []) := by
  obtain ⟨hx, hb, hml, hown, hts, hr, hlk, hK, hD⟩ := id C
  have hwX5 : ∀ w ∈ wsX50, w.before args s = true := fun w h => hts w (List.mem_cons_of_mem _ (List.mem_append_right _ h))
  intro n
  induction n with
  | zero => intro x1 x2 x4 σ H locs ls hl hP hS hE; rw [fX5_push_L26] at hE; cases hE
  | succ n ih =>
    intro x1 x2 x4 σ H locs ls hl hP hS hE
    rw [fX5_push_L26] at hE
    refine lv_iload hx hb dX5_push_26 (lv_at hl 3 rfl) ?_
    refine lv_aload_n hx hb dX5_push_28 rfl (lv_at hl 0 rfl) ?_
    refine mg_0_1 hx hb hown hwX5 (hts _ (List.mem_of_getElem? (i := 1) rfl)) hK hP dX5_push_29 ?_
    refine lv_iconst (v := 0) hx hb dX5_push_32 (by decide) ?_
    refine ma_2 hx hb hK hP dX5_push_33 hE (fun v_8 hE => ?_)
    refine z_icmp_ge (tgt := 95) hx hb dX5_push_34 (by decide) hE (fun hE => ?_) (fun hE => ?_)
    · exact hke x1 σ _ _ _ (lv_sub hl [0, 1] rfl) hP hS hE
    refine lv_aload_n hx hb dX5_push_37 rfl (lv_at hl 0 rfl) ?_
    refine mg_0_1 hx hb hown hwX5 (hts _ (List.mem_of_getElem? (i := 1) rfl)) hK hP dX5_push_38 ?_
    refine lv_bipush (v := 10) hx hb dX5_push_41 (by decide) ?_
    refine lv_iconst (v := 3) hx hb dX5_push_43 (by decide) ?_
    refine lv_iload hx hb dX5_push_44 (lv_at hl 3 rfl) ?_
    refine lv_imul hx hb dX5_push_46 ?_
    refine lv_iadd hx hb dX5_push_47 ?_
    refine lv_iconst (v := 2) hx hb dX5_push_48 (by decide) ?_
    refine lv_iadd hx hb dX5_push_49 ?_
    refine ma_2 hx hb hK hP dX5_push_50 hE (fun v_9 hE => ?_)
    refine lv_iconst (v := 3) hx hb dX5_push_51 (by decide) ?_
    refine z_icmp_ge (tgt := 89) hx hb dX5_push_52 (by decide) hE (fun hE => ?_) (fun hE => ?_)
    · refine z_iinc hx hb (v := (x4 + 1)) (k := 3) (fun x4_10 => [(4, .int x4_10), (0, .ref (ea E 0)), (1, .int x1), (2, .long x2)]) dX5_push_89 hl rfl (by rfl) (by decide) rfl hE (fun x4_10 ls hl hE => ?_)
      refine lv_goto (tgt := 26) hx hb dX5_push_92 (by decide) ?_
      exact ih x1 x2 x4_10 σ _ _ _ (lv_sub hl [1, 2, 3, 0] rfl) hP hS hE
    refine lv_aload_n hx hb dX5_push_55 rfl (lv_at hl 0 rfl) ?_
    refine lv_iload hx hb dX5_push_56 (lv_at hl 3 rfl) ?_
    refine mp_0_15 hx hb hown hwX5 (hts _ (List.mem_of_getElem? (i := 2) rfl)) hK hD hP hS dX5_push_58 hE (fun σ_11 H locs hP hS hE => ?_)
    refine lv_aload_n hx hb dX5_push_61 rfl (lv_at hl 0 rfl) ?_
    refine lv_iconst (v := 3) hx hb dX5_push_62 (by decide) ?_
    refine z_gol (wf := mW) hS hE (fun F1 h1 => (va_runV (As := [.int 3]) (rest := []) ⟨hx, hb, hml, hown, hts⟩ (kX5_worthOfRow l E hD 3 σ_11 F1 h1) (cwV 1 hts gX5_push_X5_worthOfRow rfl rfl rfl q_X5_worthOfRow ⟨Nat.le_of_ble_eq_true rfl, Nat.le_of_ble_eq_true rfl⟩) (z_preV hK hP hS (ci := 5) (q0 := 0) rfl rfl rfl) rfl rfl hl.1 rfl (lv_room (Nat.le_of_ble_eq_true rfl)) dX5_push_63 ⟨Nat.le_of_ble_eq_true rfl, Nat.le_of_ble_eq_true rfl⟩)) (fun r_13 σ_12 H locs hP hS hE => ?_)
    refine z_lstore hx hb (fun x5_14 => [(5, .long x5_14), (0, .ref (ea E 0)), (1, .int x1), (2, .long x2), (4, .int x4)]) dX5_push_66 hl (by decide) rfl hE (fun x5_14 ls hl hE => ?_)
    refine lv_lload hx hb dX5_push_68 (lv_at hl 0 rfl) ?_
    refine lv_lload_n hx hb dX5_push_70 rfl (lv_at hl 3 rfl) ?_
    refine W.lcmp hx hb dX5_push_71 ?_
    refine z_if_le (tgt := 80) hx hb dX5_push_72 (by decide) hE (fun hE => ?_) (fun hE => ?_)
    · refine lv_iload_n hx hb dX5_push_80 rfl (lv_at hl 2 rfl) ?_
      refine z_istore_n hx hb (fun x1_15 => [(1, .int x1_15), (5, .long x5_14), (0, .ref (ea E 0)), (2, .long x2), (4, .int x4)]) dX5_push_81 rfl hl (by decide) rfl hE (fun x1_15 ls hl hE => ?_)
      refine lv_lload_n hx hb dX5_push_82 rfl (lv_at hl 3 rfl) ?_
      refine lv_lload hx hb dX5_push_83 (lv_at hl 1 rfl) ?_
      refine va_mmax_long hx hb (hml.trans hl.1.symm) hown (hts _ (List.mem_of_getElem? (i := 3) rfl)) (hts _ (List.mem_of_getElem? (i := 4) rfl)) (hts _ (List.mem_of_getElem? (i := 5) rfl)) (hts _ (List.mem_of_getElem? (i := 6) rfl)) (Nat.le_of_ble_eq_true rfl) (Nat.le_of_ble_eq_true rfl) (Nat.zero_le _) (Nat.zero_le _) dX5_push_85 ?_
      refine W.eq (g2 := F0 m 88 ls [.long (jmaxl x2 x5_14)]) rfl ?_
      refine z_lstore_n hx hb (fun x2_16 => [(2, .long x2_16), (1, .int x1_15), (5, .long x5_14), (0, .ref (ea E 0)), (4, .int x4)]) dX5_push_88 rfl hl (by decide) rfl hE (fun x2_16 ls hl hE => ?_)
      refine z_iinc hx hb (v := (x4 + 1)) (k := 4) (fun x4_17 => [(4, .int x4_17), (2, .long x2_16), (1, .int x1_15), (5, .long x5_14), (0, .ref (ea E 0))]) dX5_push_89 hl rfl (by rfl) (by decide) rfl hE (fun x4_17 ls hl hE => ?_)
      refine lv_goto (tgt := 26) hx hb dX5_push_92 (by decide) ?_
      exact ih x1_15 x2_16 x4_17 σ_12 _ _ _ (lv_sub hl [4, 2, 1, 0] rfl) hP hS hE
    refine lv_iload hx hb dX5_push_75 (lv_at hl 4 rfl) ?_
    refine lv_goto (tgt := 81) hx hb dX5_push_77 (by decide) ?_
    refine z_istore_n hx hb (fun x1_18 => [(1, .int x1_18), (5, .long x5_14), (0, .ref (ea E 0)), (2, .long x2), (4, .int x4)]) dX5_push_81 rfl hl (by decide) rfl hE (fun x1_18 ls hl hE => ?_)
    refine lv_lload_n hx hb dX5_push_82 rfl (lv_at hl 3 rfl) ?_
    refine lv_lload hx hb dX5_push_83 (lv_at hl 1 rfl) ?_
    refine va_mmax_long hx hb (hml.trans hl.1.symm) hown (hts _ (List.mem_of_getElem? (i := 3) rfl)) (hts _ (List.mem_of_getElem? (i := 4) rfl)) (hts _ (List.mem_of_getElem? (i := 5) rfl)) (hts _ (List.mem_of_getElem? (i := 6) rfl)) (Nat.le_of_ble_eq_true rfl) (Nat.le_of_ble_eq_true rfl) (Nat.zero_le _) (Nat.zero_le _) dX5_push_85 ?_
    refine W.eq (g2 := F0 m 88 ls [.long (jmaxl x2 x5_14)]) rfl ?_
    refine z_lstore_n hx hb (fun x2_19 => [(2, .long x2_19), (1, .int x1_18), (5, .long x5_14), (0, .ref (ea E 0)), (4, .int x4)]) dX5_push_88 rfl hl (by decide) rfl hE (fun x2_19 ls hl hE => ?_)
    refine z_iinc hx hb (v := (x4 + 1)) (k := 4) (fun x4_20 => [(4, .int x4_20), (2, .long x2_19), (1, .int x1_18), (5, .long x5_14), (0, .ref (ea E 0))]) dX5_push_89 hl rfl (by rfl) (by decide) rfl hE (fun x4_20 ls hl hE => ?_)
    refine lv_goto (tgt := 26) hx hb dX5_push_92 (by decide) ?_
    exact ih x1_18 x2_19 x4_20 σ_12 _ _ _ (lv_sub hl [4, 2, 1, 0] rfl) hP hS hE
def fX5_push   (σ : ST) : Option (Int32 × ST) :=
  cali (fX5_isNoTown σ) (fun r_2 σ_1 => (if r_2 = 0 then bnd ((-9) : Int32) (fun x1_3 => call (fX5_worthOfRow 3 σ_1) (fun r_5 σ_4 => bnd (r_5 : Int64) (fun x2_6 => bnd (0 : Int32) (fun x4_7 => fX5_push_L26 (fun x1_21 σ_22 => bnd (sI σ_22 7 (-9)) (fun σ_23 => some (x1_21, σ_23))) FU x1_3 x2_6 x4_7 σ_4)))) else cali (fX5_no (-3) σ_1) (fun r_25 σ_24 => some (r_25, σ_24))))
set_option maxHeartbeats 4000000 in
set_option maxRecDepth 100000 in
theorem wX5_push {p : Program} {l : Launch} {e : Env} {s : State} {m : MethodId} {args : Array Value} {below : List Frame} {meth : Method} {c : Code} {E : EN} (C : zC E mW p s m args meth c cX5_push 7 RX5 (some .int) wsX5_push) {F : Int32 × ST}    (σ : ST) (H : Heap) (locs : List Loc) (ls : Array Slot) (hl : lv_has ls 7 [(0, .ref (ea E 0))]) (hP : va_P (eD E) vwCl (mW E σ) H) (hS : va_S (eA E) s.heap H locs) (hE : fX5_push   σ = some F) : zWi E mW p l e r_X5_push s m args below meth c F H locs (F0 m 0 ls []) := by
  obtain ⟨hx, hb, hml, hown, hts, hr, hlk, hK, hD⟩ := id C
  have hwX5 : ∀ w ∈ wsX50, w.before args s = true := fun w h => hts w (List.mem_cons_of_mem _ (List.mem_append_right _ h))
  unfold fX5_push at hE
  refine lv_aload_n hx hb dX5_push_0 rfl (lv_at hl 0 rfl) ?_
  refine z_goi (wf := mW) hS hE (fun F1 h1 => (va_runV (As := []) (rest := []) ⟨hx, hb, hml, hown, hts⟩ (kX5_isNoTown l E hD  σ F1 h1) (cwV 0 hts gX5_push_X5_isNoTown rfl rfl rfl q_X5_isNoTown ⟨Nat.le_of_ble_eq_true rfl, Nat.le_of_ble_eq_true rfl⟩) (z_preV hK hP hS (ci := 5) (q0 := 0) rfl rfl rfl) rfl rfl hl.1 rfl (lv_room (Nat.le_of_ble_eq_true rfl)) dX5_push_1 ⟨Nat.le_of_ble_eq_true rfl, Nat.le_of_ble_eq_true rfl⟩)) (fun r_2 σ_1 H locs hP hS hE => ?_)
  refine z_if_eq (tgt := 14) hx hb dX5_push_4 (by decide) hE (fun hE => ?_) (fun hE => ?_)
  · refine lv_bipush (v := -9) hx hb dX5_push_14 (by decide) ?_
    refine z_istore_n hx hb (fun x1_3 => [(1, .int x1_3), (0, .ref (ea E 0))]) dX5_push_16 rfl hl (by decide) rfl hE (fun x1_3 ls hl hE => ?_)
    refine lv_aload_n hx hb dX5_push_17 rfl (lv_at hl 1 rfl) ?_
    refine lv_iconst (v := 3) hx hb dX5_push_18 (by decide) ?_
    refine z_gol (wf := mW) hS hE (fun F1 h1 => (va_runV (As := [.int 3]) (rest := []) ⟨hx, hb, hml, hown, hts⟩ (kX5_worthOfRow l E hD 3 σ_1 F1 h1) (cwV 1 hts gX5_push_X5_worthOfRow rfl rfl rfl q_X5_worthOfRow ⟨Nat.le_of_ble_eq_true rfl, Nat.le_of_ble_eq_true rfl⟩) (z_preV hK hP hS (ci := 5) (q0 := 0) rfl rfl rfl) rfl rfl hl.1 rfl (lv_room (Nat.le_of_ble_eq_true rfl)) dX5_push_19 ⟨Nat.le_of_ble_eq_true rfl, Nat.le_of_ble_eq_true rfl⟩)) (fun r_5 σ_4 H locs hP hS hE => ?_)
    refine z_lstore_n hx hb (fun x2_6 => [(2, .long x2_6), (1, .int x1_3), (0, .ref (ea E 0))]) dX5_push_22 rfl hl (by decide) rfl hE (fun x2_6 ls hl hE => ?_)
    refine lv_iconst (v := 0) hx hb dX5_push_23 (by decide) ?_
    refine z_istore hx hb (fun x4_7 => [(4, .int x4_7), (2, .long x2_6), (1, .int x1_3), (0, .ref (ea E 0))]) dX5_push_24 hl (by decide) rfl hE (fun x4_7 ls hl hE => ?_)
    refine wX5_push_L26 C ?_ FU x1_3 x2_6 x4_7 σ_4 _ _ _ (lv_sub hl [3, 2, 1, 0] rfl) hP hS hE
    intro x1_21 σ_22 H locs ls hl hP hS hE
    refine lv_aload_n hx hb dX5_push_95 rfl (lv_at hl 0 rfl) ?_
    refine lv_bipush (v := -9) hx hb dX5_push_96 (by decide) ?_
    refine mp_0_15 hx hb hown hwX5 (hts _ (List.mem_of_getElem? (i := 2) rfl)) hK hD hP hS dX5_push_98 hE (fun σ_23 H locs hP hS hE => ?_)
    refine lv_iload_n hx hb dX5_push_101 rfl (lv_at hl 1 rfl) ?_
    exact z_iret hx hb hr hlk hP hS dX5_push_102 hE
  refine lv_aload_n hx hb dX5_push_7 rfl (lv_at hl 0 rfl) ?_
  refine lv_bipush (v := -3) hx hb dX5_push_8 (by decide) ?_
  refine z_goi (wf := mW) hS hE (fun F1 h1 => (va_runV (As := [.int (-3)]) (rest := []) ⟨hx, hb, hml, hown, hts⟩ (kX5_no l E hD (-3) σ_1 F1 h1) (cwV 1 hts gX5_push_X5_no rfl rfl rfl q_X5_no ⟨Nat.le_of_ble_eq_true rfl, Nat.le_of_ble_eq_true rfl⟩) (z_preV hK hP hS (ci := 5) (q0 := 0) rfl rfl rfl) rfl rfl hl.1 rfl (lv_room (Nat.le_of_ble_eq_true rfl)) dX5_push_10 ⟨Nat.le_of_ble_eq_true rfl, Nat.le_of_ble_eq_true rfl⟩)) (fun r_25 σ_24 H locs hP hS hE => ?_)
  exact z_iret hx hb hr hlk hP hS dX5_push_13 hE
theorem kX5_push (l : Launch) (E : EN) (hD : ∀ σ, va_D (eA E) (mW E σ))  (σ : ST) (F : Int32 × ST) (hE : fX5_push  σ = some F) : Met l yX5_push wsX5_push r_X5_push (zPc E mW [.ref (ea E 0)] σ) (zQi E mW F) 0 0 (eA E) := by
  refine Met.ofW (cc := cX5_push) (maxL := 7) (ret := (some .int)) (by decide) rfl ?_
  intro p e s m args below meth c s₁ B hml hv
  obtain ⟨rfl, hP, hK⟩ := hv
  have hl := lv_entry ([.ref (ea E 0)]) (n := 7) (Nat.le_of_ble_eq_true rfl)
  rw [lg_entry_eq]
  generalize (lg_sl ([.ref (ea E 0)]) ++ List.replicate (7 - (lg_sl ([.ref (ea E 0)])).length) Slot.unset).toArray = ls at hl ⊢
  exact wX5_push ⟨B.exec, B.bytes, hml, findClass_of_methodNamed B.named, atoms_spec (ws := wsX5_push) B.pre, B.returns, B.notSynchronized, hK, hD⟩  σ s.heap [] ls hl hP va_S.rf hE
def fX5_hill  (x1 : Int32) (σ : ST) : Option (Int64 × ST) :=
  cali (fX5_isNoPart x1 σ) (fun r_2 σ_1 => (if r_2 = 0 then cali (fX5_isNoTown σ_1) (fun r_4 σ_3 => (if r_4 = 0 then ald (gA σ_3 1) 200 5 (fun v_5 => call (fX5_worthOfRow v_5 σ_3) (fun r_7 σ_6 => bnd (r_7 : Int64) (fun x2_8 => bnd (sI σ_6 6 1) (fun σ_9 => ald (gA σ_9 1) 200 5 (fun v_10 => call (fX5_worthOfRow v_10 σ_9) (fun r_12 σ_11 => bnd (r_12 : Int64) (fun x4_13 => bnd (sI σ_11 6 0) (fun σ_14 => call (fX5_part (x4_13 - x2_8) x1 σ_14) (fun r_16 σ_15 => some (r_16, σ_15)))))))))) else call (fX5_noLong (-3) σ_3) (fun r_18 σ_17 => some (r_18, σ_17)))) else call (fX5_noLong (-2) σ_1) (fun r_20 σ_19 => some (r_20, σ_19))))
set_option maxHeartbeats 4000000 in
set_option maxRecDepth 100000 in
theorem wX5_hill {p : Program} {l : Launch} {e : Env} {s : State} {m : MethodId} {args : Array Value} {below : List Frame} {meth : Method} {c : Code} {E : EN} (C : zC E mW p s m args meth c cX5_hill 6 RX5 (some .long) wsX5_hill) {F : Int64 × ST}   (x1 : Int32) (σ : ST) (H : Heap) (locs : List Loc) (ls : Array Slot) (hl : lv_has ls 6 [(0, .ref (ea E 0)), (1, .int x1)]) (hP : va_P (eD E) vwCl (mW E σ) H) (hS : va_S (eA E) s.heap H locs) (hE : fX5_hill  x1 σ = some F) : zWl E mW p l e r_X5_hill s m args below meth c F H locs (F0 m 0 ls []) := by
  obtain ⟨hx, hb, hml, hown, hts, hr, hlk, hK, hD⟩ := id C
  have hwX5 : ∀ w ∈ wsX50, w.before args s = true := fun w h => hts w (List.mem_cons_of_mem _ (List.mem_append_right _ h))
  unfold fX5_hill at hE
  refine lv_iload_n hx hb dX5_hill_0 rfl (lv_at hl 1 rfl) ?_
  refine z_goi (wf := mW) hS hE (fun F1 h1 => (va_runS (As := [.int x1]) (rest := []) ⟨hx, hb, hml, hown, hts⟩ (kX5_isNoPart l E hD x1 σ F1 h1) (va_cwS 1 hts gX5_hill_X5_isNoPart rfl rfl rfl q_X5_isNoPart ⟨Nat.le_of_ble_eq_true rfl, Nat.le_of_ble_eq_true rfl⟩) (z_preS hK hP hS) rfl rfl hl.1 rfl (lv_room (Nat.le_of_ble_eq_true rfl)) dX5_hill_1 ⟨Nat.le_of_ble_eq_true rfl, Nat.le_of_ble_eq_true rfl⟩)) (fun r_2 σ_1 H locs hP hS hE => ?_)
  refine z_if_eq (tgt := 14) hx hb dX5_hill_4 (by decide) hE (fun hE => ?_) (fun hE => ?_)
  · refine lv_aload_n hx hb dX5_hill_14 rfl (lv_at hl 0 rfl) ?_
    refine z_goi (wf := mW) hS hE (fun F1 h1 => (va_runV (As := []) (rest := []) ⟨hx, hb, hml, hown, hts⟩ (kX5_isNoTown l E hD  σ_1 F1 h1) (cwV 0 hts gX5_hill_X5_isNoTown rfl rfl rfl q_X5_isNoTown ⟨Nat.le_of_ble_eq_true rfl, Nat.le_of_ble_eq_true rfl⟩) (z_preV hK hP hS (ci := 5) (q0 := 0) rfl rfl rfl) rfl rfl hl.1 rfl (lv_room (Nat.le_of_ble_eq_true rfl)) dX5_hill_15 ⟨Nat.le_of_ble_eq_true rfl, Nat.le_of_ble_eq_true rfl⟩)) (fun r_4 σ_3 H locs hP hS hE => ?_)
    refine z_if_eq (tgt := 28) hx hb dX5_hill_18 (by decide) hE (fun hE => ?_) (fun hE => ?_)
    · refine lv_aload_n hx hb dX5_hill_28 rfl (lv_at hl 0 rfl) ?_
      refine lv_aload_n hx hb dX5_hill_29 rfl (lv_at hl 0 rfl) ?_
      refine mg_0_1 hx hb hown hwX5 (hts _ (List.mem_of_getElem? (i := 1) rfl)) hK hP dX5_hill_30 ?_
      refine lv_iconst (v := 5) hx hb dX5_hill_33 (by decide) ?_
      refine ma_2 hx hb hK hP dX5_hill_34 hE (fun v_5 hE => ?_)
      refine z_gol (wf := mW) hS hE (fun F1 h1 => (va_runV (As := [.int v_5]) (rest := []) ⟨hx, hb, hml, hown, hts⟩ (kX5_worthOfRow l E hD v_5 σ_3 F1 h1) (cwV 1 hts gX5_hill_X5_worthOfRow rfl rfl rfl q_X5_worthOfRow ⟨Nat.le_of_ble_eq_true rfl, Nat.le_of_ble_eq_true rfl⟩) (z_preV hK hP hS (ci := 5) (q0 := 0) rfl rfl rfl) rfl rfl hl.1 rfl (lv_room (Nat.le_of_ble_eq_true rfl)) dX5_hill_35 ⟨Nat.le_of_ble_eq_true rfl, Nat.le_of_ble_eq_true rfl⟩)) (fun r_7 σ_6 H locs hP hS hE => ?_)
      refine z_lstore_n hx hb (fun x2_8 => [(2, .long x2_8), (0, .ref (ea E 0)), (1, .int x1)]) dX5_hill_38 rfl hl (by decide) rfl hE (fun x2_8 ls hl hE => ?_)
      refine lv_aload_n hx hb dX5_hill_39 rfl (lv_at hl 1 rfl) ?_
      refine lv_iconst (v := 1) hx hb dX5_hill_40 (by decide) ?_
      refine mp_0_14 hx hb hown hwX5 (hts _ (List.mem_of_getElem? (i := 2) rfl)) hK hD hP hS rfl dX5_hill_41 hE (fun σ_9 H locs hP hS hE => ?_)
      refine lv_aload_n hx hb dX5_hill_44 rfl (lv_at hl 1 rfl) ?_
      refine lv_aload_n hx hb dX5_hill_45 rfl (lv_at hl 1 rfl) ?_
      refine mg_0_1 hx hb hown hwX5 (hts _ (List.mem_of_getElem? (i := 1) rfl)) hK hP dX5_hill_46 ?_
      refine lv_iconst (v := 5) hx hb dX5_hill_49 (by decide) ?_
      refine ma_2 hx hb hK hP dX5_hill_50 hE (fun v_10 hE => ?_)
      refine z_gol (wf := mW) hS hE (fun F1 h1 => (va_runV (As := [.int v_10]) (rest := []) ⟨hx, hb, hml, hown, hts⟩ (kX5_worthOfRow l E hD v_10 σ_9 F1 h1) (cwV 1 hts gX5_hill_X5_worthOfRow rfl rfl rfl q_X5_worthOfRow ⟨Nat.le_of_ble_eq_true rfl, Nat.le_of_ble_eq_true rfl⟩) (z_preV hK hP hS (ci := 5) (q0 := 0) rfl rfl rfl) rfl rfl hl.1 rfl (lv_room (Nat.le_of_ble_eq_true rfl)) dX5_hill_51 ⟨Nat.le_of_ble_eq_true rfl, Nat.le_of_ble_eq_true rfl⟩)) (fun r_12 σ_11 H locs hP hS hE => ?_)
      refine z_lstore hx hb (fun x4_13 => [(4, .long x4_13), (2, .long x2_8), (0, .ref (ea E 0)), (1, .int x1)]) dX5_hill_54 hl (by decide) rfl hE (fun x4_13 ls hl hE => ?_)
      refine lv_aload_n hx hb dX5_hill_56 rfl (lv_at hl 2 rfl) ?_
      refine lv_iconst (v := 0) hx hb dX5_hill_57 (by decide) ?_
      refine mp_0_14 hx hb hown hwX5 (hts _ (List.mem_of_getElem? (i := 2) rfl)) hK hD hP hS rfl dX5_hill_58 hE (fun σ_14 H locs hP hS hE => ?_)
      refine lv_lload hx hb dX5_hill_61 (lv_at hl 0 rfl) ?_
      refine lv_lload_n hx hb dX5_hill_63 rfl (lv_at hl 1 rfl) ?_
      refine lv_lsub hx hb dX5_hill_64 ?_
      refine lv_iload_n hx hb dX5_hill_65 rfl (lv_at hl 3 rfl) ?_
      refine z_gol (wf := mW) hS hE (fun F1 h1 => (va_runS (As := [.long (x4_13 - x2_8), .int x1]) (rest := []) ⟨hx, hb, hml, hown, hts⟩ (kX5_part l E hD (x4_13 - x2_8) x1 σ_14 F1 h1) (va_cwS 2 hts gX5_hill_X5_part rfl rfl rfl q_X5_part ⟨Nat.le_of_ble_eq_true rfl, Nat.le_of_ble_eq_true rfl⟩) (z_preS hK hP hS) rfl rfl hl.1 rfl (lv_room (Nat.le_of_ble_eq_true rfl)) dX5_hill_66 ⟨Nat.le_of_ble_eq_true rfl, Nat.le_of_ble_eq_true rfl⟩)) (fun r_16 σ_15 H locs hP hS hE => ?_)
      exact z_lret hx hb hr hlk hP hS dX5_hill_69 hE
    refine lv_aload_n hx hb dX5_hill_21 rfl (lv_at hl 0 rfl) ?_
    refine lv_bipush (v := -3) hx hb dX5_hill_22 (by decide) ?_
    refine z_gol (wf := mW) hS hE (fun F1 h1 => (va_runV (As := [.int (-3)]) (rest := []) ⟨hx, hb, hml, hown, hts⟩ (kX5_noLong l E hD (-3) σ_3 F1 h1) (cwV 1 hts gX5_hill_X5_noLong rfl rfl rfl q_X5_noLong ⟨Nat.le_of_ble_eq_true rfl, Nat.le_of_ble_eq_true rfl⟩) (z_preV hK hP hS (ci := 5) (q0 := 0) rfl rfl rfl) rfl rfl hl.1 rfl (lv_room (Nat.le_of_ble_eq_true rfl)) dX5_hill_24 ⟨Nat.le_of_ble_eq_true rfl, Nat.le_of_ble_eq_true rfl⟩)) (fun r_18 σ_17 H locs hP hS hE => ?_)
    exact z_lret hx hb hr hlk hP hS dX5_hill_27 hE
  refine lv_aload_n hx hb dX5_hill_7 rfl (lv_at hl 0 rfl) ?_
  refine lv_bipush (v := -2) hx hb dX5_hill_8 (by decide) ?_
  refine z_gol (wf := mW) hS hE (fun F1 h1 => (va_runV (As := [.int (-2)]) (rest := []) ⟨hx, hb, hml, hown, hts⟩ (kX5_noLong l E hD (-2) σ_1 F1 h1) (cwV 1 hts gX5_hill_X5_noLong rfl rfl rfl q_X5_noLong ⟨Nat.le_of_ble_eq_true rfl, Nat.le_of_ble_eq_true rfl⟩) (z_preV hK hP hS (ci := 5) (q0 := 0) rfl rfl rfl) rfl rfl hl.1 rfl (lv_room (Nat.le_of_ble_eq_true rfl)) dX5_hill_10 ⟨Nat.le_of_ble_eq_true rfl, Nat.le_of_ble_eq_true rfl⟩)) (fun r_20 σ_19 H locs hP hS hE => ?_)
  exact z_lret hx hb hr hlk hP hS dX5_hill_13 hE
theorem kX5_hill (l : Launch) (E : EN) (hD : ∀ σ, va_D (eA E) (mW E σ)) (x1 : Int32) (σ : ST) (F : Int64 × ST) (hE : fX5_hill x1 σ = some F) : Met l yX5_hill wsX5_hill r_X5_hill (zPc E mW [.ref (ea E 0), .int x1] σ) (zQl E mW F) 0 0 (eA E) := by
  refine Met.ofW (cc := cX5_hill) (maxL := 6) (ret := (some .long)) (by decide) rfl ?_
  intro p e s m args below meth c s₁ B hml hv
  obtain ⟨rfl, hP, hK⟩ := hv
  have hl := lv_entry ([.ref (ea E 0), .int x1]) (n := 6) (Nat.le_of_ble_eq_true rfl)
  rw [lg_entry_eq]
  generalize (lg_sl ([.ref (ea E 0), .int x1]) ++ List.replicate (6 - (lg_sl ([.ref (ea E 0), .int x1])).length) Slot.unset).toArray = ls at hl ⊢
  exact wX5_hill ⟨B.exec, B.bytes, hml, findClass_of_methodNamed B.named, atoms_spec (ws := wsX5_hill) B.pre, B.returns, B.notSynchronized, hK, hD⟩ x1 σ s.heap [] ls hl hP va_S.rf hE
def fX5_mended   (σ : ST) : Option (Int64 × ST) :=
  ald (gA σ 1) 200 5 (fun v_1 => call (fX5_worthOfRow v_1 σ) (fun r_3 σ_2 => bnd (r_3 : Int64) (fun x1_4 => bnd (sI σ_2 5 1) (fun σ_5 => ald (gA σ_5 1) 200 5 (fun v_6 => call (fX5_worthOfRow v_6 σ_5) (fun r_8 σ_7 => bnd (r_8 : Int64) (fun x3_9 => bnd (sI σ_7 5 0) (fun σ_10 => some ((x3_9 - x1_4), σ_10)))))))))
set_option maxHeartbeats 4000000 in
set_option maxRecDepth 100000 in
theorem wX5_mended {p : Program} {l : Launch} {e : Env} {s : State} {m : MethodId} {args : Array Value} {below : List Frame} {meth : Method} {c : Code} {E : EN} (C : zC E mW p s m args meth c cX5_mended 5 RX5 (some .long) wsX5_mended) {F : Int64 × ST}    (σ : ST) (H : Heap) (locs : List Loc) (ls : Array Slot) (hl : lv_has ls 5 [(0, .ref (ea E 0))]) (hP : va_P (eD E) vwCl (mW E σ) H) (hS : va_S (eA E) s.heap H locs) (hE : fX5_mended   σ = some F) : zWl E mW p l e r_X5_mended s m args below meth c F H locs (F0 m 0 ls []) := by
  obtain ⟨hx, hb, hml, hown, hts, hr, hlk, hK, hD⟩ := id C
  have hwX5 : ∀ w ∈ wsX50, w.before args s = true := fun w h => hts w (List.mem_cons_of_mem _ (List.mem_append_right _ h))
  unfold fX5_mended at hE
  refine lv_aload_n hx hb dX5_mended_0 rfl (lv_at hl 0 rfl) ?_
  refine lv_aload_n hx hb dX5_mended_1 rfl (lv_at hl 0 rfl) ?_
  refine mg_0_1 hx hb hown hwX5 (hts _ (List.mem_of_getElem? (i := 1) rfl)) hK hP dX5_mended_2 ?_
  refine lv_iconst (v := 5) hx hb dX5_mended_5 (by decide) ?_
  refine ma_2 hx hb hK hP dX5_mended_6 hE (fun v_1 hE => ?_)
  refine z_gol (wf := mW) hS hE (fun F1 h1 => (va_runV (As := [.int v_1]) (rest := []) ⟨hx, hb, hml, hown, hts⟩ (kX5_worthOfRow l E hD v_1 σ F1 h1) (cwV 1 hts gX5_mended_X5_worthOfRow rfl rfl rfl q_X5_worthOfRow ⟨Nat.le_of_ble_eq_true rfl, Nat.le_of_ble_eq_true rfl⟩) (z_preV hK hP hS (ci := 5) (q0 := 0) rfl rfl rfl) rfl rfl hl.1 rfl (lv_room (Nat.le_of_ble_eq_true rfl)) dX5_mended_7 ⟨Nat.le_of_ble_eq_true rfl, Nat.le_of_ble_eq_true rfl⟩)) (fun r_3 σ_2 H locs hP hS hE => ?_)
  refine z_lstore_n hx hb (fun x1_4 => [(1, .long x1_4), (0, .ref (ea E 0))]) dX5_mended_10 rfl hl (by decide) rfl hE (fun x1_4 ls hl hE => ?_)
  refine lv_aload_n hx hb dX5_mended_11 rfl (lv_at hl 1 rfl) ?_
  refine lv_iconst (v := 1) hx hb dX5_mended_12 (by decide) ?_
  refine mp_0_13 hx hb hown hwX5 (hts _ (List.mem_of_getElem? (i := 2) rfl)) hK hD hP hS rfl dX5_mended_13 hE (fun σ_5 H locs hP hS hE => ?_)
  refine lv_aload_n hx hb dX5_mended_16 rfl (lv_at hl 1 rfl) ?_
  refine lv_aload_n hx hb dX5_mended_17 rfl (lv_at hl 1 rfl) ?_
  refine mg_0_1 hx hb hown hwX5 (hts _ (List.mem_of_getElem? (i := 1) rfl)) hK hP dX5_mended_18 ?_
  refine lv_iconst (v := 5) hx hb dX5_mended_21 (by decide) ?_
  refine ma_2 hx hb hK hP dX5_mended_22 hE (fun v_6 hE => ?_)
  refine z_gol (wf := mW) hS hE (fun F1 h1 => (va_runV (As := [.int v_6]) (rest := []) ⟨hx, hb, hml, hown, hts⟩ (kX5_worthOfRow l E hD v_6 σ_5 F1 h1) (cwV 1 hts gX5_mended_X5_worthOfRow rfl rfl rfl q_X5_worthOfRow ⟨Nat.le_of_ble_eq_true rfl, Nat.le_of_ble_eq_true rfl⟩) (z_preV hK hP hS (ci := 5) (q0 := 0) rfl rfl rfl) rfl rfl hl.1 rfl (lv_room (Nat.le_of_ble_eq_true rfl)) dX5_mended_23 ⟨Nat.le_of_ble_eq_true rfl, Nat.le_of_ble_eq_true rfl⟩)) (fun r_8 σ_7 H locs hP hS hE => ?_)
  refine z_lstore_n hx hb (fun x3_9 => [(3, .long x3_9), (1, .long x1_4), (0, .ref (ea E 0))]) dX5_mended_26 rfl hl (by decide) rfl hE (fun x3_9 ls hl hE => ?_)
  refine lv_aload_n hx hb dX5_mended_27 rfl (lv_at hl 2 rfl) ?_
  refine lv_iconst (v := 0) hx hb dX5_mended_28 (by decide) ?_
  refine mp_0_13 hx hb hown hwX5 (hts _ (List.mem_of_getElem? (i := 2) rfl)) hK hD hP hS rfl dX5_mended_29 hE (fun σ_10 H locs hP hS hE => ?_)
  refine lv_lload_n hx hb dX5_mended_32 rfl (lv_at hl 0 rfl) ?_
  refine lv_lload_n hx hb dX5_mended_33 rfl (lv_at hl 1 rfl) ?_
  refine lv_lsub hx hb dX5_mended_34 ?_
  exact z_lret hx hb hr hlk hP hS dX5_mended_35 hE
theorem kX5_mended (l : Launch) (E : EN) (hD : ∀ σ, va_D (eA E) (mW E σ))  (σ : ST) (F : Int64 × ST) (hE : fX5_mended  σ = some F) : Met l yX5_mended wsX5_mended r_X5_mended (zPc E mW [.ref (ea E 0)] σ) (zQl E mW F) 0 0 (eA E) := by
  refine Met.ofW (cc := cX5_mended) (maxL := 5) (ret := (some .long)) (by decide) rfl ?_
  intro p e s m args below meth c s₁ B hml hv
  obtain ⟨rfl, hP, hK⟩ := hv
  have hl := lv_entry ([.ref (ea E 0)]) (n := 5) (Nat.le_of_ble_eq_true rfl)
  rw [lg_entry_eq]
  generalize (lg_sl ([.ref (ea E 0)]) ++ List.replicate (5 - (lg_sl ([.ref (ea E 0)])).length) Slot.unset).toArray = ls at hl ⊢
  exact wX5_mended ⟨B.exec, B.bytes, hml, findClass_of_methodNamed B.named, atoms_spec (ws := wsX5_mended) B.pre, B.returns, B.notSynchronized, hK, hD⟩  σ s.heap [] ls hl hP va_S.rf hE
def fX5_mend  (x1 : Int32) (x2 : Int32) (σ : ST) : Option (Int32 × ST) :=
  (if x1 < 0 then cali (fX5_no (-4) σ) (fun r_2 σ_1 => some (r_2, σ_1)) else (if 1 ≤ x2 then (if 999 < x1 then cali (fX5_no (-6) σ) (fun r_4 σ_3 => some (r_4, σ_3)) else (if x2 ≤ 99 then cali (fX5_isNoTown σ) (fun r_6 σ_5 => (if r_6 = 0 then call (fX5_mended σ_5) (fun r_8 σ_7 => (if (lg_cmp ((Int32.toInt64 x2) * r_8) ((Int32.toInt64 x1) * 1000000000000)) < 0 then some (0, σ_7) else some (1, σ_7))) else cali (fX5_no (-3) σ_5) (fun r_10 σ_9 => some (r_10, σ_9)))) else cali (fX5_no (-6) σ) (fun r_12 σ_11 => some (r_12, σ_11)))) else cali (fX5_no (-4) σ) (fun r_14 σ_13 => some (r_14, σ_13))))
set_option maxHeartbeats 4000000 in
set_option maxRecDepth 100000 in
theorem wX5_mend {p : Program} {l : Launch} {e : Env} {s : State} {m : MethodId} {args : Array Value} {below : List Frame} {meth : Method} {c : Code} {E : EN} (C : zC E mW p s m args meth c cX5_mend 3 RX5 (some .int) wsX5_mend) {F : Int32 × ST}   (x1 : Int32) (x2 : Int32) (σ : ST) (H : Heap) (locs : List Loc) (ls : Array Slot) (hl : lv_has ls 3 [(0, .ref (ea E 0)), (1, .int x1), (2, .int x2)]) (hP : va_P (eD E) vwCl (mW E σ) H) (hS : va_S (eA E) s.heap H locs) (hE : fX5_mend  x1 x2 σ = some F) : zWi E mW p l e r_X5_mend s m args below meth c F H locs (F0 m 0 ls []) := by
  obtain ⟨hx, hb, hml, hown, hts, hr, hlk, hK, hD⟩ := id C
  unfold fX5_mend at hE
  refine lv_iload_n hx hb dX5_mend_0 rfl (lv_at hl 1 rfl) ?_
  refine z_if_lt (tgt := 9) hx hb dX5_mend_1 (by decide) hE (fun hE => ?_) (fun hE => ?_)
  · refine lv_aload_n hx hb dX5_mend_9 rfl (lv_at hl 0 rfl) ?_
    refine lv_bipush (v := -4) hx hb dX5_mend_10 (by decide) ?_
    refine z_goi (wf := mW) hS hE (fun F1 h1 => (va_runV (As := [.int (-4)]) (rest := []) ⟨hx, hb, hml, hown, hts⟩ (kX5_no l E hD (-4) σ F1 h1) (cwV 1 hts gX5_mend_X5_no rfl rfl rfl q_X5_no ⟨Nat.le_of_ble_eq_true rfl, Nat.le_of_ble_eq_true rfl⟩) (z_preV hK hP hS (ci := 5) (q0 := 0) rfl rfl rfl) rfl rfl hl.1 rfl (lv_room (Nat.le_of_ble_eq_true rfl)) dX5_mend_12 ⟨Nat.le_of_ble_eq_true rfl, Nat.le_of_ble_eq_true rfl⟩)) (fun r_2 σ_1 H locs hP hS hE => ?_)
    exact z_iret hx hb hr hlk hP hS dX5_mend_15 hE
  refine lv_iload_n hx hb dX5_mend_4 rfl (lv_at hl 2 rfl) ?_
  refine lv_iconst (v := 1) hx hb dX5_mend_5 (by decide) ?_
  refine z_icmp_ge (tgt := 16) hx hb dX5_mend_6 (by decide) hE (fun hE => ?_) (fun hE => ?_)
  · refine lv_iload_n hx hb dX5_mend_16 rfl (lv_at hl 1 rfl) ?_
    refine lv_sipush (v := 999) hx hb dX5_mend_17 (by decide) ?_
    refine z_icmp_gt (tgt := 29) hx hb dX5_mend_20 (by decide) hE (fun hE => ?_) (fun hE => ?_)
    · refine lv_aload_n hx hb dX5_mend_29 rfl (lv_at hl 0 rfl) ?_
      refine lv_bipush (v := -6) hx hb dX5_mend_30 (by decide) ?_
      refine z_goi (wf := mW) hS hE (fun F1 h1 => (va_runV (As := [.int (-6)]) (rest := []) ⟨hx, hb, hml, hown, hts⟩ (kX5_no l E hD (-6) σ F1 h1) (cwV 1 hts gX5_mend_X5_no rfl rfl rfl q_X5_no ⟨Nat.le_of_ble_eq_true rfl, Nat.le_of_ble_eq_true rfl⟩) (z_preV hK hP hS (ci := 5) (q0 := 0) rfl rfl rfl) rfl rfl hl.1 rfl (lv_room (Nat.le_of_ble_eq_true rfl)) dX5_mend_32 ⟨Nat.le_of_ble_eq_true rfl, Nat.le_of_ble_eq_true rfl⟩)) (fun r_4 σ_3 H locs hP hS hE => ?_)
      exact z_iret hx hb hr hlk hP hS dX5_mend_35 hE
    refine lv_iload_n hx hb dX5_mend_23 rfl (lv_at hl 2 rfl) ?_
    refine lv_bipush (v := 99) hx hb dX5_mend_24 (by decide) ?_
    refine z_icmp_le (tgt := 36) hx hb dX5_mend_26 (by decide) hE (fun hE => ?_) (fun hE => ?_)
    · refine lv_aload_n hx hb dX5_mend_36 rfl (lv_at hl 0 rfl) ?_
      refine z_goi (wf := mW) hS hE (fun F1 h1 => (va_runV (As := []) (rest := []) ⟨hx, hb, hml, hown, hts⟩ (kX5_isNoTown l E hD  σ F1 h1) (cwV 0 hts gX5_mend_X5_isNoTown rfl rfl rfl q_X5_isNoTown ⟨Nat.le_of_ble_eq_true rfl, Nat.le_of_ble_eq_true rfl⟩) (z_preV hK hP hS (ci := 5) (q0 := 0) rfl rfl rfl) rfl rfl hl.1 rfl (lv_room (Nat.le_of_ble_eq_true rfl)) dX5_mend_37 ⟨Nat.le_of_ble_eq_true rfl, Nat.le_of_ble_eq_true rfl⟩)) (fun r_6 σ_5 H locs hP hS hE => ?_)
      refine z_if_eq (tgt := 50) hx hb dX5_mend_40 (by decide) hE (fun hE => ?_) (fun hE => ?_)
      · refine lv_iload_n hx hb dX5_mend_50 rfl (lv_at hl 2 rfl) ?_
        refine lv_i2l (v := (Int32.toInt64 x2)) hx hb dX5_mend_51 rfl ?_
        refine lv_aload_n hx hb dX5_mend_52 rfl (lv_at hl 0 rfl) ?_
        refine z_gol (wf := mW) hS hE (fun F1 h1 => (va_runV (As := []) (rest := [.long (Int32.toInt64 x2)]) ⟨hx, hb, hml, hown, hts⟩ (kX5_mended l E hD  σ_5 F1 h1) (cwV 0 hts gX5_mend_X5_mended rfl rfl rfl q_X5_mended ⟨Nat.le_of_ble_eq_true rfl, Nat.le_of_ble_eq_true rfl⟩) (z_preV hK hP hS (ci := 5) (q0 := 0) rfl rfl rfl) rfl rfl hl.1 rfl (lv_room (Nat.le_of_ble_eq_true rfl)) dX5_mend_53 ⟨Nat.le_of_ble_eq_true rfl, Nat.le_of_ble_eq_true rfl⟩)) (fun r_8 σ_7 H locs hP hS hE => ?_)
        refine lv_lmul hx hb dX5_mend_56 ?_
        refine lv_iload_n hx hb dX5_mend_57 rfl (lv_at hl 1 rfl) ?_
        refine lv_i2l (v := (Int32.toInt64 x1)) hx hb dX5_mend_58 rfl ?_
        refine lv_ldc2 (v := 1000000000000) hx hb hown (hts _ (List.mem_of_getElem? (i := 1) rfl)) dX5_mend_59 ?_
        refine lv_lmul hx hb dX5_mend_62 ?_
        refine W.lcmp hx hb dX5_mend_63 ?_
        refine z_if_lt (tgt := 71) hx hb dX5_mend_64 (by decide) hE (fun hE => ?_) (fun hE => ?_)
        · refine lv_iconst (v := 0) hx hb dX5_mend_71 (by decide) ?_
          exact z_iret hx hb hr hlk hP hS dX5_mend_72 hE
        refine lv_iconst (v := 1) hx hb dX5_mend_67 (by decide) ?_
        refine lv_goto (tgt := 72) hx hb dX5_mend_68 (by decide) ?_
        exact z_iret hx hb hr hlk hP hS dX5_mend_72 hE
      refine lv_aload_n hx hb dX5_mend_43 rfl (lv_at hl 0 rfl) ?_
      refine lv_bipush (v := -3) hx hb dX5_mend_44 (by decide) ?_
      refine z_goi (wf := mW) hS hE (fun F1 h1 => (va_runV (As := [.int (-3)]) (rest := []) ⟨hx, hb, hml, hown, hts⟩ (kX5_no l E hD (-3) σ_5 F1 h1) (cwV 1 hts gX5_mend_X5_no rfl rfl rfl q_X5_no ⟨Nat.le_of_ble_eq_true rfl, Nat.le_of_ble_eq_true rfl⟩) (z_preV hK hP hS (ci := 5) (q0 := 0) rfl rfl rfl) rfl rfl hl.1 rfl (lv_room (Nat.le_of_ble_eq_true rfl)) dX5_mend_46 ⟨Nat.le_of_ble_eq_true rfl, Nat.le_of_ble_eq_true rfl⟩)) (fun r_10 σ_9 H locs hP hS hE => ?_)
      exact z_iret hx hb hr hlk hP hS dX5_mend_49 hE
    refine lv_aload_n hx hb dX5_mend_29 rfl (lv_at hl 0 rfl) ?_
    refine lv_bipush (v := -6) hx hb dX5_mend_30 (by decide) ?_
    refine z_goi (wf := mW) hS hE (fun F1 h1 => (va_runV (As := [.int (-6)]) (rest := []) ⟨hx, hb, hml, hown, hts⟩ (kX5_no l E hD (-6) σ F1 h1) (cwV 1 hts gX5_mend_X5_no rfl rfl rfl q_X5_no ⟨Nat.le_of_ble_eq_true rfl, Nat.le_of_ble_eq_true rfl⟩) (z_preV hK hP hS (ci := 5) (q0 := 0) rfl rfl rfl) rfl rfl hl.1 rfl (lv_room (Nat.le_of_ble_eq_true rfl)) dX5_mend_32 ⟨Nat.le_of_ble_eq_true rfl, Nat.le_of_ble_eq_true rfl⟩)) (fun r_12 σ_11 H locs hP hS hE => ?_)
    exact z_iret hx hb hr hlk hP hS dX5_mend_35 hE
  refine lv_aload_n hx hb dX5_mend_9 rfl (lv_at hl 0 rfl) ?_
  refine lv_bipush (v := -4) hx hb dX5_mend_10 (by decide) ?_
  refine z_goi (wf := mW) hS hE (fun F1 h1 => (va_runV (As := [.int (-4)]) (rest := []) ⟨hx, hb, hml, hown, hts⟩ (kX5_no l E hD (-4) σ F1 h1) (cwV 1 hts gX5_mend_X5_no rfl rfl rfl q_X5_no ⟨Nat.le_of_ble_eq_true rfl, Nat.le_of_ble_eq_true rfl⟩) (z_preV hK hP hS (ci := 5) (q0 := 0) rfl rfl rfl) rfl rfl hl.1 rfl (lv_room (Nat.le_of_ble_eq_true rfl)) dX5_mend_12 ⟨Nat.le_of_ble_eq_true rfl, Nat.le_of_ble_eq_true rfl⟩)) (fun r_14 σ_13 H locs hP hS hE => ?_)
  exact z_iret hx hb hr hlk hP hS dX5_mend_15 hE
theorem kX5_mend (l : Launch) (E : EN) (hD : ∀ σ, va_D (eA E) (mW E σ)) (x1 : Int32) (x2 : Int32) (σ : ST) (F : Int32 × ST) (hE : fX5_mend x1 x2 σ = some F) : Met l yX5_mend wsX5_mend r_X5_mend (zPc E mW [.ref (ea E 0), .int x1, .int x2] σ) (zQi E mW F) 0 0 (eA E) := by
  refine Met.ofW (cc := cX5_mend) (maxL := 3) (ret := (some .int)) (by decide) rfl ?_
  intro p e s m args below meth c s₁ B hml hv
  obtain ⟨rfl, hP, hK⟩ := hv
  have hl := lv_entry ([.ref (ea E 0), .int x1, .int x2]) (n := 3) (Nat.le_of_ble_eq_true rfl)
  rw [lg_entry_eq]
  generalize (lg_sl ([.ref (ea E 0), .int x1, .int x2]) ++ List.replicate (3 - (lg_sl ([.ref (ea E 0), .int x1, .int x2])).length) Slot.unset).toArray = ls at hl ⊢
  exact wX5_mend ⟨B.exec, B.bytes, hml, findClass_of_methodNamed B.named, atoms_spec (ws := wsX5_mend) B.pre, B.returns, B.notSynchronized, hK, hD⟩ x1 x2 σ s.heap [] ls hl hP va_S.rf hE
def fX5_mendFrom_L47 (ke : ST → Option (Int32 × ST)) : Nat → Int32 → Int64 → Int32 → ST → Option (Int32 × ST)
  | 0, _, _, _, _ => none
  | n + 1, x1, x2, x4, σ => (if 100 ≤ x4 then ke  σ else (if (lg_cmp ((Int32.toInt64 x4) * x2) ((Int32.toInt64 x1) * 1000000000000)) < 0 then bnd (x4 + 1) (fun x4_7 => fX5_mendFrom_L47 ke n x1 x2 x4_7 σ) else some (x4, σ)))
set_option maxHeartbeats 4000000 in
set_option maxRecDepth 100000 in
theorem wX5_mendFrom_L47 {p : Program} {l : Launch} {e : Env} {s : State} {m : MethodId} {args : Array Value} {below : List Frame} {meth : Method} {c : Code} {E : EN} (C : zC E mW p s m args meth c cX5_mendFrom 5 RX5 (some .int) wsX5_mendFrom) {F : Int32 × ST} {ke : ST → Option (Int32 × ST)} (hke : ∀  (σ : ST) (H : Heap) (locs : List Loc) (ls : Array Slot), lv_has ls 5 [] → va_P (eD E) vwCl (mW E σ) H → va_S (eA E) s.heap H locs → ke  σ = some F → zWi E mW p l e r_X5_mendFrom s m args below meth c F H locs (F0 m 78 ls [])) : ∀ (n : Nat) (x1 : Int32) (x2 : Int64) (x4 : Int32) (σ : ST) (H : Heap) (locs : List Loc) (ls : Array Slot), lv_has ls 5 [(1, .int x1), (2, .long x2), (4, .int x4)] → va_P (eD E) vwCl (mW E σ) H → va_S (eA E) s.heap H locs → fX5_mendFrom_L47 ke n x1 x2 x4 σ = some F → zWi E mW p l e r_X5_mendFrom s m args below meth c F H locs (F0 m 47 ls []) := by
  obtain ⟨hx, hb, hml, hown, hts, hr, hlk, hK, hD⟩ := id C
  intro n
  induction n with
  | zero => intro x1 x2 x4 σ H locs ls hl hP hS hE; rw [fX5_mendFrom_L47] at hE; cases hE
  | succ n ih =>
    intro x1 x2 x4 σ H locs ls hl hP hS hE
    rw [fX5_mendFrom_L47] at hE
    refine lv_iload hx hb dX5_mendFrom_47 (lv_at hl 2 rfl) ?_
    refine lv_bipush (v := 100) hx hb dX5_mendFrom_49 (by decide) ?_
    refine z_icmp_ge (tgt := 78) hx hb dX5_mendFrom_51 (by decide) hE (fun hE => ?_) (fun hE => ?_)
    · exact hke  σ _ _ _ (lv_sub hl [] rfl) hP hS hE
    refine lv_iload hx hb dX5_mendFrom_54 (lv_at hl 2 rfl) ?_
    refine lv_i2l (v := (Int32.toInt64 x4)) hx hb dX5_mendFrom_56 rfl ?_
    refine lv_lload_n hx hb dX5_mendFrom_57 rfl (lv_at hl 1 rfl) ?_
    refine lv_lmul hx hb dX5_mendFrom_58 ?_
    refine lv_iload_n hx hb dX5_mendFrom_59 rfl (lv_at hl 0 rfl) ?_
    refine lv_i2l (v := (Int32.toInt64 x1)) hx hb dX5_mendFrom_60 rfl ?_
    refine lv_ldc2 (v := 1000000000000) hx hb hown (hts _ (List.mem_of_getElem? (i := 1) rfl)) dX5_mendFrom_61 ?_
    refine lv_lmul hx hb dX5_mendFrom_64 ?_
    refine W.lcmp hx hb dX5_mendFrom_65 ?_
    refine z_if_lt (tgt := 72) hx hb dX5_mendFrom_66 (by decide) hE (fun hE => ?_) (fun hE => ?_)
    · refine z_iinc hx hb (v := (x4 + 1)) (k := 2) (fun x4_7 => [(4, .int x4_7), (1, .int x1), (2, .long x2)]) dX5_mendFrom_72 hl rfl (by rfl) (by decide) rfl hE (fun x4_7 ls hl hE => ?_)
      refine lv_goto (tgt := 47) hx hb dX5_mendFrom_75 (by decide) ?_
      exact ih x1 x2 x4_7 σ _ _ _ (lv_sub hl [1, 2, 0] rfl) hP hS hE
    refine lv_iload hx hb dX5_mendFrom_69 (lv_at hl 2 rfl) ?_
    exact z_iret hx hb hr hlk hP hS dX5_mendFrom_71 hE
def fX5_mendFrom  (x1 : Int32) (σ : ST) : Option (Int32 × ST) :=
  (if 0 ≤ x1 then (if x1 ≤ 999 then cali (fX5_isNoTown σ) (fun r_2 σ_1 => (if r_2 = 0 then call (fX5_mended σ_1) (fun r_4 σ_3 => bnd (r_4 : Int64) (fun x2_5 => bnd (1 : Int32) (fun x4_6 => fX5_mendFrom_L47 (fun σ_8 => some ((-9), σ_8)) FU x1 x2_5 x4_6 σ_3))) else cali (fX5_no (-3) σ_1) (fun r_10 σ_9 => some (r_10, σ_9)))) else cali (fX5_no (-6) σ) (fun r_12 σ_11 => some (r_12, σ_11))) else cali (fX5_no (-4) σ) (fun r_14 σ_13 => some (r_14, σ_13)))
set_option maxHeartbeats 4000000 in
set_option maxRecDepth 100000 in
theorem wX5_mendFrom {p : Program} {l : Launch} {e : Env} {s : State} {m : MethodId} {args : Array Value} {below : List Frame} {meth : Method} {c : Code} {E : EN} (C : zC E mW p s m args meth c cX5_mendFrom 5 RX5 (some .int) wsX5_mendFrom) {F : Int32 × ST}   (x1 : Int32) (σ : ST) (H : Heap) (locs : List Loc) (ls : Array Slot) (hl : lv_has ls 5 [(0, .ref (ea E 0)), (1, .int x1)]) (hP : va_P (eD E) vwCl (mW E σ) H) (hS : va_S (eA E) s.heap H locs) (hE : fX5_mendFrom  x1 σ = some F) : zWi E mW p l e r_X5_mendFrom s m args below meth c F H locs (F0 m 0 ls []) := by
  obtain ⟨hx, hb, hml, hown, hts, hr, hlk, hK, hD⟩ := id C
  unfold fX5_mendFrom at hE
  refine lv_iload_n hx hb dX5_mendFrom_0 rfl (lv_at hl 1 rfl) ?_
  refine z_if_ge (tgt := 11) hx hb dX5_mendFrom_1 (by decide) hE (fun hE => ?_) (fun hE => ?_)
  · refine lv_iload_n hx hb dX5_mendFrom_11 rfl (lv_at hl 1 rfl) ?_
    refine lv_sipush (v := 999) hx hb dX5_mendFrom_12 (by decide) ?_
    refine z_icmp_le (tgt := 25) hx hb dX5_mendFrom_15 (by decide) hE (fun hE => ?_) (fun hE => ?_)
    · refine lv_aload_n hx hb dX5_mendFrom_25 rfl (lv_at hl 0 rfl) ?_
      refine z_goi (wf := mW) hS hE (fun F1 h1 => (va_runV (As := []) (rest := []) ⟨hx, hb, hml, hown, hts⟩ (kX5_isNoTown l E hD  σ F1 h1) (cwV 0 hts gX5_mendFrom_X5_isNoTown rfl rfl rfl q_X5_isNoTown ⟨Nat.le_of_ble_eq_true rfl, Nat.le_of_ble_eq_true rfl⟩) (z_preV hK hP hS (ci := 5) (q0 := 0) rfl rfl rfl) rfl rfl hl.1 rfl (lv_room (Nat.le_of_ble_eq_true rfl)) dX5_mendFrom_26 ⟨Nat.le_of_ble_eq_true rfl, Nat.le_of_ble_eq_true rfl⟩)) (fun r_2 σ_1 H locs hP hS hE => ?_)
      refine z_if_eq (tgt := 39) hx hb dX5_mendFrom_29 (by decide) hE (fun hE => ?_) (fun hE => ?_)
      · refine lv_aload_n hx hb dX5_mendFrom_39 rfl (lv_at hl 0 rfl) ?_
        refine z_gol (wf := mW) hS hE (fun F1 h1 => (va_runV (As := []) (rest := []) ⟨hx, hb, hml, hown, hts⟩ (kX5_mended l E hD  σ_1 F1 h1) (cwV 0 hts gX5_mendFrom_X5_mended rfl rfl rfl q_X5_mended ⟨Nat.le_of_ble_eq_true rfl, Nat.le_of_ble_eq_true rfl⟩) (z_preV hK hP hS (ci := 5) (q0 := 0) rfl rfl rfl) rfl rfl hl.1 rfl (lv_room (Nat.le_of_ble_eq_true rfl)) dX5_mendFrom_40 ⟨Nat.le_of_ble_eq_true rfl, Nat.le_of_ble_eq_true rfl⟩)) (fun r_4 σ_3 H locs hP hS hE => ?_)
        refine z_lstore_n hx hb (fun x2_5 => [(2, .long x2_5), (0, .ref (ea E 0)), (1, .int x1)]) dX5_mendFrom_43 rfl hl (by decide) rfl hE (fun x2_5 ls hl hE => ?_)
        refine lv_iconst (v := 1) hx hb dX5_mendFrom_44 (by decide) ?_
        refine z_istore hx hb (fun x4_6 => [(4, .int x4_6), (2, .long x2_5), (0, .ref (ea E 0)), (1, .int x1)]) dX5_mendFrom_45 hl (by decide) rfl hE (fun x4_6 ls hl hE => ?_)
        refine wX5_mendFrom_L47 C ?_ FU x1 x2_5 x4_6 σ_3 _ _ _ (lv_sub hl [3, 1, 0] rfl) hP hS hE
        intro σ_8 H locs ls hl hP hS hE
        refine lv_bipush (v := -9) hx hb dX5_mendFrom_78 (by decide) ?_
        exact z_iret hx hb hr hlk hP hS dX5_mendFrom_80 hE
      refine lv_aload_n hx hb dX5_mendFrom_32 rfl (lv_at hl 0 rfl) ?_
      refine lv_bipush (v := -3) hx hb dX5_mendFrom_33 (by decide) ?_
      refine z_goi (wf := mW) hS hE (fun F1 h1 => (va_runV (As := [.int (-3)]) (rest := []) ⟨hx, hb, hml, hown, hts⟩ (kX5_no l E hD (-3) σ_1 F1 h1) (cwV 1 hts gX5_mendFrom_X5_no rfl rfl rfl q_X5_no ⟨Nat.le_of_ble_eq_true rfl, Nat.le_of_ble_eq_true rfl⟩) (z_preV hK hP hS (ci := 5) (q0 := 0) rfl rfl rfl) rfl rfl hl.1 rfl (lv_room (Nat.le_of_ble_eq_true rfl)) dX5_mendFrom_35 ⟨Nat.le_of_ble_eq_true rfl, Nat.le_of_ble_eq_true rfl⟩)) (fun r_10 σ_9 H locs hP hS hE => ?_)
      exact z_iret hx hb hr hlk hP hS dX5_mendFrom_38 hE
    refine lv_aload_n hx hb dX5_mendFrom_18 rfl (lv_at hl 0 rfl) ?_
    refine lv_bipush (v := -6) hx hb dX5_mendFrom_19 (by decide) ?_
    refine z_goi (wf := mW) hS hE (fun F1 h1 => (va_runV (As := [.int (-6)]) (rest := []) ⟨hx, hb, hml, hown, hts⟩ (kX5_no l E hD (-6) σ F1 h1) (cwV 1 hts gX5_mendFrom_X5_no rfl rfl rfl q_X5_no ⟨Nat.le_of_ble_eq_true rfl, Nat.le_of_ble_eq_true rfl⟩) (z_preV hK hP hS (ci := 5) (q0 := 0) rfl rfl rfl) rfl rfl hl.1 rfl (lv_room (Nat.le_of_ble_eq_true rfl)) dX5_mendFrom_21 ⟨Nat.le_of_ble_eq_true rfl, Nat.le_of_ble_eq_true rfl⟩)) (fun r_12 σ_11 H locs hP hS hE => ?_)
    exact z_iret hx hb hr hlk hP hS dX5_mendFrom_24 hE
  refine lv_aload_n hx hb dX5_mendFrom_4 rfl (lv_at hl 0 rfl) ?_
  refine lv_bipush (v := -4) hx hb dX5_mendFrom_5 (by decide) ?_
  refine z_goi (wf := mW) hS hE (fun F1 h1 => (va_runV (As := [.int (-4)]) (rest := []) ⟨hx, hb, hml, hown, hts⟩ (kX5_no l E hD (-4) σ F1 h1) (cwV 1 hts gX5_mendFrom_X5_no rfl rfl rfl q_X5_no ⟨Nat.le_of_ble_eq_true rfl, Nat.le_of_ble_eq_true rfl⟩) (z_preV hK hP hS (ci := 5) (q0 := 0) rfl rfl rfl) rfl rfl hl.1 rfl (lv_room (Nat.le_of_ble_eq_true rfl)) dX5_mendFrom_7 ⟨Nat.le_of_ble_eq_true rfl, Nat.le_of_ble_eq_true rfl⟩)) (fun r_14 σ_13 H locs hP hS hE => ?_)
  exact z_iret hx hb hr hlk hP hS dX5_mendFrom_10 hE
theorem kX5_mendFrom (l : Launch) (E : EN) (hD : ∀ σ, va_D (eA E) (mW E σ)) (x1 : Int32) (σ : ST) (F : Int32 × ST) (hE : fX5_mendFrom x1 σ = some F) : Met l yX5_mendFrom wsX5_mendFrom r_X5_mendFrom (zPc E mW [.ref (ea E 0), .int x1] σ) (zQi E mW F) 0 0 (eA E) := by
  refine Met.ofW (cc := cX5_mendFrom) (maxL := 5) (ret := (some .int)) (by decide) rfl ?_
  intro p e s m args below meth c s₁ B hml hv
  obtain ⟨rfl, hP, hK⟩ := hv
  have hl := lv_entry ([.ref (ea E 0), .int x1]) (n := 5) (Nat.le_of_ble_eq_true rfl)
  rw [lg_entry_eq]
  generalize (lg_sl ([.ref (ea E 0), .int x1]) ++ List.replicate (5 - (lg_sl ([.ref (ea E 0), .int x1])).length) Slot.unset).toArray = ls at hl ⊢
  exact wX5_mendFrom ⟨B.exec, B.bytes, hml, findClass_of_methodNamed B.named, atoms_spec (ws := wsX5_mendFrom) B.pre, B.returns, B.notSynchronized, hK, hD⟩ x1 σ s.heap [] ls hl hP va_S.rf hE
def fX5_onFoot_L53 (ke : Int32 → Int32 → Int32 → ST → Option (Int32 × ST)) : Nat → Int32 → Int32 → Int32 → Int32 → Int32 → Int32 → ST → Option (Int32 × ST)
  | 0, _, _, _, _, _, _, _ => none
  | n + 1, x1, x2, x3, x4, x5, x6, σ => ald (gA σ 1) 200 0 (fun v_11 => (if v_11 ≤ x6 then ke x3 x4 x5 σ else ald (gA σ 8) 64 ((8 * x6) + x1) (fun v_12 => ald (gA σ 8) 64 ((8 * x6) + x2) (fun v_13 => bnd ((v_12 + v_13) : Int32) (fun x7_14 => cali (fX5_starts x6 σ) (fun r_16 σ_15 => (if r_16 = 10 then (if x5 ≤ x7_14 then bnd (x6 + 1) (fun x6_18 => fX5_onFoot_L53 ke n x1 x2 x3 x4 x5 x6_18 σ_15) else bnd (x7_14 : Int32) (fun x5_19 => bnd (x6 : Int32) (fun x4_20 => bnd (x6 + 1) (fun x6_21 => fX5_onFoot_L53 ke n x1 x2 x3 x4_20 x5_19 x6_21 σ_15)))) else bnd (x6 + 1) (fun x6_17 => fX5_onFoot_L53 ke n x1 x2 x3 x4 x5 x6_17 σ_15))))))))
set_option maxHeartbeats 4000000 in
set_option maxRecDepth 100000 in
theorem wX5_onFoot_L53 {p : Program} {l : Launch} {e : Env} {s : State} {m : MethodId} {args : Array Value} {below : List Frame} {meth : Method} {c : Code} {E : EN} (C : zC E mW p s m args meth c cX5_onFoot 8 RX5 (some .int) wsX5_onFoot) {F : Int32 × ST} {ke : Int32 → Int32 → Int32 → ST → Option (Int32 × ST)} (hke : ∀ (x3 : Int32) (x4 : Int32) (x5 : Int32) (σ : ST) (H : Heap) (locs : List Loc) (ls : Array Slot), lv_has ls 8 [(3, .int x3), (4, .int x4), (5, .int x5)] → va_P (eD E) vwCl (mW E σ) H → va_S (eA E) s.heap H locs → ke x3 x4 x5 σ = some F → zWi E mW p l e r_X5_onFoot s m args below meth c F H locs (F0 m 123 ls [])) : ∀ (n : Nat) (x1 : Int32) (x2 : Int32) (x3 : Int32) (x4 : Int32) (x5 : Int32) (x6 : Int32) (σ : ST) (H : Heap) (locs : List Loc) (ls : Array Slot), lv_has ls 8 [(0, .ref (ea E 0)), (1, .int x1), (2, .int x2), (3, .int x3), (4, .int x4), (5, .int x5), (6, .int x6)] → va_P (eD E) vwCl (mW E σ) H → va_S (eA E) s.heap H locs → fX5_onFoot_L53 ke n x1 x2 x3 x4 x5 x6 σ = some F → zWi E mW p l e r_X5_onFoot s m args below meth c F H locs (F0 m 53 ls []) := by
  obtain ⟨hx, hb, hml, hown, hts, hr, hlk, hK, hD⟩ := id C
  have hwX5 : ∀ w ∈ wsX50, w.before args s = true := fun w h => hts w (List.mem_cons_of_mem _ (List.mem_append_right _ h))
  intro n
  induction n with
  | zero => intro x1 x2 x3 x4 x5 x6 σ H locs ls hl hP hS hE; rw [fX5_onFoot_L53] at hE; cases hE
  | succ n ih =>
    intro x1 x2 x3 x4 x5 x6 σ H locs ls hl hP hS hE
    rw [fX5_onFoot_L53] at hE
    refine lv_iload hx hb dX5_onFoot_53 (lv_at hl 6 rfl) ?_
    refine lv_aload_n hx hb dX5_onFoot_55 rfl (lv_at hl 0 rfl) ?_
    refine mg_0_1 hx hb hown hwX5 (hts _ (List.mem_of_getElem? (i := 2) rfl)) hK hP dX5_onFoot_56 ?_
    refine lv_iconst (v := 0) hx hb dX5_onFoot_59 (by decide) ?_
    refine ma_2 hx hb hK hP dX5_onFoot_60 hE (fun v_11 hE => ?_)
    refine z_icmp_ge (tgt := 123) hx hb dX5_onFoot_61 (by decide) hE (fun hE => ?_) (fun hE => ?_)
    · exact hke x3 x4 x5 σ _ _ _ (lv_sub hl [3, 4, 5] rfl) hP hS hE
    refine lv_aload_n hx hb dX5_onFoot_64 rfl (lv_at hl 0 rfl) ?_
    refine mg_0_16 hx hb hown hwX5 (hts _ (List.mem_of_getElem? (i := 3) rfl)) hK hP dX5_onFoot_65 ?_
    refine lv_bipush (v := 8) hx hb dX5_onFoot_68 (by decide) ?_
    refine lv_iload hx hb dX5_onFoot_70 (lv_at hl 6 rfl) ?_
    refine lv_imul hx hb dX5_onFoot_72 ?_
    refine lv_iload_n hx hb dX5_onFoot_73 rfl (lv_at hl 1 rfl) ?_
    refine lv_iadd hx hb dX5_onFoot_74 ?_
    refine ma_9 hx hb hK hP dX5_onFoot_75 hE (fun v_12 hE => ?_)
    refine lv_aload_n hx hb dX5_onFoot_76 rfl (lv_at hl 0 rfl) ?_
    refine mg_0_16 hx hb hown hwX5 (hts _ (List.mem_of_getElem? (i := 3) rfl)) hK hP dX5_onFoot_77 ?_
    refine lv_bipush (v := 8) hx hb dX5_onFoot_80 (by decide) ?_
    refine lv_iload hx hb dX5_onFoot_82 (lv_at hl 6 rfl) ?_
    refine lv_imul hx hb dX5_onFoot_84 ?_
    refine lv_iload_n hx hb dX5_onFoot_85 rfl (lv_at hl 2 rfl) ?_
    refine lv_iadd hx hb dX5_onFoot_86 ?_
    refine ma_9 hx hb hK hP dX5_onFoot_87 hE (fun v_13 hE => ?_)
    refine lv_iadd hx hb dX5_onFoot_88 ?_
    refine z_istore hx hb (fun x7_14 => [(7, .int x7_14), (0, .ref (ea E 0)), (1, .int x1), (2, .int x2), (3, .int x3), (4, .int x4), (5, .int x5), (6, .int x6)]) dX5_onFoot_89 hl (by decide) rfl hE (fun x7_14 ls hl hE => ?_)
    refine lv_aload_n hx hb dX5_onFoot_91 rfl (lv_at hl 1 rfl) ?_
    refine lv_iload hx hb dX5_onFoot_92 (lv_at hl 7 rfl) ?_
    refine z_goi (wf := mW) hS hE (fun F1 h1 => (va_runV (As := [.int x6]) (rest := []) ⟨hx, hb, hml, hown, hts⟩ (kX5_starts l E hD x6 σ F1 h1) (cwV 1 hts gX5_onFoot_X5_starts rfl rfl rfl q_X5_starts ⟨Nat.le_of_ble_eq_true rfl, Nat.le_of_ble_eq_true rfl⟩) (z_preV hK hP hS (ci := 5) (q0 := 0) rfl rfl rfl) rfl rfl hl.1 rfl (lv_room (Nat.le_of_ble_eq_true rfl)) dX5_onFoot_94 ⟨Nat.le_of_ble_eq_true rfl, Nat.le_of_ble_eq_true rfl⟩)) (fun r_16 σ_15 H locs hP hS hE => ?_)
    refine lv_bipush (v := 10) hx hb dX5_onFoot_97 (by decide) ?_
    refine z_icmp_ne (tgt := 117) hx hb dX5_onFoot_99 (by decide) hE (fun hE => ?_) (fun hE => ?_)
    · refine z_iinc hx hb (v := (x6 + 1)) (k := 7) (fun x6_17 => [(6, .int x6_17), (7, .int x7_14), (0, .ref (ea E 0)), (1, .int x1), (2, .int x2), (3, .int x3), (4, .int x4), (5, .int x5)]) dX5_onFoot_117 hl rfl (by rfl) (by decide) rfl hE (fun x6_17 ls hl hE => ?_)
      refine lv_goto (tgt := 53) hx hb dX5_onFoot_120 (by decide) ?_
      exact ih x1 x2 x3 x4 x5 x6_17 σ_15 _ _ _ (lv_sub hl [2, 3, 4, 5, 6, 7, 0] rfl) hP hS hE
    refine lv_iload hx hb dX5_onFoot_102 (lv_at hl 0 rfl) ?_
    refine lv_iload hx hb dX5_onFoot_104 (lv_at hl 6 rfl) ?_
    refine z_icmp_ge (tgt := 117) hx hb dX5_onFoot_106 (by decide) hE (fun hE => ?_) (fun hE => ?_)
    · refine z_iinc hx hb (v := (x6 + 1)) (k := 7) (fun x6_18 => [(6, .int x6_18), (7, .int x7_14), (0, .ref (ea E 0)), (1, .int x1), (2, .int x2), (3, .int x3), (4, .int x4), (5, .int x5)]) dX5_onFoot_117 hl rfl (by rfl) (by decide) rfl hE (fun x6_18 ls hl hE => ?_)
      refine lv_goto (tgt := 53) hx hb dX5_onFoot_120 (by decide) ?_
      exact ih x1 x2 x3 x4 x5 x6_18 σ_15 _ _ _ (lv_sub hl [2, 3, 4, 5, 6, 7, 0] rfl) hP hS hE
    refine lv_iload hx hb dX5_onFoot_109 (lv_at hl 0 rfl) ?_
    refine z_istore hx hb (fun x5_19 => [(5, .int x5_19), (7, .int x7_14), (0, .ref (ea E 0)), (1, .int x1), (2, .int x2), (3, .int x3), (4, .int x4), (6, .int x6)]) dX5_onFoot_111 hl (by decide) rfl hE (fun x5_19 ls hl hE => ?_)
    refine lv_iload hx hb dX5_onFoot_113 (lv_at hl 7 rfl) ?_
    refine z_istore hx hb (fun x4_20 => [(4, .int x4_20), (5, .int x5_19), (7, .int x7_14), (0, .ref (ea E 0)), (1, .int x1), (2, .int x2), (3, .int x3), (6, .int x6)]) dX5_onFoot_115 hl (by decide) rfl hE (fun x4_20 ls hl hE => ?_)
    refine z_iinc hx hb (v := (x6 + 1)) (k := 7) (fun x6_21 => [(6, .int x6_21), (4, .int x4_20), (5, .int x5_19), (7, .int x7_14), (0, .ref (ea E 0)), (1, .int x1), (2, .int x2), (3, .int x3)]) dX5_onFoot_117 hl rfl (by rfl) (by decide) rfl hE (fun x6_21 ls hl hE => ?_)
    refine lv_goto (tgt := 53) hx hb dX5_onFoot_120 (by decide) ?_
    exact ih x1 x2 x3 x4_20 x5_19 x6_21 σ_15 _ _ _ (lv_sub hl [4, 5, 6, 7, 1, 2, 0] rfl) hP hS hE
def fX5_onFoot_J38  (x1 : Int32) (x2 : Int32) (x3 : Int32) (σ : ST) : Option (Int32 × ST) :=
  calv (fX5_legs σ) (fun σ_7 => bnd ((-9) : Int32) (fun x4_8 => bnd (100000 : Int32) (fun x5_9 => bnd (0 : Int32) (fun x6_10 => fX5_onFoot_L53 (fun x3_22 x4_23 x5_24 σ_25 => (if x4_23 = (-9) then some ((-9), σ_25) else (if x3_22 = 0 then some (x4_23, σ_25) else some ((10 * x5_24), σ_25)))) FU x1 x2 x3 x4_8 x5_9 x6_10 σ_7))))
set_option maxHeartbeats 4000000 in
set_option maxRecDepth 100000 in
theorem wX5_onFoot_J38 {p : Program} {l : Launch} {e : Env} {s : State} {m : MethodId} {args : Array Value} {below : List Frame} {meth : Method} {c : Code} {E : EN} (C : zC E mW p s m args meth c cX5_onFoot 8 RX5 (some .int) wsX5_onFoot) {F : Int32 × ST}   (x1 : Int32) (x2 : Int32) (x3 : Int32) (σ : ST) (H : Heap) (locs : List Loc) (ls : Array Slot) (hl : lv_has ls 8 [(0, .ref (ea E 0)), (1, .int x1), (2, .int x2), (3, .int x3)]) (hP : va_P (eD E) vwCl (mW E σ) H) (hS : va_S (eA E) s.heap H locs) (hE : fX5_onFoot_J38  x1 x2 x3 σ = some F) : zWi E mW p l e r_X5_onFoot s m args below meth c F H locs (F0 m 38 ls []) := by
  obtain ⟨hx, hb, hml, hown, hts, hr, hlk, hK, hD⟩ := id C
  unfold fX5_onFoot_J38 at hE
  refine lv_aload_n hx hb dX5_onFoot_38 rfl (lv_at hl 0 rfl) ?_
  refine z_gov (wf := mW) hS hE (fun F1 h1 => (va_runV (As := []) (rest := []) ⟨hx, hb, hml, hown, hts⟩ (kX5_legs l E hD  σ F1 h1) (cwV 0 hts gX5_onFoot_X5_legs rfl rfl rfl q_X5_legs ⟨Nat.le_of_ble_eq_true rfl, Nat.le_of_ble_eq_true rfl⟩) (z_preV hK hP hS (ci := 5) (q0 := 0) rfl rfl rfl) rfl rfl hl.1 rfl (lv_room (Nat.le_of_ble_eq_true rfl)) dX5_onFoot_39 ⟨Nat.le_of_ble_eq_true rfl, Nat.le_of_ble_eq_true rfl⟩)) (fun σ_7 H locs hP hS hE => ?_)
  refine lv_bipush (v := -9) hx hb dX5_onFoot_42 (by decide) ?_
  refine z_istore hx hb (fun x4_8 => [(4, .int x4_8), (0, .ref (ea E 0)), (1, .int x1), (2, .int x2), (3, .int x3)]) dX5_onFoot_44 hl (by decide) rfl hE (fun x4_8 ls hl hE => ?_)
  refine lv_ldc (v := 100000) hx hb hown (hts _ (List.mem_of_getElem? (i := 1) rfl)) dX5_onFoot_46 ?_
  refine z_istore hx hb (fun x5_9 => [(5, .int x5_9), (4, .int x4_8), (0, .ref (ea E 0)), (1, .int x1), (2, .int x2), (3, .int x3)]) dX5_onFoot_48 hl (by decide) rfl hE (fun x5_9 ls hl hE => ?_)
  refine lv_iconst (v := 0) hx hb dX5_onFoot_50 (by decide) ?_
  refine z_istore hx hb (fun x6_10 => [(6, .int x6_10), (5, .int x5_9), (4, .int x4_8), (0, .ref (ea E 0)), (1, .int x1), (2, .int x2), (3, .int x3)]) dX5_onFoot_51 hl (by decide) rfl hE (fun x6_10 ls hl hE => ?_)
  refine wX5_onFoot_L53 C ?_ FU x1 x2 x3 x4_8 x5_9 x6_10 σ_7 _ _ _ (lv_sub hl [3, 4, 5, 6, 2, 1, 0] rfl) hP hS hE
  intro x3_22 x4_23 x5_24 σ_25 H locs ls hl hP hS hE
  refine lv_iload hx hb dX5_onFoot_123 (lv_at hl 1 rfl) ?_
  refine lv_bipush (v := -9) hx hb dX5_onFoot_125 (by decide) ?_
  refine z_icmp_ne (tgt := 135) hx hb dX5_onFoot_127 (by decide) hE (fun hE => ?_) (fun hE => ?_)
  · refine lv_iload_n hx hb dX5_onFoot_135 rfl (lv_at hl 0 rfl) ?_
    refine z_if_ne (tgt := 144) hx hb dX5_onFoot_136 (by decide) hE (fun hE => ?_) (fun hE => ?_)
    · refine lv_bipush (v := 10) hx hb dX5_onFoot_144 (by decide) ?_
      refine lv_iload hx hb dX5_onFoot_146 (lv_at hl 2 rfl) ?_
      refine lv_imul hx hb dX5_onFoot_148 ?_
      exact z_iret hx hb hr hlk hP hS dX5_onFoot_149 hE
    refine lv_iload hx hb dX5_onFoot_139 (lv_at hl 1 rfl) ?_
    refine lv_goto (tgt := 149) hx hb dX5_onFoot_141 (by decide) ?_
    exact z_iret hx hb hr hlk hP hS dX5_onFoot_149 hE
  refine lv_bipush (v := -9) hx hb dX5_onFoot_130 (by decide) ?_
  refine lv_goto (tgt := 149) hx hb dX5_onFoot_132 (by decide) ?_
  exact z_iret hx hb hr hlk hP hS dX5_onFoot_149 hE
def fX5_onFoot  (x1 : Int32) (x2 : Int32) (x3 : Int32) (σ : ST) : Option (Int32 × ST) :=
  cali (fX5_isNoPlace x1 σ) (fun r_2 σ_1 => (if r_2 = 0 then cali (fX5_isNoPlace x2 σ_1) (fun r_6 σ_5 => (if r_6 = 0 then (if x3 = 0 then fX5_onFoot_J38  x1 x2 x3 σ_5 else (if x3 = 1 then fX5_onFoot_J38  x1 x2 x3 σ_5 else cali (fX5_no (-2) σ_5) (fun r_27 σ_26 => some (r_27, σ_26)))) else cali (fX5_no (-1) σ_5) (fun r_29 σ_28 => some (r_29, σ_28)))) else cali (fX5_no (-1) σ_1) (fun r_4 σ_3 => some (r_4, σ_3))))
set_option maxHeartbeats 4000000 in
set_option maxRecDepth 100000 in
theorem wX5_onFoot {p : Program} {l : Launch} {e : Env} {s : State} {m : MethodId} {args : Array Value} {below : List Frame} {meth : Method} {c : Code} {E : EN} (C : zC E mW p s m args meth c cX5_onFoot 8 RX5 (some .int) wsX5_onFoot) {F : Int32 × ST}   (x1 : Int32) (x2 : Int32) (x3 : Int32) (σ : ST) (H : Heap) (locs : List Loc) (ls : Array Slot) (hl : lv_has ls 8 [(0, .ref (ea E 0)), (1, .int x1), (2, .int x2), (3, .int x3)]) (hP : va_P (eD E) vwCl (mW E σ) H) (hS : va_S (eA E) s.heap H locs) (hE : fX5_onFoot  x1 x2 x3 σ = some F) : zWi E mW p l e r_X5_onFoot s m args below meth c F H locs (F0 m 0 ls []) := by
  obtain ⟨hx, hb, hml, hown, hts, hr, hlk, hK, hD⟩ := id C
  unfold fX5_onFoot at hE
  refine lv_aload_n hx hb dX5_onFoot_0 rfl (lv_at hl 0 rfl) ?_
  refine lv_iload_n hx hb dX5_onFoot_1 rfl (lv_at hl 1 rfl) ?_
  refine z_goi (wf := mW) hS hE (fun F1 h1 => (va_runV (As := [.int x1]) (rest := []) ⟨hx, hb, hml, hown, hts⟩ (kX5_isNoPlace l E hD x1 σ F1 h1) (cwV 1 hts gX5_onFoot_X5_isNoPlace rfl rfl rfl q_X5_isNoPlace ⟨Nat.le_of_ble_eq_true rfl, Nat.le_of_ble_eq_true rfl⟩) (z_preV hK hP hS (ci := 5) (q0 := 0) rfl rfl rfl) rfl rfl hl.1 rfl (lv_room (Nat.le_of_ble_eq_true rfl)) dX5_onFoot_2 ⟨Nat.le_of_ble_eq_true rfl, Nat.le_of_ble_eq_true rfl⟩)) (fun r_2 σ_1 H locs hP hS hE => ?_)
  refine z_if_ne (tgt := 16) hx hb dX5_onFoot_5 (by decide) hE (fun hE => ?_) (fun hE => ?_)
  · refine lv_aload_n hx hb dX5_onFoot_16 rfl (lv_at hl 0 rfl) ?_
    refine lv_iconst (v := -1) hx hb dX5_onFoot_17 (by decide) ?_
    refine z_goi (wf := mW) hS hE (fun F1 h1 => (va_runV (As := [.int (-1)]) (rest := []) ⟨hx, hb, hml, hown, hts⟩ (kX5_no l E hD (-1) σ_1 F1 h1) (cwV 1 hts gX5_onFoot_X5_no rfl rfl rfl q_X5_no ⟨Nat.le_of_ble_eq_true rfl, Nat.le_of_ble_eq_true rfl⟩) (z_preV hK hP hS (ci := 5) (q0 := 0) rfl rfl rfl) rfl rfl hl.1 rfl (lv_room (Nat.le_of_ble_eq_true rfl)) dX5_onFoot_18 ⟨Nat.le_of_ble_eq_true rfl, Nat.le_of_ble_eq_true rfl⟩)) (fun r_4 σ_3 H locs hP hS hE => ?_)
    exact z_iret hx hb hr hlk hP hS dX5_onFoot_21 hE
  refine lv_aload_n hx hb dX5_onFoot_8 rfl (lv_at hl 0 rfl) ?_
  refine lv_iload_n hx hb dX5_onFoot_9 rfl (lv_at hl 2 rfl) ?_
  refine z_goi (wf := mW) hS hE (fun F1 h1 => (va_runV (As := [.int x2]) (rest := []) ⟨hx, hb, hml, hown, hts⟩ (kX5_isNoPlace l E hD x2 σ_1 F1 h1) (cwV 1 hts gX5_onFoot_X5_isNoPlace rfl rfl rfl q_X5_isNoPlace ⟨Nat.le_of_ble_eq_true rfl, Nat.le_of_ble_eq_true rfl⟩) (z_preV hK hP hS (ci := 5) (q0 := 0) rfl rfl rfl) rfl rfl hl.1 rfl (lv_room (Nat.le_of_ble_eq_true rfl)) dX5_onFoot_10 ⟨Nat.le_of_ble_eq_true rfl, Nat.le_of_ble_eq_true rfl⟩)) (fun r_6 σ_5 H locs hP hS hE => ?_)
  refine z_if_eq (tgt := 22) hx hb dX5_onFoot_13 (by decide) hE (fun hE => ?_) (fun hE => ?_)
  · refine lv_iload_n hx hb dX5_onFoot_22 rfl (lv_at hl 3 rfl) ?_
    refine z_if_eq (tgt := 38) hx hb dX5_onFoot_23 (by decide) hE (fun hE => ?_) (fun hE => ?_)
    · exact wX5_onFoot_J38 C  x1 x2 x3 σ_5 _ _ _ (lv_sub hl [0, 1, 2, 3] rfl) hP hS hE
    refine lv_iload_n hx hb dX5_onFoot_26 rfl (lv_at hl 3 rfl) ?_
    refine lv_iconst (v := 1) hx hb dX5_onFoot_27 (by decide) ?_
    refine z_icmp_eq (tgt := 38) hx hb dX5_onFoot_28 (by decide) hE (fun hE => ?_) (fun hE => ?_)
    · exact wX5_onFoot_J38 C  x1 x2 x3 σ_5 _ _ _ (lv_sub hl [0, 1, 2, 3] rfl) hP hS hE
    refine lv_aload_n hx hb dX5_onFoot_31 rfl (lv_at hl 0 rfl) ?_
    refine lv_bipush (v := -2) hx hb dX5_onFoot_32 (by decide) ?_
    refine z_goi (wf := mW) hS hE (fun F1 h1 => (va_runV (As := [.int (-2)]) (rest := []) ⟨hx, hb, hml, hown, hts⟩ (kX5_no l E hD (-2) σ_5 F1 h1) (cwV 1 hts gX5_onFoot_X5_no rfl rfl rfl q_X5_no ⟨Nat.le_of_ble_eq_true rfl, Nat.le_of_ble_eq_true rfl⟩) (z_preV hK hP hS (ci := 5) (q0 := 0) rfl rfl rfl) rfl rfl hl.1 rfl (lv_room (Nat.le_of_ble_eq_true rfl)) dX5_onFoot_34 ⟨Nat.le_of_ble_eq_true rfl, Nat.le_of_ble_eq_true rfl⟩)) (fun r_27 σ_26 H locs hP hS hE => ?_)
    exact z_iret hx hb hr hlk hP hS dX5_onFoot_37 hE
  refine lv_aload_n hx hb dX5_onFoot_16 rfl (lv_at hl 0 rfl) ?_
  refine lv_iconst (v := -1) hx hb dX5_onFoot_17 (by decide) ?_
  refine z_goi (wf := mW) hS hE (fun F1 h1 => (va_runV (As := [.int (-1)]) (rest := []) ⟨hx, hb, hml, hown, hts⟩ (kX5_no l E hD (-1) σ_5 F1 h1) (cwV 1 hts gX5_onFoot_X5_no rfl rfl rfl q_X5_no ⟨Nat.le_of_ble_eq_true rfl, Nat.le_of_ble_eq_true rfl⟩) (z_preV hK hP hS (ci := 5) (q0 := 0) rfl rfl rfl) rfl rfl hl.1 rfl (lv_room (Nat.le_of_ble_eq_true rfl)) dX5_onFoot_18 ⟨Nat.le_of_ble_eq_true rfl, Nat.le_of_ble_eq_true rfl⟩)) (fun r_29 σ_28 H locs hP hS hE => ?_)
  exact z_iret hx hb hr hlk hP hS dX5_onFoot_21 hE
theorem kX5_onFoot (l : Launch) (E : EN) (hD : ∀ σ, va_D (eA E) (mW E σ)) (x1 : Int32) (x2 : Int32) (x3 : Int32) (σ : ST) (F : Int32 × ST) (hE : fX5_onFoot x1 x2 x3 σ = some F) : Met l yX5_onFoot wsX5_onFoot r_X5_onFoot (zPc E mW [.ref (ea E 0), .int x1, .int x2, .int x3] σ) (zQi E mW F) 0 0 (eA E) := by
  refine Met.ofW (cc := cX5_onFoot) (maxL := 8) (ret := (some .int)) (by decide) rfl ?_
  intro p e s m args below meth c s₁ B hml hv
  obtain ⟨rfl, hP, hK⟩ := hv
  have hl := lv_entry ([.ref (ea E 0), .int x1, .int x2, .int x3]) (n := 8) (Nat.le_of_ble_eq_true rfl)
  rw [lg_entry_eq]
  generalize (lg_sl ([.ref (ea E 0), .int x1, .int x2, .int x3]) ++ List.replicate (8 - (lg_sl ([.ref (ea E 0), .int x1, .int x2, .int x3])).length) Slot.unset).toArray = ls at hl ⊢
  exact wX5_onFoot ⟨B.exec, B.bytes, hml, findClass_of_methodNamed B.named, atoms_spec (ws := wsX5_onFoot) B.pre, B.returns, B.notSynchronized, hK, hD⟩ x1 x2 x3 σ s.heap [] ls hl hP va_S.rf hE
