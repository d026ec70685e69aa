def fX0_measure_4_L2 (ke : ST → Option (ST)) : Nat → Int32 → ST → Option (ST)
  | 0, _, _ => none
  | n + 1, x2, σ => (if 64 ≤ x2 then ke  σ else ast σ 0 64 x2 (-9) (fun σ_2 => ast σ_2 1 64 x2 (-9) (fun σ_3 => ast σ_3 2 64 x2 (-9) (fun σ_4 => ast σ_4 3 64 x2 (-9) (fun σ_5 => bnd (x2 + 1) (fun x2_6 => fX0_measure_4_L2 ke n x2_6 σ_5))))))
set_option maxHeartbeats 4000000 in
set_option maxRecDepth 100000 in
theorem wX0_measure_4_L2 {p : Program} {l : Launch} {e : Env} {s : State} {m : MethodId} {args : Array Value} {below : List Frame} {meth : Method} {c : Code} {E : EN} (C : zC E xW p s m args meth c cX0_measure 4 RX0 none wsL_law) {F : ST} {ke : ST → Option (ST)} (hke : ∀  (σ : ST) (H : Heap) (locs : List Loc) (ls : Array Slot), lv_has ls 4 [(0, .ref (ea E 2)), (1, .ref (ea E 4))] → va_P (eD E) vwCl (xW E σ) H → va_S (eA E) s.heap H locs → ke  σ = some F → zWv E xW p l e r_X0_measure s m args below meth c F H locs (F0 m 46 ls [])) : ∀ (n : Nat) (x2 : Int32) (σ : ST) (H : Heap) (locs : List Loc) (ls : Array Slot), lv_has ls 4 [(0, .ref (ea E 2)), (1, .ref (ea E 4)), (2, .int x2)] → va_P (eD E) vwCl (xW E σ) H → va_S (eA E) s.heap H locs → fX0_measure_4_L2 ke n x2 σ = some F → zWv E xW p l e r_X0_measure s m args below meth c F H locs (F0 m 2 ls []) := by
  obtain ⟨hx, hb, hml, hown, hts, hr, hlk, hK, hD⟩ := id C
  have hwX0 : ∀ w ∈ wsX00, w.before args s = true := fun w h => hts w (inlX0 w h)
  intro n
  induction n with
  | zero => intro x2 σ H locs ls hl hP hS hE; rw [fX0_measure_4_L2] at hE; cases hE
  | succ n ih =>
    intro x2 σ H locs ls hl hP hS hE
    rw [fX0_measure_4_L2] at hE
    refine lv_iload_n hx hb dX0_measure_2 rfl (lv_at hl 2 rfl) ?_
    refine lv_bipush (v := 64) hx hb dX0_measure_3 (by decide) ?_
    refine z_icmp_ge (tgt := 46) hx hb dX0_measure_5 (by decide) hE (fun hE => ?_) (fun hE => ?_)
    · exact hke  σ _ _ _ (lv_sub hl [0, 1] rfl) hP hS hE
    refine lv_aload_n hx hb dX0_measure_8 rfl (lv_at hl 0 rfl) ?_
    refine xg_2_0 hx hb hown hwX0 (hts _ u_82) hK hP dX0_measure_9 ?_
    refine lv_iload_n hx hb dX0_measure_12 rfl (lv_at hl 2 rfl) ?_
    refine lv_bipush (v := -9) hx hb dX0_measure_13 (by decide) ?_
    refine xs_7 hx hb hK hD hP hS dX0_measure_15 hE (fun σ_2 H locs hP hS hE => ?_)
    refine lv_aload_n hx hb dX0_measure_16 rfl (lv_at hl 0 rfl) ?_
    refine xg_2_1 hx hb hown hwX0 (hts _ u_83) hK hP dX0_measure_17 ?_
    refine lv_iload_n hx hb dX0_measure_20 rfl (lv_at hl 2 rfl) ?_
    refine lv_bipush (v := -9) hx hb dX0_measure_21 (by decide) ?_
    refine xs_8 hx hb hK hD hP hS dX0_measure_23 hE (fun σ_3 H locs hP hS hE => ?_)
    refine lv_aload_n hx hb dX0_measure_24 rfl (lv_at hl 0 rfl) ?_
    refine xg_2_2 hx hb hown hwX0 (hts _ u_84) hK hP dX0_measure_25 ?_
    refine lv_iload_n hx hb dX0_measure_28 rfl (lv_at hl 2 rfl) ?_
    refine lv_bipush (v := -9) hx hb dX0_measure_29 (by decide) ?_
    refine xs_9 hx hb hK hD hP hS dX0_measure_31 hE (fun σ_4 H locs hP hS hE => ?_)
    refine lv_aload_n hx hb dX0_measure_32 rfl (lv_at hl 0 rfl) ?_
    refine xg_2_3 hx hb hown hwX0 (hts _ u_85) hK hP dX0_measure_33 ?_
    refine lv_iload_n hx hb dX0_measure_36 rfl (lv_at hl 2 rfl) ?_
    refine lv_bipush (v := -9) hx hb dX0_measure_37 (by decide) ?_
    refine xs_10 hx hb hK hD hP hS dX0_measure_39 hE (fun σ_5 H locs hP hS hE => ?_)
    refine z_iinc hx hb (v := (x2 + 1)) (k := 2) (fun x2_6 => [(2, .int x2_6), (0, .ref (ea E 2)), (1, .ref (ea E 4))]) dX0_measure_40 hl rfl (by rfl) (by decide) rfl hE (fun x2_6 ls hl hE => ?_)
    refine lv_goto (tgt := 2) hx hb dX0_measure_43 (by decide) ?_
    exact ih x2_6 σ_5 _ _ _ (lv_sub hl [1, 2, 0] rfl) hP hS hE
def fX0_measure_4_L70 (ke : Int32 → ST → Option (ST)) : Nat → Int32 → Int32 → ST → Option (ST)
  | 0, _, _, _ => none
  | n + 1, x2, x3, σ => (if 64 ≤ x3 then ke x2 σ else calv (fX0_keepIfNearer x3 x2 σ) (fun σ_12 => bnd (x3 + 1) (fun x3_13 => fX0_measure_4_L70 ke n x2 x3_13 σ_12)))
set_option maxHeartbeats 4000000 in
set_option maxRecDepth 100000 in
theorem wX0_measure_4_L70 {p : Program} {l : Launch} {e : Env} {s : State} {m : MethodId} {args : Array Value} {below : List Frame} {meth : Method} {c : Code} {E : EN} (C : zC E xW p s m args meth c cX0_measure 4 RX0 none wsL_law) {F : ST} {ke : Int32 → ST → Option (ST)} (hke : ∀ (x2 : Int32) (σ : ST) (H : Heap) (locs : List Loc) (ls : Array Slot), lv_has ls 4 [(0, .ref (ea E 2)), (1, .ref (ea E 4)), (2, .int x2)] → va_P (eD E) vwCl (xW E σ) H → va_S (eA E) s.heap H locs → ke x2 σ = some F → zWv E xW p l e r_X0_measure s m args below meth c F H locs (F0 m 88 ls [])) : ∀ (n : Nat) (x2 : Int32) (x3 : Int32) (σ : ST) (H : Heap) (locs : List Loc) (ls : Array Slot), lv_has ls 4 [(0, .ref (ea E 2)), (1, .ref (ea E 4)), (2, .int x2), (3, .int x3)] → va_P (eD E) vwCl (xW E σ) H → va_S (eA E) s.heap H locs → fX0_measure_4_L70 ke n x2 x3 σ = some F → zWv E xW p l e r_X0_measure s m args below meth c F H locs (F0 m 70 ls []) := by
  obtain ⟨hx, hb, hml, hown, hts, hr, hlk, hK, hD⟩ := id C
  intro n
  induction n with
  | zero => intro x2 x3 σ H locs ls hl hP hS hE; rw [fX0_measure_4_L70] at hE; cases hE
  | succ n ih =>
    intro x2 x3 σ H locs ls hl hP hS hE
    rw [fX0_measure_4_L70] at hE
    refine lv_iload_n hx hb dX0_measure_70 rfl (lv_at hl 3 rfl) ?_
    refine lv_bipush (v := 64) hx hb dX0_measure_71 (by decide) ?_
    refine z_icmp_ge (tgt := 88) hx hb dX0_measure_73 (by decide) hE (fun hE => ?_) (fun hE => ?_)
    · exact hke x2 σ _ _ _ (lv_sub hl [0, 1, 2] rfl) hP hS hE
    refine lv_aload_n hx hb dX0_measure_76 rfl (lv_at hl 0 rfl) ?_
    refine lv_iload_n hx hb dX0_measure_77 rfl (lv_at hl 3 rfl) ?_
    refine lv_iload_n hx hb dX0_measure_78 rfl (lv_at hl 2 rfl) ?_
    refine z_gov (wf := xW) hS hE (fun F1 h1 => (va_runV (As := [.int x3, .int x2]) (rest := []) ⟨hx, hb, hml, hown, hts⟩ (kX0_keepIfNearer l E hD x3 x2 σ F1 h1) (cwV 2 hts (gU_V u_334 u_335 u_336 u_43 u_337) rfl rfl rfl q_X0_keepIfNearer ⟨Nat.le_of_ble_eq_true rfl, Nat.le_of_ble_eq_true rfl⟩) (z_preV hK hP hS (ci := 0) (q0 := 2) rfl rfl rfl) rfl rfl hl.1 rfl (lv_room (Nat.le_of_ble_eq_true rfl)) dX0_measure_79 ⟨Nat.le_of_ble_eq_true rfl, Nat.le_of_ble_eq_true rfl⟩)) (fun σ_12 H locs hP hS hE => ?_)
    refine z_iinc hx hb (v := (x3 + 1)) (k := 3) (fun x3_13 => [(3, .int x3_13), (0, .ref (ea E 2)), (1, .ref (ea E 4)), (2, .int x2)]) dX0_measure_82 hl rfl (by rfl) (by decide) rfl hE (fun x3_13 ls hl hE => ?_)
    refine lv_goto (tgt := 70) hx hb dX0_measure_85 (by decide) ?_
    exact ih x2 x3_13 σ_12 _ _ _ (lv_sub hl [1, 2, 3, 0] rfl) hP hS hE
def fX0_measure_4_L48 (ke : ST → Option (ST)) : Nat → Int32 → ST → Option (ST)
  | 0, _, _ => none
  | n + 1, x2, σ => (if 9 < x2 then ke  σ else calv (fX0_layWays_4 x2 σ) (fun σ_9 => calv (fX0_shorten (gI σ_9 3) σ_9) (fun σ_10 => bnd (0 : Int32) (fun x3_11 => fX0_measure_4_L70 (fun x2_14 σ_15 => bnd (x2_14 + 1) (fun x2_16 => fX0_measure_4_L48 ke n x2_16 σ_15)) FU x2 x3_11 σ_10))))
set_option maxHeartbeats 4000000 in
set_option maxRecDepth 100000 in
theorem wX0_measure_4_L48 {p : Program} {l : Launch} {e : Env} {s : State} {m : MethodId} {args : Array Value} {below : List Frame} {meth : Method} {c : Code} {E : EN} (C : zC E xW p s m args meth c cX0_measure 4 RX0 none wsL_law) {F : ST} {ke : ST → Option (ST)} (hke : ∀  (σ : ST) (H : Heap) (locs : List Loc) (ls : Array Slot), lv_has ls 4 [] → va_P (eD E) vwCl (xW E σ) H → va_S (eA E) s.heap H locs → ke  σ = some F → zWv E xW p l e r_X0_measure s m args below meth c F H locs (F0 m 94 ls [])) : ∀ (n : Nat) (x2 : Int32) (σ : ST) (H : Heap) (locs : List Loc) (ls : Array Slot), lv_has ls 4 [(0, .ref (ea E 2)), (1, .ref (ea E 4)), (2, .int x2)] → va_P (eD E) vwCl (xW E σ) H → va_S (eA E) s.heap H locs → fX0_measure_4_L48 ke n x2 σ = some F → zWv E xW p l e r_X0_measure s m args below meth c F H locs (F0 m 48 ls []) := by
  obtain ⟨hx, hb, hml, hown, hts, hr, hlk, hK, hD⟩ := id C
  have hwX2 : ∀ w ∈ wsX20, w.before args s = true := fun w h => hts w (inlX2 w h)
  intro n
  induction n with
  | zero => intro x2 σ H locs ls hl hP hS hE; rw [fX0_measure_4_L48] at hE; cases hE
  | succ n ih =>
    intro x2 σ H locs ls hl hP hS hE
    rw [fX0_measure_4_L48] at hE
    refine lv_iload_n hx hb dX0_measure_48 rfl (lv_at hl 2 rfl) ?_
    refine lv_bipush (v := 9) hx hb dX0_measure_49 (by decide) ?_
    refine z_icmp_gt (tgt := 94) hx hb dX0_measure_51 (by decide) hE (fun hE => ?_) (fun hE => ?_)
    · exact hke  σ _ _ _ (lv_sub hl [] rfl) hP hS hE
    refine lv_aload_n hx hb dX0_measure_54 rfl (lv_at hl 0 rfl) ?_
    refine lv_aload_n hx hb dX0_measure_55 rfl (lv_at hl 1 rfl) ?_
    refine lv_iload_n hx hb dX0_measure_56 rfl (lv_at hl 2 rfl) ?_
    refine z_gov (wf := xW) hS hE (fun F1 h1 => (va_runV (As := [.ref (ea E 4), .int x2]) (rest := []) ⟨hx, hb, hml, hown, hts⟩ (kX0_layWays_4 l E hD x2 σ F1 h1) (cwV 2 hts (gU_V u_320 u_321 u_322 u_43 u_323) rfl rfl rfl q_X0_layWays ⟨Nat.le_of_ble_eq_true rfl, Nat.le_of_ble_eq_true rfl⟩) (z_preV hK hP hS (ci := 0) (q0 := 2) rfl rfl rfl) rfl rfl hl.1 rfl (lv_room (Nat.le_of_ble_eq_true rfl)) dX0_measure_57 ⟨Nat.le_of_ble_eq_true rfl, Nat.le_of_ble_eq_true rfl⟩)) (fun σ_9 H locs hP hS hE => ?_)
    refine lv_aload_n hx hb dX0_measure_60 rfl (lv_at hl 0 rfl) ?_
    refine lv_aload_n hx hb dX0_measure_61 rfl (lv_at hl 1 rfl) ?_
    refine xg_4_11 hx hb hown hwX2 (hts _ u_319) hK hP dX0_measure_62 ?_
    refine z_gov (wf := xW) hS hE (fun F1 h1 => (va_runV (As := [.int (gI σ_9 3)]) (rest := []) ⟨hx, hb, hml, hown, hts⟩ (kX0_shorten l E hD (gI σ_9 3) σ_9 F1 h1) (cwV 1 hts (gU_V u_330 u_331 u_332 u_43 u_333) rfl rfl rfl q_X0_shorten ⟨Nat.le_of_ble_eq_true rfl, Nat.le_of_ble_eq_true rfl⟩) (z_preV hK hP hS (ci := 0) (q0 := 2) rfl rfl rfl) rfl rfl hl.1 rfl (lv_room (Nat.le_of_ble_eq_true rfl)) dX0_measure_65 ⟨Nat.le_of_ble_eq_true rfl, Nat.le_of_ble_eq_true rfl⟩)) (fun σ_10 H locs hP hS hE => ?_)
    refine lv_iconst (v := 0) hx hb dX0_measure_68 (by decide) ?_
    refine z_istore_n hx hb (fun x3_11 => [(3, .int x3_11), (0, .ref (ea E 2)), (1, .ref (ea E 4)), (2, .int x2)]) dX0_measure_69 rfl hl (by decide) rfl hE (fun x3_11 ls hl hE => ?_)
    refine wX0_measure_4_L70 C ?_ FU x2 x3_11 σ_10 _ _ _ (lv_sub hl [1, 2, 3, 0] rfl) hP hS hE
    intro x2_14 σ_15 H locs ls hl hP hS hE
    refine z_iinc hx hb (v := (x2_14 + 1)) (k := 2) (fun x2_16 => [(2, .int x2_16), (0, .ref (ea E 2)), (1, .ref (ea E 4))]) dX0_measure_88 hl rfl (by rfl) (by decide) rfl hE (fun x2_16 ls hl hE => ?_)
    refine lv_goto (tgt := 48) hx hb dX0_measure_91 (by decide) ?_
    exact ih x2_16 σ_15 _ _ _ (lv_sub hl [1, 2, 0] rfl) hP hS hE
def fX0_measure_4   (σ : ST) : Option (ST) :=
  bnd (0 : Int32) (fun x2_1 => fX0_measure_4_L2 (fun σ_7 => bnd (0 : Int32) (fun x2_8 => fX0_measure_4_L48 (fun σ_17 => some σ_17) FU x2_8 σ_7)) FU x2_1 σ)
set_option maxHeartbeats 4000000 in
set_option maxRecDepth 100000 in
theorem wX0_measure_4 {p : Program} {l : Launch} {e : Env} {s : State} {m : MethodId} {args : Array Value} {below : List Frame} {meth : Method} {c : Code} {E : EN} (C : zC E xW p s m args meth c cX0_measure 4 RX0 none wsL_law) {F : ST}    (σ : ST) (H : Heap) (locs : List Loc) (ls : Array Slot) (hl : lv_has ls 4 [(0, .ref (ea E 2)), (1, .ref (ea E 4))]) (hP : va_P (eD E) vwCl (xW E σ) H) (hS : va_S (eA E) s.heap H locs) (hE : fX0_measure_4   σ = some F) : zWv E xW p l e r_X0_measure s m args below meth c F H locs (F0 m 0 ls []) := by
  obtain ⟨hx, hb, hml, hown, hts, hr, hlk, hK, hD⟩ := id C
  unfold fX0_measure_4 at hE
  refine lv_iconst (v := 0) hx hb dX0_measure_0 (by decide) ?_
  refine z_istore_n hx hb (fun x2_1 => [(2, .int x2_1), (0, .ref (ea E 2)), (1, .ref (ea E 4))]) dX0_measure_1 rfl hl (by decide) rfl hE (fun x2_1 ls hl hE => ?_)
  refine wX0_measure_4_L2 C ?_ FU x2_1 σ _ _ _ (lv_sub hl [1, 2, 0] rfl) hP hS hE
  intro σ_7 H locs ls hl hP hS hE
  refine lv_iconst (v := 0) hx hb dX0_measure_46 (by decide) ?_
  refine z_istore_n hx hb (fun x2_8 => [(2, .int x2_8), (0, .ref (ea E 2)), (1, .ref (ea E 4))]) dX0_measure_47 rfl hl (by decide) rfl hE (fun x2_8 ls hl hE => ?_)
  refine wX0_measure_4_L48 C ?_ FU x2_8 σ_7 _ _ _ (lv_sub hl [1, 2, 0] rfl) hP hS hE
  intro σ_17 H locs ls hl hP hS hE
  exact z_vret hx hb hr hlk hP hS dX0_measure_94 hE
theorem kX0_measure_4 (l : Launch) (E : EN) (hD : ∀ σ, va_D (eA E) (xW E σ))  (σ : ST) (F : ST) (hE : fX0_measure_4  σ = some F) : Met l yX0_measure wu_X0_measure r_X0_measure (zPc E xW [.ref (ea E 2), .ref (ea E 4)] σ) (zQv E xW F) 0 0 (eA E) := by
  refine Met.ofW (cc := cX0_measure) (maxL := 4) (ret := none) (by decide) rfl ?_
  intro p e s m args below meth c s₁ B hml hv
  obtain ⟨rfl, hP, hK⟩ := hv
  have hl := lv_entry ([.ref (ea E 2), .ref (ea E 4)]) (n := 4) (Nat.le_of_ble_eq_true rfl)
  rw [lg_entry_eq]
  generalize (lg_sl ([.ref (ea E 2), .ref (ea E 4)]) ++ List.replicate (4 - (lg_sl ([.ref (ea E 2), .ref (ea E 4)])).length) Slot.unset).toArray = ls at hl ⊢
  exact wX0_measure_4 ⟨B.exec, B.bytes, hml, findClass_of_methodNamed B.named, fun w h => atoms_spec (ws := wu_X0_measure) B.pre w (List.mem_cons_of_mem _ h), B.returns, B.notSynchronized, hK, hD⟩  σ s.heap [] ls hl hP va_S.rf hE
def fX4_refuse  (x1 : Int32) (σ : ST) : Option (Int32 × ST) :=
  bnd ((-x1) : Int32) (fun x2_1 => (if x2_1 < 1 then some (x1, σ) else (if 7 ≤ x2_1 then some (x1, σ) else ald (gA σ 46) 7 x2_1 (fun v_2 => ast σ 46 7 x2_1 (v_2 + 1) (fun σ_3 => some (x1, σ_3))))))
set_option maxHeartbeats 4000000 in
set_option maxRecDepth 100000 in
theorem wX4_refuse {p : Program} {l : Launch} {e : Env} {s : State} {m : MethodId} {args : Array Value} {below : List Frame} {meth : Method} {c : Code} {E : EN} (C : zC E xW p s m args meth c cX4_refuse 3 RX4 (some .int) wsL_law) {F : Int32 × ST}   (x1 : Int32) (σ : ST) (H : Heap) (locs : List Loc) (ls : Array Slot) (hl : lv_has ls 3 [(0, .ref (ea E 0)), (1, .int x1)]) (hP : va_P (eD E) vwCl (xW E σ) H) (hS : va_S (eA E) s.heap H locs) (hE : fX4_refuse  x1 σ = some F) : zWi E xW p l e r_X4_refuse s m args below meth c F H locs (F0 m 0 ls []) := by
  obtain ⟨hx, hb, hml, hown, hts, hr, hlk, hK, hD⟩ := id C
  have hwX4 : ∀ w ∈ wsX40, w.before args s = true := fun w h => hts w (inlX4 w h)
  unfold fX4_refuse at hE
  refine lv_iload_n hx hb dX4_refuse_0 rfl (lv_at hl 1 rfl) ?_
  refine lv_ineg hx hb dX4_refuse_1 ?_
  refine z_istore_n hx hb (fun x2_1 => [(2, .int x2_1), (0, .ref (ea E 0)), (1, .int x1)]) dX4_refuse_2 rfl hl (by decide) rfl hE (fun x2_1 ls hl hE => ?_)
  refine lv_iload_n hx hb dX4_refuse_3 rfl (lv_at hl 0 rfl) ?_
  refine lv_iconst (v := 1) hx hb dX4_refuse_4 (by decide) ?_
  refine z_icmp_lt (tgt := 27) hx hb dX4_refuse_5 (by decide) hE (fun hE => ?_) (fun hE => ?_)
  · refine lv_iload_n hx hb dX4_refuse_27 rfl (lv_at hl 2 rfl) ?_
    exact z_iret hx hb hr hlk hP hS dX4_refuse_28 hE
  refine lv_iload_n hx hb dX4_refuse_8 rfl (lv_at hl 0 rfl) ?_
  refine lv_aload_n hx hb dX4_refuse_9 rfl (lv_at hl 1 rfl) ?_
  refine xg_0_9 hx hb hown hwX4 (hts _ u_33) hK hP dX4_refuse_10 ?_
  refine xn_53 hx hb hK hP dX4_refuse_13 ?_
  refine z_icmp_ge (tgt := 27) hx hb dX4_refuse_14 (by decide) hE (fun hE => ?_) (fun hE => ?_)
  · refine lv_iload_n hx hb dX4_refuse_27 rfl (lv_at hl 2 rfl) ?_
    exact z_iret hx hb hr hlk hP hS dX4_refuse_28 hE
  refine lv_aload_n hx hb dX4_refuse_17 rfl (lv_at hl 1 rfl) ?_
  refine xg_0_9 hx hb hown hwX4 (hts _ u_33) hK hP dX4_refuse_18 ?_
  refine lv_iload_n hx hb dX4_refuse_21 rfl (lv_at hl 0 rfl) ?_
  refine lv_dup2_11 hx hb dX4_refuse_22 rfl rfl ?_
  refine xa_53 hx hb hK hP dX4_refuse_23 hE (fun v_2 hE => ?_)
  refine lv_iconst (v := 1) hx hb dX4_refuse_24 (by decide) ?_
  refine lv_iadd hx hb dX4_refuse_25 ?_
  refine xs_53 hx hb hK hD hP hS dX4_refuse_26 hE (fun σ_3 H locs hP hS hE => ?_)
  refine lv_iload_n hx hb dX4_refuse_27 rfl (lv_at hl 2 rfl) ?_
  exact z_iret hx hb hr hlk hP hS dX4_refuse_28 hE
theorem kX4_refuse (l : Launch) (E : EN) (hD : ∀ σ, va_D (eA E) (xW E σ)) (x1 : Int32) (σ : ST) (F : Int32 × ST) (hE : fX4_refuse x1 σ = some F) : Met l yX4_refuse wu_X4_refuse r_X4_refuse (zPc E xW [.ref (ea E 0), .int x1] σ) (zQi E xW F) 0 0 (eA E) := by
  refine Met.ofW (cc := cX4_refuse) (maxL := 3) (ret := (some .int)) (by decide) rfl ?_
  intro p e s m args below meth c s₁ B hml hv
  obtain ⟨rfl, hP, hK⟩ := hv
  have hl := lv_entry ([.ref (ea E 0), .int x1]) (n := 3) (Nat.le_of_ble_eq_true rfl)
  rw [lg_entry_eq]
  generalize (lg_sl ([.ref (ea E 0), .int x1]) ++ List.replicate (3 - (lg_sl ([.ref (ea E 0), .int x1])).length) Slot.unset).toArray = ls at hl ⊢
  exact wX4_refuse ⟨B.exec, B.bytes, hml, findClass_of_methodNamed B.named, fun w h => atoms_spec (ws := wu_X4_refuse) B.pre w (List.mem_cons_of_mem _ h), B.returns, B.notSynchronized, hK, hD⟩ x1 σ s.heap [] ls hl hP va_S.rf hE
def fX4_on   (σ : ST) : Option (Int32 × ST) :=
  (if (gI σ 1) = 0 then cali (fX4_refuse (-3) σ) (fun r_4 σ_3 => some (r_4, σ_3)) else calv (fX2_becomeLike_4_5 σ) (fun σ_1 => calv (fX0_measure_4 σ_1) (fun σ_2 => some ((gI σ_2 3), σ_2))))
set_option maxHeartbeats 4000000 in
set_option maxRecDepth 100000 in
theorem wX4_on {p : Program} {l : Launch} {e : Env} {s : State} {m : MethodId} {args : Array Value} {below : List Frame} {meth : Method} {c : Code} {E : EN} (C : zC E xW p s m args meth c cX4_on 1 RX4 (some .int) wsL_law) {F : Int32 × ST}    (σ : ST) (H : Heap) (locs : List Loc) (ls : Array Slot) (hl : lv_has ls 1 [(0, .ref (ea E 0))]) (hP : va_P (eD E) vwCl (xW E σ) H) (hS : va_S (eA E) s.heap H locs) (hE : fX4_on   σ = some F) : zWi E xW p l e r_X4_on s m args below meth c F H locs (F0 m 0 ls []) := by
  obtain ⟨hx, hb, hml, hown, hts, hr, hlk, hK, hD⟩ := id C
  have hwX2 : ∀ w ∈ wsX20, w.before args s = true := fun w h => hts w (inlX2 w h)
  have hwX4 : ∀ w ∈ wsX40, w.before args s = true := fun w h => hts w (inlX4 w h)
  unfold fX4_on at hE
  refine lv_aload_n hx hb dX4_on_0 rfl (lv_at hl 0 rfl) ?_
  refine xg_0_11 hx hb hown hwX4 (hts _ u_35) hK hP dX4_on_1 ?_
  refine z_if_ne (tgt := 14) hx hb dX4_on_4 (by decide) hE (fun hE => ?_) (fun hE => ?_)
  · refine lv_aload_n hx hb dX4_on_14 rfl (lv_at hl 0 rfl) ?_
    refine xg_0_1 hx hb hown hwX4 (hts _ u_17) hK hP dX4_on_15 ?_
    refine lv_aload_n hx hb dX4_on_18 rfl (lv_at hl 0 rfl) ?_
    refine xg_0_3 hx hb hown hwX4 (hts _ u_23) hK hP dX4_on_19 ?_
    refine z_gov (wf := xW) hS hE (fun F1 h1 => (va_runV (As := [.ref (ea E 5)]) (rest := []) ⟨hx, hb, hml, hown, hts⟩ (kX2_becomeLike_4_5 l E hD  σ F1 h1) (cwV 1 hts (gU_V u_267 u_268 u_269 u_22 u_270) rfl rfl rfl q_X2_becomeLike ⟨Nat.le_of_ble_eq_true rfl, Nat.le_of_ble_eq_true rfl⟩) (z_preV hK hP hS (ci := 2) (q0 := 4) rfl rfl rfl) rfl rfl hl.1 rfl (lv_room (Nat.le_of_ble_eq_true rfl)) dX4_on_22 ⟨Nat.le_of_ble_eq_true rfl, Nat.le_of_ble_eq_true rfl⟩)) (fun σ_1 H locs hP hS hE => ?_)
    refine lv_aload_n hx hb dX4_on_25 rfl (lv_at hl 0 rfl) ?_
    refine xg_0_2 hx hb hown hwX4 (hts _ u_19) hK hP dX4_on_26 ?_
    refine lv_aload_n hx hb dX4_on_29 rfl (lv_at hl 0 rfl) ?_
    refine xg_0_1 hx hb hown hwX4 (hts _ u_17) hK hP dX4_on_30 ?_
    refine z_gov (wf := xW) hS hE (fun F1 h1 => (va_runV (As := [.ref (ea E 4)]) (rest := []) ⟨hx, hb, hml, hown, hts⟩ (kX0_measure_4 l E hD  σ_1 F1 h1) (cwV 1 hts (gU_V u_315 u_316 u_317 u_43 u_318) rfl rfl rfl q_X0_measure ⟨Nat.le_of_ble_eq_true rfl, Nat.le_of_ble_eq_true rfl⟩) (z_preV hK hP hS (ci := 0) (q0 := 2) rfl rfl rfl) rfl rfl hl.1 rfl (lv_room (Nat.le_of_ble_eq_true rfl)) dX4_on_33 ⟨Nat.le_of_ble_eq_true rfl, Nat.le_of_ble_eq_true rfl⟩)) (fun σ_2 H locs hP hS hE => ?_)
    refine lv_aload_n hx hb dX4_on_36 rfl (lv_at hl 0 rfl) ?_
    refine xg_0_1 hx hb hown hwX4 (hts _ u_17) hK hP dX4_on_37 ?_
    refine xg_4_11 hx hb hown hwX2 (hts _ u_387) hK hP dX4_on_40 ?_
    exact z_iret hx hb hr hlk hP hS dX4_on_43 hE
  refine lv_aload_n hx hb dX4_on_7 rfl (lv_at hl 0 rfl) ?_
  refine lv_bipush (v := -3) hx hb dX4_on_8 (by decide) ?_
  refine z_goi (wf := xW) hS hE (fun F1 h1 => (va_runV (As := [.int (-3)]) (rest := []) ⟨hx, hb, hml, hown, hts⟩ (kX4_refuse l E hD (-3) σ F1 h1) (cwV 1 hts (gU_V u_118 u_119 u_120 u_2 u_121) rfl rfl rfl q_X4_refuse ⟨Nat.le_of_ble_eq_true rfl, Nat.le_of_ble_eq_true rfl⟩) (z_preV hK hP hS (ci := 4) (q0 := 0) rfl rfl rfl) rfl rfl hl.1 rfl (lv_room (Nat.le_of_ble_eq_true rfl)) dX4_on_10 ⟨Nat.le_of_ble_eq_true rfl, Nat.le_of_ble_eq_true rfl⟩)) (fun r_4 σ_3 H locs hP hS hE => ?_)
  exact z_iret hx hb hr hlk hP hS dX4_on_13 hE
theorem kX4_on (l : Launch) (E : EN) (hD : ∀ σ, va_D (eA E) (xW E σ))  (σ : ST) (F : Int32 × ST) (hE : fX4_on  σ = some F) : Met l yX4_on wu_X4_on r_X4_on (zPc E xW [.ref (ea E 0)] σ) (zQi E xW F) 0 0 (eA E) := by
  refine Met.ofW (cc := cX4_on) (maxL := 1) (ret := (some .int)) (by decide) rfl ?_
  intro p e s m args below meth c s₁ B hml hv
  obtain ⟨rfl, hP, hK⟩ := hv
  have hl := lv_entry ([.ref (ea E 0)]) (n := 1) (Nat.le_of_ble_eq_true rfl)
  rw [lg_entry_eq]
  generalize (lg_sl ([.ref (ea E 0)]) ++ List.replicate (1 - (lg_sl ([.ref (ea E 0)])).length) Slot.unset).toArray = ls at hl ⊢
  exact wX4_on ⟨B.exec, B.bytes, hml, findClass_of_methodNamed B.named, fun w h => atoms_spec (ws := wu_X4_on) B.pre w (List.mem_cons_of_mem _ h), B.returns, B.notSynchronized, hK, hD⟩  σ s.heap [] ls hl hP va_S.rf hE
def fX1_take  (x1 : Int32) (σ : ST) : Option (Int32 × ST) :=
  (if 96 ≤ (gI σ 2) then some ((gI σ 2), σ) else ast σ 5 96 (gI σ 2) x1 (fun σ_1 => bnd (sI σ_1 2 ((gI σ_1 2) + 1)) (fun σ_2 => some ((gI σ_2 2), σ_2))))
set_option maxHeartbeats 4000000 in
set_option maxRecDepth 100000 in
theorem wX1_take {p : Program} {l : Launch} {e : Env} {s : State} {m : MethodId} {args : Array Value} {below : List Frame} {meth : Method} {c : Code} {E : EN} (C : zC E xW p s m args meth c cX1_take 2 RX1 (some .int) wsL_law) {F : Int32 × ST}   (x1 : Int32) (σ : ST) (H : Heap) (locs : List Loc) (ls : Array Slot) (hl : lv_has ls 2 [(0, .ref (ea E 3)), (1, .int x1)]) (hP : va_P (eD E) vwCl (xW E σ) H) (hS : va_S (eA E) s.heap H locs) (hE : fX1_take  x1 σ = some F) : zWi E xW p l e r_X1_take s m args below meth c F H locs (F0 m 0 ls []) := by
  obtain ⟨hx, hb, hml, hown, hts, hr, hlk, hK, hD⟩ := id C
  have hwX1 : ∀ w ∈ wsX10, w.before args s = true := fun w h => hts w (inlX1 w h)
  unfold fX1_take at hE
  refine lv_aload_n hx hb dX1_take_0 rfl (lv_at hl 0 rfl) ?_
  refine xg_3_1 hx hb hown hwX1 (hts _ u_91) hK hP dX1_take_1 ?_
  refine lv_bipush (v := 96) hx hb dX1_take_4 (by decide) ?_
  refine z_icmp_ge (tgt := 29) hx hb dX1_take_6 (by decide) hE (fun hE => ?_) (fun hE => ?_)
  · refine lv_aload_n hx hb dX1_take_29 rfl (lv_at hl 0 rfl) ?_
    refine xg_3_1 hx hb hown hwX1 (hts _ u_91) hK hP dX1_take_30 ?_
    exact z_iret hx hb hr hlk hP hS dX1_take_33 hE
  refine lv_aload_n hx hb dX1_take_9 rfl (lv_at hl 0 rfl) ?_
  refine xg_3_0 hx hb hown hwX1 (hts _ u_90) hK hP dX1_take_10 ?_
  refine lv_aload_n hx hb dX1_take_13 rfl (lv_at hl 0 rfl) ?_
  refine xg_3_1 hx hb hown hwX1 (hts _ u_91) hK hP dX1_take_14 ?_
  refine lv_iload_n hx hb dX1_take_17 rfl (lv_at hl 1 rfl) ?_
  refine xs_12 hx hb hK hD hP hS dX1_take_18 hE (fun σ_1 H locs hP hS hE => ?_)
  refine lv_aload_n hx hb dX1_take_19 rfl (lv_at hl 0 rfl) ?_
  refine lv_dup hx hb dX1_take_20 rfl ?_
  refine xg_3_1 hx hb hown hwX1 (hts _ u_91) hK hP dX1_take_21 ?_
  refine lv_iconst (v := 1) hx hb dX1_take_24 (by decide) ?_
  refine lv_iadd hx hb dX1_take_25 ?_
  refine xp_3_1 hx hb hown hwX1 (hts _ u_91) hK hD hP hS dX1_take_26 hE (fun σ_2 H locs hP hS hE => ?_)
  refine lv_aload_n hx hb dX1_take_29 rfl (lv_at hl 0 rfl) ?_
  refine xg_3_1 hx hb hown hwX1 (hts _ u_91) hK hP dX1_take_30 ?_
  exact z_iret hx hb hr hlk hP hS dX1_take_33 hE
theorem kX1_take (l : Launch) (E : EN) (hD : ∀ σ, va_D (eA E) (xW E σ)) (x1 : Int32) (σ : ST) (F : Int32 × ST) (hE : fX1_take x1 σ = some F) : Met l yX1_take wu_X1_take r_X1_take (zPc E xW [.ref (ea E 3), .int x1] σ) (zQi E xW F) 0 0 (eA E) := by
  refine Met.ofW (cc := cX1_take) (maxL := 2) (ret := (some .int)) (by decide) rfl ?_
  intro p e s m args below meth c s₁ B hml hv
  obtain ⟨rfl, hP, hK⟩ := hv
  have hl := lv_entry ([.ref (ea E 3), .int x1]) (n := 2) (Nat.le_of_ble_eq_true rfl)
  rw [lg_entry_eq]
  generalize (lg_sl ([.ref (ea E 3), .int x1]) ++ List.replicate (2 - (lg_sl ([.ref (ea E 3), .int x1])).length) Slot.unset).toArray = ls at hl ⊢
  exact wX1_take ⟨B.exec, B.bytes, hml, findClass_of_methodNamed B.named, fun w h => atoms_spec (ws := wu_X1_take) B.pre w (List.mem_cons_of_mem _ h), B.returns, B.notSynchronized, hK, hD⟩ x1 σ s.heap [] ls hl hP va_S.rf hE
def fX4_letter  (x1 : Int32) (σ : ST) : Option (Int32 × ST) :=
  (if 0 ≤ x1 then (if 255 < x1 then cali (fX4_refuse (-6) σ) (fun r_2 σ_1 => some (r_2, σ_1)) else (if (gI σ 2) < 96 then cali (fX1_take x1 σ) (fun r_4 σ_3 => some (r_4, σ_3)) else cali (fX4_refuse (-6) σ) (fun r_6 σ_5 => some (r_6, σ_5)))) else cali (fX4_refuse (-4) σ) (fun r_8 σ_7 => some (r_8, σ_7)))
set_option maxHeartbeats 4000000 in
set_option maxRecDepth 100000 in
theorem wX4_letter {p : Program} {l : Launch} {e : Env} {s : State} {m : MethodId} {args : Array Value} {below : List Frame} {meth : Method} {c : Code} {E : EN} (C : zC E xW p s m args meth c cX4_letter 2 RX4 (some .int) wsL_law) {F : Int32 × ST}   (x1 : Int32) (σ : ST) (H : Heap) (locs : List Loc) (ls : Array Slot) (hl : lv_has ls 2 [(0, .ref (ea E 0)), (1, .int x1)]) (hP : va_P (eD E) vwCl (xW E σ) H) (hS : va_S (eA E) s.heap H locs) (hE : fX4_letter  x1 σ = some F) : zWi E xW p l e r_X4_letter s m args below meth c F H locs (F0 m 0 ls []) := by
  obtain ⟨hx, hb, hml, hown, hts, hr, hlk, hK, hD⟩ := id C
  have hwX1 : ∀ w ∈ wsX10, w.before args s = true := fun w h => hts w (inlX1 w h)
  have hwX4 : ∀ w ∈ wsX40, w.before args s = true := fun w h => hts w (inlX4 w h)
  unfold fX4_letter at hE
  refine lv_iload_n hx hb dX4_letter_0 rfl (lv_at hl 1 rfl) ?_
  refine z_if_ge (tgt := 11) hx hb dX4_letter_1 (by decide) hE (fun hE => ?_) (fun hE => ?_)
  · refine lv_iload_n hx hb dX4_letter_11 rfl (lv_at hl 1 rfl) ?_
    refine lv_sipush (v := 255) hx hb dX4_letter_12 (by decide) ?_
    refine z_icmp_gt (tgt := 30) hx hb dX4_letter_15 (by decide) hE (fun hE => ?_) (fun hE => ?_)
    · refine lv_aload_n hx hb dX4_letter_30 rfl (lv_at hl 0 rfl) ?_
      refine lv_bipush (v := -6) hx hb dX4_letter_31 (by decide) ?_
      refine z_goi (wf := xW) hS hE (fun F1 h1 => (va_runV (As := [.int (-6)]) (rest := []) ⟨hx, hb, hml, hown, hts⟩ (kX4_refuse l E hD (-6) σ F1 h1) (cwV 1 hts (gU_V u_118 u_119 u_120 u_2 u_121) rfl rfl rfl q_X4_refuse ⟨Nat.le_of_ble_eq_true rfl, Nat.le_of_ble_eq_true rfl⟩) (z_preV hK hP hS (ci := 4) (q0 := 0) rfl rfl rfl) rfl rfl hl.1 rfl (lv_room (Nat.le_of_ble_eq_true rfl)) dX4_letter_33 ⟨Nat.le_of_ble_eq_true rfl, Nat.le_of_ble_eq_true rfl⟩)) (fun r_2 σ_1 H locs hP hS hE => ?_)
      exact z_iret hx hb hr hlk hP hS dX4_letter_36 hE
    refine lv_aload_n hx hb dX4_letter_18 rfl (lv_at hl 0 rfl) ?_
    refine xg_0_5 hx hb hown hwX4 (hts _ u_28) hK hP dX4_letter_19 ?_
    refine xg_3_1 hx hb hown hwX1 (hts _ u_117) hK hP dX4_letter_22 ?_
    refine lv_bipush (v := 96) hx hb dX4_letter_25 (by decide) ?_
    refine z_icmp_lt (tgt := 37) hx hb dX4_letter_27 (by decide) hE (fun hE => ?_) (fun hE => ?_)
    · refine lv_aload_n hx hb dX4_letter_37 rfl (lv_at hl 0 rfl) ?_
      refine xg_0_5 hx hb hown hwX4 (hts _ u_28) hK hP dX4_letter_38 ?_
      refine lv_iload_n hx hb dX4_letter_41 rfl (lv_at hl 1 rfl) ?_
      refine z_goi (wf := xW) hS hE (fun F1 h1 => (va_runV (As := [.int x1]) (rest := []) ⟨hx, hb, hml, hown, hts⟩ (kX1_take l E hD x1 σ F1 h1) (cwV 1 hts (gU_V u_122 u_123 u_124 u_27 u_125) rfl rfl rfl q_X1_take ⟨Nat.le_of_ble_eq_true rfl, Nat.le_of_ble_eq_true rfl⟩) (z_preV hK hP hS (ci := 1) (q0 := 3) rfl rfl rfl) rfl rfl hl.1 rfl (lv_room (Nat.le_of_ble_eq_true rfl)) dX4_letter_42 ⟨Nat.le_of_ble_eq_true rfl, Nat.le_of_ble_eq_true rfl⟩)) (fun r_4 σ_3 H locs hP hS hE => ?_)
      exact z_iret hx hb hr hlk hP hS dX4_letter_45 hE
    refine lv_aload_n hx hb dX4_letter_30 rfl (lv_at hl 0 rfl) ?_
    refine lv_bipush (v := -6) hx hb dX4_letter_31 (by decide) ?_
    refine z_goi (wf := xW) hS hE (fun F1 h1 => (va_runV (As := [.int (-6)]) (rest := []) ⟨hx, hb, hml, hown, hts⟩ (kX4_refuse l E hD (-6) σ F1 h1) (cwV 1 hts (gU_V u_118 u_119 u_120 u_2 u_121) rfl rfl rfl q_X4_refuse ⟨Nat.le_of_ble_eq_true rfl, Nat.le_of_ble_eq_true rfl⟩) (z_preV hK hP hS (ci := 4) (q0 := 0) rfl rfl rfl) rfl rfl hl.1 rfl (lv_room (Nat.le_of_ble_eq_true rfl)) dX4_letter_33 ⟨Nat.le_of_ble_eq_true rfl, Nat.le_of_ble_eq_true rfl⟩)) (fun r_6 σ_5 H locs hP hS hE => ?_)
    exact z_iret hx hb hr hlk hP hS dX4_letter_36 hE
  refine lv_aload_n hx hb dX4_letter_4 rfl (lv_at hl 0 rfl) ?_
  refine lv_bipush (v := -4) hx hb dX4_letter_5 (by decide) ?_
  refine z_goi (wf := xW) hS hE (fun F1 h1 => (va_runV (As := [.int (-4)]) (rest := []) ⟨hx, hb, hml, hown, hts⟩ (kX4_refuse l E hD (-4) σ F1 h1) (cwV 1 hts (gU_V u_118 u_119 u_120 u_2 u_121) rfl rfl rfl q_X4_refuse ⟨Nat.le_of_ble_eq_true rfl, Nat.le_of_ble_eq_true rfl⟩) (z_preV hK hP hS (ci := 4) (q0 := 0) rfl rfl rfl) rfl rfl hl.1 rfl (lv_room (Nat.le_of_ble_eq_true rfl)) dX4_letter_7 ⟨Nat.le_of_ble_eq_true rfl, Nat.le_of_ble_eq_true rfl⟩)) (fun r_8 σ_7 H locs hP hS hE => ?_)
  exact z_iret hx hb hr hlk hP hS dX4_letter_10 hE
theorem kX4_letter (l : Launch) (E : EN) (hD : ∀ σ, va_D (eA E) (xW E σ)) (x1 : Int32) (σ : ST) (F : Int32 × ST) (hE : fX4_letter x1 σ = some F) : Met l yX4_letter wu_X4_letter r_X4_letter (zPc E xW [.ref (ea E 0), .int x1] σ) (zQi E xW F) 0 0 (eA E) := by
  refine Met.ofW (cc := cX4_letter) (maxL := 2) (ret := (some .int)) (by decide) rfl ?_
  intro p e s m args below meth c s₁ B hml hv
  obtain ⟨rfl, hP, hK⟩ := hv
  have hl := lv_entry ([.ref (ea E 0), .int x1]) (n := 2) (Nat.le_of_ble_eq_true rfl)
  rw [lg_entry_eq]
  generalize (lg_sl ([.ref (ea E 0), .int x1]) ++ List.replicate (2 - (lg_sl ([.ref (ea E 0), .int x1])).length) Slot.unset).toArray = ls at hl ⊢
  exact wX4_letter ⟨B.exec, B.bytes, hml, findClass_of_methodNamed B.named, fun w h => atoms_spec (ws := wu_X4_letter) B.pre w (List.mem_cons_of_mem _ h), B.returns, B.notSynchronized, hK, hD⟩ x1 σ s.heap [] ls hl hP va_S.rf hE
def fJ0_coder_7d493  (x0 : Nat) (σ : ST) : Option (Int32 × ST) :=
  sg x0 (some (0, σ))
set_option maxHeartbeats 4000000 in
set_option maxRecDepth 100000 in
theorem wJ0_coder_7d493 {p : Program} {l : Launch} {e : Env} {s : State} {m : MethodId} {args : Array Value} {below : List Frame} {meth : Method} {c : Code} {E : EN} (C : zC E xW p s m args meth c cJ0_coder_7d493 1 RJ0 (some .byte) wsL_law) {F : Int32 × ST}   (x0 : Nat) (σ : ST) (H : Heap) (locs : List Loc) (ls : Array Slot) (hl : lv_has ls 1 [(0, .ref (eK E x0))]) (hP : va_P (eD E) vwCl (xW E σ) H) (hS : va_S (eA E) s.heap H locs) (hE : fJ0_coder_7d493  x0 σ = some F) : zWi E xW p l e r_J0_coder_7d493 s m args below meth c F H locs (F0 m 0 ls []) := by
  obtain ⟨hx, hb, hml, hown, hts, hr, hlk, hK, hD⟩ := id C
  unfold fJ0_coder_7d493 at hE
  refine va_gets hx hb hK.2.2.2.1 hS hown (hts _ u_157) (fun _ h9 => h9) dJ0_coder_7d493_0 ?_
  refine lv_if_eq (tgt := 13) hx hb dJ0_coder_7d493_3 (by decide) (fun q => absurd q (by decide)) (fun _ => ?_)
  refine lv_aload_n hx hb dJ0_coder_7d493_6 rfl (lv_at hl 0 rfl) ?_
  obtain ⟨hj, hE⟩ := z_sg hE
  refine vk_getf hx hb (hK.2.1.1 _ hj).2.1 hS hown (hts _ u_158) (fun _ h9 => h9) dJ0_coder_7d493_7 ?_
  refine lv_goto (tgt := 14) hx hb dJ0_coder_7d493_10 (by decide) ?_
  exact z_nret hx hb hr hlk rfl hP hS dJ0_coder_7d493_14 hE
theorem kJ0_coder_7d493 (l : Launch) (E : EN) (hD : ∀ σ, va_D (eA E) (xW E σ)) (x0 : Nat) (σ : ST) (F : Int32 × ST) (hE : fJ0_coder_7d493 x0 σ = some F) : Met l yJ0_coder_7d493 wu_J0_coder_7d493 r_J0_coder_7d493 (zPc E xW [.ref (eK E x0)] σ) (zQi E xW F) 0 0 (eA E) := by
  refine Met.ofW (cc := cJ0_coder_7d493) (maxL := 1) (ret := (some .byte)) (by decide) rfl ?_
  intro p e s m args below meth c s₁ B hml hv
  obtain ⟨rfl, hP, hK⟩ := hv
  have hl := lv_entry ([.ref (eK E x0)]) (n := 1) (Nat.le_of_ble_eq_true rfl)
  rw [lg_entry_eq]
  generalize (lg_sl ([.ref (eK E x0)]) ++ List.replicate (1 - (lg_sl ([.ref (eK E x0)])).length) Slot.unset).toArray = ls at hl ⊢
  exact wJ0_coder_7d493 ⟨B.exec, B.bytes, hml, findClass_of_methodNamed B.named, fun w h => atoms_spec (ws := wu_J0_coder_7d493) B.pre w (List.mem_cons_of_mem _ h), B.returns, B.notSynchronized, hK, hD⟩ x0 σ s.heap [] ls hl hP va_S.rf hE
def fJ0_length_8abf5  (x0 : Nat) (σ : ST) : Option (Int32 × ST) :=
  sg x0 (sg x0 (sg x0 (cali (fJ0_coder_7d493 x0 σ) (fun r_2 σ_1 => some (((strLen x0) >>> (r_2 &&& 31)), σ_1)))))
set_option maxHeartbeats 4000000 in
set_option maxRecDepth 100000 in
theorem wJ0_length_8abf5 {p : Program} {l : Launch} {e : Env} {s : State} {m : MethodId} {args : Array Value} {below : List Frame} {meth : Method} {c : Code} {E : EN} (C : zC E xW p s m args meth c cJ0_length_8abf5 1 RJ0 (some .int) wsL_law) {F : Int32 × ST}   (x0 : Nat) (σ : ST) (H : Heap) (locs : List Loc) (ls : Array Slot) (hl : lv_has ls 1 [(0, .ref (eK E x0))]) (hP : va_P (eD E) vwCl (xW E σ) H) (hS : va_S (eA E) s.heap H locs) (hE : fJ0_length_8abf5  x0 σ = some F) : zWi E xW p l e r_J0_length_8abf5 s m args below meth c F H locs (F0 m 0 ls []) := by
  obtain ⟨hx, hb, hml, hown, hts, hr, hlk, hK, hD⟩ := id C
  unfold fJ0_length_8abf5 at hE
  refine lv_aload_n hx hb dJ0_length_8abf5_0 rfl (lv_at hl 0 rfl) ?_
  obtain ⟨hj, hE⟩ := z_sg hE
  refine vk_getf hx hb (hK.2.1.1 _ hj).2.2.1 hS hown (hts _ u_152) (fun _ h9 => h9) dJ0_length_8abf5_1 ?_
  obtain ⟨hj, hE⟩ := z_sg hE
  refine va_tlen hx hb (hK.2.1.1 _ hj).2.2.2 hS (v := strLen x0) rfl dJ0_length_8abf5_4 ?_
  refine lv_aload_n hx hb dJ0_length_8abf5_5 rfl (lv_at hl 0 rfl) ?_
  obtain ⟨hj, hE⟩ := z_sg hE
  refine z_goi (wf := xW) hS hE (fun F1 h1 => (va_runV (As := []) (rest := [.int (strLen x0)]) ⟨hx, hb, hml, hown, hts⟩ (kJ0_coder_7d493 l E hD x0 σ F1 h1) (cwV 0 hts (gU_V u_153 u_154 u_155 u_150 u_156) rfl rfl rfl q_J0_coder_7d493 ⟨Nat.le_of_ble_eq_true rfl, Nat.le_of_ble_eq_true rfl⟩) (z_preVs hK hP hS hj) rfl rfl hl.1 rfl (lv_room (Nat.le_of_ble_eq_true rfl)) dJ0_length_8abf5_6 ⟨Nat.le_of_ble_eq_true rfl, Nat.le_of_ble_eq_true rfl⟩)) (fun r_2 σ_1 H locs hP hS hE => ?_)
  refine lv_ishr hx hb dJ0_length_8abf5_9 ?_
  exact z_iret hx hb hr hlk hP hS dJ0_length_8abf5_10 hE
theorem kJ0_length_8abf5 (l : Launch) (E : EN) (hD : ∀ σ, va_D (eA E) (xW E σ)) (x0 : Nat) (σ : ST) (F : Int32 × ST) (hE : fJ0_length_8abf5 x0 σ = some F) : Met l yJ0_length_8abf5 wu_J0_length_8abf5 r_J0_length_8abf5 (zPc E xW [.ref (eK E x0)] σ) (zQi E xW F) 0 0 (eA E) := by
  refine Met.ofW (cc := cJ0_length_8abf5) (maxL := 1) (ret := (some .int)) (by decide) rfl ?_
  intro p e s m args below meth c s₁ B hml hv
  obtain ⟨rfl, hP, hK⟩ := hv
  have hl := lv_entry ([.ref (eK E x0)]) (n := 1) (Nat.le_of_ble_eq_true rfl)
  rw [lg_entry_eq]
  generalize (lg_sl ([.ref (eK E x0)]) ++ List.replicate (1 - (lg_sl ([.ref (eK E x0)])).length) Slot.unset).toArray = ls at hl ⊢
  exact wJ0_length_8abf5 ⟨B.exec, B.bytes, hml, findClass_of_methodNamed B.named, fun w h => atoms_spec (ws := wu_J0_length_8abf5) B.pre w (List.mem_cons_of_mem _ h), B.returns, B.notSynchronized, hK, hD⟩ x0 σ s.heap [] ls hl hP va_S.rf hE
def fJ0_isLatin1_aae02  (x0 : Nat) (σ : ST) : Option (Int32 × ST) :=
  sg x0 (some (1, σ))
set_option maxHeartbeats 4000000 in
set_option maxRecDepth 100000 in
theorem wJ0_isLatin1_aae02 {p : Program} {l : Launch} {e : Env} {s : State} {m : MethodId} {args : Array Value} {below : List Frame} {meth : Method} {c : Code} {E : EN} (C : zC E xW p s m args meth c cJ0_isLatin1_aae02 1 RJ0 (some .boolean) wsL_law) {F : Int32 × ST}   (x0 : Nat) (σ : ST) (H : Heap) (locs : List Loc) (ls : Array Slot) (hl : lv_has ls 1 [(0, .ref (eK E x0))]) (hP : va_P (eD E) vwCl (xW E σ) H) (hS : va_S (eA E) s.heap H locs) (hE : fJ0_isLatin1_aae02  x0 σ = some F) : zWi E xW p l e r_J0_isLatin1_aae02 s m args below meth c F H locs (F0 m 0 ls []) := by
  obtain ⟨hx, hb, hml, hown, hts, hr, hlk, hK, hD⟩ := id C
  unfold fJ0_isLatin1_aae02 at hE
  refine va_gets hx hb hK.2.2.2.1 hS hown (hts _ u_157) (fun _ h9 => h9) dJ0_isLatin1_aae02_0 ?_
  refine lv_if_eq (tgt := 17) hx hb dJ0_isLatin1_aae02_3 (by decide) (fun q => absurd q (by decide)) (fun _ => ?_)
  refine lv_aload_n hx hb dJ0_isLatin1_aae02_6 rfl (lv_at hl 0 rfl) ?_
  obtain ⟨hj, hE⟩ := z_sg hE
  refine vk_getf hx hb (hK.2.1.1 _ hj).2.1 hS hown (hts _ u_158) (fun _ h9 => h9) dJ0_isLatin1_aae02_7 ?_
  refine lv_if_ne (tgt := 17) hx hb dJ0_isLatin1_aae02_10 (by decide) (fun q => absurd q (by decide)) (fun _ => ?_)
  refine lv_iconst (v := 1) hx hb dJ0_isLatin1_aae02_13 (by decide) ?_
  refine lv_goto (tgt := 18) hx hb dJ0_isLatin1_aae02_14 (by decide) ?_
  exact z_zret hx hb hr hlk rfl hP hS dJ0_isLatin1_aae02_18 hE
theorem kJ0_isLatin1_aae02 (l : Launch) (E : EN) (hD : ∀ σ, va_D (eA E) (xW E σ)) (x0 : Nat) (σ : ST) (F : Int32 × ST) (hE : fJ0_isLatin1_aae02 x0 σ = some F) : Met l yJ0_isLatin1_aae02 wu_J0_isLatin1_aae02 r_J0_isLatin1_aae02 (zPc E xW [.ref (eK E x0)] σ) (zQi E xW F) 0 0 (eA E) := by
  refine Met.ofW (cc := cJ0_isLatin1_aae02) (maxL := 1) (ret := (some .boolean)) (by decide) rfl ?_
  intro p e s m args below meth c s₁ B hml hv
  obtain ⟨rfl, hP, hK⟩ := hv
  have hl := lv_entry ([.ref (eK E x0)]) (n := 1) (Nat.le_of_ble_eq_true rfl)
  rw [lg_entry_eq]
  generalize (lg_sl ([.ref (eK E x0)]) ++ List.replicate (1 - (lg_sl ([.ref (eK E x0)])).length) Slot.unset).toArray = ls at hl ⊢
  exact wJ0_isLatin1_aae02 ⟨B.exec, B.bytes, hml, findClass_of_methodNamed B.named, fun w h => atoms_spec (ws := wu_J0_isLatin1_aae02) B.pre w (List.mem_cons_of_mem _ h), B.returns, B.notSynchronized, hK, hD⟩ x0 σ s.heap [] ls hl hP va_S.rf hE

def fJ0_checkIndex_df160 (x0 x1 : Int32) (σ : ST) : Option ST := if x0 < 0 then none else if x0 < x1 then some σ else none
set_option maxHeartbeats 4000000 in
set_option maxRecDepth 100000 in
theorem kJ3_checkIndex_8e157 (l : Launch) (E : EN) (hD : ∀ σ, va_D (eA E) (xW E σ)) (x0 x1 : Int32) (v : Value) (hv : v = .null ∨ ∃ t, v = .ref t) (σ : ST) (h0 : ¬ x0 < 0) (h1 : x0 < x1) : Met l yJ3_checkIndex_8e157 wu_J3_checkIndex_8e157 r_J3_checkIndex_8e157 (zPc E xW [.int x0, .int x1, v] σ) (zQi E xW (x0, σ)) 0 0 (eA E) := by
  refine Met.ofW (cc := cJ3_checkIndex_8e157) (maxL := 3) (ret := (some .int)) (by decide) rfl ?_
  intro p e s m args below meth c s₁ B hml hv2
  obtain ⟨rfl, hP, hK⟩ := hv2
  have hx := B.exec
  have hb := B.bytes
  have hr := B.returns
  have hlk := B.notSynchronized
  have hl : ∃ ls, lv_has ls 3 [(0, .int x0), (1, .int x1), (2, v)] ∧ entryFrame m ([.int x0, .int x1, v] : List Value).toArray 3 = F0 m 0 ls [] := by
    rcases hv with rfl | ⟨t, rfl⟩
    · exact ⟨_, lv_entry ([.int x0, .int x1, .null]) (n := 3) (Nat.le_of_ble_eq_true rfl), lg_entry_eq _ _ _⟩
    · exact ⟨_, lv_entry ([.int x0, .int x1, .ref t]) (n := 3) (Nat.le_of_ble_eq_true rfl), lg_entry_eq _ _ _⟩
  obtain ⟨ls, hl, he⟩ := hl
  rw [he]
  refine lv_iload_n hx hb dJ3_checkIndex_8e157_0 rfl (lv_at hl 0 rfl) ?_
  refine lv_if_lt (tgt := 9) hx hb dJ3_checkIndex_8e157_1 (by decide) (fun q => absurd q h0) (fun _ => ?_)
  refine lv_iload_n hx hb dJ3_checkIndex_8e157_4 rfl (lv_at hl 0 rfl) ?_
  refine lv_iload_n hx hb dJ3_checkIndex_8e157_5 rfl (lv_at hl 1 rfl) ?_
  refine lv_icmp_lt (tgt := 16) hx hb dJ3_checkIndex_8e157_6 (by decide) (fun _ => ?_) (fun q => absurd h1 q)
  refine lv_iload_n hx hb dJ3_checkIndex_8e157_16 rfl (lv_at hl 0 rfl) ?_
  exact z_iret hx hb hr hlk hP va_S.rf dJ3_checkIndex_8e157_17 rfl
set_option maxHeartbeats 4000000 in
set_option maxRecDepth 100000 in
theorem kJ0_checkIndex_df160 (l : Launch) (E : EN) (hD : ∀ σ, va_D (eA E) (xW E σ)) (x0 x1 : Int32) (σ : ST) (F : ST) (hE : fJ0_checkIndex_df160 x0 x1 σ = some F) : Met l yJ0_checkIndex_df160 wu_J0_checkIndex_df160 r_J0_checkIndex_df160 (zPc E xW [.int x0, .int x1] σ) (zQv E xW F) 0 0 (eA E) := by
  refine Met.ofW (cc := cJ0_checkIndex_df160) (maxL := 2) (ret := none) (by decide) rfl ?_
  intro p e s m args below meth c s₁ B hml hv2
  obtain ⟨rfl, hP, hK⟩ := hv2
  have hx := B.exec
  have hb := B.bytes
  have hr := B.returns
  have hlk := B.notSynchronized
  have hown : s.vm.findClass RJ0 = some m.cls := findClass_of_methodNamed B.named
  have hts : ∀ w ∈ wsL_law, w.before _ s = true := fun w h => atoms_spec (ws := wu_J0_checkIndex_df160) B.pre w (List.mem_cons_of_mem _ h)
  have hS : va_S (eA E) s.heap s.heap [] := va_S.rf
  have hl := lv_entry ([.int x0, .int x1]) (n := 2) (Nat.le_of_ble_eq_true rfl)
  rw [lg_entry_eq]
  generalize (lg_sl ([.int x0, .int x1]) ++ List.replicate (2 - (lg_sl ([.int x0, .int x1])).length) Slot.unset).toArray = ls at hl ⊢
  have hl : lv_has ls 2 [(0, .int x0), (1, .int x1)] := hl
  unfold fJ0_checkIndex_df160 at hE
  by_cases h0 : x0 < 0
  · rw [if_pos h0] at hE; cases hE
  rw [if_neg h0] at hE
  by_cases hlt : x0 < x1
  · rw [if_pos hlt] at hE
    refine lv_iload_n hx hb dJ0_checkIndex_df160_0 rfl (lv_at hl 0 rfl) ?_
    refine lv_iload_n hx hb dJ0_checkIndex_df160_1 rfl (lv_at hl 1 rfl) ?_
    obtain ⟨v, hv, hZ⟩ : ∃ v : Value, (v = .null ∨ ∃ t, v = .ref t) ∧ va_Z "jdk/internal/util/Preconditions" "SIOOBE_FORMATTER" "Ljava/util/function/BiFunction;" v (eA E) s s.heap := by
      rcases hK.2.2.2.2 with h | ⟨t, h⟩
      · exact ⟨_, Or.inl rfl, h⟩
      · exact ⟨_, Or.inr ⟨t, rfl⟩, h⟩
    refine va_gets hx hb hZ hS hown (hts _ u_181) (fun _ h9 => h9) dJ0_checkIndex_df160_2 ?_
    refine z_goi (wf := xW) (f := some (x0, σ)) (K := fun _ σ1 => some σ1) hS hE (fun F1 h1 => va_runS (As := [.int x0, .int x1, v]) (rest := []) ⟨hx, hb, hml, hown, hts⟩ (Option.some.inj h1 ▸ kJ3_checkIndex_8e157 l E hD x0 x1 v hv σ h0 hlt) (va_cwS 3 hts (gU_S u_182 u_183 u_184 u_185) rfl rfl rfl q_J3_checkIndex_8e157 ⟨Nat.le_of_ble_eq_true rfl, Nat.le_of_ble_eq_true rfl⟩) (z_preS hK hP hS) rfl rfl hl.1 rfl (lv_room (Nat.le_of_ble_eq_true rfl)) dJ0_checkIndex_df160_5 ⟨Nat.le_of_ble_eq_true rfl, Nat.le_of_ble_eq_true rfl⟩) (fun r σ1 H locs hP hS hE => ?_)
    refine lv_pop hx hb dJ0_checkIndex_df160_8 rfl ?_
    exact z_vret hx hb hr hlk hP hS dJ0_checkIndex_df160_9 hE
  · rw [if_neg hlt] at hE; cases hE

def fJ1_charAt_3b067  (x0 : Nat) (x1 : Int32) (σ : ST) : Option (Int32 × ST) :=
  sg x0 (calv (fJ0_checkIndex_df160 x1 (strLen x0) σ) (fun σ_1 => sg x0 (ald (strB x0) (lenJS.getD x0 0) x1 (fun v_2 => some ((((Int32.toUInt32 (v_2 &&& 255)) % 65536).toInt32), σ_1)))))
set_option maxHeartbeats 4000000 in
set_option maxRecDepth 100000 in
theorem wJ1_charAt_3b067 {p : Program} {l : Launch} {e : Env} {s : State} {m : MethodId} {args : Array Value} {below : List Frame} {meth : Method} {c : Code} {E : EN} (C : zC E xW p s m args meth c cJ1_charAt_3b067 2 RJ1 (some .char) wsL_law) {F : Int32 × ST}   (x0 : Nat) (x1 : Int32) (σ : ST) (H : Heap) (locs : List Loc) (ls : Array Slot) (hl : lv_has ls 2 [(0, .ref (eV E x0)), (1, .int x1)]) (hP : va_P (eD E) vwCl (xW E σ) H) (hS : va_S (eA E) s.heap H locs) (hE : fJ1_charAt_3b067  x0 x1 σ = some F) : zWi E xW p l e r_J1_charAt_3b067 s m args below meth c F H locs (F0 m 0 ls []) := by
  obtain ⟨hx, hb, hml, hown, hts, hr, hlk, hK, hD⟩ := id C
  unfold fJ1_charAt_3b067 at hE
  refine lv_iload_n hx hb dJ1_charAt_3b067_0 rfl (lv_at hl 1 rfl) ?_
  refine lv_aload_n hx hb dJ1_charAt_3b067_1 rfl (lv_at hl 0 rfl) ?_
  obtain ⟨hj, hE⟩ := z_sg hE
  refine va_tlen hx hb (hK.2.1.1 _ hj).2.2.2 hS (v := strLen x0) rfl dJ1_charAt_3b067_2 ?_
  refine z_gov (wf := xW) hS hE (fun F1 h1 => (va_runS (As := [.int x1, .int (strLen x0)]) (rest := []) ⟨hx, hb, hml, hown, hts⟩ (kJ0_checkIndex_df160 l E hD x1 (strLen x0) σ F1 h1) (va_cwS 2 hts (gU_S u_178 u_179 u_150 u_180) rfl rfl rfl q_J0_checkIndex_df160 ⟨Nat.le_of_ble_eq_true rfl, Nat.le_of_ble_eq_true rfl⟩) (z_preS hK hP hS) rfl rfl hl.1 rfl (lv_room (Nat.le_of_ble_eq_true rfl)) dJ1_charAt_3b067_3 ⟨Nat.le_of_ble_eq_true rfl, Nat.le_of_ble_eq_true rfl⟩)) (fun σ_1 H locs hP hS hE => ?_)
  refine lv_aload_n hx hb dJ1_charAt_3b067_6 rfl (lv_at hl 0 rfl) ?_
  refine lv_iload_n hx hb dJ1_charAt_3b067_7 rfl (lv_at hl 1 rfl) ?_
  obtain ⟨hj, hE⟩ := z_sg hE
  refine z_strb hx hb hK hj hS dJ1_charAt_3b067_8 hE (fun v_2 hE => ?_)
  refine lv_sipush (v := 255) hx hb dJ1_charAt_3b067_9 (by decide) ?_
  refine lv_iand hx hb dJ1_charAt_3b067_12 ?_
  refine lv_i2c (v := ((Int32.toUInt32 (v_2 &&& 255)) % 65536).toInt32) hx hb dJ1_charAt_3b067_13 rfl ?_
  exact z_nret hx hb hr hlk (pk_nc _) hP hS dJ1_charAt_3b067_14 hE
theorem kJ1_charAt_3b067 (l : Launch) (E : EN) (hD : ∀ σ, va_D (eA E) (xW E σ)) (x0 : Nat) (x1 : Int32) (σ : ST) (F : Int32 × ST) (hE : fJ1_charAt_3b067 x0 x1 σ = some F) : Met l yJ1_charAt_3b067 wu_J1_charAt_3b067 r_J1_charAt_3b067 (zPc E xW [.ref (eV E x0), .int x1] σ) (zQi E xW F) 0 0 (eA E) := by
  refine Met.ofW (cc := cJ1_charAt_3b067) (maxL := 2) (ret := (some .char)) (by decide) rfl ?_
  intro p e s m args below meth c s₁ B hml hv
  obtain ⟨rfl, hP, hK⟩ := hv
  have hl := lv_entry ([.ref (eV E x0), .int x1]) (n := 2) (Nat.le_of_ble_eq_true rfl)
  rw [lg_entry_eq]
  generalize (lg_sl ([.ref (eV E x0), .int x1]) ++ List.replicate (2 - (lg_sl ([.ref (eV E x0), .int x1])).length) Slot.unset).toArray = ls at hl ⊢
  exact wJ1_charAt_3b067 ⟨B.exec, B.bytes, hml, findClass_of_methodNamed B.named, fun w h => atoms_spec (ws := wu_J1_charAt_3b067) B.pre w (List.mem_cons_of_mem _ h), B.returns, B.notSynchronized, hK, hD⟩ x0 x1 σ s.heap [] ls hl hP va_S.rf hE
def fJ0_charAt_5068e  (x0 : Nat) (x1 : Int32) (σ : ST) : Option (Int32 × ST) :=
  sg x0 (cali (fJ0_isLatin1_aae02 x0 σ) (fun r_2 σ_1 => (if r_2 = 0 then none else sg x0 (cali (fJ1_charAt_3b067 x0 x1 σ_1) (fun r_4 σ_3 => gch r_4 (some (r_4, σ_3)))))))
set_option maxHeartbeats 4000000 in
set_option maxRecDepth 100000 in
theorem wJ0_charAt_5068e {p : Program} {l : Launch} {e : Env} {s : State} {m : MethodId} {args : Array Value} {below : List Frame} {meth : Method} {c : Code} {E : EN} (C : zC E xW p s m args meth c cJ0_charAt_5068e 2 RJ0 (some .char) wsL_law) {F : Int32 × ST}   (x0 : Nat) (x1 : Int32) (σ : ST) (H : Heap) (locs : List Loc) (ls : Array Slot) (hl : lv_has ls 2 [(0, .ref (eK E x0)), (1, .int x1)]) (hP : va_P (eD E) vwCl (xW E σ) H) (hS : va_S (eA E) s.heap H locs) (hE : fJ0_charAt_5068e  x0 x1 σ = some F) : zWi E xW p l e r_J0_charAt_5068e s m args below meth c F H locs (F0 m 0 ls []) := by
  obtain ⟨hx, hb, hml, hown, hts, hr, hlk, hK, hD⟩ := id C
  unfold fJ0_charAt_5068e at hE
  refine lv_aload_n hx hb dJ0_charAt_5068e_0 rfl (lv_at hl 0 rfl) ?_
  obtain ⟨hj, hE⟩ := z_sg hE
  refine z_goi (wf := xW) hS hE (fun F1 h1 => (va_runV (As := []) (rest := []) ⟨hx, hb, hml, hown, hts⟩ (kJ0_isLatin1_aae02 l E hD x0 σ F1 h1) (cwV 0 hts (gU_V u_170 u_171 u_172 u_150 u_173) rfl rfl rfl q_J0_isLatin1_aae02 ⟨Nat.le_of_ble_eq_true rfl, Nat.le_of_ble_eq_true rfl⟩) (z_preVs hK hP hS hj) rfl rfl hl.1 rfl (lv_room (Nat.le_of_ble_eq_true rfl)) dJ0_charAt_5068e_1 ⟨Nat.le_of_ble_eq_true rfl, Nat.le_of_ble_eq_true rfl⟩)) (fun r_2 σ_1 H locs hP hS hE => ?_)
  refine z_if_eq (tgt := 16) hx hb dJ0_charAt_5068e_4 (by decide) hE (fun hE => ?_) (fun hE => ?_)
  · cases hE
  refine lv_aload_n hx hb dJ0_charAt_5068e_7 rfl (lv_at hl 0 rfl) ?_
  obtain ⟨hj, hE⟩ := z_sg hE
  refine vk_getf hx hb (hK.2.1.1 _ hj).2.2.1 hS hown (hts _ u_152) (fun _ h9 => h9) dJ0_charAt_5068e_8 ?_
  refine lv_iload_n hx hb dJ0_charAt_5068e_11 rfl (lv_at hl 1 rfl) ?_
  refine z_goi (wf := xW) hS hE (fun F1 h1 => (va_runS (As := [.ref (eV E x0), .int x1]) (rest := []) ⟨hx, hb, hml, hown, hts⟩ (kJ1_charAt_3b067 l E hD x0 x1 σ_1 F1 h1) (va_cwS 2 hts (gU_S u_174 u_175 u_176 u_177) rfl rfl rfl q_J1_charAt_3b067 ⟨Nat.le_of_ble_eq_true rfl, Nat.le_of_ble_eq_true rfl⟩) (z_preS hK hP hS) rfl rfl hl.1 rfl (lv_room (Nat.le_of_ble_eq_true rfl)) dJ0_charAt_5068e_12 ⟨Nat.le_of_ble_eq_true rfl, Nat.le_of_ble_eq_true rfl⟩)) (fun r_4 σ_3 H locs hP hS hE => ?_)
  obtain ⟨hz, hE⟩ := z_gch hE
  exact z_nret hx hb hr hlk hz hP hS dJ0_charAt_5068e_15 hE
theorem kJ0_charAt_5068e (l : Launch) (E : EN) (hD : ∀ σ, va_D (eA E) (xW E σ)) (x0 : Nat) (x1 : Int32) (σ : ST) (F : Int32 × ST) (hE : fJ0_charAt_5068e x0 x1 σ = some F) : Met l yJ0_charAt_5068e wu_J0_charAt_5068e r_J0_charAt_5068e (zPc E xW [.ref (eK E x0), .int x1] σ) (zQi E xW F) 0 0 (eA E) := by
  refine Met.ofW (cc := cJ0_charAt_5068e) (maxL := 2) (ret := (some .char)) (by decide) rfl ?_
  intro p e s m args below meth c s₁ B hml hv
  obtain ⟨rfl, hP, hK⟩ := hv
  have hl := lv_entry ([.ref (eK E x0), .int x1]) (n := 2) (Nat.le_of_ble_eq_true rfl)
  rw [lg_entry_eq]
  generalize (lg_sl ([.ref (eK E x0), .int x1]) ++ List.replicate (2 - (lg_sl ([.ref (eK E x0), .int x1])).length) Slot.unset).toArray = ls at hl ⊢
  exact wJ0_charAt_5068e ⟨B.exec, B.bytes, hml, findClass_of_methodNamed B.named, fun w h => atoms_spec (ws := wu_J0_charAt_5068e) B.pre w (List.mem_cons_of_mem _ h), B.returns, B.notSynchronized, hK, hD⟩ x0 x1 σ s.heap [] ls hl hP va_S.rf hE
def fJ1_canEncode_9a6ad  (x0 : Int32) (σ : ST) : Option (Int32 × ST) :=
  (if x0 < 0 then some (0, σ) else (if 255 < x0 then some (0, σ) else some (1, σ)))
set_option maxHeartbeats 4000000 in
set_option maxRecDepth 100000 in
theorem wJ1_canEncode_9a6ad {p : Program} {l : Launch} {e : Env} {s : State} {m : MethodId} {args : Array Value} {below : List Frame} {meth : Method} {c : Code} {E : EN} (C : zC E xW p s m args meth c cJ1_canEncode_9a6ad 1 RJ1 (some .boolean) wsL_law) {F : Int32 × ST}   (x0 : Int32) (σ : ST) (H : Heap) (locs : List Loc) (ls : Array Slot) (hl : lv_has ls 1 [(0, .int x0)]) (hP : va_P (eD E) vwCl (xW E σ) H) (hS : va_S (eA E) s.heap H locs) (hE : fJ1_canEncode_9a6ad  x0 σ = some F) : zWi E xW p l e r_J1_canEncode_9a6ad s m args below meth c F H locs (F0 m 0 ls []) := by
  obtain ⟨hx, hb, hml, hown, hts, hr, hlk, hK, hD⟩ := id C
  unfold fJ1_canEncode_9a6ad at hE
  refine lv_iload_n hx hb dJ1_canEncode_9a6ad_0 rfl (lv_at hl 0 rfl) ?_
  refine z_if_lt (tgt := 15) hx hb dJ1_canEncode_9a6ad_1 (by decide) hE (fun hE => ?_) (fun hE => ?_)
  · refine lv_iconst (v := 0) hx hb dJ1_canEncode_9a6ad_15 (by decide) ?_
    exact z_zret hx hb hr hlk rfl hP hS dJ1_canEncode_9a6ad_16 hE
  refine lv_iload_n hx hb dJ1_canEncode_9a6ad_4 rfl (lv_at hl 0 rfl) ?_
  refine lv_sipush (v := 255) hx hb dJ1_canEncode_9a6ad_5 (by decide) ?_
  refine z_icmp_gt (tgt := 15) hx hb dJ1_canEncode_9a6ad_8 (by decide) hE (fun hE => ?_) (fun hE => ?_)
  · refine lv_iconst (v := 0) hx hb dJ1_canEncode_9a6ad_15 (by decide) ?_
    exact z_zret hx hb hr hlk rfl hP hS dJ1_canEncode_9a6ad_16 hE
  refine lv_iconst (v := 1) hx hb dJ1_canEncode_9a6ad_11 (by decide) ?_
  refine lv_goto (tgt := 16) hx hb dJ1_canEncode_9a6ad_12 (by decide) ?_
  exact z_zret hx hb hr hlk rfl hP hS dJ1_canEncode_9a6ad_16 hE
theorem kJ1_canEncode_9a6ad (l : Launch) (E : EN) (hD : ∀ σ, va_D (eA E) (xW E σ)) (x0 : Int32) (σ : ST) (F : Int32 × ST) (hE : fJ1_canEncode_9a6ad x0 σ = some F) : Met l yJ1_canEncode_9a6ad wu_J1_canEncode_9a6ad r_J1_canEncode_9a6ad (zPc E xW [.int x0] σ) (zQi E xW F) 0 0 (eA E) := by
  refine Met.ofW (cc := cJ1_canEncode_9a6ad) (maxL := 1) (ret := (some .boolean)) (by decide) rfl ?_
  intro p e s m args below meth c s₁ B hml hv
  obtain ⟨rfl, hP, hK⟩ := hv
  have hl := lv_entry ([.int x0]) (n := 1) (Nat.le_of_ble_eq_true rfl)
  rw [lg_entry_eq]
  generalize (lg_sl ([.int x0]) ++ List.replicate (1 - (lg_sl ([.int x0])).length) Slot.unset).toArray = ls at hl ⊢
  exact wJ1_canEncode_9a6ad ⟨B.exec, B.bytes, hml, findClass_of_methodNamed B.named, fun w h => atoms_spec (ws := wu_J1_canEncode_9a6ad) B.pre w (List.mem_cons_of_mem _ h), B.returns, B.notSynchronized, hK, hD⟩ x0 σ s.heap [] ls hl hP va_S.rf hE
def fJ1_indexOfChar_4cfef_L7 (ke : ST → Option (Int32 × ST)) : Nat → Nat → Int32 → Int32 → Int32 → ST → Option (Int32 × ST)
  | 0, _, _, _, _, _ => none
  | n + 1, x0, x3, x4, x5, σ => (if x3 ≤ x5 then ke  σ else sg x0 (ald (strB x0) (lenJS.getD x0 0) x5 (fun v_3 => (if v_3 = x4 then some (x5, σ) else bnd (x5 + 1) (fun x5_4 => fJ1_indexOfChar_4cfef_L7 ke n x0 x3 x4 x5_4 σ)))))
set_option maxHeartbeats 4000000 in
set_option maxRecDepth 100000 in
theorem wJ1_indexOfChar_4cfef_L7 {p : Program} {l : Launch} {e : Env} {s : State} {m : MethodId} {args : Array Value} {below : List Frame} {meth : Method} {c : Code} {E : EN} (C : zC E xW p s m args meth c cJ1_indexOfChar_4cfef 6 RJ1 (some .int) wsL_law) {F : Int32 × ST} {ke : ST → Option (Int32 × ST)} (hke : ∀  (σ : ST) (H : Heap) (locs : List Loc) (ls : Array Slot), lv_has ls 6 [] → va_P (eD E) vwCl (xW E σ) H → va_S (eA E) s.heap H locs → ke  σ = some F → zWi E xW p l e r_J1_indexOfChar_4cfef s m args below meth c F H locs (F0 m 31 ls [])) : ∀ (n : Nat) (x0 : Nat) (x3 : Int32) (x4 : Int32) (x5 : Int32) (σ : ST) (H : Heap) (locs : List Loc) (ls : Array Slot), lv_has ls 6 [(0, .ref (eV E x0)), (3, .int x3), (4, .int x4), (5, .int x5)] → va_P (eD E) vwCl (xW E σ) H → va_S (eA E) s.heap H locs → fJ1_indexOfChar_4cfef_L7 ke n x0 x3 x4 x5 σ = some F → zWi E xW p l e r_J1_indexOfChar_4cfef s m args below meth c F H locs (F0 m 7 ls []) := by
  obtain ⟨hx, hb, hml, hown, hts, hr, hlk, hK, hD⟩ := id C
  intro n
  induction n with
  | zero => intro x0 x3 x4 x5 σ H locs ls hl hP hS hE; rw [fJ1_indexOfChar_4cfef_L7] at hE; cases hE
  | succ n ih =>
    intro x0 x3 x4 x5 σ H locs ls hl hP hS hE
    rw [fJ1_indexOfChar_4cfef_L7] at hE
    refine lv_iload hx hb dJ1_indexOfChar_4cfef_7 (lv_at hl 3 rfl) ?_
    refine lv_iload_n hx hb dJ1_indexOfChar_4cfef_9 rfl (lv_at hl 1 rfl) ?_
    refine z_icmp_ge (tgt := 31) hx hb dJ1_indexOfChar_4cfef_10 (by decide) hE (fun hE => ?_) (fun hE => ?_)
    · exact hke  σ _ _ _ (lv_sub hl [] rfl) hP hS hE
    refine lv_aload_n hx hb dJ1_indexOfChar_4cfef_13 rfl (lv_at hl 0 rfl) ?_
    refine lv_iload hx hb dJ1_indexOfChar_4cfef_14 (lv_at hl 3 rfl) ?_
    obtain ⟨hj, hE⟩ := z_sg hE
    refine z_strb hx hb hK hj hS dJ1_indexOfChar_4cfef_16 hE (fun v_3 hE => ?_)
    refine lv_iload hx hb dJ1_indexOfChar_4cfef_17 (lv_at hl 2 rfl) ?_
    refine z_icmp_ne (tgt := 25) hx hb dJ1_indexOfChar_4cfef_19 (by decide) hE (fun hE => ?_) (fun hE => ?_)
    · refine z_iinc hx hb (v := (x5 + 1)) (k := 3) (fun x5_4 => [(5, .int x5_4), (0, .ref (eV E x0)), (3, .int x3), (4, .int x4)]) dJ1_indexOfChar_4cfef_25 hl rfl (by rfl) (by decide) rfl hE (fun x5_4 ls hl hE => ?_)
      refine lv_goto (tgt := 7) hx hb dJ1_indexOfChar_4cfef_28 (by decide) ?_
      exact ih x0 x3 x4 x5_4 σ _ _ _ (lv_sub hl [1, 2, 3, 0] rfl) hP hS hE
    refine lv_iload hx hb dJ1_indexOfChar_4cfef_22 (lv_at hl 3 rfl) ?_
    exact z_iret hx hb hr hlk hP hS dJ1_indexOfChar_4cfef_24 hE
def fJ1_indexOfChar_4cfef  (x0 : Nat) (x1 : Int32) (x2 : Int32) (x3 : Int32) (σ : ST) : Option (Int32 × ST) :=
  bnd (((Int32.toInt8 x1).toInt32) : Int32) (fun x4_1 => bnd (x2 : Int32) (fun x5_2 => fJ1_indexOfChar_4cfef_L7 (fun σ_5 => some ((-1), σ_5)) FU x0 x3 x4_1 x5_2 σ))
set_option maxHeartbeats 4000000 in
set_option maxRecDepth 100000 in
theorem wJ1_indexOfChar_4cfef {p : Program} {l : Launch} {e : Env} {s : State} {m : MethodId} {args : Array Value} {below : List Frame} {meth : Method} {c : Code} {E : EN} (C : zC E xW p s m args meth c cJ1_indexOfChar_4cfef 6 RJ1 (some .int) wsL_law) {F : Int32 × ST}   (x0 : Nat) (x1 : Int32) (x2 : Int32) (x3 : Int32) (σ : ST) (H : Heap) (locs : List Loc) (ls : Array Slot) (hl : lv_has ls 6 [(0, .ref (eV E x0)), (1, .int x1), (2, .int x2), (3, .int x3)]) (hP : va_P (eD E) vwCl (xW E σ) H) (hS : va_S (eA E) s.heap H locs) (hE : fJ1_indexOfChar_4cfef  x0 x1 x2 x3 σ = some F) : zWi E xW p l e r_J1_indexOfChar_4cfef s m args below meth c F H locs (F0 m 0 ls []) := by
  obtain ⟨hx, hb, hml, hown, hts, hr, hlk, hK, hD⟩ := id C
  unfold fJ1_indexOfChar_4cfef at hE
  refine lv_iload_n hx hb dJ1_indexOfChar_4cfef_0 rfl (lv_at hl 1 rfl) ?_
  refine lv_i2b (v := (Int32.toInt8 x1).toInt32) hx hb dJ1_indexOfChar_4cfef_1 rfl ?_
  refine z_istore hx hb (fun x4_1 => [(4, .int x4_1), (0, .ref (eV E x0)), (1, .int x1), (2, .int x2), (3, .int x3)]) dJ1_indexOfChar_4cfef_2 hl (by decide) rfl hE (fun x4_1 ls hl hE => ?_)
  refine lv_iload_n hx hb dJ1_indexOfChar_4cfef_4 rfl (lv_at hl 3 rfl) ?_
  refine z_istore hx hb (fun x5_2 => [(5, .int x5_2), (4, .int x4_1), (0, .ref (eV E x0)), (1, .int x1), (2, .int x2), (3, .int x3)]) dJ1_indexOfChar_4cfef_5 hl (by decide) rfl hE (fun x5_2 ls hl hE => ?_)
  refine wJ1_indexOfChar_4cfef_L7 C ?_ FU x0 x3 x4_1 x5_2 σ _ _ _ (lv_sub hl [2, 5, 1, 0] rfl) hP hS hE
  intro σ_5 H locs ls hl hP hS hE
  refine lv_iconst (v := -1) hx hb dJ1_indexOfChar_4cfef_31 (by decide) ?_
  exact z_iret hx hb hr hlk hP hS dJ1_indexOfChar_4cfef_32 hE
theorem kJ1_indexOfChar_4cfef (l : Launch) (E : EN) (hD : ∀ σ, va_D (eA E) (xW E σ)) (x0 : Nat) (x1 : Int32) (x2 : Int32) (x3 : Int32) (σ : ST) (F : Int32 × ST) (hE : fJ1_indexOfChar_4cfef x0 x1 x2 x3 σ = some F) : Met l yJ1_indexOfChar_4cfef wu_J1_indexOfChar_4cfef r_J1_indexOfChar_4cfef (zPc E xW [.ref (eV E x0), .int x1, .int x2, .int x3] σ) (zQi E xW F) 0 0 (eA E) := by
  refine Met.ofW (cc := cJ1_indexOfChar_4cfef) (maxL := 6) (ret := (some .int)) (by decide) rfl ?_
  intro p e s m args below meth c s₁ B hml hv
  obtain ⟨rfl, hP, hK⟩ := hv
  have hl := lv_entry ([.ref (eV E x0), .int x1, .int x2, .int x3]) (n := 6) (Nat.le_of_ble_eq_true rfl)
  rw [lg_entry_eq]
  generalize (lg_sl ([.ref (eV E x0), .int x1, .int x2, .int x3]) ++ List.replicate (6 - (lg_sl ([.ref (eV E x0), .int x1, .int x2, .int x3])).length) Slot.unset).toArray = ls at hl ⊢
  exact wJ1_indexOfChar_4cfef ⟨B.exec, B.bytes, hml, findClass_of_methodNamed B.named, fun w h => atoms_spec (ws := wu_J1_indexOfChar_4cfef) B.pre w (List.mem_cons_of_mem _ h), B.returns, B.notSynchronized, hK, hD⟩ x0 x1 x2 x3 σ s.heap [] ls hl hP va_S.rf hE
def fJ1_indexOf_4cfef  (x0 : Nat) (x1 : Int32) (x2 : Int32) (x3 : Int32) (σ : ST) : Option (Int32 × ST) :=
  cali (fJ1_canEncode_9a6ad x1 σ) (fun r_2 σ_1 => (if r_2 = 0 then some ((-1), σ_1) else bnd ((jmax x2 0) : Int32) (fun x2_3 => sg x0 (bnd ((jmin x3 (strLen x0)) : Int32) (fun x3_4 => (if x2_3 < x3_4 then cali (fJ1_indexOfChar_4cfef x0 x1 x2_3 x3_4 σ_1) (fun r_6 σ_5 => some (r_6, σ_5)) else some ((-1), σ_1)))))))
set_option maxHeartbeats 4000000 in
set_option maxRecDepth 100000 in
theorem wJ1_indexOf_4cfef {p : Program} {l : Launch} {e : Env} {s : State} {m : MethodId} {args : Array Value} {below : List Frame} {meth : Method} {c : Code} {E : EN} (C : zC E xW p s m args meth c cJ1_indexOf_4cfef 4 RJ1 (some .int) wsL_law) {F : Int32 × ST}   (x0 : Nat) (x1 : Int32) (x2 : Int32) (x3 : Int32) (σ : ST) (H : Heap) (locs : List Loc) (ls : Array Slot) (hl : lv_has ls 4 [(0, .ref (eV E x0)), (1, .int x1), (2, .int x2), (3, .int x3)]) (hP : va_P (eD E) vwCl (xW E σ) H) (hS : va_S (eA E) s.heap H locs) (hE : fJ1_indexOf_4cfef  x0 x1 x2 x3 σ = some F) : zWi E xW p l e r_J1_indexOf_4cfef s m args below meth c F H locs (F0 m 0 ls []) := by
  obtain ⟨hx, hb, hml, hown, hts, hr, hlk, hK, hD⟩ := id C
  unfold fJ1_indexOf_4cfef at hE
  refine lv_iload_n hx hb dJ1_indexOf_4cfef_0 rfl (lv_at hl 1 rfl) ?_
  refine z_goi (wf := xW) hS hE (fun F1 h1 => (va_runS (As := [.int x1]) (rest := []) ⟨hx, hb, hml, hown, hts⟩ (kJ1_canEncode_9a6ad l E hD x1 σ F1 h1) (va_cwS 1 hts (gU_S u_225 u_226 u_176 u_227) rfl rfl rfl q_J1_canEncode_9a6ad ⟨Nat.le_of_ble_eq_true rfl, Nat.le_of_ble_eq_true rfl⟩) (z_preS hK hP hS) rfl rfl hl.1 rfl (lv_room (Nat.le_of_ble_eq_true rfl)) dJ1_indexOf_4cfef_1 ⟨Nat.le_of_ble_eq_true rfl, Nat.le_of_ble_eq_true rfl⟩)) (fun r_2 σ_1 H locs hP hS hE => ?_)
  refine z_if_ne (tgt := 9) hx hb dJ1_indexOf_4cfef_4 (by decide) hE (fun hE => ?_) (fun hE => ?_)
  · refine lv_iload_n hx hb dJ1_indexOf_4cfef_9 rfl (lv_at hl 2 rfl) ?_
    refine lv_iconst (v := 0) hx hb dJ1_indexOf_4cfef_10 (by decide) ?_
    refine va_mmax hx hb (hml.trans hl.1.symm) hown (hts _ u_218) (hts _ u_219) (hts _ u_220) (hts _ u_221) (Nat.le_of_ble_eq_true rfl) (Nat.le_of_ble_eq_true rfl) (Nat.zero_le _) (Nat.zero_le _) dJ1_indexOf_4cfef_11 ?_
    refine W.eq (g2 := F0 m 14 ls [.int (jmax x2 0)]) rfl ?_
    refine z_istore_n hx hb (fun x2_3 => [(2, .int x2_3), (0, .ref (eV E x0)), (1, .int x1), (3, .int x3)]) dJ1_indexOf_4cfef_14 rfl hl (by decide) rfl hE (fun x2_3 ls hl hE => ?_)
    refine lv_iload_n hx hb dJ1_indexOf_4cfef_15 rfl (lv_at hl 3 rfl) ?_
    refine lv_aload_n hx hb dJ1_indexOf_4cfef_16 rfl (lv_at hl 1 rfl) ?_
    obtain ⟨hj, hE⟩ := z_sg hE
    refine va_tlen hx hb (hK.2.1.1 _ hj).2.2.2 hS (v := strLen x0) rfl dJ1_indexOf_4cfef_17 ?_
    refine va_mmin hx hb (hml.trans hl.1.symm) hown (hts _ u_222) (hts _ u_223) (hts _ u_220) (hts _ u_224) (Nat.le_of_ble_eq_true rfl) (Nat.le_of_ble_eq_true rfl) (Nat.zero_le _) (Nat.zero_le _) dJ1_indexOf_4cfef_18 ?_
    refine W.eq (g2 := F0 m 21 ls [.int (jmin x3 (strLen x0))]) rfl ?_
    refine z_istore_n hx hb (fun x3_4 => [(3, .int x3_4), (2, .int x2_3), (0, .ref (eV E x0)), (1, .int x1)]) dJ1_indexOf_4cfef_21 rfl hl (by decide) rfl hE (fun x3_4 ls hl hE => ?_)
    refine lv_iload_n hx hb dJ1_indexOf_4cfef_22 rfl (lv_at hl 1 rfl) ?_
    refine lv_iload_n hx hb dJ1_indexOf_4cfef_23 rfl (lv_at hl 0 rfl) ?_
    refine z_icmp_lt (tgt := 29) hx hb dJ1_indexOf_4cfef_24 (by decide) hE (fun hE => ?_) (fun hE => ?_)
    · refine lv_aload_n hx hb dJ1_indexOf_4cfef_29 rfl (lv_at hl 2 rfl) ?_
      refine lv_iload_n hx hb dJ1_indexOf_4cfef_30 rfl (lv_at hl 3 rfl) ?_
      refine lv_iload_n hx hb dJ1_indexOf_4cfef_31 rfl (lv_at hl 1 rfl) ?_
      refine lv_iload_n hx hb dJ1_indexOf_4cfef_32 rfl (lv_at hl 0 rfl) ?_
      refine z_goi (wf := xW) hS hE (fun F1 h1 => (va_runS (As := [.ref (eV E x0), .int x1, .int x2_3, .int x3_4]) (rest := []) ⟨hx, hb, hml, hown, hts⟩ (kJ1_indexOfChar_4cfef l E hD x0 x1 x2_3 x3_4 σ_1 F1 h1) (va_cwS 4 hts (gU_S u_228 u_229 u_176 u_230) rfl rfl rfl q_J1_indexOfChar_4cfef ⟨Nat.le_of_ble_eq_true rfl, Nat.le_of_ble_eq_true rfl⟩) (z_preS hK hP hS) rfl rfl hl.1 rfl (lv_room (Nat.le_of_ble_eq_true rfl)) dJ1_indexOf_4cfef_33 ⟨Nat.le_of_ble_eq_true rfl, Nat.le_of_ble_eq_true rfl⟩)) (fun r_6 σ_5 H locs hP hS hE => ?_)
      exact z_iret hx hb hr hlk hP hS dJ1_indexOf_4cfef_36 hE
    refine lv_iconst (v := -1) hx hb dJ1_indexOf_4cfef_27 (by decide) ?_
    exact z_iret hx hb hr hlk hP hS dJ1_indexOf_4cfef_28 hE
  refine lv_iconst (v := -1) hx hb dJ1_indexOf_4cfef_7 (by decide) ?_
  exact z_iret hx hb hr hlk hP hS dJ1_indexOf_4cfef_8 hE
theorem kJ1_indexOf_4cfef (l : Launch) (E : EN) (hD : ∀ σ, va_D (eA E) (xW E σ)) (x0 : Nat) (x1 : Int32) (x2 : Int32) (x3 : Int32) (σ : ST) (F : Int32 × ST) (hE : fJ1_indexOf_4cfef x0 x1 x2 x3 σ = some F) : Met l yJ1_indexOf_4cfef wu_J1_indexOf_4cfef r_J1_indexOf_4cfef (zPc E xW [.ref (eV E x0), .int x1, .int x2, .int x3] σ) (zQi E xW F) 0 0 (eA E) := by
  refine Met.ofW (cc := cJ1_indexOf_4cfef) (maxL := 4) (ret := (some .int)) (by decide) rfl ?_
  intro p e s m args below meth c s₁ B hml hv
  obtain ⟨rfl, hP, hK⟩ := hv
  have hl := lv_entry ([.ref (eV E x0), .int x1, .int x2, .int x3]) (n := 4) (Nat.le_of_ble_eq_true rfl)
  rw [lg_entry_eq]
  generalize (lg_sl ([.ref (eV E x0), .int x1, .int x2, .int x3]) ++ List.replicate (4 - (lg_sl ([.ref (eV E x0), .int x1, .int x2, .int x3])).length) Slot.unset).toArray = ls at hl ⊢
  exact wJ1_indexOf_4cfef ⟨B.exec, B.bytes, hml, findClass_of_methodNamed B.named, fun w h => atoms_spec (ws := wu_J1_indexOf_4cfef) B.pre w (List.mem_cons_of_mem _ h), B.returns, B.notSynchronized, hK, hD⟩ x0 x1 x2 x3 σ s.heap [] ls hl hP va_S.rf hE
def fJ0_indexOf_7cf53  (x0 : Nat) (x1 : Int32) (x2 : Int32) (σ : ST) : Option (Int32 × ST) :=
  sg x0 (cali (fJ0_isLatin1_aae02 x0 σ) (fun r_2 σ_1 => (if r_2 = 0 then none else sg x0 (sg x0 (cali (fJ0_length_8abf5 x0 σ_1) (fun r_6 σ_5 => cali (fJ1_indexOf_4cfef x0 x1 x2 r_6 σ_5) (fun r_8 σ_7 => some (r_8, σ_7))))))))
set_option maxHeartbeats 4000000 in
set_option maxRecDepth 100000 in
theorem wJ0_indexOf_7cf53 {p : Program} {l : Launch} {e : Env} {s : State} {m : MethodId} {args : Array Value} {below : List Frame} {meth : Method} {c : Code} {E : EN} (C : zC E xW p s m args meth c cJ0_indexOf_7cf53 3 RJ0 (some .int) wsL_law) {F : Int32 × ST}   (x0 : Nat) (x1 : Int32) (x2 : Int32) (σ : ST) (H : Heap) (locs : List Loc) (ls : Array Slot) (hl : lv_has ls 3 [(0, .ref (eK E x0)), (1, .int x1), (2, .int x2)]) (hP : va_P (eD E) vwCl (xW E σ) H) (hS : va_S (eA E) s.heap H locs) (hE : fJ0_indexOf_7cf53  x0 x1 x2 σ = some F) : zWi E xW p l e r_J0_indexOf_7cf53 s m args below meth c F H locs (F0 m 0 ls []) := by
  obtain ⟨hx, hb, hml, hown, hts, hr, hlk, hK, hD⟩ := id C
  unfold fJ0_indexOf_7cf53 at hE
  refine lv_aload_n hx hb dJ0_indexOf_7cf53_0 rfl (lv_at hl 0 rfl) ?_
  obtain ⟨hj, hE⟩ := z_sg hE
  refine z_goi (wf := xW) hS hE (fun F1 h1 => (va_runV (As := []) (rest := []) ⟨hx, hb, hml, hown, hts⟩ (kJ0_isLatin1_aae02 l E hD x0 σ F1 h1) (cwV 0 hts (gU_V u_170 u_171 u_172 u_150 u_173) rfl rfl rfl q_J0_isLatin1_aae02 ⟨Nat.le_of_ble_eq_true rfl, Nat.le_of_ble_eq_true rfl⟩) (z_preVs hK hP hS hj) rfl rfl hl.1 rfl (lv_room (Nat.le_of_ble_eq_true rfl)) dJ0_indexOf_7cf53_1 ⟨Nat.le_of_ble_eq_true rfl, Nat.le_of_ble_eq_true rfl⟩)) (fun r_2 σ_1 H locs hP hS hE => ?_)
  refine z_if_eq (tgt := 23) hx hb dJ0_indexOf_7cf53_4 (by decide) hE (fun hE => ?_) (fun hE => ?_)
  · cases hE
  refine lv_aload_n hx hb dJ0_indexOf_7cf53_7 rfl (lv_at hl 0 rfl) ?_
  obtain ⟨hj, hE⟩ := z_sg hE
  refine vk_getf hx hb (hK.2.1.1 _ hj).2.2.1 hS hown (hts _ u_152) (fun _ h9 => h9) dJ0_indexOf_7cf53_8 ?_
  refine lv_iload_n hx hb dJ0_indexOf_7cf53_11 rfl (lv_at hl 1 rfl) ?_
  refine lv_iload_n hx hb dJ0_indexOf_7cf53_12 rfl (lv_at hl 2 rfl) ?_
  refine lv_aload_n hx hb dJ0_indexOf_7cf53_13 rfl (lv_at hl 0 rfl) ?_
  obtain ⟨hj, hE⟩ := z_sg hE
  refine z_goi (wf := xW) hS hE (fun F1 h1 => (va_runV (As := []) (rest := [.int x2, .int x1, .ref (eV E x0)]) ⟨hx, hb, hml, hown, hts⟩ (kJ0_length_8abf5 l E hD x0 σ_1 F1 h1) (cwV 0 hts (gU_V u_214 u_148 u_149 u_150 u_151) rfl rfl rfl q_J0_length_8abf5 ⟨Nat.le_of_ble_eq_true rfl, Nat.le_of_ble_eq_true rfl⟩) (z_preVs hK hP hS hj) rfl rfl hl.1 rfl (lv_room (Nat.le_of_ble_eq_true rfl)) dJ0_indexOf_7cf53_14 ⟨Nat.le_of_ble_eq_true rfl, Nat.le_of_ble_eq_true rfl⟩)) (fun r_6 σ_5 H locs hP hS hE => ?_)
  refine z_goi (wf := xW) hS hE (fun F1 h1 => (va_runS (As := [.ref (eV E x0), .int x1, .int x2, .int r_6]) (rest := []) ⟨hx, hb, hml, hown, hts⟩ (kJ1_indexOf_4cfef l E hD x0 x1 x2 r_6 σ_5 F1 h1) (va_cwS 4 hts (gU_S u_215 u_216 u_176 u_217) rfl rfl rfl q_J1_indexOf_4cfef ⟨Nat.le_of_ble_eq_true rfl, Nat.le_of_ble_eq_true rfl⟩) (z_preS hK hP hS) rfl rfl hl.1 rfl (lv_room (Nat.le_of_ble_eq_true rfl)) dJ0_indexOf_7cf53_17 ⟨Nat.le_of_ble_eq_true rfl, Nat.le_of_ble_eq_true rfl⟩)) (fun r_8 σ_7 H locs hP hS hE => ?_)
  refine lv_goto (tgt := 36) hx hb dJ0_indexOf_7cf53_20 (by decide) ?_
  exact z_iret hx hb hr hlk hP hS dJ0_indexOf_7cf53_36 hE
theorem kJ0_indexOf_7cf53 (l : Launch) (E : EN) (hD : ∀ σ, va_D (eA E) (xW E σ)) (x0 : Nat) (x1 : Int32) (x2 : Int32) (σ : ST) (F : Int32 × ST) (hE : fJ0_indexOf_7cf53 x0 x1 x2 σ = some F) : Met l yJ0_indexOf_7cf53 wu_J0_indexOf_7cf53 r_J0_indexOf_7cf53 (zPc E xW [.ref (eK E x0), .int x1, .int x2] σ) (zQi E xW F) 0 0 (eA E) := by
  refine Met.ofW (cc := cJ0_indexOf_7cf53) (maxL := 3) (ret := (some .int)) (by decide) rfl ?_
  intro p e s m args below meth c s₁ B hml hv
  obtain ⟨rfl, hP, hK⟩ := hv
  have hl := lv_entry ([.ref (eK E x0), .int x1, .int x2]) (n := 3) (Nat.le_of_ble_eq_true rfl)
  rw [lg_entry_eq]
  generalize (lg_sl ([.ref (eK E x0), .int x1, .int x2]) ++ List.replicate (3 - (lg_sl ([.ref (eK E x0), .int x1, .int x2])).length) Slot.unset).toArray = ls at hl ⊢
  exact wJ0_indexOf_7cf53 ⟨B.exec, B.bytes, hml, findClass_of_methodNamed B.named, fun w h => atoms_spec (ws := wu_J0_indexOf_7cf53) B.pre w (List.mem_cons_of_mem _ h), B.returns, B.notSynchronized, hK, hD⟩ x0 x1 x2 σ s.heap [] ls hl hP va_S.rf hE
