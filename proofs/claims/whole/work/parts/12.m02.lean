def fX5_read_L12 (ke : Int32 → ST → Option (Int32 × ST)) : Nat → Int32 → ST → Option (Int32 × ST)
  | 0, _, _ => none
  | n + 1, x1, σ => calv (fX5_statement σ) (fun σ_4 => bnd (x1 + 1) (fun x1_5 => (if (gI σ_4 3) = 0 then ke x1_5 σ_4 else (if (gI σ_4 2) < (gI σ_4 1) then fX5_read_L12 ke n x1_5 σ_4 else ke x1_5 σ_4))))
set_option maxHeartbeats 4000000 in
set_option maxRecDepth 100000 in
theorem wX5_read_L12 {p : Program} {l : Launch} {e : Env} {s : State} {m : MethodId} {args : Array Value} {below : List Frame} {meth : Method} {c : Code} {E : EN} (C : zC E mW p s m args meth c cX5_read 3 RX5 (some .int) wsL_law) {F : Int32 × ST} {ke : Int32 → ST → Option (Int32 × ST)} (hke : ∀ (x1 : Int32) (σ : ST) (H : Heap) (locs : List Loc) (ls : Array Slot), lv_has ls 3 [(0, .ref (ea E 0)), (1, .int x1)] → va_P (eD E) vwCl (mW E σ) H → va_S (eA E) s.heap H locs → ke x1 σ = some F → zWi E mW p l e r_X5_read s m args below meth c F H locs (F0 m 37 ls [])) : ∀ (n : Nat) (x1 : Int32) (σ : ST) (H : Heap) (locs : List Loc) (ls : Array Slot), lv_has ls 3 [(0, .ref (ea E 0)), (1, .int x1)] → va_P (eD E) vwCl (mW E σ) H → va_S (eA E) s.heap H locs → fX5_read_L12 ke n x1 σ = some F → zWi E mW p l e r_X5_read s m args below meth c F H locs (F0 m 12 ls []) := by
  obtain ⟨hx, hb, hml, hown, hts, hr, hlk, hK, hD⟩ := id C
  have hwX5 : ∀ w ∈ wsX50, w.before args s = true := fun w h => hts w (inlX5 w h)
  intro n
  induction n with
  | zero => intro x1 σ H locs ls hl hP hS hE; rw [fX5_read_L12] at hE; cases hE
  | succ n ih =>
    intro x1 σ H locs ls hl hP hS hE
    rw [fX5_read_L12] at hE
    refine lv_aload_n hx hb dX5_read_12 rfl (lv_at hl 0 rfl) ?_
    refine z_gov (wf := mW) hS hE (fun F1 h1 => (va_runV (As := []) (rest := []) ⟨hx, hb, hml, hown, hts⟩ (kX5_statement l E hD  σ F1 h1) (cwV 0 hts (gU_V u_352 u_353 u_354 u_5 u_355) rfl rfl rfl q_X5_statement ⟨Nat.le_of_ble_eq_true rfl, Nat.le_of_ble_eq_true rfl⟩) (z_preV hK hP hS (ci := 5) (q0 := 0) rfl rfl rfl) rfl rfl hl.1 rfl (lv_room (Nat.le_of_ble_eq_true rfl)) dX5_read_13 ⟨Nat.le_of_ble_eq_true rfl, Nat.le_of_ble_eq_true rfl⟩)) (fun σ_4 H locs hP hS hE => ?_)
    refine z_iinc hx hb (v := (x1 + 1)) (k := 1) (fun x1_5 => [(1, .int x1_5), (0, .ref (ea E 0))]) dX5_read_16 hl rfl (by rfl) (by decide) rfl hE (fun x1_5 ls hl hE => ?_)
    refine lv_aload_n hx hb dX5_read_19 rfl (lv_at hl 1 rfl) ?_
    refine mg_0_7 hx hb hown hwX5 (hts _ u_351) hK hP dX5_read_20 ?_
    refine z_if_eq (tgt := 37) hx hb dX5_read_23 (by decide) hE (fun hE => ?_) (fun hE => ?_)
    · exact hke x1_5 σ_4 _ _ _ (lv_sub hl [1, 0] rfl) hP hS hE
    refine lv_aload_n hx hb dX5_read_26 rfl (lv_at hl 1 rfl) ?_
    refine mg_0_6 hx hb hown hwX5 (hts _ u_350) hK hP dX5_read_27 ?_
    refine lv_aload_n hx hb dX5_read_30 rfl (lv_at hl 1 rfl) ?_
    refine mg_0_5 hx hb hown hwX5 (hts _ u_130) hK hP dX5_read_31 ?_
    refine z_icmp_lt (tgt := 12) hx hb dX5_read_34 (by decide) hE (fun hE => ?_) (fun hE => ?_)
    · exact ih x1_5 σ_4 _ _ _ (lv_sub hl [1, 0] rfl) hP hS hE
    exact hke x1_5 σ_4 _ _ _ (lv_sub hl [1, 0] rfl) hP hS hE
def fX5_read_L69 (ke : Int32 → ST → Option (Int32 × ST)) : Nat → Int32 → ST → Option (Int32 × ST)
  | 0, _, _ => none
  | n + 1, x1, σ => (if (gI σ 1) ≤ (gI σ 2) then ke x1 σ else bnd ((gI σ 2) : Int32) (fun x2_10 => calv (fX5_statement σ) (fun σ_11 => cali (fX5_isAsItMustBe σ_11) (fun r_13 σ_12 => (if r_13 = 0 then calv (fX5_move_8_2 σ_12) (fun σ_15 => some (((-2000) - x2_10), σ_15)) else calv (fX5_take σ_12) (fun σ_14 => fX5_read_L69 ke n x1 σ_14))))))
set_option maxHeartbeats 4000000 in
set_option maxRecDepth 100000 in
theorem wX5_read_L69 {p : Program} {l : Launch} {e : Env} {s : State} {m : MethodId} {args : Array Value} {below : List Frame} {meth : Method} {c : Code} {E : EN} (C : zC E mW p s m args meth c cX5_read 3 RX5 (some .int) wsL_law) {F : Int32 × ST} {ke : Int32 → ST → Option (Int32 × ST)} (hke : ∀ (x1 : Int32) (σ : ST) (H : Heap) (locs : List Loc) (ls : Array Slot), lv_has ls 3 [(1, .int x1)] → va_P (eD E) vwCl (mW E σ) H → va_S (eA E) s.heap H locs → ke x1 σ = some F → zWi E mW p l e r_X5_read s m args below meth c F H locs (F0 m 120 ls [])) : ∀ (n : Nat) (x1 : Int32) (σ : ST) (H : Heap) (locs : List Loc) (ls : Array Slot), lv_has ls 3 [(0, .ref (ea E 0)), (1, .int x1)] → va_P (eD E) vwCl (mW E σ) H → va_S (eA E) s.heap H locs → fX5_read_L69 ke n x1 σ = some F → zWi E mW p l e r_X5_read s m args below meth c F H locs (F0 m 69 ls []) := by
  obtain ⟨hx, hb, hml, hown, hts, hr, hlk, hK, hD⟩ := id C
  have hwX5 : ∀ w ∈ wsX50, w.before args s = true := fun w h => hts w (inlX5 w h)
  intro n
  induction n with
  | zero => intro x1 σ H locs ls hl hP hS hE; rw [fX5_read_L69] at hE; cases hE
  | succ n ih =>
    intro x1 σ H locs ls hl hP hS hE
    rw [fX5_read_L69] at hE
    refine lv_aload_n hx hb dX5_read_69 rfl (lv_at hl 0 rfl) ?_
    refine mg_0_6 hx hb hown hwX5 (hts _ u_350) hK hP dX5_read_70 ?_
    refine lv_aload_n hx hb dX5_read_73 rfl (lv_at hl 0 rfl) ?_
    refine mg_0_5 hx hb hown hwX5 (hts _ u_130) hK hP dX5_read_74 ?_
    refine z_icmp_ge (tgt := 120) hx hb dX5_read_77 (by decide) hE (fun hE => ?_) (fun hE => ?_)
    · exact hke x1 σ _ _ _ (lv_sub hl [1] rfl) hP hS hE
    refine lv_aload_n hx hb dX5_read_80 rfl (lv_at hl 0 rfl) ?_
    refine mg_0_6 hx hb hown hwX5 (hts _ u_350) hK hP dX5_read_81 ?_
    refine z_istore_n hx hb (fun x2_10 => [(2, .int x2_10), (0, .ref (ea E 0)), (1, .int x1)]) dX5_read_84 rfl hl (by decide) rfl hE (fun x2_10 ls hl hE => ?_)
    refine lv_aload_n hx hb dX5_read_85 rfl (lv_at hl 1 rfl) ?_
    refine z_gov (wf := mW) hS hE (fun F1 h1 => (va_runV (As := []) (rest := []) ⟨hx, hb, hml, hown, hts⟩ (kX5_statement l E hD  σ F1 h1) (cwV 0 hts (gU_V u_352 u_353 u_354 u_5 u_355) rfl rfl rfl q_X5_statement ⟨Nat.le_of_ble_eq_true rfl, Nat.le_of_ble_eq_true rfl⟩) (z_preV hK hP hS (ci := 5) (q0 := 0) rfl rfl rfl) rfl rfl hl.1 rfl (lv_room (Nat.le_of_ble_eq_true rfl)) dX5_read_86 ⟨Nat.le_of_ble_eq_true rfl, Nat.le_of_ble_eq_true rfl⟩)) (fun σ_11 H locs hP hS hE => ?_)
    refine lv_aload_n hx hb dX5_read_89 rfl (lv_at hl 1 rfl) ?_
    refine z_goi (wf := mW) hS hE (fun F1 h1 => (va_runV (As := []) (rest := []) ⟨hx, hb, hml, hown, hts⟩ (kX5_isAsItMustBe l E hD  σ_11 F1 h1) (cwV 0 hts (gU_V u_368 u_369 u_370 u_5 u_371) rfl rfl rfl q_X5_isAsItMustBe ⟨Nat.le_of_ble_eq_true rfl, Nat.le_of_ble_eq_true rfl⟩) (z_preV hK hP hS (ci := 5) (q0 := 0) rfl rfl rfl) rfl rfl hl.1 rfl (lv_room (Nat.le_of_ble_eq_true rfl)) dX5_read_90 ⟨Nat.le_of_ble_eq_true rfl, Nat.le_of_ble_eq_true rfl⟩)) (fun r_13 σ_12 H locs hP hS hE => ?_)
    refine z_if_ne (tgt := 113) hx hb dX5_read_93 (by decide) hE (fun hE => ?_) (fun hE => ?_)
    · refine lv_aload_n hx hb dX5_read_113 rfl (lv_at hl 1 rfl) ?_
      refine z_gov (wf := mW) hS hE (fun F1 h1 => (va_runV (As := []) (rest := []) ⟨hx, hb, hml, hown, hts⟩ (kX5_take l E hD  σ_12 F1 h1) (cwV 0 hts (gU_V u_372 u_373 u_374 u_5 u_375) rfl rfl rfl q_X5_take ⟨Nat.le_of_ble_eq_true rfl, Nat.le_of_ble_eq_true rfl⟩) (z_preV hK hP hS (ci := 5) (q0 := 0) rfl rfl rfl) rfl rfl hl.1 rfl (lv_room (Nat.le_of_ble_eq_true rfl)) dX5_read_114 ⟨Nat.le_of_ble_eq_true rfl, Nat.le_of_ble_eq_true rfl⟩)) (fun σ_14 H locs hP hS hE => ?_)
      refine lv_goto (tgt := 69) hx hb dX5_read_117 (by decide) ?_
      exact ih x1 σ_14 _ _ _ (lv_sub hl [1, 2] rfl) hP hS hE
    refine lv_aload_n hx hb dX5_read_96 rfl (lv_at hl 1 rfl) ?_
    refine mg_0_12 hx hb hown hwX5 (hts _ u_104) hK hP dX5_read_97 ?_
    refine lv_aload_n hx hb dX5_read_100 rfl (lv_at hl 1 rfl) ?_
    refine mg_0_1 hx hb hown hwX5 (hts _ u_97) hK hP dX5_read_101 ?_
    refine z_gov (wf := mW) hS hE (fun F1 h1 => (va_runS (As := [.ref (ea E 8), .ref (ea E 2)]) (rest := []) ⟨hx, hb, hml, hown, hts⟩ (kX5_move_8_2 l E hD  σ_12 F1 h1) (va_cwS 2 hts (gU_S u_365 u_366 u_5 u_367) rfl rfl rfl q_X5_move ⟨Nat.le_of_ble_eq_true rfl, Nat.le_of_ble_eq_true rfl⟩) (z_preS hK hP hS) rfl rfl hl.1 rfl (lv_room (Nat.le_of_ble_eq_true rfl)) dX5_read_104 ⟨Nat.le_of_ble_eq_true rfl, Nat.le_of_ble_eq_true rfl⟩)) (fun σ_15 H locs hP hS hE => ?_)
    refine lv_sipush (v := -2000) hx hb dX5_read_107 (by decide) ?_
    refine lv_iload_n hx hb dX5_read_110 rfl (lv_at hl 0 rfl) ?_
    refine lv_isub hx hb dX5_read_111 ?_
    exact z_iret hx hb hr hlk hP hS dX5_read_112 hE
def fX5_read_J37  (x1 : Int32) (σ : ST) : Option (Int32 × ST) :=
  (if (gI σ 3) = 0 then some (((-1000) - (gI σ 2)), σ) else bnd (sI σ 2 0) (fun σ_8 => calv (fX5_move_2_8 σ_8) (fun σ_9 => fX5_read_L69 (fun x1_16 σ_17 => some (x1_16, σ_17)) FU x1 σ_9)))
set_option maxHeartbeats 4000000 in
set_option maxRecDepth 100000 in
theorem wX5_read_J37 {p : Program} {l : Launch} {e : Env} {s : State} {m : MethodId} {args : Array Value} {below : List Frame} {meth : Method} {c : Code} {E : EN} (C : zC E mW p s m args meth c cX5_read 3 RX5 (some .int) wsL_law) {F : Int32 × ST}   (x1 : Int32) (σ : ST) (H : Heap) (locs : List Loc) (ls : Array Slot) (hl : lv_has ls 3 [(0, .ref (ea E 0)), (1, .int x1)]) (hP : va_P (eD E) vwCl (mW E σ) H) (hS : va_S (eA E) s.heap H locs) (hE : fX5_read_J37  x1 σ = some F) : zWi E mW p l e r_X5_read s m args below meth c F H locs (F0 m 37 ls []) := by
  obtain ⟨hx, hb, hml, hown, hts, hr, hlk, hK, hD⟩ := id C
  have hwX5 : ∀ w ∈ wsX50, w.before args s = true := fun w h => hts w (inlX5 w h)
  unfold fX5_read_J37 at hE
  refine lv_aload_n hx hb dX5_read_37 rfl (lv_at hl 0 rfl) ?_
  refine mg_0_7 hx hb hown hwX5 (hts _ u_351) hK hP dX5_read_38 ?_
  refine z_if_ne (tgt := 53) hx hb dX5_read_41 (by decide) hE (fun hE => ?_) (fun hE => ?_)
  · refine lv_aload_n hx hb dX5_read_53 rfl (lv_at hl 0 rfl) ?_
    refine lv_iconst (v := 0) hx hb dX5_read_54 (by decide) ?_
    refine mp_0_6 hx hb hown hwX5 (hts _ u_350) hK hD hP hS dX5_read_55 hE (fun σ_8 H locs hP hS hE => ?_)
    refine lv_aload_n hx hb dX5_read_58 rfl (lv_at hl 0 rfl) ?_
    refine mg_0_1 hx hb hown hwX5 (hts _ u_97) hK hP dX5_read_59 ?_
    refine lv_aload_n hx hb dX5_read_62 rfl (lv_at hl 0 rfl) ?_
    refine mg_0_12 hx hb hown hwX5 (hts _ u_104) hK hP dX5_read_63 ?_
    refine z_gov (wf := mW) hS hE (fun F1 h1 => (va_runS (As := [.ref (ea E 2), .ref (ea E 8)]) (rest := []) ⟨hx, hb, hml, hown, hts⟩ (kX5_move_2_8 l E hD  σ_8 F1 h1) (va_cwS 2 hts (gU_S u_365 u_366 u_5 u_367) rfl rfl rfl q_X5_move ⟨Nat.le_of_ble_eq_true rfl, Nat.le_of_ble_eq_true rfl⟩) (z_preS hK hP hS) rfl rfl hl.1 rfl (lv_room (Nat.le_of_ble_eq_true rfl)) dX5_read_66 ⟨Nat.le_of_ble_eq_true rfl, Nat.le_of_ble_eq_true rfl⟩)) (fun σ_9 H locs hP hS hE => ?_)
    refine wX5_read_L69 C ?_ FU x1 σ_9 _ _ _ (lv_sub hl [0, 1] rfl) hP hS hE
    intro x1_16 σ_17 H locs ls hl hP hS hE
    refine lv_iload_n hx hb dX5_read_120 rfl (lv_at hl 0 rfl) ?_
    exact z_iret hx hb hr hlk hP hS dX5_read_121 hE
  refine lv_sipush (v := -1000) hx hb dX5_read_44 (by decide) ?_
  refine lv_aload_n hx hb dX5_read_47 rfl (lv_at hl 0 rfl) ?_
  refine mg_0_6 hx hb hown hwX5 (hts _ u_350) hK hP dX5_read_48 ?_
  refine lv_isub hx hb dX5_read_51 ?_
  exact z_iret hx hb hr hlk hP hS dX5_read_52 hE
def fX5_read   (σ : ST) : Option (Int32 × ST) :=
  bnd (0 : Int32) (fun x1_1 => bnd (sI σ 2 0) (fun σ_2 => bnd (sI σ_2 3 1) (fun σ_3 => fX5_read_L12 (fun x1_6 σ_7 => fX5_read_J37  x1_6 σ_7) FU x1_1 σ_3)))
set_option maxHeartbeats 4000000 in
set_option maxRecDepth 100000 in
theorem wX5_read {p : Program} {l : Launch} {e : Env} {s : State} {m : MethodId} {args : Array Value} {below : List Frame} {meth : Method} {c : Code} {E : EN} (C : zC E mW p s m args meth c cX5_read 3 RX5 (some .int) wsL_law) {F : Int32 × ST}    (σ : ST) (H : Heap) (locs : List Loc) (ls : Array Slot) (hl : lv_has ls 3 [(0, .ref (ea E 0))]) (hP : va_P (eD E) vwCl (mW E σ) H) (hS : va_S (eA E) s.heap H locs) (hE : fX5_read   σ = some F) : zWi E mW p l e r_X5_read s m args below meth c F H locs (F0 m 0 ls []) := by
  obtain ⟨hx, hb, hml, hown, hts, hr, hlk, hK, hD⟩ := id C
  have hwX5 : ∀ w ∈ wsX50, w.before args s = true := fun w h => hts w (inlX5 w h)
  unfold fX5_read at hE
  refine lv_iconst (v := 0) hx hb dX5_read_0 (by decide) ?_
  refine z_istore_n hx hb (fun x1_1 => [(1, .int x1_1), (0, .ref (ea E 0))]) dX5_read_1 rfl hl (by decide) rfl hE (fun x1_1 ls hl hE => ?_)
  refine lv_aload_n hx hb dX5_read_2 rfl (lv_at hl 1 rfl) ?_
  refine lv_iconst (v := 0) hx hb dX5_read_3 (by decide) ?_
  refine mp_0_6 hx hb hown hwX5 (hts _ u_350) hK hD hP hS dX5_read_4 hE (fun σ_2 H locs hP hS hE => ?_)
  refine lv_aload_n hx hb dX5_read_7 rfl (lv_at hl 1 rfl) ?_
  refine lv_iconst (v := 1) hx hb dX5_read_8 (by decide) ?_
  refine mp_0_7 hx hb hown hwX5 (hts _ u_351) hK hD hP hS rfl dX5_read_9 hE (fun σ_3 H locs hP hS hE => ?_)
  refine wX5_read_L12 C ?_ FU x1_1 σ_3 _ _ _ (lv_sub hl [1, 0] rfl) hP hS hE
  intro x1_6 σ_7 H locs ls hl hP hS hE
  exact wX5_read_J37 C  x1_6 σ_7 _ _ _ (lv_sub hl [0, 1] rfl) hP hS hE
theorem kX5_read (l : Launch) (E : EN) (hD : ∀ σ, va_D (eA E) (mW E σ))  (σ : ST) (F : Int32 × ST) (hE : fX5_read  σ = some F) : Met l yX5_read wu_X5_read r_X5_read (zPc E mW [.ref (ea E 0)] σ) (zQi E mW F) 0 0 (eA E) := by
  refine Met.ofW (cc := cX5_read) (maxL := 3) (ret := (some .int)) (by decide) rfl ?_
  intro p e s m args below meth c s₁ B hml hv
  obtain ⟨rfl, hP, hK⟩ := hv
  have hl := lv_entry ([.ref (ea E 0)]) (n := 3) (Nat.le_of_ble_eq_true rfl)
  rw [lg_entry_eq]
  generalize (lg_sl ([.ref (ea E 0)]) ++ List.replicate (3 - (lg_sl ([.ref (ea E 0)])).length) Slot.unset).toArray = ls at hl ⊢
  exact wX5_read ⟨B.exec, B.bytes, hml, findClass_of_methodNamed B.named, fun w h => atoms_spec (ws := wu_X5_read) B.pre w (List.mem_cons_of_mem _ h), B.returns, B.notSynchronized, hK, hD⟩  σ s.heap [] ls hl hP va_S.rf hE
def fX5_town   (σ : ST) : Option (Int32 × ST) :=
  cali (fX5_read σ) (fun r_2 σ_1 => bnd (r_2 : Int32) (fun x1_3 => bnd (sI σ_1 1 0) (fun σ_4 => some (x1_3, σ_4))))
set_option maxHeartbeats 4000000 in
set_option maxRecDepth 100000 in
theorem wX5_town {p : Program} {l : Launch} {e : Env} {s : State} {m : MethodId} {args : Array Value} {below : List Frame} {meth : Method} {c : Code} {E : EN} (C : zC E mW p s m args meth c cX5_town 2 RX5 (some .int) wsL_law) {F : Int32 × ST}    (σ : ST) (H : Heap) (locs : List Loc) (ls : Array Slot) (hl : lv_has ls 2 [(0, .ref (ea E 0))]) (hP : va_P (eD E) vwCl (mW E σ) H) (hS : va_S (eA E) s.heap H locs) (hE : fX5_town   σ = some F) : zWi E mW p l e r_X5_town s m args below meth c F H locs (F0 m 0 ls []) := by
  obtain ⟨hx, hb, hml, hown, hts, hr, hlk, hK, hD⟩ := id C
  have hwX5 : ∀ w ∈ wsX50, w.before args s = true := fun w h => hts w (inlX5 w h)
  unfold fX5_town at hE
  refine lv_aload_n hx hb dX5_town_0 rfl (lv_at hl 0 rfl) ?_
  refine z_goi (wf := mW) hS hE (fun F1 h1 => (va_runV (As := []) (rest := []) ⟨hx, hb, hml, hown, hts⟩ (kX5_read l E hD  σ F1 h1) (cwV 0 hts (gU_V u_346 u_347 u_348 u_5 u_349) rfl rfl rfl q_X5_read ⟨Nat.le_of_ble_eq_true rfl, Nat.le_of_ble_eq_true rfl⟩) (z_preV hK hP hS (ci := 5) (q0 := 0) rfl rfl rfl) rfl rfl hl.1 rfl (lv_room (Nat.le_of_ble_eq_true rfl)) dX5_town_1 ⟨Nat.le_of_ble_eq_true rfl, Nat.le_of_ble_eq_true rfl⟩)) (fun r_2 σ_1 H locs hP hS hE => ?_)
  refine z_istore_n hx hb (fun x1_3 => [(1, .int x1_3), (0, .ref (ea E 0))]) dX5_town_4 rfl hl (by decide) rfl hE (fun x1_3 ls hl hE => ?_)
  refine lv_aload_n hx hb dX5_town_5 rfl (lv_at hl 1 rfl) ?_
  refine lv_iconst (v := 0) hx hb dX5_town_6 (by decide) ?_
  refine mp_0_5 hx hb hown hwX5 (hts _ u_130) hK hD hP hS dX5_town_7 hE (fun σ_4 H locs hP hS hE => ?_)
  refine lv_iload_n hx hb dX5_town_10 rfl (lv_at hl 0 rfl) ?_
  exact z_iret hx hb hr hlk hP hS dX5_town_11 hE
theorem kX5_town (l : Launch) (E : EN) (hD : ∀ σ, va_D (eA E) (mW E σ))  (σ : ST) (F : Int32 × ST) (hE : fX5_town  σ = some F) : Met l yX5_town wu_X5_town r_X5_town (zPc E mW [.ref (ea E 0)] σ) (zQi E mW F) 0 0 (eA E) := by
  refine Met.ofW (cc := cX5_town) (maxL := 2) (ret := (some .int)) (by decide) rfl ?_
  intro p e s m args below meth c s₁ B hml hv
  obtain ⟨rfl, hP, hK⟩ := hv
  have hl := lv_entry ([.ref (ea E 0)]) (n := 2) (Nat.le_of_ble_eq_true rfl)
  rw [lg_entry_eq]
  generalize (lg_sl ([.ref (ea E 0)]) ++ List.replicate (2 - (lg_sl ([.ref (ea E 0)])).length) Slot.unset).toArray = ls at hl ⊢
  exact wX5_town ⟨B.exec, B.bytes, hml, findClass_of_methodNamed B.named, fun w h => atoms_spec (ws := wu_X5_town) B.pre w (List.mem_cons_of_mem _ h), B.returns, B.notSynchronized, hK, hD⟩  σ s.heap [] ls hl hP va_S.rf hE
def fX5_isNoPlace  (x1 : Int32) (σ : ST) : Option (Int32 × ST) :=
  (if x1 < 0 then some (1, σ) else ald (gA σ 1) 200 0 (fun v_1 => (if x1 < v_1 then some (0, σ) else some (1, σ))))
set_option maxHeartbeats 4000000 in
set_option maxRecDepth 100000 in
theorem wX5_isNoPlace {p : Program} {l : Launch} {e : Env} {s : State} {m : MethodId} {args : Array Value} {below : List Frame} {meth : Method} {c : Code} {E : EN} (C : zC E mW p s m args meth c cX5_isNoPlace 2 RX5 (some .boolean) wsL_law) {F : Int32 × ST}   (x1 : Int32) (σ : ST) (H : Heap) (locs : List Loc) (ls : Array Slot) (hl : lv_has ls 2 [(0, .ref (ea E 0)), (1, .int x1)]) (hP : va_P (eD E) vwCl (mW E σ) H) (hS : va_S (eA E) s.heap H locs) (hE : fX5_isNoPlace  x1 σ = some F) : zWi E mW p l e r_X5_isNoPlace s m args below meth c F H locs (F0 m 0 ls []) := by
  obtain ⟨hx, hb, hml, hown, hts, hr, hlk, hK, hD⟩ := id C
  have hwX5 : ∀ w ∈ wsX50, w.before args s = true := fun w h => hts w (inlX5 w h)
  unfold fX5_isNoPlace at hE
  refine lv_iload_n hx hb dX5_isNoPlace_0 rfl (lv_at hl 1 rfl) ?_
  refine z_if_lt (tgt := 14) hx hb dX5_isNoPlace_1 (by decide) hE (fun hE => ?_) (fun hE => ?_)
  · refine lv_iconst (v := 1) hx hb dX5_isNoPlace_14 (by decide) ?_
    refine lv_goto (tgt := 19) hx hb dX5_isNoPlace_15 (by decide) ?_
    exact z_zret hx hb hr hlk rfl hP hS dX5_isNoPlace_19 hE
  refine lv_iload_n hx hb dX5_isNoPlace_4 rfl (lv_at hl 1 rfl) ?_
  refine lv_aload_n hx hb dX5_isNoPlace_5 rfl (lv_at hl 0 rfl) ?_
  refine mg_0_1 hx hb hown hwX5 (hts _ u_97) hK hP dX5_isNoPlace_6 ?_
  refine lv_iconst (v := 0) hx hb dX5_isNoPlace_9 (by decide) ?_
  refine ma_2 hx hb hK hP dX5_isNoPlace_10 hE (fun v_1 hE => ?_)
  refine z_icmp_lt (tgt := 18) hx hb dX5_isNoPlace_11 (by decide) hE (fun hE => ?_) (fun hE => ?_)
  · refine lv_iconst (v := 0) hx hb dX5_isNoPlace_18 (by decide) ?_
    exact z_zret hx hb hr hlk rfl hP hS dX5_isNoPlace_19 hE
  refine lv_iconst (v := 1) hx hb dX5_isNoPlace_14 (by decide) ?_
  refine lv_goto (tgt := 19) hx hb dX5_isNoPlace_15 (by decide) ?_
  exact z_zret hx hb hr hlk rfl hP hS dX5_isNoPlace_19 hE
theorem kX5_isNoPlace (l : Launch) (E : EN) (hD : ∀ σ, va_D (eA E) (mW E σ)) (x1 : Int32) (σ : ST) (F : Int32 × ST) (hE : fX5_isNoPlace x1 σ = some F) : Met l yX5_isNoPlace wu_X5_isNoPlace r_X5_isNoPlace (zPc E mW [.ref (ea E 0), .int x1] σ) (zQi E mW F) 0 0 (eA E) := by
  refine Met.ofW (cc := cX5_isNoPlace) (maxL := 2) (ret := (some .boolean)) (by decide) rfl ?_
  intro p e s m args below meth c s₁ B hml hv
  obtain ⟨rfl, hP, hK⟩ := hv
  have hl := lv_entry ([.ref (ea E 0), .int x1]) (n := 2) (Nat.le_of_ble_eq_true rfl)
  rw [lg_entry_eq]
  generalize (lg_sl ([.ref (ea E 0), .int x1]) ++ List.replicate (2 - (lg_sl ([.ref (ea E 0), .int x1])).length) Slot.unset).toArray = ls at hl ⊢
  exact wX5_isNoPlace ⟨B.exec, B.bytes, hml, findClass_of_methodNamed B.named, fun w h => atoms_spec (ws := wu_X5_isNoPlace) B.pre w (List.mem_cons_of_mem _ h), B.returns, B.notSynchronized, hK, hD⟩ x1 σ s.heap [] ls hl hP va_S.rf hE
def fX5_pushers  (x1 : Int32) (σ : ST) : Option (Int32 × ST) :=
  ald (gA σ 1) 200 ((10 + (3 * x1)) + 2) (fun v_1 => (if x1 = (gI σ 7) then some ((v_1 + 1), σ) else some ((v_1 + 0), σ)))
set_option maxHeartbeats 4000000 in
set_option maxRecDepth 100000 in
theorem wX5_pushers {p : Program} {l : Launch} {e : Env} {s : State} {m : MethodId} {args : Array Value} {below : List Frame} {meth : Method} {c : Code} {E : EN} (C : zC E mW p s m args meth c cX5_pushers 2 RX5 (some .int) wsL_law) {F : Int32 × ST}   (x1 : Int32) (σ : ST) (H : Heap) (locs : List Loc) (ls : Array Slot) (hl : lv_has ls 2 [(0, .ref (ea E 0)), (1, .int x1)]) (hP : va_P (eD E) vwCl (mW E σ) H) (hS : va_S (eA E) s.heap H locs) (hE : fX5_pushers  x1 σ = some F) : zWi E mW p l e r_X5_pushers s m args below meth c F H locs (F0 m 0 ls []) := by
  obtain ⟨hx, hb, hml, hown, hts, hr, hlk, hK, hD⟩ := id C
  have hwX5 : ∀ w ∈ wsX50, w.before args s = true := fun w h => hts w (inlX5 w h)
  unfold fX5_pushers at hE
  refine lv_aload_n hx hb dX5_pushers_0 rfl (lv_at hl 0 rfl) ?_
  refine mg_0_1 hx hb hown hwX5 (hts _ u_97) hK hP dX5_pushers_1 ?_
  refine lv_bipush (v := 10) hx hb dX5_pushers_4 (by decide) ?_
  refine lv_iconst (v := 3) hx hb dX5_pushers_6 (by decide) ?_
  refine lv_iload_n hx hb dX5_pushers_7 rfl (lv_at hl 1 rfl) ?_
  refine lv_imul hx hb dX5_pushers_8 ?_
  refine lv_iadd hx hb dX5_pushers_9 ?_
  refine lv_iconst (v := 2) hx hb dX5_pushers_10 (by decide) ?_
  refine lv_iadd hx hb dX5_pushers_11 ?_
  refine ma_2 hx hb hK hP dX5_pushers_12 hE (fun v_1 hE => ?_)
  refine lv_iload_n hx hb dX5_pushers_13 rfl (lv_at hl 1 rfl) ?_
  refine lv_aload_n hx hb dX5_pushers_14 rfl (lv_at hl 0 rfl) ?_
  refine mg_0_15 hx hb hown hwX5 (hts _ u_105) hK hP dX5_pushers_15 ?_
  refine z_icmp_ne (tgt := 25) hx hb dX5_pushers_18 (by decide) hE (fun hE => ?_) (fun hE => ?_)
  · refine lv_iconst (v := 0) hx hb dX5_pushers_25 (by decide) ?_
    refine lv_iadd hx hb dX5_pushers_26 ?_
    exact z_iret hx hb hr hlk hP hS dX5_pushers_27 hE
  refine lv_iconst (v := 1) hx hb dX5_pushers_21 (by decide) ?_
  refine lv_goto (tgt := 26) hx hb dX5_pushers_22 (by decide) ?_
  refine lv_iadd hx hb dX5_pushers_26 ?_
  exact z_iret hx hb hr hlk hP hS dX5_pushers_27 hE
theorem kX5_pushers (l : Launch) (E : EN) (hD : ∀ σ, va_D (eA E) (mW E σ)) (x1 : Int32) (σ : ST) (F : Int32 × ST) (hE : fX5_pushers x1 σ = some F) : Met l yX5_pushers wu_X5_pushers r_X5_pushers (zPc E mW [.ref (ea E 0), .int x1] σ) (zQi E mW F) 0 0 (eA E) := by
  refine Met.ofW (cc := cX5_pushers) (maxL := 2) (ret := (some .int)) (by decide) rfl ?_
  intro p e s m args below meth c s₁ B hml hv
  obtain ⟨rfl, hP, hK⟩ := hv
  have hl := lv_entry ([.ref (ea E 0), .int x1]) (n := 2) (Nat.le_of_ble_eq_true rfl)
  rw [lg_entry_eq]
  generalize (lg_sl ([.ref (ea E 0), .int x1]) ++ List.replicate (2 - (lg_sl ([.ref (ea E 0), .int x1])).length) Slot.unset).toArray = ls at hl ⊢
  exact wX5_pushers ⟨B.exec, B.bytes, hml, findClass_of_methodNamed B.named, fun w h => atoms_spec (ws := wu_X5_pushers) B.pre w (List.mem_cons_of_mem _ h), B.returns, B.notSynchronized, hK, hD⟩ x1 σ s.heap [] ls hl hP va_S.rf hE
def fX5_starts_J21  (x1 : Int32) (σ : ST) : Option (Int32 × ST) :=
  ald (gA σ 1) 200 ((10 + (3 * x1)) + 1) (fun v_1 => bnd (v_1 : Int32) (fun x2_2 => bnd ((jmin 10 (2 * x2_2)) : Int32) (fun x3_3 => bnd ((jmax 0 (x3_3 - 2)) : Int32) (fun x4_4 => bnd ((jmin 10 (x3_3 + 1)) : Int32) (fun x5_5 => ald (gA σ 1) 200 (10 + (3 * x1)) (fun v_6 => (if v_6 = 0 then some (x3_3, σ) else (if v_6 = 1 then some (x4_4, σ) else (if v_6 = 2 then some (x5_5, σ) else (if v_6 = 3 then (if x2_2 ≤ 0 then some (x5_5, σ) else some (10, σ)) else (if v_6 = 4 then dvi x4_4 2 (fun v_7 => some (v_7, σ)) else cali (fX5_pushers x1 σ) (fun r_9 σ_8 => some ((jmax 0 (x5_5 - (3 * (jmax 0 (2 - r_9))))), σ_8)))))))))))))
set_option maxHeartbeats 4000000 in
set_option maxRecDepth 100000 in
theorem wX5_starts_J21 {p : Program} {l : Launch} {e : Env} {s : State} {m : MethodId} {args : Array Value} {below : List Frame} {meth : Method} {c : Code} {E : EN} (C : zC E mW p s m args meth c cX5_starts 6 RX5 (some .int) wsL_law) {F : Int32 × ST}   (x1 : Int32) (σ : ST) (H : Heap) (locs : List Loc) (ls : Array Slot) (hl : lv_has ls 6 [(0, .ref (ea E 0)), (1, .int x1)]) (hP : va_P (eD E) vwCl (mW E σ) H) (hS : va_S (eA E) s.heap H locs) (hE : fX5_starts_J21  x1 σ = some F) : zWi E mW p l e r_X5_starts s m args below meth c F H locs (F0 m 21 ls []) := by
  obtain ⟨hx, hb, hml, hown, hts, hr, hlk, hK, hD⟩ := id C
  have hwX5 : ∀ w ∈ wsX50, w.before args s = true := fun w h => hts w (inlX5 w h)
  unfold fX5_starts_J21 at hE
  refine lv_aload_n hx hb dX5_starts_21 rfl (lv_at hl 0 rfl) ?_
  refine mg_0_1 hx hb hown hwX5 (hts _ u_97) hK hP dX5_starts_22 ?_
  refine lv_bipush (v := 10) hx hb dX5_starts_25 (by decide) ?_
  refine lv_iconst (v := 3) hx hb dX5_starts_27 (by decide) ?_
  refine lv_iload_n hx hb dX5_starts_28 rfl (lv_at hl 1 rfl) ?_
  refine lv_imul hx hb dX5_starts_29 ?_
  refine lv_iadd hx hb dX5_starts_30 ?_
  refine lv_iconst (v := 1) hx hb dX5_starts_31 (by decide) ?_
  refine lv_iadd hx hb dX5_starts_32 ?_
  refine ma_2 hx hb hK hP dX5_starts_33 hE (fun v_1 hE => ?_)
  refine z_istore_n hx hb (fun x2_2 => [(2, .int x2_2), (0, .ref (ea E 0)), (1, .int x1)]) dX5_starts_34 rfl hl (by decide) rfl hE (fun x2_2 ls hl hE => ?_)
  refine lv_bipush (v := 10) hx hb dX5_starts_35 (by decide) ?_
  refine lv_iconst (v := 2) hx hb dX5_starts_37 (by decide) ?_
  refine lv_iload_n hx hb dX5_starts_38 rfl (lv_at hl 0 rfl) ?_
  refine lv_imul hx hb dX5_starts_39 ?_
  refine va_mmin hx hb (hml.trans hl.1.symm) hown (hts _ u_420) (hts _ u_223) (hts _ u_220) (hts _ u_224) (Nat.le_of_ble_eq_true rfl) (Nat.le_of_ble_eq_true rfl) (Nat.zero_le _) (Nat.zero_le _) dX5_starts_40 ?_
  refine W.eq (g2 := F0 m 43 ls [.int (jmin 10 (2 * x2_2))]) rfl ?_
  refine z_istore_n hx hb (fun x3_3 => [(3, .int x3_3), (2, .int x2_2), (0, .ref (ea E 0)), (1, .int x1)]) dX5_starts_43 rfl hl (by decide) rfl hE (fun x3_3 ls hl hE => ?_)
  refine lv_iconst (v := 0) hx hb dX5_starts_44 (by decide) ?_
  refine lv_iload_n hx hb dX5_starts_45 rfl (lv_at hl 0 rfl) ?_
  refine lv_iconst (v := 2) hx hb dX5_starts_46 (by decide) ?_
  refine lv_isub hx hb dX5_starts_47 ?_
  refine va_mmax hx hb (hml.trans hl.1.symm) hown (hts _ u_421) (hts _ u_219) (hts _ u_220) (hts _ u_221) (Nat.le_of_ble_eq_true rfl) (Nat.le_of_ble_eq_true rfl) (Nat.zero_le _) (Nat.zero_le _) dX5_starts_48 ?_
  refine W.eq (g2 := F0 m 51 ls [.int (jmax 0 (x3_3 - 2))]) rfl ?_
  refine z_istore hx hb (fun x4_4 => [(4, .int x4_4), (3, .int x3_3), (2, .int x2_2), (0, .ref (ea E 0)), (1, .int x1)]) dX5_starts_51 hl (by decide) rfl hE (fun x4_4 ls hl hE => ?_)
  refine lv_bipush (v := 10) hx hb dX5_starts_53 (by decide) ?_
  refine lv_iload_n hx hb dX5_starts_55 rfl (lv_at hl 1 rfl) ?_
  refine lv_iconst (v := 1) hx hb dX5_starts_56 (by decide) ?_
  refine lv_iadd hx hb dX5_starts_57 ?_
  refine va_mmin hx hb (hml.trans hl.1.symm) hown (hts _ u_420) (hts _ u_223) (hts _ u_220) (hts _ u_224) (Nat.le_of_ble_eq_true rfl) (Nat.le_of_ble_eq_true rfl) (Nat.zero_le _) (Nat.zero_le _) dX5_starts_58 ?_
  refine W.eq (g2 := F0 m 61 ls [.int (jmin 10 (x3_3 + 1))]) rfl ?_
  refine z_istore hx hb (fun x5_5 => [(5, .int x5_5), (4, .int x4_4), (3, .int x3_3), (2, .int x2_2), (0, .ref (ea E 0)), (1, .int x1)]) dX5_starts_61 hl (by decide) rfl hE (fun x5_5 ls hl hE => ?_)
  refine lv_aload_n hx hb dX5_starts_63 rfl (lv_at hl 4 rfl) ?_
  refine mg_0_1 hx hb hown hwX5 (hts _ u_97) hK hP dX5_starts_64 ?_
  refine lv_bipush (v := 10) hx hb dX5_starts_67 (by decide) ?_
  refine lv_iconst (v := 3) hx hb dX5_starts_69 (by decide) ?_
  refine lv_iload_n hx hb dX5_starts_70 rfl (lv_at hl 5 rfl) ?_
  refine lv_imul hx hb dX5_starts_71 ?_
  refine lv_iadd hx hb dX5_starts_72 ?_
  refine ma_2 hx hb hK hP dX5_starts_73 hE (fun v_6 hE => ?_)
  by_cases q0 : v_6 = 0
  · have hE := (if_pos q0).symm.trans hE
    refine z_tabIn (tgt := 108) hx hb q0 dX5_starts_74 (by decide) (by decide) rfl (by decide) ?_
    refine lv_iload_n hx hb dX5_starts_108 rfl (lv_at hl 2 rfl) ?_
    exact z_iret hx hb hr hlk hP hS dX5_starts_109 hE
  replace hE := (if_neg q0).symm.trans hE
  by_cases q1 : v_6 = 1
  · have hE := (if_pos q1).symm.trans hE
    refine z_tabIn (tgt := 110) hx hb q1 dX5_starts_74 (by decide) (by decide) rfl (by decide) ?_
    refine lv_iload hx hb dX5_starts_110 (lv_at hl 1 rfl) ?_
    exact z_iret hx hb hr hlk hP hS dX5_starts_112 hE
  replace hE := (if_neg q1).symm.trans hE
  by_cases q2 : v_6 = 2
  · have hE := (if_pos q2).symm.trans hE
    refine z_tabIn (tgt := 113) hx hb q2 dX5_starts_74 (by decide) (by decide) rfl (by decide) ?_
    refine lv_iload hx hb dX5_starts_113 (lv_at hl 0 rfl) ?_
    exact z_iret hx hb hr hlk hP hS dX5_starts_115 hE
  replace hE := (if_neg q2).symm.trans hE
  by_cases q3 : v_6 = 3
  · have hE := (if_pos q3).symm.trans hE
    refine z_tabIn (tgt := 116) hx hb q3 dX5_starts_74 (by decide) (by decide) rfl (by decide) ?_
    refine lv_iload_n hx hb dX5_starts_116 rfl (lv_at hl 3 rfl) ?_
    refine z_if_le (tgt := 125) hx hb dX5_starts_117 (by decide) hE (fun hE => ?_) (fun hE => ?_)
    · refine lv_iload hx hb dX5_starts_125 (lv_at hl 0 rfl) ?_
      exact z_iret hx hb hr hlk hP hS dX5_starts_127 hE
    refine lv_bipush (v := 10) hx hb dX5_starts_120 (by decide) ?_
    refine lv_goto (tgt := 127) hx hb dX5_starts_122 (by decide) ?_
    exact z_iret hx hb hr hlk hP hS dX5_starts_127 hE
  replace hE := (if_neg q3).symm.trans hE
  by_cases q4 : v_6 = 4
  · have hE := (if_pos q4).symm.trans hE
    refine z_tabIn (tgt := 128) hx hb q4 dX5_starts_74 (by decide) (by decide) rfl (by decide) ?_
    refine lv_iload hx hb dX5_starts_128 (lv_at hl 1 rfl) ?_
    refine lv_iconst (v := 2) hx hb dX5_starts_130 (by decide) ?_
    refine z_idiv hx hb dX5_starts_131 hE (fun v_7 hE => ?_)
    exact z_iret hx hb hr hlk hP hS dX5_starts_132 hE
  replace hE := (if_neg q4).symm.trans hE
  refine lv_tableOut (tgt := 133) hx hb dX5_starts_74 (z_out (fun k h1 h2 h3 => by
      rcases (show k = 0 ∨ k = 1 ∨ k = 2 ∨ k = 3 ∨ k = 4 by omega) with rfl | rfl | rfl | rfl | rfl
      · exact z_ne q0 (h3.trans (by decide))
      · exact z_ne q1 (h3.trans (by decide))
      · exact z_ne q2 (h3.trans (by decide))
      · exact z_ne q3 (h3.trans (by decide))
      · exact z_ne q4 (h3.trans (by decide)))) (by decide) ?_
  refine lv_iconst (v := 0) hx hb dX5_starts_133 (by decide) ?_
  refine lv_iload hx hb dX5_starts_134 (lv_at hl 0 rfl) ?_
  refine lv_iconst (v := 3) hx hb dX5_starts_136 (by decide) ?_
  refine lv_iconst (v := 0) hx hb dX5_starts_137 (by decide) ?_
  refine lv_iconst (v := 2) hx hb dX5_starts_138 (by decide) ?_
  refine lv_aload_n hx hb dX5_starts_139 rfl (lv_at hl 4 rfl) ?_
  refine lv_iload_n hx hb dX5_starts_140 rfl (lv_at hl 5 rfl) ?_
  refine z_goi (wf := mW) hS hE (fun F1 h1 => (va_runV (As := [.int x1]) (rest := [.int 2, .int 0, .int 3, .int x5_5, .int 0]) ⟨hx, hb, hml, hown, hts⟩ (kX5_pushers l E hD x1 σ F1 h1) (cwV 1 hts (gU_V u_422 u_423 u_424 u_5 u_425) rfl rfl rfl q_X5_pushers ⟨Nat.le_of_ble_eq_true rfl, Nat.le_of_ble_eq_true rfl⟩) (z_preV hK hP hS (ci := 5) (q0 := 0) rfl rfl rfl) rfl rfl hl.1 rfl (lv_room (Nat.le_of_ble_eq_true rfl)) dX5_starts_141 ⟨Nat.le_of_ble_eq_true rfl, Nat.le_of_ble_eq_true rfl⟩)) (fun r_9 σ_8 H locs hP hS hE => ?_)
  refine lv_isub hx hb dX5_starts_144 ?_
  refine va_mmax hx hb (hml.trans hl.1.symm) hown (hts _ u_421) (hts _ u_219) (hts _ u_220) (hts _ u_221) (Nat.le_of_ble_eq_true rfl) (Nat.le_of_ble_eq_true rfl) (Nat.zero_le _) (Nat.zero_le _) dX5_starts_145 ?_
  refine W.eq (g2 := F0 m 148 ls [.int (jmax 0 (2 - r_9)), .int 3, .int x5_5, .int 0]) rfl ?_
  refine lv_imul hx hb dX5_starts_148 ?_
  refine lv_isub hx hb dX5_starts_149 ?_
  refine va_mmax hx hb (hml.trans hl.1.symm) hown (hts _ u_421) (hts _ u_219) (hts _ u_220) (hts _ u_221) (Nat.le_of_ble_eq_true rfl) (Nat.le_of_ble_eq_true rfl) (Nat.zero_le _) (Nat.zero_le _) dX5_starts_150 ?_
  refine W.eq (g2 := F0 m 153 ls [.int (jmax 0 (x5_5 - (3 * (jmax 0 (2 - r_9)))))]) rfl ?_
  exact z_iret hx hb hr hlk hP hS dX5_starts_153 hE
def fX5_starts  (x1 : Int32) (σ : ST) : Option (Int32 × ST) :=
  (if (gI σ 5) = 0 then (if (gI σ 6) = 0 then fX5_starts_J21  x1 σ else (if x1 = 0 then some (10, σ) else fX5_starts_J21  x1 σ)) else some (10, σ))
set_option maxHeartbeats 4000000 in
set_option maxRecDepth 100000 in
theorem wX5_starts {p : Program} {l : Launch} {e : Env} {s : State} {m : MethodId} {args : Array Value} {below : List Frame} {meth : Method} {c : Code} {E : EN} (C : zC E mW p s m args meth c cX5_starts 6 RX5 (some .int) wsL_law) {F : Int32 × ST}   (x1 : Int32) (σ : ST) (H : Heap) (locs : List Loc) (ls : Array Slot) (hl : lv_has ls 6 [(0, .ref (ea E 0)), (1, .int x1)]) (hP : va_P (eD E) vwCl (mW E σ) H) (hS : va_S (eA E) s.heap H locs) (hE : fX5_starts  x1 σ = some F) : zWi E mW p l e r_X5_starts s m args below meth c F H locs (F0 m 0 ls []) := by
  obtain ⟨hx, hb, hml, hown, hts, hr, hlk, hK, hD⟩ := id C
  have hwX5 : ∀ w ∈ wsX50, w.before args s = true := fun w h => hts w (inlX5 w h)
  unfold fX5_starts at hE
  refine lv_aload_n hx hb dX5_starts_0 rfl (lv_at hl 0 rfl) ?_
  refine mg_0_13 hx hb hown hwX5 (hts _ u_418) hK hP dX5_starts_1 ?_
  refine z_if_ne (tgt := 18) hx hb dX5_starts_4 (by decide) hE (fun hE => ?_) (fun hE => ?_)
  · refine lv_bipush (v := 10) hx hb dX5_starts_18 (by decide) ?_
    exact z_iret hx hb hr hlk hP hS dX5_starts_20 hE
  refine lv_aload_n hx hb dX5_starts_7 rfl (lv_at hl 0 rfl) ?_
  refine mg_0_14 hx hb hown hwX5 (hts _ u_419) hK hP dX5_starts_8 ?_
  refine z_if_eq (tgt := 21) hx hb dX5_starts_11 (by decide) hE (fun hE => ?_) (fun hE => ?_)
  · exact wX5_starts_J21 C  x1 σ _ _ _ (lv_sub hl [0, 1] rfl) hP hS hE
  refine lv_iload_n hx hb dX5_starts_14 rfl (lv_at hl 1 rfl) ?_
  refine z_if_ne (tgt := 21) hx hb dX5_starts_15 (by decide) hE (fun hE => ?_) (fun hE => ?_)
  · exact wX5_starts_J21 C  x1 σ _ _ _ (lv_sub hl [0, 1] rfl) hP hS hE
  refine lv_bipush (v := 10) hx hb dX5_starts_18 (by decide) ?_
  exact z_iret hx hb hr hlk hP hS dX5_starts_20 hE
theorem kX5_starts (l : Launch) (E : EN) (hD : ∀ σ, va_D (eA E) (mW E σ)) (x1 : Int32) (σ : ST) (F : Int32 × ST) (hE : fX5_starts x1 σ = some F) : Met l yX5_starts wu_X5_starts r_X5_starts (zPc E mW [.ref (ea E 0), .int x1] σ) (zQi E mW F) 0 0 (eA E) := by
  refine Met.ofW (cc := cX5_starts) (maxL := 6) (ret := (some .int)) (by decide) rfl ?_
  intro p e s m args below meth c s₁ B hml hv
  obtain ⟨rfl, hP, hK⟩ := hv
  have hl := lv_entry ([.ref (ea E 0), .int x1]) (n := 6) (Nat.le_of_ble_eq_true rfl)
  rw [lg_entry_eq]
  generalize (lg_sl ([.ref (ea E 0), .int x1]) ++ List.replicate (6 - (lg_sl ([.ref (ea E 0), .int x1])).length) Slot.unset).toArray = ls at hl ⊢
  exact wX5_starts ⟨B.exec, B.bytes, hml, findClass_of_methodNamed B.named, fun w h => atoms_spec (ws := wu_X5_starts) B.pre w (List.mem_cons_of_mem _ h), B.returns, B.notSynchronized, hK, hD⟩ x1 σ s.heap [] ls hl hP va_S.rf hE
def fX5_pushed  (x1 : Int32) (σ : ST) : Option (Int32 × ST) :=
  cali (fX5_starts x1 σ) (fun r_2 σ_1 => cali (fX5_pushers x1 σ_1) (fun r_4 σ_3 => some ((jmin 10 (r_2 + (2 * r_4))), σ_3)))
set_option maxHeartbeats 4000000 in
set_option maxRecDepth 100000 in
theorem wX5_pushed {p : Program} {l : Launch} {e : Env} {s : State} {m : MethodId} {args : Array Value} {below : List Frame} {meth : Method} {c : Code} {E : EN} (C : zC E mW p s m args meth c cX5_pushed 2 RX5 (some .int) wsL_law) {F : Int32 × ST}   (x1 : Int32) (σ : ST) (H : Heap) (locs : List Loc) (ls : Array Slot) (hl : lv_has ls 2 [(0, .ref (ea E 0)), (1, .int x1)]) (hP : va_P (eD E) vwCl (mW E σ) H) (hS : va_S (eA E) s.heap H locs) (hE : fX5_pushed  x1 σ = some F) : zWi E mW p l e r_X5_pushed s m args below meth c F H locs (F0 m 0 ls []) := by
  obtain ⟨hx, hb, hml, hown, hts, hr, hlk, hK, hD⟩ := id C
  unfold fX5_pushed at hE
  refine lv_bipush (v := 10) hx hb dX5_pushed_0 (by decide) ?_
  refine lv_aload_n hx hb dX5_pushed_2 rfl (lv_at hl 0 rfl) ?_
  refine lv_iload_n hx hb dX5_pushed_3 rfl (lv_at hl 1 rfl) ?_
  refine z_goi (wf := mW) hS hE (fun F1 h1 => (va_runV (As := [.int x1]) (rest := [.int 10]) ⟨hx, hb, hml, hown, hts⟩ (kX5_starts l E hD x1 σ F1 h1) (cwV 1 hts (gU_V u_414 u_415 u_416 u_5 u_417) rfl rfl rfl q_X5_starts ⟨Nat.le_of_ble_eq_true rfl, Nat.le_of_ble_eq_true rfl⟩) (z_preV hK hP hS (ci := 5) (q0 := 0) rfl rfl rfl) rfl rfl hl.1 rfl (lv_room (Nat.le_of_ble_eq_true rfl)) dX5_pushed_4 ⟨Nat.le_of_ble_eq_true rfl, Nat.le_of_ble_eq_true rfl⟩)) (fun r_2 σ_1 H locs hP hS hE => ?_)
  refine lv_iconst (v := 2) hx hb dX5_pushed_7 (by decide) ?_
  refine lv_aload_n hx hb dX5_pushed_8 rfl (lv_at hl 0 rfl) ?_
  refine lv_iload_n hx hb dX5_pushed_9 rfl (lv_at hl 1 rfl) ?_
  refine z_goi (wf := mW) hS hE (fun F1 h1 => (va_runV (As := [.int x1]) (rest := [.int 2, .int r_2, .int 10]) ⟨hx, hb, hml, hown, hts⟩ (kX5_pushers l E hD x1 σ_1 F1 h1) (cwV 1 hts (gU_V u_422 u_423 u_424 u_5 u_425) rfl rfl rfl q_X5_pushers ⟨Nat.le_of_ble_eq_true rfl, Nat.le_of_ble_eq_true rfl⟩) (z_preV hK hP hS (ci := 5) (q0 := 0) rfl rfl rfl) rfl rfl hl.1 rfl (lv_room (Nat.le_of_ble_eq_true rfl)) dX5_pushed_10 ⟨Nat.le_of_ble_eq_true rfl, Nat.le_of_ble_eq_true rfl⟩)) (fun r_4 σ_3 H locs hP hS hE => ?_)
  refine lv_imul hx hb dX5_pushed_13 ?_
  refine lv_iadd hx hb dX5_pushed_14 ?_
  refine va_mmin hx hb (hml.trans hl.1.symm) hown (hts _ u_420) (hts _ u_223) (hts _ u_220) (hts _ u_224) (Nat.le_of_ble_eq_true rfl) (Nat.le_of_ble_eq_true rfl) (Nat.zero_le _) (Nat.zero_le _) dX5_pushed_15 ?_
  refine W.eq (g2 := F0 m 18 ls [.int (jmin 10 (r_2 + (2 * r_4)))]) rfl ?_
  exact z_iret hx hb hr hlk hP hS dX5_pushed_18 hE
theorem kX5_pushed (l : Launch) (E : EN) (hD : ∀ σ, va_D (eA E) (mW E σ)) (x1 : Int32) (σ : ST) (F : Int32 × ST) (hE : fX5_pushed x1 σ = some F) : Met l yX5_pushed wu_X5_pushed r_X5_pushed (zPc E mW [.ref (ea E 0), .int x1] σ) (zQi E mW F) 0 0 (eA E) := by
  refine Met.ofW (cc := cX5_pushed) (maxL := 2) (ret := (some .int)) (by decide) rfl ?_
  intro p e s m args below meth c s₁ B hml hv
  obtain ⟨rfl, hP, hK⟩ := hv
  have hl := lv_entry ([.ref (ea E 0), .int x1]) (n := 2) (Nat.le_of_ble_eq_true rfl)
  rw [lg_entry_eq]
  generalize (lg_sl ([.ref (ea E 0), .int x1]) ++ List.replicate (2 - (lg_sl ([.ref (ea E 0), .int x1])).length) Slot.unset).toArray = ls at hl ⊢
  exact wX5_pushed ⟨B.exec, B.bytes, hml, findClass_of_methodNamed B.named, fun w h => atoms_spec (ws := wu_X5_pushed) B.pre w (List.mem_cons_of_mem _ h), B.returns, B.notSynchronized, hK, hD⟩ x1 σ s.heap [] ls hl hP va_S.rf hE
def fX5_place_J48  (x1 : Int32) (x2 : Int32) (σ : ST) : Option (Int32 × ST) :=
  ald (gA σ 1) 200 ((10 + (3 * x1)) + x2) (fun v_3 => some (v_3, σ))
set_option maxHeartbeats 4000000 in
set_option maxRecDepth 100000 in
theorem wX5_place_J48 {p : Program} {l : Launch} {e : Env} {s : State} {m : MethodId} {args : Array Value} {below : List Frame} {meth : Method} {c : Code} {E : EN} (C : zC E mW p s m args meth c cX5_place 3 RX5 (some .int) wsL_law) {F : Int32 × ST}   (x1 : Int32) (x2 : Int32) (σ : ST) (H : Heap) (locs : List Loc) (ls : Array Slot) (hl : lv_has ls 3 [(0, .ref (ea E 0)), (1, .int x1), (2, .int x2)]) (hP : va_P (eD E) vwCl (mW E σ) H) (hS : va_S (eA E) s.heap H locs) (hE : fX5_place_J48  x1 x2 σ = some F) : zWi E mW p l e r_X5_place s m args below meth c F H locs (F0 m 48 ls []) := by
  obtain ⟨hx, hb, hml, hown, hts, hr, hlk, hK, hD⟩ := id C
  have hwX5 : ∀ w ∈ wsX50, w.before args s = true := fun w h => hts w (inlX5 w h)
  unfold fX5_place_J48 at hE
  refine lv_aload_n hx hb dX5_place_48 rfl (lv_at hl 0 rfl) ?_
  refine mg_0_1 hx hb hown hwX5 (hts _ u_97) hK hP dX5_place_49 ?_
  refine lv_bipush (v := 10) hx hb dX5_place_52 (by decide) ?_
  refine lv_iconst (v := 3) hx hb dX5_place_54 (by decide) ?_
  refine lv_iload_n hx hb dX5_place_55 rfl (lv_at hl 1 rfl) ?_
  refine lv_imul hx hb dX5_place_56 ?_
  refine lv_iadd hx hb dX5_place_57 ?_
  refine lv_iload_n hx hb dX5_place_58 rfl (lv_at hl 2 rfl) ?_
  refine lv_iadd hx hb dX5_place_59 ?_
  refine ma_2 hx hb hK hP dX5_place_60 hE (fun v_3 hE => ?_)
  exact z_iret hx hb hr hlk hP hS dX5_place_61 hE
def fX5_place  (x1 : Int32) (x2 : Int32) (σ : ST) : Option (Int32 × ST) :=
  cali (fX5_isNoPlace x1 σ) (fun r_2 σ_1 => (if r_2 = 0 then (if x2 = 0 then fX5_place_J48  x1 x2 σ_1 else (if x2 = 1 then fX5_place_J48  x1 x2 σ_1 else (if x2 = 2 then fX5_place_J48  x1 x2 σ_1 else (if x2 = 3 then cali (fX5_starts x1 σ_1) (fun r_5 σ_4 => some (r_5, σ_4)) else (if x2 = 4 then cali (fX5_pushed x1 σ_1) (fun r_7 σ_6 => some (r_7, σ_6)) else cali (fX5_no (-2) σ_1) (fun r_9 σ_8 => some (r_9, σ_8))))))) else cali (fX5_no (-1) σ_1) (fun r_11 σ_10 => some (r_11, σ_10))))
set_option maxHeartbeats 4000000 in
set_option maxRecDepth 100000 in
theorem wX5_place {p : Program} {l : Launch} {e : Env} {s : State} {m : MethodId} {args : Array Value} {below : List Frame} {meth : Method} {c : Code} {E : EN} (C : zC E mW p s m args meth c cX5_place 3 RX5 (some .int) wsL_law) {F : Int32 × ST}   (x1 : Int32) (x2 : Int32) (σ : ST) (H : Heap) (locs : List Loc) (ls : Array Slot) (hl : lv_has ls 3 [(0, .ref (ea E 0)), (1, .int x1), (2, .int x2)]) (hP : va_P (eD E) vwCl (mW E σ) H) (hS : va_S (eA E) s.heap H locs) (hE : fX5_place  x1 x2 σ = some F) : zWi E mW p l e r_X5_place s m args below meth c F H locs (F0 m 0 ls []) := by
  obtain ⟨hx, hb, hml, hown, hts, hr, hlk, hK, hD⟩ := id C
  unfold fX5_place at hE
  refine lv_aload_n hx hb dX5_place_0 rfl (lv_at hl 0 rfl) ?_
  refine lv_iload_n hx hb dX5_place_1 rfl (lv_at hl 1 rfl) ?_
  refine z_goi (wf := mW) hS hE (fun F1 h1 => (va_runV (As := [.int x1]) (rest := []) ⟨hx, hb, hml, hown, hts⟩ (kX5_isNoPlace l E hD x1 σ F1 h1) (cwV 1 hts (gU_V u_410 u_411 u_412 u_5 u_413) rfl rfl rfl q_X5_isNoPlace ⟨Nat.le_of_ble_eq_true rfl, Nat.le_of_ble_eq_true rfl⟩) (z_preV hK hP hS (ci := 5) (q0 := 0) rfl rfl rfl) rfl rfl hl.1 rfl (lv_room (Nat.le_of_ble_eq_true rfl)) dX5_place_2 ⟨Nat.le_of_ble_eq_true rfl, Nat.le_of_ble_eq_true rfl⟩)) (fun r_2 σ_1 H locs hP hS hE => ?_)
  refine z_if_eq (tgt := 14) hx hb dX5_place_5 (by decide) hE (fun hE => ?_) (fun hE => ?_)
  · refine lv_iload_n hx hb dX5_place_14 rfl (lv_at hl 2 rfl) ?_
    by_cases q0 : x2 = 0
    · have hE := (if_pos q0).symm.trans hE
      refine z_tabIn (tgt := 48) hx hb q0 dX5_place_15 (by decide) (by decide) rfl (by decide) ?_
      exact wX5_place_J48 C  x1 x2 σ_1 _ _ _ (lv_sub hl [0, 1, 2] rfl) hP hS hE
    replace hE := (if_neg q0).symm.trans hE
    by_cases q1 : x2 = 1
    · have hE := (if_pos q1).symm.trans hE
      refine z_tabIn (tgt := 48) hx hb q1 dX5_place_15 (by decide) (by decide) rfl (by decide) ?_
      exact wX5_place_J48 C  x1 x2 σ_1 _ _ _ (lv_sub hl [0, 1, 2] rfl) hP hS hE
    replace hE := (if_neg q1).symm.trans hE
    by_cases q2 : x2 = 2
    · have hE := (if_pos q2).symm.trans hE
      refine z_tabIn (tgt := 48) hx hb q2 dX5_place_15 (by decide) (by decide) rfl (by decide) ?_
      exact wX5_place_J48 C  x1 x2 σ_1 _ _ _ (lv_sub hl [0, 1, 2] rfl) hP hS hE
    replace hE := (if_neg q2).symm.trans hE
    by_cases q3 : x2 = 3
    · have hE := (if_pos q3).symm.trans hE
      refine z_tabIn (tgt := 62) hx hb q3 dX5_place_15 (by decide) (by decide) rfl (by decide) ?_
      refine lv_aload_n hx hb dX5_place_62 rfl (lv_at hl 0 rfl) ?_
      refine lv_iload_n hx hb dX5_place_63 rfl (lv_at hl 1 rfl) ?_
      refine z_goi (wf := mW) hS hE (fun F1 h1 => (va_runV (As := [.int x1]) (rest := []) ⟨hx, hb, hml, hown, hts⟩ (kX5_starts l E hD x1 σ_1 F1 h1) (cwV 1 hts (gU_V u_414 u_415 u_416 u_5 u_417) rfl rfl rfl q_X5_starts ⟨Nat.le_of_ble_eq_true rfl, Nat.le_of_ble_eq_true rfl⟩) (z_preV hK hP hS (ci := 5) (q0 := 0) rfl rfl rfl) rfl rfl hl.1 rfl (lv_room (Nat.le_of_ble_eq_true rfl)) dX5_place_64 ⟨Nat.le_of_ble_eq_true rfl, Nat.le_of_ble_eq_true rfl⟩)) (fun r_5 σ_4 H locs hP hS hE => ?_)
      exact z_iret hx hb hr hlk hP hS dX5_place_67 hE
    replace hE := (if_neg q3).symm.trans hE
    by_cases q4 : x2 = 4
    · have hE := (if_pos q4).symm.trans hE
      refine z_tabIn (tgt := 68) hx hb q4 dX5_place_15 (by decide) (by decide) rfl (by decide) ?_
      refine lv_aload_n hx hb dX5_place_68 rfl (lv_at hl 0 rfl) ?_
      refine lv_iload_n hx hb dX5_place_69 rfl (lv_at hl 1 rfl) ?_
      refine z_goi (wf := mW) hS hE (fun F1 h1 => (va_runV (As := [.int x1]) (rest := []) ⟨hx, hb, hml, hown, hts⟩ (kX5_pushed l E hD x1 σ_1 F1 h1) (cwV 1 hts (gU_V u_426 u_427 u_428 u_5 u_429) rfl rfl rfl q_X5_pushed ⟨Nat.le_of_ble_eq_true rfl, Nat.le_of_ble_eq_true rfl⟩) (z_preV hK hP hS (ci := 5) (q0 := 0) rfl rfl rfl) rfl rfl hl.1 rfl (lv_room (Nat.le_of_ble_eq_true rfl)) dX5_place_70 ⟨Nat.le_of_ble_eq_true rfl, Nat.le_of_ble_eq_true rfl⟩)) (fun r_7 σ_6 H locs hP hS hE => ?_)
      exact z_iret hx hb hr hlk hP hS dX5_place_73 hE
    replace hE := (if_neg q4).symm.trans hE
    refine lv_tableOut (tgt := 74) hx hb dX5_place_15 (z_out (fun k h1 h2 h3 => by
        rcases (show k = 0 ∨ k = 1 ∨ k = 2 ∨ k = 3 ∨ k = 4 by omega) with rfl | rfl | rfl | rfl | rfl
        · exact z_ne q0 (h3.trans (by decide))
        · exact z_ne q1 (h3.trans (by decide))
        · exact z_ne q2 (h3.trans (by decide))
        · exact z_ne q3 (h3.trans (by decide))
        · exact z_ne q4 (h3.trans (by decide)))) (by decide) ?_
    refine lv_aload_n hx hb dX5_place_74 rfl (lv_at hl 0 rfl) ?_
    refine lv_bipush (v := -2) hx hb dX5_place_75 (by decide) ?_
    refine z_goi (wf := mW) hS hE (fun F1 h1 => (va_runV (As := [.int (-2)]) (rest := []) ⟨hx, hb, hml, hown, hts⟩ (kX5_no l E hD (-2) σ_1 F1 h1) (cwV 1 hts (gU_V u_131 u_132 u_133 u_5 u_134) rfl rfl rfl q_X5_no ⟨Nat.le_of_ble_eq_true rfl, Nat.le_of_ble_eq_true rfl⟩) (z_preV hK hP hS (ci := 5) (q0 := 0) rfl rfl rfl) rfl rfl hl.1 rfl (lv_room (Nat.le_of_ble_eq_true rfl)) dX5_place_77 ⟨Nat.le_of_ble_eq_true rfl, Nat.le_of_ble_eq_true rfl⟩)) (fun r_9 σ_8 H locs hP hS hE => ?_)
    exact z_iret hx hb hr hlk hP hS dX5_place_80 hE
  refine lv_aload_n hx hb dX5_place_8 rfl (lv_at hl 0 rfl) ?_
  refine lv_iconst (v := -1) hx hb dX5_place_9 (by decide) ?_
  refine z_goi (wf := mW) hS hE (fun F1 h1 => (va_runV (As := [.int (-1)]) (rest := []) ⟨hx, hb, hml, hown, hts⟩ (kX5_no l E hD (-1) σ_1 F1 h1) (cwV 1 hts (gU_V u_131 u_132 u_133 u_5 u_134) rfl rfl rfl q_X5_no ⟨Nat.le_of_ble_eq_true rfl, Nat.le_of_ble_eq_true rfl⟩) (z_preV hK hP hS (ci := 5) (q0 := 0) rfl rfl rfl) rfl rfl hl.1 rfl (lv_room (Nat.le_of_ble_eq_true rfl)) dX5_place_10 ⟨Nat.le_of_ble_eq_true rfl, Nat.le_of_ble_eq_true rfl⟩)) (fun r_11 σ_10 H locs hP hS hE => ?_)
  exact z_iret hx hb hr hlk hP hS dX5_place_13 hE
theorem kX5_place (l : Launch) (E : EN) (hD : ∀ σ, va_D (eA E) (mW E σ)) (x1 : Int32) (x2 : Int32) (σ : ST) (F : Int32 × ST) (hE : fX5_place x1 x2 σ = some F) : Met l yX5_place wu_X5_place r_X5_place (zPc E mW [.ref (ea E 0), .int x1, .int x2] σ) (zQi E mW F) 0 0 (eA E) := by
  refine Met.ofW (cc := cX5_place) (maxL := 3) (ret := (some .int)) (by decide) rfl ?_
  intro p e s m args below meth c s₁ B hml hv
  obtain ⟨rfl, hP, hK⟩ := hv
  have hl := lv_entry ([.ref (ea E 0), .int x1, .int x2]) (n := 3) (Nat.le_of_ble_eq_true rfl)
  rw [lg_entry_eq]
  generalize (lg_sl ([.ref (ea E 0), .int x1, .int x2]) ++ List.replicate (3 - (lg_sl ([.ref (ea E 0), .int x1, .int x2])).length) Slot.unset).toArray = ls at hl ⊢
  exact wX5_place ⟨B.exec, B.bytes, hml, findClass_of_methodNamed B.named, fun w h => atoms_spec (ws := wu_X5_place) B.pre w (List.mem_cons_of_mem _ h), B.returns, B.notSynchronized, hK, hD⟩ x1 x2 σ s.heap [] ls hl hP va_S.rf hE
def fX5_change  (x1 : Int32) (x2 : Int32) (x3 : Int32) (σ : ST) : Option (Int32 × ST) :=
  (if 0 ≤ x2 then (if x2 ≤ x3 then ald (gA σ 1) 200 x1 (fun v_1 => bnd (v_1 : Int32) (fun x4_2 => ast σ 1 200 x1 x2 (fun σ_3 => some (x4_2, σ_3)))) else cali (fX5_no (-6) σ) (fun r_5 σ_4 => some (r_5, σ_4))) else cali (fX5_no (-4) σ) (fun r_7 σ_6 => some (r_7, σ_6)))
set_option maxHeartbeats 4000000 in
set_option maxRecDepth 100000 in
theorem wX5_change {p : Program} {l : Launch} {e : Env} {s : State} {m : MethodId} {args : Array Value} {below : List Frame} {meth : Method} {c : Code} {E : EN} (C : zC E mW p s m args meth c cX5_change 5 RX5 (some .int) wsL_law) {F : Int32 × ST}   (x1 : Int32) (x2 : Int32) (x3 : Int32) (σ : ST) (H : Heap) (locs : List Loc) (ls : Array Slot) (hl : lv_has ls 5 [(0, .ref (ea E 0)), (1, .int x1), (2, .int x2), (3, .int x3)]) (hP : va_P (eD E) vwCl (mW E σ) H) (hS : va_S (eA E) s.heap H locs) (hE : fX5_change  x1 x2 x3 σ = some F) : zWi E mW p l e r_X5_change s m args below meth c F H locs (F0 m 0 ls []) := by
  obtain ⟨hx, hb, hml, hown, hts, hr, hlk, hK, hD⟩ := id C
  have hwX5 : ∀ w ∈ wsX50, w.before args s = true := fun w h => hts w (inlX5 w h)
  unfold fX5_change at hE
  refine lv_iload_n hx hb dX5_change_0 rfl (lv_at hl 2 rfl) ?_
  refine z_if_ge (tgt := 11) hx hb dX5_change_1 (by decide) hE (fun hE => ?_) (fun hE => ?_)
  · refine lv_iload_n hx hb dX5_change_11 rfl (lv_at hl 2 rfl) ?_
    refine lv_iload_n hx hb dX5_change_12 rfl (lv_at hl 3 rfl) ?_
    refine z_icmp_le (tgt := 23) hx hb dX5_change_13 (by decide) hE (fun hE => ?_) (fun hE => ?_)
    · refine lv_aload_n hx hb dX5_change_23 rfl (lv_at hl 0 rfl) ?_
      refine mg_0_1 hx hb hown hwX5 (hts _ u_97) hK hP dX5_change_24 ?_
      refine lv_iload_n hx hb dX5_change_27 rfl (lv_at hl 1 rfl) ?_
      refine ma_2 hx hb hK hP dX5_change_28 hE (fun v_1 hE => ?_)
      refine z_istore hx hb (fun x4_2 => [(4, .int x4_2), (0, .ref (ea E 0)), (1, .int x1), (2, .int x2), (3, .int x3)]) dX5_change_29 hl (by decide) rfl hE (fun x4_2 ls hl hE => ?_)
      refine lv_aload_n hx hb dX5_change_31 rfl (lv_at hl 1 rfl) ?_
      refine mg_0_1 hx hb hown hwX5 (hts _ u_97) hK hP dX5_change_32 ?_
      refine lv_iload_n hx hb dX5_change_35 rfl (lv_at hl 2 rfl) ?_
      refine lv_iload_n hx hb dX5_change_36 rfl (lv_at hl 3 rfl) ?_
      refine ms_2 hx hb hK hD hP hS dX5_change_37 hE (fun σ_3 H locs hP hS hE => ?_)
      refine lv_iload hx hb dX5_change_38 (lv_at hl 0 rfl) ?_
      exact z_iret hx hb hr hlk hP hS dX5_change_40 hE
    refine lv_aload_n hx hb dX5_change_16 rfl (lv_at hl 0 rfl) ?_
    refine lv_bipush (v := -6) hx hb dX5_change_17 (by decide) ?_
    refine z_goi (wf := mW) hS hE (fun F1 h1 => (va_runV (As := [.int (-6)]) (rest := []) ⟨hx, hb, hml, hown, hts⟩ (kX5_no l E hD (-6) σ F1 h1) (cwV 1 hts (gU_V u_131 u_132 u_133 u_5 u_134) rfl rfl rfl q_X5_no ⟨Nat.le_of_ble_eq_true rfl, Nat.le_of_ble_eq_true rfl⟩) (z_preV hK hP hS (ci := 5) (q0 := 0) rfl rfl rfl) rfl rfl hl.1 rfl (lv_room (Nat.le_of_ble_eq_true rfl)) dX5_change_19 ⟨Nat.le_of_ble_eq_true rfl, Nat.le_of_ble_eq_true rfl⟩)) (fun r_5 σ_4 H locs hP hS hE => ?_)
    exact z_iret hx hb hr hlk hP hS dX5_change_22 hE
  refine lv_aload_n hx hb dX5_change_4 rfl (lv_at hl 0 rfl) ?_
  refine lv_bipush (v := -4) hx hb dX5_change_5 (by decide) ?_
  refine z_goi (wf := mW) hS hE (fun F1 h1 => (va_runV (As := [.int (-4)]) (rest := []) ⟨hx, hb, hml, hown, hts⟩ (kX5_no l E hD (-4) σ F1 h1) (cwV 1 hts (gU_V u_131 u_132 u_133 u_5 u_134) rfl rfl rfl q_X5_no ⟨Nat.le_of_ble_eq_true rfl, Nat.le_of_ble_eq_true rfl⟩) (z_preV hK hP hS (ci := 5) (q0 := 0) rfl rfl rfl) rfl rfl hl.1 rfl (lv_room (Nat.le_of_ble_eq_true rfl)) dX5_change_7 ⟨Nat.le_of_ble_eq_true rfl, Nat.le_of_ble_eq_true rfl⟩)) (fun r_7 σ_6 H locs hP hS hE => ?_)
  exact z_iret hx hb hr hlk hP hS dX5_change_10 hE
theorem kX5_change (l : Launch) (E : EN) (hD : ∀ σ, va_D (eA E) (mW E σ)) (x1 : Int32) (x2 : Int32) (x3 : Int32) (σ : ST) (F : Int32 × ST) (hE : fX5_change x1 x2 x3 σ = some F) : Met l yX5_change wu_X5_change r_X5_change (zPc E mW [.ref (ea E 0), .int x1, .int x2, .int x3] σ) (zQi E mW F) 0 0 (eA E) := by
  refine Met.ofW (cc := cX5_change) (maxL := 5) (ret := (some .int)) (by decide) rfl ?_
  intro p e s m args below meth c s₁ B hml hv
  obtain ⟨rfl, hP, hK⟩ := hv
  have hl := lv_entry ([.ref (ea E 0), .int x1, .int x2, .int x3]) (n := 5) (Nat.le_of_ble_eq_true rfl)
  rw [lg_entry_eq]
  generalize (lg_sl ([.ref (ea E 0), .int x1, .int x2, .int x3]) ++ List.replicate (5 - (lg_sl ([.ref (ea E 0), .int x1, .int x2, .int x3])).length) Slot.unset).toArray = ls at hl ⊢
  exact wX5_change ⟨B.exec, B.bytes, hml, findClass_of_methodNamed B.named, fun w h => atoms_spec (ws := wu_X5_change) B.pre w (List.mem_cons_of_mem _ h), B.returns, B.notSynchronized, hK, hD⟩ x1 x2 x3 σ s.heap [] ls hl hP va_S.rf hE
def fX5_slope  (x1 : Int32) (x2 : Int32) (σ : ST) : Option (Int32 × ST) :=
  cali (fX5_isNoPlace x1 σ) (fun r_2 σ_1 => (if r_2 = 0 then cali (fX5_change ((10 + (3 * x1)) + 1) x2 9 σ_1) (fun r_4 σ_3 => some (r_4, σ_3)) else cali (fX5_no (-1) σ_1) (fun r_6 σ_5 => some (r_6, σ_5))))
set_option maxHeartbeats 4000000 in
set_option maxRecDepth 100000 in
theorem wX5_slope {p : Program} {l : Launch} {e : Env} {s : State} {m : MethodId} {args : Array Value} {below : List Frame} {meth : Method} {c : Code} {E : EN} (C : zC E mW p s m args meth c cX5_slope 3 RX5 (some .int) wsL_law) {F : Int32 × ST}   (x1 : Int32) (x2 : Int32) (σ : ST) (H : Heap) (locs : List Loc) (ls : Array Slot) (hl : lv_has ls 3 [(0, .ref (ea E 0)), (1, .int x1), (2, .int x2)]) (hP : va_P (eD E) vwCl (mW E σ) H) (hS : va_S (eA E) s.heap H locs) (hE : fX5_slope  x1 x2 σ = some F) : zWi E mW p l e r_X5_slope s m args below meth c F H locs (F0 m 0 ls []) := by
  obtain ⟨hx, hb, hml, hown, hts, hr, hlk, hK, hD⟩ := id C
  unfold fX5_slope at hE
  refine lv_aload_n hx hb dX5_slope_0 rfl (lv_at hl 0 rfl) ?_
  refine lv_iload_n hx hb dX5_slope_1 rfl (lv_at hl 1 rfl) ?_
  refine z_goi (wf := mW) hS hE (fun F1 h1 => (va_runV (As := [.int x1]) (rest := []) ⟨hx, hb, hml, hown, hts⟩ (kX5_isNoPlace l E hD x1 σ F1 h1) (cwV 1 hts (gU_V u_410 u_411 u_412 u_5 u_413) rfl rfl rfl q_X5_isNoPlace ⟨Nat.le_of_ble_eq_true rfl, Nat.le_of_ble_eq_true rfl⟩) (z_preV hK hP hS (ci := 5) (q0 := 0) rfl rfl rfl) rfl rfl hl.1 rfl (lv_room (Nat.le_of_ble_eq_true rfl)) dX5_slope_2 ⟨Nat.le_of_ble_eq_true rfl, Nat.le_of_ble_eq_true rfl⟩)) (fun r_2 σ_1 H locs hP hS hE => ?_)
  refine z_if_eq (tgt := 16) hx hb dX5_slope_5 (by decide) hE (fun hE => ?_) (fun hE => ?_)
  · refine lv_aload_n hx hb dX5_slope_16 rfl (lv_at hl 0 rfl) ?_
    refine lv_bipush (v := 10) hx hb dX5_slope_17 (by decide) ?_
    refine lv_iconst (v := 3) hx hb dX5_slope_19 (by decide) ?_
    refine lv_iload_n hx hb dX5_slope_20 rfl (lv_at hl 1 rfl) ?_
    refine lv_imul hx hb dX5_slope_21 ?_
    refine lv_iadd hx hb dX5_slope_22 ?_
    refine lv_iconst (v := 1) hx hb dX5_slope_23 (by decide) ?_
    refine lv_iadd hx hb dX5_slope_24 ?_
    refine lv_iload_n hx hb dX5_slope_25 rfl (lv_at hl 2 rfl) ?_
    refine lv_bipush (v := 9) hx hb dX5_slope_26 (by decide) ?_
    refine z_goi (wf := mW) hS hE (fun F1 h1 => (va_runV (As := [.int ((10 + (3 * x1)) + 1), .int x2, .int 9]) (rest := []) ⟨hx, hb, hml, hown, hts⟩ (kX5_change l E hD ((10 + (3 * x1)) + 1) x2 9 σ_1 F1 h1) (cwV 3 hts (gU_V u_438 u_439 u_440 u_5 u_441) rfl rfl rfl q_X5_change ⟨Nat.le_of_ble_eq_true rfl, Nat.le_of_ble_eq_true rfl⟩) (z_preV hK hP hS (ci := 5) (q0 := 0) rfl rfl rfl) rfl rfl hl.1 rfl (lv_room (Nat.le_of_ble_eq_true rfl)) dX5_slope_28 ⟨Nat.le_of_ble_eq_true rfl, Nat.le_of_ble_eq_true rfl⟩)) (fun r_4 σ_3 H locs hP hS hE => ?_)
    exact z_iret hx hb hr hlk hP hS dX5_slope_31 hE
  refine lv_aload_n hx hb dX5_slope_8 rfl (lv_at hl 0 rfl) ?_
  refine lv_iconst (v := -1) hx hb dX5_slope_9 (by decide) ?_
  refine z_goi (wf := mW) hS hE (fun F1 h1 => (va_runV (As := [.int (-1)]) (rest := []) ⟨hx, hb, hml, hown, hts⟩ (kX5_no l E hD (-1) σ_1 F1 h1) (cwV 1 hts (gU_V u_131 u_132 u_133 u_5 u_134) rfl rfl rfl q_X5_no ⟨Nat.le_of_ble_eq_true rfl, Nat.le_of_ble_eq_true rfl⟩) (z_preV hK hP hS (ci := 5) (q0 := 0) rfl rfl rfl) rfl rfl hl.1 rfl (lv_room (Nat.le_of_ble_eq_true rfl)) dX5_slope_10 ⟨Nat.le_of_ble_eq_true rfl, Nat.le_of_ble_eq_true rfl⟩)) (fun r_6 σ_5 H locs hP hS hE => ?_)
  refine lv_goto (tgt := 31) hx hb dX5_slope_13 (by decide) ?_
  exact z_iret hx hb hr hlk hP hS dX5_slope_31 hE
theorem kX5_slope (l : Launch) (E : EN) (hD : ∀ σ, va_D (eA E) (mW E σ)) (x1 : Int32) (x2 : Int32) (σ : ST) (F : Int32 × ST) (hE : fX5_slope x1 x2 σ = some F) : Met l yX5_slope wu_X5_slope r_X5_slope (zPc E mW [.ref (ea E 0), .int x1, .int x2] σ) (zQi E mW F) 0 0 (eA E) := by
  refine Met.ofW (cc := cX5_slope) (maxL := 3) (ret := (some .int)) (by decide) rfl ?_
  intro p e s m args below meth c s₁ B hml hv
  obtain ⟨rfl, hP, hK⟩ := hv
  have hl := lv_entry ([.ref (ea E 0), .int x1, .int x2]) (n := 3) (Nat.le_of_ble_eq_true rfl)
  rw [lg_entry_eq]
  generalize (lg_sl ([.ref (ea E 0), .int x1, .int x2]) ++ List.replicate (3 - (lg_sl ([.ref (ea E 0), .int x1, .int x2])).length) Slot.unset).toArray = ls at hl ⊢
  exact wX5_slope ⟨B.exec, B.bytes, hml, findClass_of_methodNamed B.named, fun w h => atoms_spec (ws := wu_X5_slope) B.pre w (List.mem_cons_of_mem _ h), B.returns, B.notSynchronized, hK, hD⟩ x1 x2 σ s.heap [] ls hl hP va_S.rf hE
def fX5_errand  (x1 : Int32) (x2 : Int32) (σ : ST) : Option (Int32 × ST) :=
  (if x1 < 0 then cali (fX5_no (-1) σ) (fun r_2 σ_1 => some (r_2, σ_1)) else ald (gA σ 1) 200 2 (fun v_3 => (if x1 < v_3 then (if x2 < 0 then cali (fX5_no (-2) σ) (fun r_5 σ_4 => some (r_5, σ_4)) else (if x2 ≤ 3 then ald (gA σ 1) 200 ((40 + (4 * x1)) + x2) (fun v_6 => some (v_6, σ)) else cali (fX5_no (-2) σ) (fun r_8 σ_7 => some (r_8, σ_7)))) else cali (fX5_no (-1) σ) (fun r_10 σ_9 => some (r_10, σ_9)))))
set_option maxHeartbeats 4000000 in
set_option maxRecDepth 100000 in
theorem wX5_errand {p : Program} {l : Launch} {e : Env} {s : State} {m : MethodId} {args : Array Value} {below : List Frame} {meth : Method} {c : Code} {E : EN} (C : zC E mW p s m args meth c cX5_errand 3 RX5 (some .int) wsL_law) {F : Int32 × ST}   (x1 : Int32) (x2 : Int32) (σ : ST) (H : Heap) (locs : List Loc) (ls : Array Slot) (hl : lv_has ls 3 [(0, .ref (ea E 0)), (1, .int x1), (2, .int x2)]) (hP : va_P (eD E) vwCl (mW E σ) H) (hS : va_S (eA E) s.heap H locs) (hE : fX5_errand  x1 x2 σ = some F) : zWi E mW p l e r_X5_errand s m args below meth c F H locs (F0 m 0 ls []) := by
  obtain ⟨hx, hb, hml, hown, hts, hr, hlk, hK, hD⟩ := id C
  have hwX5 : ∀ w ∈ wsX50, w.before args s = true := fun w h => hts w (inlX5 w h)
  unfold fX5_errand at hE
  refine lv_iload_n hx hb dX5_errand_0 rfl (lv_at hl 1 rfl) ?_
  refine z_if_lt (tgt := 14) hx hb dX5_errand_1 (by decide) hE (fun hE => ?_) (fun hE => ?_)
  · refine lv_aload_n hx hb dX5_errand_14 rfl (lv_at hl 0 rfl) ?_
    refine lv_iconst (v := -1) hx hb dX5_errand_15 (by decide) ?_
    refine z_goi (wf := mW) hS hE (fun F1 h1 => (va_runV (As := [.int (-1)]) (rest := []) ⟨hx, hb, hml, hown, hts⟩ (kX5_no l E hD (-1) σ F1 h1) (cwV 1 hts (gU_V u_131 u_132 u_133 u_5 u_134) rfl rfl rfl q_X5_no ⟨Nat.le_of_ble_eq_true rfl, Nat.le_of_ble_eq_true rfl⟩) (z_preV hK hP hS (ci := 5) (q0 := 0) rfl rfl rfl) rfl rfl hl.1 rfl (lv_room (Nat.le_of_ble_eq_true rfl)) dX5_errand_16 ⟨Nat.le_of_ble_eq_true rfl, Nat.le_of_ble_eq_true rfl⟩)) (fun r_2 σ_1 H locs hP hS hE => ?_)
    exact z_iret hx hb hr hlk hP hS dX5_errand_19 hE
  refine lv_iload_n hx hb dX5_errand_4 rfl (lv_at hl 1 rfl) ?_
  refine lv_aload_n hx hb dX5_errand_5 rfl (lv_at hl 0 rfl) ?_
  refine mg_0_1 hx hb hown hwX5 (hts _ u_97) hK hP dX5_errand_6 ?_
  refine lv_iconst (v := 2) hx hb dX5_errand_9 (by decide) ?_
  refine ma_2 hx hb hK hP dX5_errand_10 hE (fun v_3 hE => ?_)
  refine z_icmp_lt (tgt := 20) hx hb dX5_errand_11 (by decide) hE (fun hE => ?_) (fun hE => ?_)
  · refine lv_iload_n hx hb dX5_errand_20 rfl (lv_at hl 2 rfl) ?_
    refine z_if_lt (tgt := 29) hx hb dX5_errand_21 (by decide) hE (fun hE => ?_) (fun hE => ?_)
    · refine lv_aload_n hx hb dX5_errand_29 rfl (lv_at hl 0 rfl) ?_
      refine lv_bipush (v := -2) hx hb dX5_errand_30 (by decide) ?_
      refine z_goi (wf := mW) hS hE (fun F1 h1 => (va_runV (As := [.int (-2)]) (rest := []) ⟨hx, hb, hml, hown, hts⟩ (kX5_no l E hD (-2) σ F1 h1) (cwV 1 hts (gU_V u_131 u_132 u_133 u_5 u_134) rfl rfl rfl q_X5_no ⟨Nat.le_of_ble_eq_true rfl, Nat.le_of_ble_eq_true rfl⟩) (z_preV hK hP hS (ci := 5) (q0 := 0) rfl rfl rfl) rfl rfl hl.1 rfl (lv_room (Nat.le_of_ble_eq_true rfl)) dX5_errand_32 ⟨Nat.le_of_ble_eq_true rfl, Nat.le_of_ble_eq_true rfl⟩)) (fun r_5 σ_4 H locs hP hS hE => ?_)
      refine lv_goto (tgt := 51) hx hb dX5_errand_35 (by decide) ?_
      exact z_iret hx hb hr hlk hP hS dX5_errand_51 hE
    refine lv_iload_n hx hb dX5_errand_24 rfl (lv_at hl 2 rfl) ?_
    refine lv_iconst (v := 3) hx hb dX5_errand_25 (by decide) ?_
    refine z_icmp_le (tgt := 38) hx hb dX5_errand_26 (by decide) hE (fun hE => ?_) (fun hE => ?_)
    · refine lv_aload_n hx hb dX5_errand_38 rfl (lv_at hl 0 rfl) ?_
      refine mg_0_1 hx hb hown hwX5 (hts _ u_97) hK hP dX5_errand_39 ?_
      refine lv_bipush (v := 40) hx hb dX5_errand_42 (by decide) ?_
      refine lv_iconst (v := 4) hx hb dX5_errand_44 (by decide) ?_
      refine lv_iload_n hx hb dX5_errand_45 rfl (lv_at hl 1 rfl) ?_
      refine lv_imul hx hb dX5_errand_46 ?_
      refine lv_iadd hx hb dX5_errand_47 ?_
      refine lv_iload_n hx hb dX5_errand_48 rfl (lv_at hl 2 rfl) ?_
      refine lv_iadd hx hb dX5_errand_49 ?_
      refine ma_2 hx hb hK hP dX5_errand_50 hE (fun v_6 hE => ?_)
      exact z_iret hx hb hr hlk hP hS dX5_errand_51 hE
    refine lv_aload_n hx hb dX5_errand_29 rfl (lv_at hl 0 rfl) ?_
    refine lv_bipush (v := -2) hx hb dX5_errand_30 (by decide) ?_
    refine z_goi (wf := mW) hS hE (fun F1 h1 => (va_runV (As := [.int (-2)]) (rest := []) ⟨hx, hb, hml, hown, hts⟩ (kX5_no l E hD (-2) σ F1 h1) (cwV 1 hts (gU_V u_131 u_132 u_133 u_5 u_134) rfl rfl rfl q_X5_no ⟨Nat.le_of_ble_eq_true rfl, Nat.le_of_ble_eq_true rfl⟩) (z_preV hK hP hS (ci := 5) (q0 := 0) rfl rfl rfl) rfl rfl hl.1 rfl (lv_room (Nat.le_of_ble_eq_true rfl)) dX5_errand_32 ⟨Nat.le_of_ble_eq_true rfl, Nat.le_of_ble_eq_true rfl⟩)) (fun r_8 σ_7 H locs hP hS hE => ?_)
    refine lv_goto (tgt := 51) hx hb dX5_errand_35 (by decide) ?_
    exact z_iret hx hb hr hlk hP hS dX5_errand_51 hE
  refine lv_aload_n hx hb dX5_errand_14 rfl (lv_at hl 0 rfl) ?_
  refine lv_iconst (v := -1) hx hb dX5_errand_15 (by decide) ?_
  refine z_goi (wf := mW) hS hE (fun F1 h1 => (va_runV (As := [.int (-1)]) (rest := []) ⟨hx, hb, hml, hown, hts⟩ (kX5_no l E hD (-1) σ F1 h1) (cwV 1 hts (gU_V u_131 u_132 u_133 u_5 u_134) rfl rfl rfl q_X5_no ⟨Nat.le_of_ble_eq_true rfl, Nat.le_of_ble_eq_true rfl⟩) (z_preV hK hP hS (ci := 5) (q0 := 0) rfl rfl rfl) rfl rfl hl.1 rfl (lv_room (Nat.le_of_ble_eq_true rfl)) dX5_errand_16 ⟨Nat.le_of_ble_eq_true rfl, Nat.le_of_ble_eq_true rfl⟩)) (fun r_10 σ_9 H locs hP hS hE => ?_)
  exact z_iret hx hb hr hlk hP hS dX5_errand_19 hE
theorem kX5_errand (l : Launch) (E : EN) (hD : ∀ σ, va_D (eA E) (mW E σ)) (x1 : Int32) (x2 : Int32) (σ : ST) (F : Int32 × ST) (hE : fX5_errand x1 x2 σ = some F) : Met l yX5_errand wu_X5_errand r_X5_errand (zPc E mW [.ref (ea E 0), .int x1, .int x2] σ) (zQi E mW F) 0 0 (eA E) := by
  refine Met.ofW (cc := cX5_errand) (maxL := 3) (ret := (some .int)) (by decide) rfl ?_
  intro p e s m args below meth c s₁ B hml hv
  obtain ⟨rfl, hP, hK⟩ := hv
  have hl := lv_entry ([.ref (ea E 0), .int x1, .int x2]) (n := 3) (Nat.le_of_ble_eq_true rfl)
  rw [lg_entry_eq]
  generalize (lg_sl ([.ref (ea E 0), .int x1, .int x2]) ++ List.replicate (3 - (lg_sl ([.ref (ea E 0), .int x1, .int x2])).length) Slot.unset).toArray = ls at hl ⊢
  exact wX5_errand ⟨B.exec, B.bytes, hml, findClass_of_methodNamed B.named, fun w h => atoms_spec (ws := wu_X5_errand) B.pre w (List.mem_cons_of_mem _ h), B.returns, B.notSynchronized, hK, hD⟩ x1 x2 σ s.heap [] ls hl hP va_S.rf hE
def fX5_set  (x1 : Int32) (x2 : Int32) (σ : ST) : Option (Int32 × ST) :=
  (if x1 < 0 then cali (fX5_no (-2) σ) (fun r_2 σ_1 => some (r_2, σ_1)) else (if x1 ≤ 2 then (if x1 = 0 then cali (fX5_change (3 + x1) x2 9 σ) (fun r_8 σ_7 => some (r_8, σ_7)) else (if x1 = 1 then cali (fX5_change (3 + x1) x2 60 σ) (fun r_6 σ_5 => some (r_6, σ_5)) else cali (fX5_change (3 + x1) x2 5 σ) (fun r_4 σ_3 => some (r_4, σ_3)))) else cali (fX5_no (-2) σ) (fun r_10 σ_9 => some (r_10, σ_9))))
set_option maxHeartbeats 4000000 in
set_option maxRecDepth 100000 in
theorem wX5_set {p : Program} {l : Launch} {e : Env} {s : State} {m : MethodId} {args : Array Value} {below : List Frame} {meth : Method} {c : Code} {E : EN} (C : zC E mW p s m args meth c cX5_set 3 RX5 (some .int) wsL_law) {F : Int32 × ST}   (x1 : Int32) (x2 : Int32) (σ : ST) (H : Heap) (locs : List Loc) (ls : Array Slot) (hl : lv_has ls 3 [(0, .ref (ea E 0)), (1, .int x1), (2, .int x2)]) (hP : va_P (eD E) vwCl (mW E σ) H) (hS : va_S (eA E) s.heap H locs) (hE : fX5_set  x1 x2 σ = some F) : zWi E mW p l e r_X5_set s m args below meth c F H locs (F0 m 0 ls []) := by
  obtain ⟨hx, hb, hml, hown, hts, hr, hlk, hK, hD⟩ := id C
  unfold fX5_set at hE
  refine lv_iload_n hx hb dX5_set_0 rfl (lv_at hl 1 rfl) ?_
  refine z_if_lt (tgt := 9) hx hb dX5_set_1 (by decide) hE (fun hE => ?_) (fun hE => ?_)
  · refine lv_aload_n hx hb dX5_set_9 rfl (lv_at hl 0 rfl) ?_
    refine lv_bipush (v := -2) hx hb dX5_set_10 (by decide) ?_
    refine z_goi (wf := mW) hS hE (fun F1 h1 => (va_runV (As := [.int (-2)]) (rest := []) ⟨hx, hb, hml, hown, hts⟩ (kX5_no l E hD (-2) σ F1 h1) (cwV 1 hts (gU_V u_131 u_132 u_133 u_5 u_134) rfl rfl rfl q_X5_no ⟨Nat.le_of_ble_eq_true rfl, Nat.le_of_ble_eq_true rfl⟩) (z_preV hK hP hS (ci := 5) (q0 := 0) rfl rfl rfl) rfl rfl hl.1 rfl (lv_room (Nat.le_of_ble_eq_true rfl)) dX5_set_12 ⟨Nat.le_of_ble_eq_true rfl, Nat.le_of_ble_eq_true rfl⟩)) (fun r_2 σ_1 H locs hP hS hE => ?_)
    exact z_iret hx hb hr hlk hP hS dX5_set_15 hE
  refine lv_iload_n hx hb dX5_set_4 rfl (lv_at hl 1 rfl) ?_
  refine lv_iconst (v := 2) hx hb dX5_set_5 (by decide) ?_
  refine z_icmp_le (tgt := 16) hx hb dX5_set_6 (by decide) hE (fun hE => ?_) (fun hE => ?_)
  · refine lv_aload_n hx hb dX5_set_16 rfl (lv_at hl 0 rfl) ?_
    refine lv_iconst (v := 3) hx hb dX5_set_17 (by decide) ?_
    refine lv_iload_n hx hb dX5_set_18 rfl (lv_at hl 1 rfl) ?_
    refine lv_iadd hx hb dX5_set_19 ?_
    refine lv_iload_n hx hb dX5_set_20 rfl (lv_at hl 2 rfl) ?_
    refine lv_iload_n hx hb dX5_set_21 rfl (lv_at hl 1 rfl) ?_
    refine z_if_ne (tgt := 30) hx hb dX5_set_22 (by decide) hE (fun hE => ?_) (fun hE => ?_)
    · refine lv_iload_n hx hb dX5_set_30 rfl (lv_at hl 1 rfl) ?_
      refine lv_iconst (v := 1) hx hb dX5_set_31 (by decide) ?_
      refine z_icmp_ne (tgt := 40) hx hb dX5_set_32 (by decide) hE (fun hE => ?_) (fun hE => ?_)
      · refine lv_iconst (v := 5) hx hb dX5_set_40 (by decide) ?_
        refine z_goi (wf := mW) hS hE (fun F1 h1 => (va_runV (As := [.int (3 + x1), .int x2, .int 5]) (rest := []) ⟨hx, hb, hml, hown, hts⟩ (kX5_change l E hD (3 + x1) x2 5 σ F1 h1) (cwV 3 hts (gU_V u_438 u_439 u_440 u_5 u_441) rfl rfl rfl q_X5_change ⟨Nat.le_of_ble_eq_true rfl, Nat.le_of_ble_eq_true rfl⟩) (z_preV hK hP hS (ci := 5) (q0 := 0) rfl rfl rfl) rfl rfl hl.1 rfl (lv_room (Nat.le_of_ble_eq_true rfl)) dX5_set_41 ⟨Nat.le_of_ble_eq_true rfl, Nat.le_of_ble_eq_true rfl⟩)) (fun r_4 σ_3 H locs hP hS hE => ?_)
        exact z_iret hx hb hr hlk hP hS dX5_set_44 hE
      refine lv_bipush (v := 60) hx hb dX5_set_35 (by decide) ?_
      refine lv_goto (tgt := 41) hx hb dX5_set_37 (by decide) ?_
      refine z_goi (wf := mW) hS hE (fun F1 h1 => (va_runV (As := [.int (3 + x1), .int x2, .int 60]) (rest := []) ⟨hx, hb, hml, hown, hts⟩ (kX5_change l E hD (3 + x1) x2 60 σ F1 h1) (cwV 3 hts (gU_V u_438 u_439 u_440 u_5 u_441) rfl rfl rfl q_X5_change ⟨Nat.le_of_ble_eq_true rfl, Nat.le_of_ble_eq_true rfl⟩) (z_preV hK hP hS (ci := 5) (q0 := 0) rfl rfl rfl) rfl rfl hl.1 rfl (lv_room (Nat.le_of_ble_eq_true rfl)) dX5_set_41 ⟨Nat.le_of_ble_eq_true rfl, Nat.le_of_ble_eq_true rfl⟩)) (fun r_6 σ_5 H locs hP hS hE => ?_)
      exact z_iret hx hb hr hlk hP hS dX5_set_44 hE
    refine lv_bipush (v := 9) hx hb dX5_set_25 (by decide) ?_
    refine lv_goto (tgt := 41) hx hb dX5_set_27 (by decide) ?_
    refine z_goi (wf := mW) hS hE (fun F1 h1 => (va_runV (As := [.int (3 + x1), .int x2, .int 9]) (rest := []) ⟨hx, hb, hml, hown, hts⟩ (kX5_change l E hD (3 + x1) x2 9 σ F1 h1) (cwV 3 hts (gU_V u_438 u_439 u_440 u_5 u_441) rfl rfl rfl q_X5_change ⟨Nat.le_of_ble_eq_true rfl, Nat.le_of_ble_eq_true rfl⟩) (z_preV hK hP hS (ci := 5) (q0 := 0) rfl rfl rfl) rfl rfl hl.1 rfl (lv_room (Nat.le_of_ble_eq_true rfl)) dX5_set_41 ⟨Nat.le_of_ble_eq_true rfl, Nat.le_of_ble_eq_true rfl⟩)) (fun r_8 σ_7 H locs hP hS hE => ?_)
    exact z_iret hx hb hr hlk hP hS dX5_set_44 hE
  refine lv_aload_n hx hb dX5_set_9 rfl (lv_at hl 0 rfl) ?_
  refine lv_bipush (v := -2) hx hb dX5_set_10 (by decide) ?_
  refine z_goi (wf := mW) hS hE (fun F1 h1 => (va_runV (As := [.int (-2)]) (rest := []) ⟨hx, hb, hml, hown, hts⟩ (kX5_no l E hD (-2) σ F1 h1) (cwV 1 hts (gU_V u_131 u_132 u_133 u_5 u_134) rfl rfl rfl q_X5_no ⟨Nat.le_of_ble_eq_true rfl, Nat.le_of_ble_eq_true rfl⟩) (z_preV hK hP hS (ci := 5) (q0 := 0) rfl rfl rfl) rfl rfl hl.1 rfl (lv_room (Nat.le_of_ble_eq_true rfl)) dX5_set_12 ⟨Nat.le_of_ble_eq_true rfl, Nat.le_of_ble_eq_true rfl⟩)) (fun r_10 σ_9 H locs hP hS hE => ?_)
  exact z_iret hx hb hr hlk hP hS dX5_set_15 hE
theorem kX5_set (l : Launch) (E : EN) (hD : ∀ σ, va_D (eA E) (mW E σ)) (x1 : Int32) (x2 : Int32) (σ : ST) (F : Int32 × ST) (hE : fX5_set x1 x2 σ = some F) : Met l yX5_set wu_X5_set r_X5_set (zPc E mW [.ref (ea E 0), .int x1, .int x2] σ) (zQi E mW F) 0 0 (eA E) := by
  refine Met.ofW (cc := cX5_set) (maxL := 3) (ret := (some .int)) (by decide) rfl ?_
  intro p e s m args below meth c s₁ B hml hv
  obtain ⟨rfl, hP, hK⟩ := hv
  have hl := lv_entry ([.ref (ea E 0), .int x1, .int x2]) (n := 3) (Nat.le_of_ble_eq_true rfl)
  rw [lg_entry_eq]
  generalize (lg_sl ([.ref (ea E 0), .int x1, .int x2]) ++ List.replicate (3 - (lg_sl ([.ref (ea E 0), .int x1, .int x2])).length) Slot.unset).toArray = ls at hl ⊢
  exact wX5_set ⟨B.exec, B.bytes, hml, findClass_of_methodNamed B.named, fun w h => atoms_spec (ws := wu_X5_set) B.pre w (List.mem_cons_of_mem _ h), B.returns, B.notSynchronized, hK, hD⟩ x1 x2 σ s.heap [] ls hl hP va_S.rf hE
