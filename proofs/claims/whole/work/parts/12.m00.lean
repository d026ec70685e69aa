def fX5_move_2_3_L2 (ke : ST → Option (ST)) : Nat → Int32 → ST → Option (ST)
  | 0, _, _ => none
  | n + 1, x2, σ => (if 200 ≤ x2 then ke  σ else ald (gA σ 1) 200 x2 (fun v_2 => ast σ 2 200 x2 v_2 (fun σ_3 => bnd (x2 + 1) (fun x2_4 => fX5_move_2_3_L2 ke n x2_4 σ_3))))
set_option maxHeartbeats 4000000 in
set_option maxRecDepth 100000 in
theorem wX5_move_2_3_L2 {p : Program} {l : Launch} {e : Env} {s : State} {m : MethodId} {args : Array Value} {below : List Frame} {meth : Method} {c : Code} {E : EN} (C : zC E mW p s m args meth c cX5_move 3 RX5 none wsL_law) {F : ST} {ke : ST → Option (ST)} (hke : ∀  (σ : ST) (H : Heap) (locs : List Loc) (ls : Array Slot), lv_has ls 3 [] → va_P (eD E) vwCl (mW E σ) H → va_S (eA E) s.heap H locs → ke  σ = some F → zWv E mW p l e r_X5_move s m args below meth c F H locs (F0 m 21 ls [])) : ∀ (n : Nat) (x2 : Int32) (σ : ST) (H : Heap) (locs : List Loc) (ls : Array Slot), lv_has ls 3 [(0, .ref (ea E 2)), (1, .ref (ea E 3)), (2, .int x2)] → va_P (eD E) vwCl (mW E σ) H → va_S (eA E) s.heap H locs → fX5_move_2_3_L2 ke n x2 σ = some F → zWv E mW p l e r_X5_move s m args below meth c F H locs (F0 m 2 ls []) := by
  obtain ⟨hx, hb, hml, hown, hts, hr, hlk, hK, hD⟩ := id C
  intro n
  induction n with
  | zero => intro x2 σ H locs ls hl hP hS hE; rw [fX5_move_2_3_L2] at hE; cases hE
  | succ n ih =>
    intro x2 σ H locs ls hl hP hS hE
    rw [fX5_move_2_3_L2] at hE
    refine lv_iload_n hx hb dX5_move_2 rfl (lv_at hl 2 rfl) ?_
    refine lv_sipush (v := 200) hx hb dX5_move_3 (by decide) ?_
    refine z_icmp_ge (tgt := 21) hx hb dX5_move_6 (by decide) hE (fun hE => ?_) (fun hE => ?_)
    · exact hke  σ _ _ _ (lv_sub hl [] rfl) hP hS hE
    refine lv_aload_n hx hb dX5_move_9 rfl (lv_at hl 1 rfl) ?_
    refine lv_iload_n hx hb dX5_move_10 rfl (lv_at hl 2 rfl) ?_
    refine lv_aload_n hx hb dX5_move_11 rfl (lv_at hl 0 rfl) ?_
    refine lv_iload_n hx hb dX5_move_12 rfl (lv_at hl 2 rfl) ?_
    refine ma_2 hx hb hK hP dX5_move_13 hE (fun v_2 hE => ?_)
    refine ms_3 hx hb hK hD hP hS dX5_move_14 hE (fun σ_3 H locs hP hS hE => ?_)
    refine z_iinc hx hb (v := (x2 + 1)) (k := 2) (fun x2_4 => [(2, .int x2_4), (0, .ref (ea E 2)), (1, .ref (ea E 3))]) dX5_move_15 hl rfl (by rfl) (by decide) rfl hE (fun x2_4 ls hl hE => ?_)
    refine lv_goto (tgt := 2) hx hb dX5_move_18 (by decide) ?_
    exact ih x2_4 σ_3 _ _ _ (lv_sub hl [1, 2, 0] rfl) hP hS hE
def fX5_move_2_3   (σ : ST) : Option (ST) :=
  bnd (0 : Int32) (fun x2_1 => fX5_move_2_3_L2 (fun σ_5 => some σ_5) FU x2_1 σ)
set_option maxHeartbeats 4000000 in
set_option maxRecDepth 100000 in
theorem wX5_move_2_3 {p : Program} {l : Launch} {e : Env} {s : State} {m : MethodId} {args : Array Value} {below : List Frame} {meth : Method} {c : Code} {E : EN} (C : zC E mW p s m args meth c cX5_move 3 RX5 none wsL_law) {F : ST}    (σ : ST) (H : Heap) (locs : List Loc) (ls : Array Slot) (hl : lv_has ls 3 [(0, .ref (ea E 2)), (1, .ref (ea E 3))]) (hP : va_P (eD E) vwCl (mW E σ) H) (hS : va_S (eA E) s.heap H locs) (hE : fX5_move_2_3   σ = some F) : zWv E mW p l e r_X5_move s m args below meth c F H locs (F0 m 0 ls []) := by
  obtain ⟨hx, hb, hml, hown, hts, hr, hlk, hK, hD⟩ := id C
  unfold fX5_move_2_3 at hE
  refine lv_iconst (v := 0) hx hb dX5_move_0 (by decide) ?_
  refine z_istore_n hx hb (fun x2_1 => [(2, .int x2_1), (0, .ref (ea E 2)), (1, .ref (ea E 3))]) dX5_move_1 rfl hl (by decide) rfl hE (fun x2_1 ls hl hE => ?_)
  refine wX5_move_2_3_L2 C ?_ FU x2_1 σ _ _ _ (lv_sub hl [1, 2, 0] rfl) hP hS hE
  intro σ_5 H locs ls hl hP hS hE
  exact z_vret hx hb hr hlk hP hS dX5_move_21 hE
theorem kX5_move_2_3 (l : Launch) (E : EN) (hD : ∀ σ, va_D (eA E) (mW E σ))  (σ : ST) (F : ST) (hE : fX5_move_2_3  σ = some F) : Met l yX5_move wu_X5_move r_X5_move (zPc E mW [.ref (ea E 2), .ref (ea E 3)] σ) (zQv E mW F) 0 0 (eA E) := by
  refine Met.ofW (cc := cX5_move) (maxL := 3) (ret := none) (by decide) rfl ?_
  intro p e s m args below meth c s₁ B hml hv
  obtain ⟨rfl, hP, hK⟩ := hv
  have hl := lv_entry ([.ref (ea E 2), .ref (ea E 3)]) (n := 3) (Nat.le_of_ble_eq_true rfl)
  rw [lg_entry_eq]
  generalize (lg_sl ([.ref (ea E 2), .ref (ea E 3)]) ++ List.replicate (3 - (lg_sl ([.ref (ea E 2), .ref (ea E 3)])).length) Slot.unset).toArray = ls at hl ⊢
  exact wX5_move_2_3 ⟨B.exec, B.bytes, hml, findClass_of_methodNamed B.named, fun w h => atoms_spec (ws := wu_X5_move) B.pre w (List.mem_cons_of_mem _ h), B.returns, B.notSynchronized, hK, hD⟩  σ s.heap [] ls hl hP va_S.rf hE
def fX5_image   (σ : ST) : Option (Int32 × ST) :=
  bnd (sI σ 0 1) (fun σ_1 => calv (fX5_move_2_3 σ_1) (fun σ_2 => ald (gA σ_2 1) 200 0 (fun v_3 => some (v_3, σ_2))))
set_option maxHeartbeats 4000000 in
set_option maxRecDepth 100000 in
theorem wX5_image {p : Program} {l : Launch} {e : Env} {s : State} {m : MethodId} {args : Array Value} {below : List Frame} {meth : Method} {c : Code} {E : EN} (C : zC E mW p s m args meth c cX5_image 1 RX5 (some .int) wsL_law) {F : Int32 × ST}    (σ : ST) (H : Heap) (locs : List Loc) (ls : Array Slot) (hl : lv_has ls 1 [(0, .ref (ea E 0))]) (hP : va_P (eD E) vwCl (mW E σ) H) (hS : va_S (eA E) s.heap H locs) (hE : fX5_image   σ = some F) : zWi E mW p l e r_X5_image s m args below meth c F H locs (F0 m 0 ls []) := by
  obtain ⟨hx, hb, hml, hown, hts, hr, hlk, hK, hD⟩ := id C
  have hwX5 : ∀ w ∈ wsX50, w.before args s = true := fun w h => hts w (inlX5 w h)
  unfold fX5_image at hE
  refine lv_aload_n hx hb dX5_image_0 rfl (lv_at hl 0 rfl) ?_
  refine lv_iconst (v := 1) hx hb dX5_image_1 (by decide) ?_
  refine mp_0_3 hx hb hown hwX5 (hts _ u_914) hK hD hP hS rfl dX5_image_2 hE (fun σ_1 H locs hP hS hE => ?_)
  refine lv_aload_n hx hb dX5_image_5 rfl (lv_at hl 0 rfl) ?_
  refine mg_0_1 hx hb hown hwX5 (hts _ u_97) hK hP dX5_image_6 ?_
  refine lv_aload_n hx hb dX5_image_9 rfl (lv_at hl 0 rfl) ?_
  refine mg_0_2 hx hb hown hwX5 (hts _ u_98) hK hP dX5_image_10 ?_
  refine z_gov (wf := mW) hS hE (fun F1 h1 => (va_runS (As := [.ref (ea E 2), .ref (ea E 3)]) (rest := []) ⟨hx, hb, hml, hown, hts⟩ (kX5_move_2_3 l E hD  σ_1 F1 h1) (va_cwS 2 hts (gU_S u_365 u_366 u_5 u_367) rfl rfl rfl q_X5_move ⟨Nat.le_of_ble_eq_true rfl, Nat.le_of_ble_eq_true rfl⟩) (z_preS hK hP hS) rfl rfl hl.1 rfl (lv_room (Nat.le_of_ble_eq_true rfl)) dX5_image_13 ⟨Nat.le_of_ble_eq_true rfl, Nat.le_of_ble_eq_true rfl⟩)) (fun σ_2 H locs hP hS hE => ?_)
  refine lv_aload_n hx hb dX5_image_16 rfl (lv_at hl 0 rfl) ?_
  refine mg_0_1 hx hb hown hwX5 (hts _ u_97) hK hP dX5_image_17 ?_
  refine lv_iconst (v := 0) hx hb dX5_image_20 (by decide) ?_
  refine ma_2 hx hb hK hP dX5_image_21 hE (fun v_3 hE => ?_)
  exact z_iret hx hb hr hlk hP hS dX5_image_22 hE
theorem kX5_image (l : Launch) (E : EN) (hD : ∀ σ, va_D (eA E) (mW E σ))  (σ : ST) (F : Int32 × ST) (hE : fX5_image  σ = some F) : Met l yX5_image wu_X5_image r_X5_image (zPc E mW [.ref (ea E 0)] σ) (zQi E mW F) 0 0 (eA E) := by
  refine Met.ofW (cc := cX5_image) (maxL := 1) (ret := (some .int)) (by decide) rfl ?_
  intro p e s m args below meth c s₁ B hml hv
  obtain ⟨rfl, hP, hK⟩ := hv
  have hl := lv_entry ([.ref (ea E 0)]) (n := 1) (Nat.le_of_ble_eq_true rfl)
  rw [lg_entry_eq]
  generalize (lg_sl ([.ref (ea E 0)]) ++ List.replicate (1 - (lg_sl ([.ref (ea E 0)])).length) Slot.unset).toArray = ls at hl ⊢
  exact wX5_image ⟨B.exec, B.bytes, hml, findClass_of_methodNamed B.named, fun w h => atoms_spec (ws := wu_X5_image) B.pre w (List.mem_cons_of_mem _ h), B.returns, B.notSynchronized, hK, hD⟩  σ s.heap [] ls hl hP va_S.rf hE
def fX5_move_3_2_L2 (ke : ST → Option (ST)) : Nat → Int32 → ST → Option (ST)
  | 0, _, _ => none
  | n + 1, x2, σ => (if 200 ≤ x2 then ke  σ else ald (gA σ 2) 200 x2 (fun v_2 => ast σ 1 200 x2 v_2 (fun σ_3 => bnd (x2 + 1) (fun x2_4 => fX5_move_3_2_L2 ke n x2_4 σ_3))))
set_option maxHeartbeats 4000000 in
set_option maxRecDepth 100000 in
theorem wX5_move_3_2_L2 {p : Program} {l : Launch} {e : Env} {s : State} {m : MethodId} {args : Array Value} {below : List Frame} {meth : Method} {c : Code} {E : EN} (C : zC E mW p s m args meth c cX5_move 3 RX5 none wsL_law) {F : ST} {ke : ST → Option (ST)} (hke : ∀  (σ : ST) (H : Heap) (locs : List Loc) (ls : Array Slot), lv_has ls 3 [] → va_P (eD E) vwCl (mW E σ) H → va_S (eA E) s.heap H locs → ke  σ = some F → zWv E mW p l e r_X5_move s m args below meth c F H locs (F0 m 21 ls [])) : ∀ (n : Nat) (x2 : Int32) (σ : ST) (H : Heap) (locs : List Loc) (ls : Array Slot), lv_has ls 3 [(0, .ref (ea E 3)), (1, .ref (ea E 2)), (2, .int x2)] → va_P (eD E) vwCl (mW E σ) H → va_S (eA E) s.heap H locs → fX5_move_3_2_L2 ke n x2 σ = some F → zWv E mW p l e r_X5_move s m args below meth c F H locs (F0 m 2 ls []) := by
  obtain ⟨hx, hb, hml, hown, hts, hr, hlk, hK, hD⟩ := id C
  intro n
  induction n with
  | zero => intro x2 σ H locs ls hl hP hS hE; rw [fX5_move_3_2_L2] at hE; cases hE
  | succ n ih =>
    intro x2 σ H locs ls hl hP hS hE
    rw [fX5_move_3_2_L2] at hE
    refine lv_iload_n hx hb dX5_move_2 rfl (lv_at hl 2 rfl) ?_
    refine lv_sipush (v := 200) hx hb dX5_move_3 (by decide) ?_
    refine z_icmp_ge (tgt := 21) hx hb dX5_move_6 (by decide) hE (fun hE => ?_) (fun hE => ?_)
    · exact hke  σ _ _ _ (lv_sub hl [] rfl) hP hS hE
    refine lv_aload_n hx hb dX5_move_9 rfl (lv_at hl 1 rfl) ?_
    refine lv_iload_n hx hb dX5_move_10 rfl (lv_at hl 2 rfl) ?_
    refine lv_aload_n hx hb dX5_move_11 rfl (lv_at hl 0 rfl) ?_
    refine lv_iload_n hx hb dX5_move_12 rfl (lv_at hl 2 rfl) ?_
    refine ma_3 hx hb hK hP dX5_move_13 hE (fun v_2 hE => ?_)
    refine ms_2 hx hb hK hD hP hS dX5_move_14 hE (fun σ_3 H locs hP hS hE => ?_)
    refine z_iinc hx hb (v := (x2 + 1)) (k := 2) (fun x2_4 => [(2, .int x2_4), (0, .ref (ea E 3)), (1, .ref (ea E 2))]) dX5_move_15 hl rfl (by rfl) (by decide) rfl hE (fun x2_4 ls hl hE => ?_)
    refine lv_goto (tgt := 2) hx hb dX5_move_18 (by decide) ?_
    exact ih x2_4 σ_3 _ _ _ (lv_sub hl [1, 2, 0] rfl) hP hS hE
def fX5_move_3_2   (σ : ST) : Option (ST) :=
  bnd (0 : Int32) (fun x2_1 => fX5_move_3_2_L2 (fun σ_5 => some σ_5) FU x2_1 σ)
set_option maxHeartbeats 4000000 in
set_option maxRecDepth 100000 in
theorem wX5_move_3_2 {p : Program} {l : Launch} {e : Env} {s : State} {m : MethodId} {args : Array Value} {below : List Frame} {meth : Method} {c : Code} {E : EN} (C : zC E mW p s m args meth c cX5_move 3 RX5 none wsL_law) {F : ST}    (σ : ST) (H : Heap) (locs : List Loc) (ls : Array Slot) (hl : lv_has ls 3 [(0, .ref (ea E 3)), (1, .ref (ea E 2))]) (hP : va_P (eD E) vwCl (mW E σ) H) (hS : va_S (eA E) s.heap H locs) (hE : fX5_move_3_2   σ = some F) : zWv E mW p l e r_X5_move s m args below meth c F H locs (F0 m 0 ls []) := by
  obtain ⟨hx, hb, hml, hown, hts, hr, hlk, hK, hD⟩ := id C
  unfold fX5_move_3_2 at hE
  refine lv_iconst (v := 0) hx hb dX5_move_0 (by decide) ?_
  refine z_istore_n hx hb (fun x2_1 => [(2, .int x2_1), (0, .ref (ea E 3)), (1, .ref (ea E 2))]) dX5_move_1 rfl hl (by decide) rfl hE (fun x2_1 ls hl hE => ?_)
  refine wX5_move_3_2_L2 C ?_ FU x2_1 σ _ _ _ (lv_sub hl [1, 2, 0] rfl) hP hS hE
  intro σ_5 H locs ls hl hP hS hE
  exact z_vret hx hb hr hlk hP hS dX5_move_21 hE
theorem kX5_move_3_2 (l : Launch) (E : EN) (hD : ∀ σ, va_D (eA E) (mW E σ))  (σ : ST) (F : ST) (hE : fX5_move_3_2  σ = some F) : Met l yX5_move wu_X5_move r_X5_move (zPc E mW [.ref (ea E 3), .ref (ea E 2)] σ) (zQv E mW F) 0 0 (eA E) := by
  refine Met.ofW (cc := cX5_move) (maxL := 3) (ret := none) (by decide) rfl ?_
  intro p e s m args below meth c s₁ B hml hv
  obtain ⟨rfl, hP, hK⟩ := hv
  have hl := lv_entry ([.ref (ea E 3), .ref (ea E 2)]) (n := 3) (Nat.le_of_ble_eq_true rfl)
  rw [lg_entry_eq]
  generalize (lg_sl ([.ref (ea E 3), .ref (ea E 2)]) ++ List.replicate (3 - (lg_sl ([.ref (ea E 3), .ref (ea E 2)])).length) Slot.unset).toArray = ls at hl ⊢
  exact wX5_move_3_2 ⟨B.exec, B.bytes, hml, findClass_of_methodNamed B.named, fun w h => atoms_spec (ws := wu_X5_move) B.pre w (List.mem_cons_of_mem _ h), B.returns, B.notSynchronized, hK, hD⟩  σ s.heap [] ls hl hP va_S.rf hE
def fX5_no  (x1 : Int32) (σ : ST) : Option (Int32 × ST) :=
  ald (gA σ 0) 7 (-x1) (fun v_1 => ast σ 0 7 (-x1) (v_1 + 1) (fun σ_2 => some (x1, σ_2)))
set_option maxHeartbeats 4000000 in
set_option maxRecDepth 100000 in
theorem wX5_no {p : Program} {l : Launch} {e : Env} {s : State} {m : MethodId} {args : Array Value} {below : List Frame} {meth : Method} {c : Code} {E : EN} (C : zC E mW p s m args meth c cX5_no 2 RX5 (some .int) wsL_law) {F : Int32 × ST}   (x1 : Int32) (σ : ST) (H : Heap) (locs : List Loc) (ls : Array Slot) (hl : lv_has ls 2 [(0, .ref (ea E 0)), (1, .int x1)]) (hP : va_P (eD E) vwCl (mW E σ) H) (hS : va_S (eA E) s.heap H locs) (hE : fX5_no  x1 σ = some F) : zWi E mW p l e r_X5_no s m args below meth c F H locs (F0 m 0 ls []) := by
  obtain ⟨hx, hb, hml, hown, hts, hr, hlk, hK, hD⟩ := id C
  have hwX5 : ∀ w ∈ wsX50, w.before args s = true := fun w h => hts w (inlX5 w h)
  unfold fX5_no at hE
  refine lv_aload_n hx hb dX5_no_0 rfl (lv_at hl 0 rfl) ?_
  refine mg_0_0 hx hb hown hwX5 (hts _ u_96) hK hP dX5_no_1 ?_
  refine lv_iload_n hx hb dX5_no_4 rfl (lv_at hl 1 rfl) ?_
  refine lv_ineg hx hb dX5_no_5 ?_
  refine lv_dup2_11 hx hb dX5_no_6 rfl rfl ?_
  refine ma_1 hx hb hK hP dX5_no_7 hE (fun v_1 hE => ?_)
  refine lv_iconst (v := 1) hx hb dX5_no_8 (by decide) ?_
  refine lv_iadd hx hb dX5_no_9 ?_
  refine ms_1 hx hb hK hD hP hS dX5_no_10 hE (fun σ_2 H locs hP hS hE => ?_)
  refine lv_iload_n hx hb dX5_no_11 rfl (lv_at hl 1 rfl) ?_
  exact z_iret hx hb hr hlk hP hS dX5_no_12 hE
theorem kX5_no (l : Launch) (E : EN) (hD : ∀ σ, va_D (eA E) (mW E σ)) (x1 : Int32) (σ : ST) (F : Int32 × ST) (hE : fX5_no x1 σ = some F) : Met l yX5_no wu_X5_no r_X5_no (zPc E mW [.ref (ea E 0), .int x1] σ) (zQi E mW F) 0 0 (eA E) := by
  refine Met.ofW (cc := cX5_no) (maxL := 2) (ret := (some .int)) (by decide) rfl ?_
  intro p e s m args below meth c s₁ B hml hv
  obtain ⟨rfl, hP, hK⟩ := hv
  have hl := lv_entry ([.ref (ea E 0), .int x1]) (n := 2) (Nat.le_of_ble_eq_true rfl)
  rw [lg_entry_eq]
  generalize (lg_sl ([.ref (ea E 0), .int x1]) ++ List.replicate (2 - (lg_sl ([.ref (ea E 0), .int x1])).length) Slot.unset).toArray = ls at hl ⊢
  exact wX5_no ⟨B.exec, B.bytes, hml, findClass_of_methodNamed B.named, fun w h => atoms_spec (ws := wu_X5_no) B.pre w (List.mem_cons_of_mem _ h), B.returns, B.notSynchronized, hK, hD⟩ x1 σ s.heap [] ls hl hP va_S.rf hE
def fX5_on   (σ : ST) : Option (Int32 × ST) :=
  (if (gI σ 0) = 0 then cali (fX5_no (-3) σ) (fun r_4 σ_3 => some (r_4, σ_3)) else calv (fX5_move_3_2 σ) (fun σ_1 => ald (gA σ_1 1) 200 0 (fun v_2 => some (v_2, σ_1))))
set_option maxHeartbeats 4000000 in
set_option maxRecDepth 100000 in
theorem wX5_on {p : Program} {l : Launch} {e : Env} {s : State} {m : MethodId} {args : Array Value} {below : List Frame} {meth : Method} {c : Code} {E : EN} (C : zC E mW p s m args meth c cX5_on 1 RX5 (some .int) wsL_law) {F : Int32 × ST}    (σ : ST) (H : Heap) (locs : List Loc) (ls : Array Slot) (hl : lv_has ls 1 [(0, .ref (ea E 0))]) (hP : va_P (eD E) vwCl (mW E σ) H) (hS : va_S (eA E) s.heap H locs) (hE : fX5_on   σ = some F) : zWi E mW p l e r_X5_on s m args below meth c F H locs (F0 m 0 ls []) := by
  obtain ⟨hx, hb, hml, hown, hts, hr, hlk, hK, hD⟩ := id C
  have hwX5 : ∀ w ∈ wsX50, w.before args s = true := fun w h => hts w (inlX5 w h)
  unfold fX5_on at hE
  refine lv_aload_n hx hb dX5_on_0 rfl (lv_at hl 0 rfl) ?_
  refine mg_0_3 hx hb hown hwX5 (hts _ u_914) hK hP dX5_on_1 ?_
  refine z_if_ne (tgt := 14) hx hb dX5_on_4 (by decide) hE (fun hE => ?_) (fun hE => ?_)
  · refine lv_aload_n hx hb dX5_on_14 rfl (lv_at hl 0 rfl) ?_
    refine mg_0_2 hx hb hown hwX5 (hts _ u_98) hK hP dX5_on_15 ?_
    refine lv_aload_n hx hb dX5_on_18 rfl (lv_at hl 0 rfl) ?_
    refine mg_0_1 hx hb hown hwX5 (hts _ u_97) hK hP dX5_on_19 ?_
    refine z_gov (wf := mW) hS hE (fun F1 h1 => (va_runS (As := [.ref (ea E 3), .ref (ea E 2)]) (rest := []) ⟨hx, hb, hml, hown, hts⟩ (kX5_move_3_2 l E hD  σ F1 h1) (va_cwS 2 hts (gU_S u_365 u_366 u_5 u_367) rfl rfl rfl q_X5_move ⟨Nat.le_of_ble_eq_true rfl, Nat.le_of_ble_eq_true rfl⟩) (z_preS hK hP hS) rfl rfl hl.1 rfl (lv_room (Nat.le_of_ble_eq_true rfl)) dX5_on_22 ⟨Nat.le_of_ble_eq_true rfl, Nat.le_of_ble_eq_true rfl⟩)) (fun σ_1 H locs hP hS hE => ?_)
    refine lv_aload_n hx hb dX5_on_25 rfl (lv_at hl 0 rfl) ?_
    refine mg_0_1 hx hb hown hwX5 (hts _ u_97) hK hP dX5_on_26 ?_
    refine lv_iconst (v := 0) hx hb dX5_on_29 (by decide) ?_
    refine ma_2 hx hb hK hP dX5_on_30 hE (fun v_2 hE => ?_)
    exact z_iret hx hb hr hlk hP hS dX5_on_31 hE
  refine lv_aload_n hx hb dX5_on_7 rfl (lv_at hl 0 rfl) ?_
  refine lv_bipush (v := -3) hx hb dX5_on_8 (by decide) ?_
  refine z_goi (wf := mW) hS hE (fun F1 h1 => (va_runV (As := [.int (-3)]) (rest := []) ⟨hx, hb, hml, hown, hts⟩ (kX5_no l E hD (-3) σ F1 h1) (cwV 1 hts (gU_V u_131 u_132 u_133 u_5 u_134) rfl rfl rfl q_X5_no ⟨Nat.le_of_ble_eq_true rfl, Nat.le_of_ble_eq_true rfl⟩) (z_preV hK hP hS (ci := 5) (q0 := 0) rfl rfl rfl) rfl rfl hl.1 rfl (lv_room (Nat.le_of_ble_eq_true rfl)) dX5_on_10 ⟨Nat.le_of_ble_eq_true rfl, Nat.le_of_ble_eq_true rfl⟩)) (fun r_4 σ_3 H locs hP hS hE => ?_)
  exact z_iret hx hb hr hlk hP hS dX5_on_13 hE
theorem kX5_on (l : Launch) (E : EN) (hD : ∀ σ, va_D (eA E) (mW E σ))  (σ : ST) (F : Int32 × ST) (hE : fX5_on  σ = some F) : Met l yX5_on wu_X5_on r_X5_on (zPc E mW [.ref (ea E 0)] σ) (zQi E mW F) 0 0 (eA E) := by
  refine Met.ofW (cc := cX5_on) (maxL := 1) (ret := (some .int)) (by decide) rfl ?_
  intro p e s m args below meth c s₁ B hml hv
  obtain ⟨rfl, hP, hK⟩ := hv
  have hl := lv_entry ([.ref (ea E 0)]) (n := 1) (Nat.le_of_ble_eq_true rfl)
  rw [lg_entry_eq]
  generalize (lg_sl ([.ref (ea E 0)]) ++ List.replicate (1 - (lg_sl ([.ref (ea E 0)])).length) Slot.unset).toArray = ls at hl ⊢
  exact wX5_on ⟨B.exec, B.bytes, hml, findClass_of_methodNamed B.named, fun w h => atoms_spec (ws := wu_X5_on) B.pre w (List.mem_cons_of_mem _ h), B.returns, B.notSynchronized, hK, hD⟩  σ s.heap [] ls hl hP va_S.rf hE
def fX5_letter  (x1 : Int32) (σ : ST) : Option (Int32 × ST) :=
  (if 0 ≤ x1 then (if 255 < x1 then cali (fX5_no (-6) σ) (fun r_2 σ_1 => some (r_2, σ_1)) else (if (gI σ 1) = 96 then cali (fX5_no (-6) σ) (fun r_6 σ_5 => some (r_6, σ_5)) else ast σ 3 96 (gI σ 1) x1 (fun σ_3 => bnd (sI σ_3 1 ((gI σ_3 1) + 1)) (fun σ_4 => some ((gI σ_4 1), σ_4))))) else cali (fX5_no (-4) σ) (fun r_8 σ_7 => some (r_8, σ_7)))
set_option maxHeartbeats 4000000 in
set_option maxRecDepth 100000 in
theorem wX5_letter {p : Program} {l : Launch} {e : Env} {s : State} {m : MethodId} {args : Array Value} {below : List Frame} {meth : Method} {c : Code} {E : EN} (C : zC E mW p s m args meth c cX5_letter 2 RX5 (some .int) wsL_law) {F : Int32 × ST}   (x1 : Int32) (σ : ST) (H : Heap) (locs : List Loc) (ls : Array Slot) (hl : lv_has ls 2 [(0, .ref (ea E 0)), (1, .int x1)]) (hP : va_P (eD E) vwCl (mW E σ) H) (hS : va_S (eA E) s.heap H locs) (hE : fX5_letter  x1 σ = some F) : zWi E mW p l e r_X5_letter s m args below meth c F H locs (F0 m 0 ls []) := by
  obtain ⟨hx, hb, hml, hown, hts, hr, hlk, hK, hD⟩ := id C
  have hwX5 : ∀ w ∈ wsX50, w.before args s = true := fun w h => hts w (inlX5 w h)
  unfold fX5_letter at hE
  refine lv_iload_n hx hb dX5_letter_0 rfl (lv_at hl 1 rfl) ?_
  refine z_if_ge (tgt := 11) hx hb dX5_letter_1 (by decide) hE (fun hE => ?_) (fun hE => ?_)
  · refine lv_iload_n hx hb dX5_letter_11 rfl (lv_at hl 1 rfl) ?_
    refine lv_sipush (v := 255) hx hb dX5_letter_12 (by decide) ?_
    refine z_icmp_gt (tgt := 27) hx hb dX5_letter_15 (by decide) hE (fun hE => ?_) (fun hE => ?_)
    · refine lv_aload_n hx hb dX5_letter_27 rfl (lv_at hl 0 rfl) ?_
      refine lv_bipush (v := -6) hx hb dX5_letter_28 (by decide) ?_
      refine z_goi (wf := mW) hS hE (fun F1 h1 => (va_runV (As := [.int (-6)]) (rest := []) ⟨hx, hb, hml, hown, hts⟩ (kX5_no l E hD (-6) σ F1 h1) (cwV 1 hts (gU_V u_131 u_132 u_133 u_5 u_134) rfl rfl rfl q_X5_no ⟨Nat.le_of_ble_eq_true rfl, Nat.le_of_ble_eq_true rfl⟩) (z_preV hK hP hS (ci := 5) (q0 := 0) rfl rfl rfl) rfl rfl hl.1 rfl (lv_room (Nat.le_of_ble_eq_true rfl)) dX5_letter_30 ⟨Nat.le_of_ble_eq_true rfl, Nat.le_of_ble_eq_true rfl⟩)) (fun r_2 σ_1 H locs hP hS hE => ?_)
      exact z_iret hx hb hr hlk hP hS dX5_letter_33 hE
    refine lv_aload_n hx hb dX5_letter_18 rfl (lv_at hl 0 rfl) ?_
    refine mg_0_5 hx hb hown hwX5 (hts _ u_130) hK hP dX5_letter_19 ?_
    refine lv_bipush (v := 96) hx hb dX5_letter_22 (by decide) ?_
    refine z_icmp_ne (tgt := 34) hx hb dX5_letter_24 (by decide) hE (fun hE => ?_) (fun hE => ?_)
    · refine lv_aload_n hx hb dX5_letter_34 rfl (lv_at hl 0 rfl) ?_
      refine mg_0_4 hx hb hown hwX5 (hts _ u_99) hK hP dX5_letter_35 ?_
      refine lv_aload_n hx hb dX5_letter_38 rfl (lv_at hl 0 rfl) ?_
      refine mg_0_5 hx hb hown hwX5 (hts _ u_130) hK hP dX5_letter_39 ?_
      refine lv_iload_n hx hb dX5_letter_42 rfl (lv_at hl 1 rfl) ?_
      refine ms_4 hx hb hK hD hP hS dX5_letter_43 hE (fun σ_3 H locs hP hS hE => ?_)
      refine lv_aload_n hx hb dX5_letter_44 rfl (lv_at hl 0 rfl) ?_
      refine lv_dup hx hb dX5_letter_45 rfl ?_
      refine mg_0_5 hx hb hown hwX5 (hts _ u_130) hK hP dX5_letter_46 ?_
      refine lv_iconst (v := 1) hx hb dX5_letter_49 (by decide) ?_
      refine lv_iadd hx hb dX5_letter_50 ?_
      refine mp_0_5 hx hb hown hwX5 (hts _ u_130) hK hD hP hS dX5_letter_51 hE (fun σ_4 H locs hP hS hE => ?_)
      refine lv_aload_n hx hb dX5_letter_54 rfl (lv_at hl 0 rfl) ?_
      refine mg_0_5 hx hb hown hwX5 (hts _ u_130) hK hP dX5_letter_55 ?_
      exact z_iret hx hb hr hlk hP hS dX5_letter_58 hE
    refine lv_aload_n hx hb dX5_letter_27 rfl (lv_at hl 0 rfl) ?_
    refine lv_bipush (v := -6) hx hb dX5_letter_28 (by decide) ?_
    refine z_goi (wf := mW) hS hE (fun F1 h1 => (va_runV (As := [.int (-6)]) (rest := []) ⟨hx, hb, hml, hown, hts⟩ (kX5_no l E hD (-6) σ F1 h1) (cwV 1 hts (gU_V u_131 u_132 u_133 u_5 u_134) rfl rfl rfl q_X5_no ⟨Nat.le_of_ble_eq_true rfl, Nat.le_of_ble_eq_true rfl⟩) (z_preV hK hP hS (ci := 5) (q0 := 0) rfl rfl rfl) rfl rfl hl.1 rfl (lv_room (Nat.le_of_ble_eq_true rfl)) dX5_letter_30 ⟨Nat.le_of_ble_eq_true rfl, Nat.le_of_ble_eq_true rfl⟩)) (fun r_6 σ_5 H locs hP hS hE => ?_)
    exact z_iret hx hb hr hlk hP hS dX5_letter_33 hE
  refine lv_aload_n hx hb dX5_letter_4 rfl (lv_at hl 0 rfl) ?_
  refine lv_bipush (v := -4) hx hb dX5_letter_5 (by decide) ?_
  refine z_goi (wf := mW) hS hE (fun F1 h1 => (va_runV (As := [.int (-4)]) (rest := []) ⟨hx, hb, hml, hown, hts⟩ (kX5_no l E hD (-4) σ F1 h1) (cwV 1 hts (gU_V u_131 u_132 u_133 u_5 u_134) rfl rfl rfl q_X5_no ⟨Nat.le_of_ble_eq_true rfl, Nat.le_of_ble_eq_true rfl⟩) (z_preV hK hP hS (ci := 5) (q0 := 0) rfl rfl rfl) rfl rfl hl.1 rfl (lv_room (Nat.le_of_ble_eq_true rfl)) dX5_letter_7 ⟨Nat.le_of_ble_eq_true rfl, Nat.le_of_ble_eq_true rfl⟩)) (fun r_8 σ_7 H locs hP hS hE => ?_)
  exact z_iret hx hb hr hlk hP hS dX5_letter_10 hE
theorem kX5_letter (l : Launch) (E : EN) (hD : ∀ σ, va_D (eA E) (mW E σ)) (x1 : Int32) (σ : ST) (F : Int32 × ST) (hE : fX5_letter x1 σ = some F) : Met l yX5_letter wu_X5_letter r_X5_letter (zPc E mW [.ref (ea E 0), .int x1] σ) (zQi E mW F) 0 0 (eA E) := by
  refine Met.ofW (cc := cX5_letter) (maxL := 2) (ret := (some .int)) (by decide) rfl ?_
  intro p e s m args below meth c s₁ B hml hv
  obtain ⟨rfl, hP, hK⟩ := hv
  have hl := lv_entry ([.ref (ea E 0), .int x1]) (n := 2) (Nat.le_of_ble_eq_true rfl)
  rw [lg_entry_eq]
  generalize (lg_sl ([.ref (ea E 0), .int x1]) ++ List.replicate (2 - (lg_sl ([.ref (ea E 0), .int x1])).length) Slot.unset).toArray = ls at hl ⊢
  exact wX5_letter ⟨B.exec, B.bytes, hml, findClass_of_methodNamed B.named, fun w h => atoms_spec (ws := wu_X5_letter) B.pre w (List.mem_cons_of_mem _ h), B.returns, B.notSynchronized, hK, hD⟩ x1 σ s.heap [] ls hl hP va_S.rf hE
def fX5_oneOf_5_L2 (ke : ST → Option (Int32 × ST)) : Nat → Int32 → ST → Option (Int32 × ST)
  | 0, _, _ => none
  | n + 1, x2, σ => (if 5 ≤ x2 then ke  σ else (if (gI σ 3) = 0 then bnd (x2 + 1) (fun x2_2 => fX5_oneOf_5_L2 ke n x2_2 σ) else (if (gI σ 1) ≤ (gI σ 2) then bnd (x2 + 1) (fun x2_3 => fX5_oneOf_5_L2 ke n x2_3 σ) else ald (gA σ 3) 96 (gI σ 2) (fun v_4 => ald (gA σ 4) 5 x2 (fun v_5 => (if v_4 = v_5 then bnd (sI σ 2 ((gI σ 2) + 1)) (fun σ_7 => some (x2, σ_7)) else bnd (x2 + 1) (fun x2_6 => fX5_oneOf_5_L2 ke n x2_6 σ)))))))
set_option maxHeartbeats 4000000 in
set_option maxRecDepth 100000 in
theorem wX5_oneOf_5_L2 {p : Program} {l : Launch} {e : Env} {s : State} {m : MethodId} {args : Array Value} {below : List Frame} {meth : Method} {c : Code} {E : EN} (C : zC E mW p s m args meth c cX5_oneOf 3 RX5 (some .int) wsL_law) {F : Int32 × ST} {ke : ST → Option (Int32 × ST)} (hke : ∀  (σ : ST) (H : Heap) (locs : List Loc) (ls : Array Slot), lv_has ls 3 [(0, .ref (ea E 0))] → va_P (eD E) vwCl (mW E σ) H → va_S (eA E) s.heap H locs → ke  σ = some F → zWi E mW p l e r_X5_oneOf s m args below meth c F H locs (F0 m 59 ls [])) : ∀ (n : Nat) (x2 : Int32) (σ : ST) (H : Heap) (locs : List Loc) (ls : Array Slot), lv_has ls 3 [(0, .ref (ea E 0)), (1, .ref (ea E 5)), (2, .int x2)] → va_P (eD E) vwCl (mW E σ) H → va_S (eA E) s.heap H locs → fX5_oneOf_5_L2 ke n x2 σ = some F → zWi E mW p l e r_X5_oneOf s m args below meth c F H locs (F0 m 2 ls []) := by
  obtain ⟨hx, hb, hml, hown, hts, hr, hlk, hK, hD⟩ := id C
  have hwX5 : ∀ w ∈ wsX50, w.before args s = true := fun w h => hts w (inlX5 w h)
  intro n
  induction n with
  | zero => intro x2 σ H locs ls hl hP hS hE; rw [fX5_oneOf_5_L2] at hE; cases hE
  | succ n ih =>
    intro x2 σ H locs ls hl hP hS hE
    rw [fX5_oneOf_5_L2] at hE
    refine lv_iload_n hx hb dX5_oneOf_2 rfl (lv_at hl 2 rfl) ?_
    refine lv_aload_n hx hb dX5_oneOf_3 rfl (lv_at hl 1 rfl) ?_
    refine mn_5 hx hb hK hP dX5_oneOf_4 ?_
    refine z_icmp_ge (tgt := 59) hx hb dX5_oneOf_5 (by decide) hE (fun hE => ?_) (fun hE => ?_)
    · exact hke  σ _ _ _ (lv_sub hl [0] rfl) hP hS hE
    refine lv_aload_n hx hb dX5_oneOf_8 rfl (lv_at hl 0 rfl) ?_
    refine mg_0_7 hx hb hown hwX5 (hts _ u_351) hK hP dX5_oneOf_9 ?_
    refine z_if_eq (tgt := 53) hx hb dX5_oneOf_12 (by decide) hE (fun hE => ?_) (fun hE => ?_)
    · refine z_iinc hx hb (v := (x2 + 1)) (k := 2) (fun x2_2 => [(2, .int x2_2), (0, .ref (ea E 0)), (1, .ref (ea E 5))]) dX5_oneOf_53 hl rfl (by rfl) (by decide) rfl hE (fun x2_2 ls hl hE => ?_)
      refine lv_goto (tgt := 2) hx hb dX5_oneOf_56 (by decide) ?_
      exact ih x2_2 σ _ _ _ (lv_sub hl [1, 2, 0] rfl) hP hS hE
    refine lv_aload_n hx hb dX5_oneOf_15 rfl (lv_at hl 0 rfl) ?_
    refine mg_0_6 hx hb hown hwX5 (hts _ u_350) hK hP dX5_oneOf_16 ?_
    refine lv_aload_n hx hb dX5_oneOf_19 rfl (lv_at hl 0 rfl) ?_
    refine mg_0_5 hx hb hown hwX5 (hts _ u_130) hK hP dX5_oneOf_20 ?_
    refine z_icmp_ge (tgt := 53) hx hb dX5_oneOf_23 (by decide) hE (fun hE => ?_) (fun hE => ?_)
    · refine z_iinc hx hb (v := (x2 + 1)) (k := 2) (fun x2_3 => [(2, .int x2_3), (0, .ref (ea E 0)), (1, .ref (ea E 5))]) dX5_oneOf_53 hl rfl (by rfl) (by decide) rfl hE (fun x2_3 ls hl hE => ?_)
      refine lv_goto (tgt := 2) hx hb dX5_oneOf_56 (by decide) ?_
      exact ih x2_3 σ _ _ _ (lv_sub hl [1, 2, 0] rfl) hP hS hE
    refine lv_aload_n hx hb dX5_oneOf_26 rfl (lv_at hl 0 rfl) ?_
    refine mg_0_4 hx hb hown hwX5 (hts _ u_99) hK hP dX5_oneOf_27 ?_
    refine lv_aload_n hx hb dX5_oneOf_30 rfl (lv_at hl 0 rfl) ?_
    refine mg_0_6 hx hb hown hwX5 (hts _ u_350) hK hP dX5_oneOf_31 ?_
    refine ma_4 hx hb hK hP dX5_oneOf_34 hE (fun v_4 hE => ?_)
    refine lv_aload_n hx hb dX5_oneOf_35 rfl (lv_at hl 1 rfl) ?_
    refine lv_iload_n hx hb dX5_oneOf_36 rfl (lv_at hl 2 rfl) ?_
    refine ma_5 hx hb hK hP dX5_oneOf_37 hE (fun v_5 hE => ?_)
    refine z_icmp_ne (tgt := 53) hx hb dX5_oneOf_38 (by decide) hE (fun hE => ?_) (fun hE => ?_)
    · refine z_iinc hx hb (v := (x2 + 1)) (k := 2) (fun x2_6 => [(2, .int x2_6), (0, .ref (ea E 0)), (1, .ref (ea E 5))]) dX5_oneOf_53 hl rfl (by rfl) (by decide) rfl hE (fun x2_6 ls hl hE => ?_)
      refine lv_goto (tgt := 2) hx hb dX5_oneOf_56 (by decide) ?_
      exact ih x2_6 σ _ _ _ (lv_sub hl [1, 2, 0] rfl) hP hS hE
    refine lv_aload_n hx hb dX5_oneOf_41 rfl (lv_at hl 0 rfl) ?_
    refine lv_dup hx hb dX5_oneOf_42 rfl ?_
    refine mg_0_6 hx hb hown hwX5 (hts _ u_350) hK hP dX5_oneOf_43 ?_
    refine lv_iconst (v := 1) hx hb dX5_oneOf_46 (by decide) ?_
    refine lv_iadd hx hb dX5_oneOf_47 ?_
    refine mp_0_6 hx hb hown hwX5 (hts _ u_350) hK hD hP hS dX5_oneOf_48 hE (fun σ_7 H locs hP hS hE => ?_)
    refine lv_iload_n hx hb dX5_oneOf_51 rfl (lv_at hl 2 rfl) ?_
    exact z_iret hx hb hr hlk hP hS dX5_oneOf_52 hE
def fX5_oneOf_5   (σ : ST) : Option (Int32 × ST) :=
  bnd (0 : Int32) (fun x2_1 => fX5_oneOf_5_L2 (fun σ_8 => bnd (sI σ_8 3 0) (fun σ_9 => some (0, σ_9))) FU x2_1 σ)
set_option maxHeartbeats 4000000 in
set_option maxRecDepth 100000 in
theorem wX5_oneOf_5 {p : Program} {l : Launch} {e : Env} {s : State} {m : MethodId} {args : Array Value} {below : List Frame} {meth : Method} {c : Code} {E : EN} (C : zC E mW p s m args meth c cX5_oneOf 3 RX5 (some .int) wsL_law) {F : Int32 × ST}    (σ : ST) (H : Heap) (locs : List Loc) (ls : Array Slot) (hl : lv_has ls 3 [(0, .ref (ea E 0)), (1, .ref (ea E 5))]) (hP : va_P (eD E) vwCl (mW E σ) H) (hS : va_S (eA E) s.heap H locs) (hE : fX5_oneOf_5   σ = some F) : zWi E mW p l e r_X5_oneOf s m args below meth c F H locs (F0 m 0 ls []) := by
  obtain ⟨hx, hb, hml, hown, hts, hr, hlk, hK, hD⟩ := id C
  have hwX5 : ∀ w ∈ wsX50, w.before args s = true := fun w h => hts w (inlX5 w h)
  unfold fX5_oneOf_5 at hE
  refine lv_iconst (v := 0) hx hb dX5_oneOf_0 (by decide) ?_
  refine z_istore_n hx hb (fun x2_1 => [(2, .int x2_1), (0, .ref (ea E 0)), (1, .ref (ea E 5))]) dX5_oneOf_1 rfl hl (by decide) rfl hE (fun x2_1 ls hl hE => ?_)
  refine wX5_oneOf_5_L2 C ?_ FU x2_1 σ _ _ _ (lv_sub hl [1, 2, 0] rfl) hP hS hE
  intro σ_8 H locs ls hl hP hS hE
  refine lv_aload_n hx hb dX5_oneOf_59 rfl (lv_at hl 0 rfl) ?_
  refine lv_iconst (v := 0) hx hb dX5_oneOf_60 (by decide) ?_
  refine mp_0_7 hx hb hown hwX5 (hts _ u_351) hK hD hP hS rfl dX5_oneOf_61 hE (fun σ_9 H locs hP hS hE => ?_)
  refine lv_iconst (v := 0) hx hb dX5_oneOf_64 (by decide) ?_
  exact z_iret hx hb hr hlk hP hS dX5_oneOf_65 hE
theorem kX5_oneOf_5 (l : Launch) (E : EN) (hD : ∀ σ, va_D (eA E) (mW E σ))  (σ : ST) (F : Int32 × ST) (hE : fX5_oneOf_5  σ = some F) : Met l yX5_oneOf wu_X5_oneOf r_X5_oneOf (zPc E mW [.ref (ea E 0), .ref (ea E 5)] σ) (zQi E mW F) 0 0 (eA E) := by
  refine Met.ofW (cc := cX5_oneOf) (maxL := 3) (ret := (some .int)) (by decide) rfl ?_
  intro p e s m args below meth c s₁ B hml hv
  obtain ⟨rfl, hP, hK⟩ := hv
  have hl := lv_entry ([.ref (ea E 0), .ref (ea E 5)]) (n := 3) (Nat.le_of_ble_eq_true rfl)
  rw [lg_entry_eq]
  generalize (lg_sl ([.ref (ea E 0), .ref (ea E 5)]) ++ List.replicate (3 - (lg_sl ([.ref (ea E 0), .ref (ea E 5)])).length) Slot.unset).toArray = ls at hl ⊢
  exact wX5_oneOf_5 ⟨B.exec, B.bytes, hml, findClass_of_methodNamed B.named, fun w h => atoms_spec (ws := wu_X5_oneOf) B.pre w (List.mem_cons_of_mem _ h), B.returns, B.notSynchronized, hK, hD⟩  σ s.heap [] ls hl hP va_S.rf hE
def fX5_oneOf_6_L2 (ke : ST → Option (Int32 × ST)) : Nat → Int32 → ST → Option (Int32 × ST)
  | 0, _, _ => none
  | n + 1, x2, σ => (if 6 ≤ x2 then ke  σ else (if (gI σ 3) = 0 then bnd (x2 + 1) (fun x2_2 => fX5_oneOf_6_L2 ke n x2_2 σ) else (if (gI σ 1) ≤ (gI σ 2) then bnd (x2 + 1) (fun x2_3 => fX5_oneOf_6_L2 ke n x2_3 σ) else ald (gA σ 3) 96 (gI σ 2) (fun v_4 => ald (gA σ 5) 6 x2 (fun v_5 => (if v_4 = v_5 then bnd (sI σ 2 ((gI σ 2) + 1)) (fun σ_7 => some (x2, σ_7)) else bnd (x2 + 1) (fun x2_6 => fX5_oneOf_6_L2 ke n x2_6 σ)))))))
set_option maxHeartbeats 4000000 in
set_option maxRecDepth 100000 in
theorem wX5_oneOf_6_L2 {p : Program} {l : Launch} {e : Env} {s : State} {m : MethodId} {args : Array Value} {below : List Frame} {meth : Method} {c : Code} {E : EN} (C : zC E mW p s m args meth c cX5_oneOf 3 RX5 (some .int) wsL_law) {F : Int32 × ST} {ke : ST → Option (Int32 × ST)} (hke : ∀  (σ : ST) (H : Heap) (locs : List Loc) (ls : Array Slot), lv_has ls 3 [(0, .ref (ea E 0))] → va_P (eD E) vwCl (mW E σ) H → va_S (eA E) s.heap H locs → ke  σ = some F → zWi E mW p l e r_X5_oneOf s m args below meth c F H locs (F0 m 59 ls [])) : ∀ (n : Nat) (x2 : Int32) (σ : ST) (H : Heap) (locs : List Loc) (ls : Array Slot), lv_has ls 3 [(0, .ref (ea E 0)), (1, .ref (ea E 6)), (2, .int x2)] → va_P (eD E) vwCl (mW E σ) H → va_S (eA E) s.heap H locs → fX5_oneOf_6_L2 ke n x2 σ = some F → zWi E mW p l e r_X5_oneOf s m args below meth c F H locs (F0 m 2 ls []) := by
  obtain ⟨hx, hb, hml, hown, hts, hr, hlk, hK, hD⟩ := id C
  have hwX5 : ∀ w ∈ wsX50, w.before args s = true := fun w h => hts w (inlX5 w h)
  intro n
  induction n with
  | zero => intro x2 σ H locs ls hl hP hS hE; rw [fX5_oneOf_6_L2] at hE; cases hE
  | succ n ih =>
    intro x2 σ H locs ls hl hP hS hE
    rw [fX5_oneOf_6_L2] at hE
    refine lv_iload_n hx hb dX5_oneOf_2 rfl (lv_at hl 2 rfl) ?_
    refine lv_aload_n hx hb dX5_oneOf_3 rfl (lv_at hl 1 rfl) ?_
    refine mn_6 hx hb hK hP dX5_oneOf_4 ?_
    refine z_icmp_ge (tgt := 59) hx hb dX5_oneOf_5 (by decide) hE (fun hE => ?_) (fun hE => ?_)
    · exact hke  σ _ _ _ (lv_sub hl [0] rfl) hP hS hE
    refine lv_aload_n hx hb dX5_oneOf_8 rfl (lv_at hl 0 rfl) ?_
    refine mg_0_7 hx hb hown hwX5 (hts _ u_351) hK hP dX5_oneOf_9 ?_
    refine z_if_eq (tgt := 53) hx hb dX5_oneOf_12 (by decide) hE (fun hE => ?_) (fun hE => ?_)
    · refine z_iinc hx hb (v := (x2 + 1)) (k := 2) (fun x2_2 => [(2, .int x2_2), (0, .ref (ea E 0)), (1, .ref (ea E 6))]) dX5_oneOf_53 hl rfl (by rfl) (by decide) rfl hE (fun x2_2 ls hl hE => ?_)
      refine lv_goto (tgt := 2) hx hb dX5_oneOf_56 (by decide) ?_
      exact ih x2_2 σ _ _ _ (lv_sub hl [1, 2, 0] rfl) hP hS hE
    refine lv_aload_n hx hb dX5_oneOf_15 rfl (lv_at hl 0 rfl) ?_
    refine mg_0_6 hx hb hown hwX5 (hts _ u_350) hK hP dX5_oneOf_16 ?_
    refine lv_aload_n hx hb dX5_oneOf_19 rfl (lv_at hl 0 rfl) ?_
    refine mg_0_5 hx hb hown hwX5 (hts _ u_130) hK hP dX5_oneOf_20 ?_
    refine z_icmp_ge (tgt := 53) hx hb dX5_oneOf_23 (by decide) hE (fun hE => ?_) (fun hE => ?_)
    · refine z_iinc hx hb (v := (x2 + 1)) (k := 2) (fun x2_3 => [(2, .int x2_3), (0, .ref (ea E 0)), (1, .ref (ea E 6))]) dX5_oneOf_53 hl rfl (by rfl) (by decide) rfl hE (fun x2_3 ls hl hE => ?_)
      refine lv_goto (tgt := 2) hx hb dX5_oneOf_56 (by decide) ?_
      exact ih x2_3 σ _ _ _ (lv_sub hl [1, 2, 0] rfl) hP hS hE
    refine lv_aload_n hx hb dX5_oneOf_26 rfl (lv_at hl 0 rfl) ?_
    refine mg_0_4 hx hb hown hwX5 (hts _ u_99) hK hP dX5_oneOf_27 ?_
    refine lv_aload_n hx hb dX5_oneOf_30 rfl (lv_at hl 0 rfl) ?_
    refine mg_0_6 hx hb hown hwX5 (hts _ u_350) hK hP dX5_oneOf_31 ?_
    refine ma_4 hx hb hK hP dX5_oneOf_34 hE (fun v_4 hE => ?_)
    refine lv_aload_n hx hb dX5_oneOf_35 rfl (lv_at hl 1 rfl) ?_
    refine lv_iload_n hx hb dX5_oneOf_36 rfl (lv_at hl 2 rfl) ?_
    refine ma_6 hx hb hK hP dX5_oneOf_37 hE (fun v_5 hE => ?_)
    refine z_icmp_ne (tgt := 53) hx hb dX5_oneOf_38 (by decide) hE (fun hE => ?_) (fun hE => ?_)
    · refine z_iinc hx hb (v := (x2 + 1)) (k := 2) (fun x2_6 => [(2, .int x2_6), (0, .ref (ea E 0)), (1, .ref (ea E 6))]) dX5_oneOf_53 hl rfl (by rfl) (by decide) rfl hE (fun x2_6 ls hl hE => ?_)
      refine lv_goto (tgt := 2) hx hb dX5_oneOf_56 (by decide) ?_
      exact ih x2_6 σ _ _ _ (lv_sub hl [1, 2, 0] rfl) hP hS hE
    refine lv_aload_n hx hb dX5_oneOf_41 rfl (lv_at hl 0 rfl) ?_
    refine lv_dup hx hb dX5_oneOf_42 rfl ?_
    refine mg_0_6 hx hb hown hwX5 (hts _ u_350) hK hP dX5_oneOf_43 ?_
    refine lv_iconst (v := 1) hx hb dX5_oneOf_46 (by decide) ?_
    refine lv_iadd hx hb dX5_oneOf_47 ?_
    refine mp_0_6 hx hb hown hwX5 (hts _ u_350) hK hD hP hS dX5_oneOf_48 hE (fun σ_7 H locs hP hS hE => ?_)
    refine lv_iload_n hx hb dX5_oneOf_51 rfl (lv_at hl 2 rfl) ?_
    exact z_iret hx hb hr hlk hP hS dX5_oneOf_52 hE
def fX5_oneOf_6   (σ : ST) : Option (Int32 × ST) :=
  bnd (0 : Int32) (fun x2_1 => fX5_oneOf_6_L2 (fun σ_8 => bnd (sI σ_8 3 0) (fun σ_9 => some (0, σ_9))) FU x2_1 σ)
set_option maxHeartbeats 4000000 in
set_option maxRecDepth 100000 in
theorem wX5_oneOf_6 {p : Program} {l : Launch} {e : Env} {s : State} {m : MethodId} {args : Array Value} {below : List Frame} {meth : Method} {c : Code} {E : EN} (C : zC E mW p s m args meth c cX5_oneOf 3 RX5 (some .int) wsL_law) {F : Int32 × ST}    (σ : ST) (H : Heap) (locs : List Loc) (ls : Array Slot) (hl : lv_has ls 3 [(0, .ref (ea E 0)), (1, .ref (ea E 6))]) (hP : va_P (eD E) vwCl (mW E σ) H) (hS : va_S (eA E) s.heap H locs) (hE : fX5_oneOf_6   σ = some F) : zWi E mW p l e r_X5_oneOf s m args below meth c F H locs (F0 m 0 ls []) := by
  obtain ⟨hx, hb, hml, hown, hts, hr, hlk, hK, hD⟩ := id C
  have hwX5 : ∀ w ∈ wsX50, w.before args s = true := fun w h => hts w (inlX5 w h)
  unfold fX5_oneOf_6 at hE
  refine lv_iconst (v := 0) hx hb dX5_oneOf_0 (by decide) ?_
  refine z_istore_n hx hb (fun x2_1 => [(2, .int x2_1), (0, .ref (ea E 0)), (1, .ref (ea E 6))]) dX5_oneOf_1 rfl hl (by decide) rfl hE (fun x2_1 ls hl hE => ?_)
  refine wX5_oneOf_6_L2 C ?_ FU x2_1 σ _ _ _ (lv_sub hl [1, 2, 0] rfl) hP hS hE
  intro σ_8 H locs ls hl hP hS hE
  refine lv_aload_n hx hb dX5_oneOf_59 rfl (lv_at hl 0 rfl) ?_
  refine lv_iconst (v := 0) hx hb dX5_oneOf_60 (by decide) ?_
  refine mp_0_7 hx hb hown hwX5 (hts _ u_351) hK hD hP hS rfl dX5_oneOf_61 hE (fun σ_9 H locs hP hS hE => ?_)
  refine lv_iconst (v := 0) hx hb dX5_oneOf_64 (by decide) ?_
  exact z_iret hx hb hr hlk hP hS dX5_oneOf_65 hE
theorem kX5_oneOf_6 (l : Launch) (E : EN) (hD : ∀ σ, va_D (eA E) (mW E σ))  (σ : ST) (F : Int32 × ST) (hE : fX5_oneOf_6  σ = some F) : Met l yX5_oneOf wu_X5_oneOf r_X5_oneOf (zPc E mW [.ref (ea E 0), .ref (ea E 6)] σ) (zQi E mW F) 0 0 (eA E) := by
  refine Met.ofW (cc := cX5_oneOf) (maxL := 3) (ret := (some .int)) (by decide) rfl ?_
  intro p e s m args below meth c s₁ B hml hv
  obtain ⟨rfl, hP, hK⟩ := hv
  have hl := lv_entry ([.ref (ea E 0), .ref (ea E 6)]) (n := 3) (Nat.le_of_ble_eq_true rfl)
  rw [lg_entry_eq]
  generalize (lg_sl ([.ref (ea E 0), .ref (ea E 6)]) ++ List.replicate (3 - (lg_sl ([.ref (ea E 0), .ref (ea E 6)])).length) Slot.unset).toArray = ls at hl ⊢
  exact wX5_oneOf_6 ⟨B.exec, B.bytes, hml, findClass_of_methodNamed B.named, fun w h => atoms_spec (ws := wu_X5_oneOf) B.pre w (List.mem_cons_of_mem _ h), B.returns, B.notSynchronized, hK, hD⟩  σ s.heap [] ls hl hP va_S.rf hE
def fX5_figures_L4 (ke : Int32 → ST → Option (Int32 × ST)) : Nat → Int32 → Int32 → Int32 → ST → Option (Int32 × ST)
  | 0, _, _, _, _ => none
  | n + 1, x1, x2, x3, σ => (if x1 ≤ x3 then ke x2 σ else (if (gI σ 3) = 0 then bnd (sI σ 3 0) (fun σ_3 => bnd (x3 + 1) (fun x3_4 => fX5_figures_L4 ke n x1 x2 x3_4 σ_3)) else (if (gI σ 1) ≤ (gI σ 2) then bnd (sI σ 3 0) (fun σ_5 => bnd (x3 + 1) (fun x3_6 => fX5_figures_L4 ke n x1 x2 x3_6 σ_5)) else ald (gA σ 3) 96 (gI σ 2) (fun v_7 => (if v_7 < 48 then bnd (sI σ 3 0) (fun σ_8 => bnd (x3 + 1) (fun x3_9 => fX5_figures_L4 ke n x1 x2 x3_9 σ_8)) else ald (gA σ 3) 96 (gI σ 2) (fun v_10 => (if 57 < v_10 then bnd (sI σ 3 0) (fun σ_11 => bnd (x3 + 1) (fun x3_12 => fX5_figures_L4 ke n x1 x2 x3_12 σ_11)) else ald (gA σ 3) 96 (gI σ 2) (fun v_13 => bnd ((((10 * x2) + v_13) - 48) : Int32) (fun x2_14 => bnd (sI σ 2 ((gI σ 2) + 1)) (fun σ_15 => bnd (x3 + 1) (fun x3_16 => fX5_figures_L4 ke n x1 x2_14 x3_16 σ_15)))))))))))
set_option maxHeartbeats 4000000 in
set_option maxRecDepth 100000 in
theorem wX5_figures_L4 {p : Program} {l : Launch} {e : Env} {s : State} {m : MethodId} {args : Array Value} {below : List Frame} {meth : Method} {c : Code} {E : EN} (C : zC E mW p s m args meth c cX5_figures 4 RX5 (some .int) wsL_law) {F : Int32 × ST} {ke : Int32 → ST → Option (Int32 × ST)} (hke : ∀ (x2 : Int32) (σ : ST) (H : Heap) (locs : List Loc) (ls : Array Slot), lv_has ls 4 [(2, .int x2)] → va_P (eD E) vwCl (mW E σ) H → va_S (eA E) s.heap H locs → ke x2 σ = some F → zWi E mW p l e r_X5_figures s m args below meth c F H locs (F0 m 97 ls [])) : ∀ (n : Nat) (x1 : Int32) (x2 : Int32) (x3 : Int32) (σ : ST) (H : Heap) (locs : List Loc) (ls : Array Slot), lv_has ls 4 [(0, .ref (ea E 0)), (1, .int x1), (2, .int x2), (3, .int x3)] → va_P (eD E) vwCl (mW E σ) H → va_S (eA E) s.heap H locs → fX5_figures_L4 ke n x1 x2 x3 σ = some F → zWi E mW p l e r_X5_figures s m args below meth c F H locs (F0 m 4 ls []) := by
  obtain ⟨hx, hb, hml, hown, hts, hr, hlk, hK, hD⟩ := id C
  have hwX5 : ∀ w ∈ wsX50, w.before args s = true := fun w h => hts w (inlX5 w h)
  intro n
  induction n with
  | zero => intro x1 x2 x3 σ H locs ls hl hP hS hE; rw [fX5_figures_L4] at hE; cases hE
  | succ n ih =>
    intro x1 x2 x3 σ H locs ls hl hP hS hE
    rw [fX5_figures_L4] at hE
    refine lv_iload_n hx hb dX5_figures_4 rfl (lv_at hl 3 rfl) ?_
    refine lv_iload_n hx hb dX5_figures_5 rfl (lv_at hl 1 rfl) ?_
    refine z_icmp_ge (tgt := 97) hx hb dX5_figures_6 (by decide) hE (fun hE => ?_) (fun hE => ?_)
    · exact hke x2 σ _ _ _ (lv_sub hl [2] rfl) hP hS hE
    refine lv_aload_n hx hb dX5_figures_9 rfl (lv_at hl 0 rfl) ?_
    refine mg_0_7 hx hb hown hwX5 (hts _ u_351) hK hP dX5_figures_10 ?_
    refine z_if_eq (tgt := 86) hx hb dX5_figures_13 (by decide) hE (fun hE => ?_) (fun hE => ?_)
    · refine lv_aload_n hx hb dX5_figures_86 rfl (lv_at hl 0 rfl) ?_
      refine lv_iconst (v := 0) hx hb dX5_figures_87 (by decide) ?_
      refine mp_0_7 hx hb hown hwX5 (hts _ u_351) hK hD hP hS rfl dX5_figures_88 hE (fun σ_3 H locs hP hS hE => ?_)
      refine z_iinc hx hb (v := (x3 + 1)) (k := 3) (fun x3_4 => [(3, .int x3_4), (0, .ref (ea E 0)), (1, .int x1), (2, .int x2)]) dX5_figures_91 hl rfl (by rfl) (by decide) rfl hE (fun x3_4 ls hl hE => ?_)
      refine lv_goto (tgt := 4) hx hb dX5_figures_94 (by decide) ?_
      exact ih x1 x2 x3_4 σ_3 _ _ _ (lv_sub hl [1, 2, 3, 0] rfl) hP hS hE
    refine lv_aload_n hx hb dX5_figures_16 rfl (lv_at hl 0 rfl) ?_
    refine mg_0_6 hx hb hown hwX5 (hts _ u_350) hK hP dX5_figures_17 ?_
    refine lv_aload_n hx hb dX5_figures_20 rfl (lv_at hl 0 rfl) ?_
    refine mg_0_5 hx hb hown hwX5 (hts _ u_130) hK hP dX5_figures_21 ?_
    refine z_icmp_ge (tgt := 86) hx hb dX5_figures_24 (by decide) hE (fun hE => ?_) (fun hE => ?_)
    · refine lv_aload_n hx hb dX5_figures_86 rfl (lv_at hl 0 rfl) ?_
      refine lv_iconst (v := 0) hx hb dX5_figures_87 (by decide) ?_
      refine mp_0_7 hx hb hown hwX5 (hts _ u_351) hK hD hP hS rfl dX5_figures_88 hE (fun σ_5 H locs hP hS hE => ?_)
      refine z_iinc hx hb (v := (x3 + 1)) (k := 3) (fun x3_6 => [(3, .int x3_6), (0, .ref (ea E 0)), (1, .int x1), (2, .int x2)]) dX5_figures_91 hl rfl (by rfl) (by decide) rfl hE (fun x3_6 ls hl hE => ?_)
      refine lv_goto (tgt := 4) hx hb dX5_figures_94 (by decide) ?_
      exact ih x1 x2 x3_6 σ_5 _ _ _ (lv_sub hl [1, 2, 3, 0] rfl) hP hS hE
    refine lv_aload_n hx hb dX5_figures_27 rfl (lv_at hl 0 rfl) ?_
    refine mg_0_4 hx hb hown hwX5 (hts _ u_99) hK hP dX5_figures_28 ?_
    refine lv_aload_n hx hb dX5_figures_31 rfl (lv_at hl 0 rfl) ?_
    refine mg_0_6 hx hb hown hwX5 (hts _ u_350) hK hP dX5_figures_32 ?_
    refine ma_4 hx hb hK hP dX5_figures_35 hE (fun v_7 hE => ?_)
    refine lv_bipush (v := 48) hx hb dX5_figures_36 (by decide) ?_
    refine z_icmp_lt (tgt := 86) hx hb dX5_figures_38 (by decide) hE (fun hE => ?_) (fun hE => ?_)
    · refine lv_aload_n hx hb dX5_figures_86 rfl (lv_at hl 0 rfl) ?_
      refine lv_iconst (v := 0) hx hb dX5_figures_87 (by decide) ?_
      refine mp_0_7 hx hb hown hwX5 (hts _ u_351) hK hD hP hS rfl dX5_figures_88 hE (fun σ_8 H locs hP hS hE => ?_)
      refine z_iinc hx hb (v := (x3 + 1)) (k := 3) (fun x3_9 => [(3, .int x3_9), (0, .ref (ea E 0)), (1, .int x1), (2, .int x2)]) dX5_figures_91 hl rfl (by rfl) (by decide) rfl hE (fun x3_9 ls hl hE => ?_)
      refine lv_goto (tgt := 4) hx hb dX5_figures_94 (by decide) ?_
      exact ih x1 x2 x3_9 σ_8 _ _ _ (lv_sub hl [1, 2, 3, 0] rfl) hP hS hE
    refine lv_aload_n hx hb dX5_figures_41 rfl (lv_at hl 0 rfl) ?_
    refine mg_0_4 hx hb hown hwX5 (hts _ u_99) hK hP dX5_figures_42 ?_
    refine lv_aload_n hx hb dX5_figures_45 rfl (lv_at hl 0 rfl) ?_
    refine mg_0_6 hx hb hown hwX5 (hts _ u_350) hK hP dX5_figures_46 ?_
    refine ma_4 hx hb hK hP dX5_figures_49 hE (fun v_10 hE => ?_)
    refine lv_bipush (v := 57) hx hb dX5_figures_50 (by decide) ?_
    refine z_icmp_gt (tgt := 86) hx hb dX5_figures_52 (by decide) hE (fun hE => ?_) (fun hE => ?_)
    · refine lv_aload_n hx hb dX5_figures_86 rfl (lv_at hl 0 rfl) ?_
      refine lv_iconst (v := 0) hx hb dX5_figures_87 (by decide) ?_
      refine mp_0_7 hx hb hown hwX5 (hts _ u_351) hK hD hP hS rfl dX5_figures_88 hE (fun σ_11 H locs hP hS hE => ?_)
      refine z_iinc hx hb (v := (x3 + 1)) (k := 3) (fun x3_12 => [(3, .int x3_12), (0, .ref (ea E 0)), (1, .int x1), (2, .int x2)]) dX5_figures_91 hl rfl (by rfl) (by decide) rfl hE (fun x3_12 ls hl hE => ?_)
      refine lv_goto (tgt := 4) hx hb dX5_figures_94 (by decide) ?_
      exact ih x1 x2 x3_12 σ_11 _ _ _ (lv_sub hl [1, 2, 3, 0] rfl) hP hS hE
    refine lv_bipush (v := 10) hx hb dX5_figures_55 (by decide) ?_
    refine lv_iload_n hx hb dX5_figures_57 rfl (lv_at hl 2 rfl) ?_
    refine lv_imul hx hb dX5_figures_58 ?_
    refine lv_aload_n hx hb dX5_figures_59 rfl (lv_at hl 0 rfl) ?_
    refine mg_0_4 hx hb hown hwX5 (hts _ u_99) hK hP dX5_figures_60 ?_
    refine lv_aload_n hx hb dX5_figures_63 rfl (lv_at hl 0 rfl) ?_
    refine mg_0_6 hx hb hown hwX5 (hts _ u_350) hK hP dX5_figures_64 ?_
    refine ma_4 hx hb hK hP dX5_figures_67 hE (fun v_13 hE => ?_)
    refine lv_iadd hx hb dX5_figures_68 ?_
    refine lv_bipush (v := 48) hx hb dX5_figures_69 (by decide) ?_
    refine lv_isub hx hb dX5_figures_71 ?_
    refine z_istore_n hx hb (fun x2_14 => [(2, .int x2_14), (0, .ref (ea E 0)), (1, .int x1), (3, .int x3)]) dX5_figures_72 rfl hl (by decide) rfl hE (fun x2_14 ls hl hE => ?_)
    refine lv_aload_n hx hb dX5_figures_73 rfl (lv_at hl 1 rfl) ?_
    refine lv_dup hx hb dX5_figures_74 rfl ?_
    refine mg_0_6 hx hb hown hwX5 (hts _ u_350) hK hP dX5_figures_75 ?_
    refine lv_iconst (v := 1) hx hb dX5_figures_78 (by decide) ?_
    refine lv_iadd hx hb dX5_figures_79 ?_
    refine mp_0_6 hx hb hown hwX5 (hts _ u_350) hK hD hP hS dX5_figures_80 hE (fun σ_15 H locs hP hS hE => ?_)
    refine lv_goto (tgt := 91) hx hb dX5_figures_83 (by decide) ?_
    refine z_iinc hx hb (v := (x3 + 1)) (k := 3) (fun x3_16 => [(3, .int x3_16), (2, .int x2_14), (0, .ref (ea E 0)), (1, .int x1)]) dX5_figures_91 hl rfl (by rfl) (by decide) rfl hE (fun x3_16 ls hl hE => ?_)
    refine lv_goto (tgt := 4) hx hb dX5_figures_94 (by decide) ?_
    exact ih x1 x2_14 x3_16 σ_15 _ _ _ (lv_sub hl [2, 3, 1, 0] rfl) hP hS hE
def fX5_figures  (x1 : Int32) (σ : ST) : Option (Int32 × ST) :=
  bnd (0 : Int32) (fun x2_1 => bnd (0 : Int32) (fun x3_2 => fX5_figures_L4 (fun x2_17 σ_18 => some (x2_17, σ_18)) FU x1 x2_1 x3_2 σ))
set_option maxHeartbeats 4000000 in
set_option maxRecDepth 100000 in
theorem wX5_figures {p : Program} {l : Launch} {e : Env} {s : State} {m : MethodId} {args : Array Value} {below : List Frame} {meth : Method} {c : Code} {E : EN} (C : zC E mW p s m args meth c cX5_figures 4 RX5 (some .int) wsL_law) {F : Int32 × ST}   (x1 : Int32) (σ : ST) (H : Heap) (locs : List Loc) (ls : Array Slot) (hl : lv_has ls 4 [(0, .ref (ea E 0)), (1, .int x1)]) (hP : va_P (eD E) vwCl (mW E σ) H) (hS : va_S (eA E) s.heap H locs) (hE : fX5_figures  x1 σ = some F) : zWi E mW p l e r_X5_figures s m args below meth c F H locs (F0 m 0 ls []) := by
  obtain ⟨hx, hb, hml, hown, hts, hr, hlk, hK, hD⟩ := id C
  unfold fX5_figures at hE
  refine lv_iconst (v := 0) hx hb dX5_figures_0 (by decide) ?_
  refine z_istore_n hx hb (fun x2_1 => [(2, .int x2_1), (0, .ref (ea E 0)), (1, .int x1)]) dX5_figures_1 rfl hl (by decide) rfl hE (fun x2_1 ls hl hE => ?_)
  refine lv_iconst (v := 0) hx hb dX5_figures_2 (by decide) ?_
  refine z_istore_n hx hb (fun x3_2 => [(3, .int x3_2), (2, .int x2_1), (0, .ref (ea E 0)), (1, .int x1)]) dX5_figures_3 rfl hl (by decide) rfl hE (fun x3_2 ls hl hE => ?_)
  refine wX5_figures_L4 C ?_ FU x1 x2_1 x3_2 σ _ _ _ (lv_sub hl [2, 3, 1, 0] rfl) hP hS hE
  intro x2_17 σ_18 H locs ls hl hP hS hE
  refine lv_iload_n hx hb dX5_figures_97 rfl (lv_at hl 0 rfl) ?_
  exact z_iret hx hb hr hlk hP hS dX5_figures_98 hE
theorem kX5_figures (l : Launch) (E : EN) (hD : ∀ σ, va_D (eA E) (mW E σ)) (x1 : Int32) (σ : ST) (F : Int32 × ST) (hE : fX5_figures x1 σ = some F) : Met l yX5_figures wu_X5_figures r_X5_figures (zPc E mW [.ref (ea E 0), .int x1] σ) (zQi E mW F) 0 0 (eA E) := by
  refine Met.ofW (cc := cX5_figures) (maxL := 4) (ret := (some .int)) (by decide) rfl ?_
  intro p e s m args below meth c s₁ B hml hv
  obtain ⟨rfl, hP, hK⟩ := hv
  have hl := lv_entry ([.ref (ea E 0), .int x1]) (n := 4) (Nat.le_of_ble_eq_true rfl)
  rw [lg_entry_eq]
  generalize (lg_sl ([.ref (ea E 0), .int x1]) ++ List.replicate (4 - (lg_sl ([.ref (ea E 0), .int x1])).length) Slot.unset).toArray = ls at hl ⊢
  exact wX5_figures ⟨B.exec, B.bytes, hml, findClass_of_methodNamed B.named, fun w h => atoms_spec (ws := wu_X5_figures) B.pre w (List.mem_cons_of_mem _ h), B.returns, B.notSynchronized, hK, hD⟩ x1 σ s.heap [] ls hl hP va_S.rf hE
