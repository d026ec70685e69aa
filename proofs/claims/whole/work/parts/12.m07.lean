def fX5_bestDriver_L25 (ke : Int32 → ST → Option (Int32 × ST)) : Nat → Int32 → Int64 → Int32 → ST → Option (Int32 × ST)
  | 0, _, _, _, _ => none
  | n + 1, x1, x2, x4, σ => (if 6 ≤ x4 then ke x1 σ else call (fX5_worthOfRow x4 σ) (fun r_9 σ_8 => bnd (r_9 : Int64) (fun x5_10 => (if (lg_cmp x5_10 x2) ≤ 0 then bnd (x1 : Int32) (fun x1_11 => bnd ((jmaxl x2 x5_10) : Int64) (fun x2_12 => bnd (x4 + 1) (fun x4_13 => fX5_bestDriver_L25 ke n x1_11 x2_12 x4_13 σ_8))) else bnd (x4 : Int32) (fun x1_14 => bnd ((jmaxl x2 x5_10) : Int64) (fun x2_15 => bnd (x4 + 1) (fun x4_16 => fX5_bestDriver_L25 ke n x1_14 x2_15 x4_16 σ_8)))))))
set_option maxHeartbeats 4000000 in
set_option maxRecDepth 100000 in
theorem wX5_bestDriver_L25 {p : Program} {l : Launch} {e : Env} {s : State} {m : MethodId} {args : Array Value} {below : List Frame} {meth : Method} {c : Code} {E : EN} (C : zC E mW p s m args meth c cX5_bestDriver 7 RX5 (some .int) wsL_law) {F : Int32 × ST} {ke : Int32 → ST → Option (Int32 × ST)} (hke : ∀ (x1 : Int32) (σ : ST) (H : Heap) (locs : List Loc) (ls : Array Slot), lv_has ls 7 [(1, .int x1)] → va_P (eD E) vwCl (mW E σ) H → va_S (eA E) s.heap H locs → ke x1 σ = some F → zWi E mW p l e r_X5_bestDriver s m args below meth c F H locs (F0 m 67 ls [])) : ∀ (n : Nat) (x1 : Int32) (x2 : Int64) (x4 : Int32) (σ : ST) (H : Heap) (locs : List Loc) (ls : Array Slot), lv_has ls 7 [(0, .ref (ea E 0)), (1, .int x1), (2, .long x2), (4, .int x4)] → va_P (eD E) vwCl (mW E σ) H → va_S (eA E) s.heap H locs → fX5_bestDriver_L25 ke n x1 x2 x4 σ = some F → zWi E mW p l e r_X5_bestDriver s m args below meth c F H locs (F0 m 25 ls []) := by
  obtain ⟨hx, hb, hml, hown, hts, hr, hlk, hK, hD⟩ := id C
  intro n
  induction n with
  | zero => intro x1 x2 x4 σ H locs ls hl hP hS hE; rw [fX5_bestDriver_L25] at hE; cases hE
  | succ n ih =>
    intro x1 x2 x4 σ H locs ls hl hP hS hE
    rw [fX5_bestDriver_L25] at hE
    refine lv_iload hx hb dX5_bestDriver_25 (lv_at hl 3 rfl) ?_
    refine lv_bipush (v := 6) hx hb dX5_bestDriver_27 (by decide) ?_
    refine z_icmp_ge (tgt := 67) hx hb dX5_bestDriver_29 (by decide) hE (fun hE => ?_) (fun hE => ?_)
    · exact hke x1 σ _ _ _ (lv_sub hl [1] rfl) hP hS hE
    refine lv_aload_n hx hb dX5_bestDriver_32 rfl (lv_at hl 0 rfl) ?_
    refine lv_iload hx hb dX5_bestDriver_33 (lv_at hl 3 rfl) ?_
    refine z_gol (wf := mW) hS hE (fun F1 h1 => (va_runV (As := [.int x4]) (rest := []) ⟨hx, hb, hml, hown, hts⟩ (kX5_worthOfRow l E hD x4 σ F1 h1) (cwV 1 hts (gU_V u_780 u_781 u_782 u_5 u_783) rfl rfl rfl q_X5_worthOfRow ⟨Nat.le_of_ble_eq_true rfl, Nat.le_of_ble_eq_true rfl⟩) (z_preV hK hP hS (ci := 5) (q0 := 0) rfl rfl rfl) rfl rfl hl.1 rfl (lv_room (Nat.le_of_ble_eq_true rfl)) dX5_bestDriver_35 ⟨Nat.le_of_ble_eq_true rfl, Nat.le_of_ble_eq_true rfl⟩)) (fun r_9 σ_8 H locs hP hS hE => ?_)
    refine z_lstore hx hb (fun x5_10 => [(5, .long x5_10), (0, .ref (ea E 0)), (1, .int x1), (2, .long x2), (4, .int x4)]) dX5_bestDriver_38 hl (by decide) rfl hE (fun x5_10 ls hl hE => ?_)
    refine lv_lload hx hb dX5_bestDriver_40 (lv_at hl 0 rfl) ?_
    refine lv_lload_n hx hb dX5_bestDriver_42 rfl (lv_at hl 3 rfl) ?_
    refine W.lcmp hx hb dX5_bestDriver_43 ?_
    refine z_if_le (tgt := 52) hx hb dX5_bestDriver_44 (by decide) hE (fun hE => ?_) (fun hE => ?_)
    · refine lv_iload_n hx hb dX5_bestDriver_52 rfl (lv_at hl 2 rfl) ?_
      refine z_istore_n hx hb (fun x1_11 => [(1, .int x1_11), (5, .long x5_10), (0, .ref (ea E 0)), (2, .long x2), (4, .int x4)]) dX5_bestDriver_53 rfl hl (by decide) rfl hE (fun x1_11 ls hl hE => ?_)
      refine lv_lload_n hx hb dX5_bestDriver_54 rfl (lv_at hl 3 rfl) ?_
      refine lv_lload hx hb dX5_bestDriver_55 (lv_at hl 1 rfl) ?_
      refine va_mmax_long hx hb (hml.trans hl.1.symm) hown (hts _ u_777) (hts _ u_778) (hts _ u_220) (hts _ u_779) (Nat.le_of_ble_eq_true rfl) (Nat.le_of_ble_eq_true rfl) (Nat.zero_le _) (Nat.zero_le _) dX5_bestDriver_57 ?_
      refine W.eq (g2 := F0 m 60 ls [.long (jmaxl x2 x5_10)]) rfl ?_
      refine z_lstore_n hx hb (fun x2_12 => [(2, .long x2_12), (1, .int x1_11), (5, .long x5_10), (0, .ref (ea E 0)), (4, .int x4)]) dX5_bestDriver_60 rfl hl (by decide) rfl hE (fun x2_12 ls hl hE => ?_)
      refine z_iinc hx hb (v := (x4 + 1)) (k := 4) (fun x4_13 => [(4, .int x4_13), (2, .long x2_12), (1, .int x1_11), (5, .long x5_10), (0, .ref (ea E 0))]) dX5_bestDriver_61 hl rfl (by rfl) (by decide) rfl hE (fun x4_13 ls hl hE => ?_)
      refine lv_goto (tgt := 25) hx hb dX5_bestDriver_64 (by decide) ?_
      exact ih x1_11 x2_12 x4_13 σ_8 _ _ _ (lv_sub hl [4, 2, 1, 0] rfl) hP hS hE
    refine lv_iload hx hb dX5_bestDriver_47 (lv_at hl 4 rfl) ?_
    refine lv_goto (tgt := 53) hx hb dX5_bestDriver_49 (by decide) ?_
    refine z_istore_n hx hb (fun x1_14 => [(1, .int x1_14), (5, .long x5_10), (0, .ref (ea E 0)), (2, .long x2), (4, .int x4)]) dX5_bestDriver_53 rfl hl (by decide) rfl hE (fun x1_14 ls hl hE => ?_)
    refine lv_lload_n hx hb dX5_bestDriver_54 rfl (lv_at hl 3 rfl) ?_
    refine lv_lload hx hb dX5_bestDriver_55 (lv_at hl 1 rfl) ?_
    refine va_mmax_long hx hb (hml.trans hl.1.symm) hown (hts _ u_777) (hts _ u_778) (hts _ u_220) (hts _ u_779) (Nat.le_of_ble_eq_true rfl) (Nat.le_of_ble_eq_true rfl) (Nat.zero_le _) (Nat.zero_le _) dX5_bestDriver_57 ?_
    refine W.eq (g2 := F0 m 60 ls [.long (jmaxl x2 x5_10)]) rfl ?_
    refine z_lstore_n hx hb (fun x2_15 => [(2, .long x2_15), (1, .int x1_14), (5, .long x5_10), (0, .ref (ea E 0)), (4, .int x4)]) dX5_bestDriver_60 rfl hl (by decide) rfl hE (fun x2_15 ls hl hE => ?_)
    refine z_iinc hx hb (v := (x4 + 1)) (k := 4) (fun x4_16 => [(4, .int x4_16), (2, .long x2_15), (1, .int x1_14), (5, .long x5_10), (0, .ref (ea E 0))]) dX5_bestDriver_61 hl rfl (by rfl) (by decide) rfl hE (fun x4_16 ls hl hE => ?_)
    refine lv_goto (tgt := 25) hx hb dX5_bestDriver_64 (by decide) ?_
    exact ih x1_14 x2_15 x4_16 σ_8 _ _ _ (lv_sub hl [4, 2, 1, 0] rfl) hP hS hE
def fX5_bestDriver   (σ : ST) : Option (Int32 × ST) :=
  cali (fX5_isNoTown σ) (fun r_2 σ_1 => (if r_2 = 0 then bnd (0 : Int32) (fun x1_3 => call (fX5_worthOfRow 0 σ_1) (fun r_5 σ_4 => bnd (r_5 : Int64) (fun x2_6 => bnd (1 : Int32) (fun x4_7 => fX5_bestDriver_L25 (fun x1_17 σ_18 => some (x1_17, σ_18)) FU x1_3 x2_6 x4_7 σ_4)))) else cali (fX5_no (-3) σ_1) (fun r_20 σ_19 => some (r_20, σ_19))))
set_option maxHeartbeats 4000000 in
set_option maxRecDepth 100000 in
theorem wX5_bestDriver {p : Program} {l : Launch} {e : Env} {s : State} {m : MethodId} {args : Array Value} {below : List Frame} {meth : Method} {c : Code} {E : EN} (C : zC E mW p s m args meth c cX5_bestDriver 7 RX5 (some .int) wsL_law) {F : Int32 × ST}    (σ : ST) (H : Heap) (locs : List Loc) (ls : Array Slot) (hl : lv_has ls 7 [(0, .ref (ea E 0))]) (hP : va_P (eD E) vwCl (mW E σ) H) (hS : va_S (eA E) s.heap H locs) (hE : fX5_bestDriver   σ = some F) : zWi E mW p l e r_X5_bestDriver s m args below meth c F H locs (F0 m 0 ls []) := by
  obtain ⟨hx, hb, hml, hown, hts, hr, hlk, hK, hD⟩ := id C
  unfold fX5_bestDriver at hE
  refine lv_aload_n hx hb dX5_bestDriver_0 rfl (lv_at hl 0 rfl) ?_
  refine z_goi (wf := mW) hS hE (fun F1 h1 => (va_runV (As := []) (rest := []) ⟨hx, hb, hml, hown, hts⟩ (kX5_isNoTown l E hD  σ F1 h1) (cwV 0 hts (gU_V u_588 u_589 u_590 u_5 u_591) rfl rfl rfl q_X5_isNoTown ⟨Nat.le_of_ble_eq_true rfl, Nat.le_of_ble_eq_true rfl⟩) (z_preV hK hP hS (ci := 5) (q0 := 0) rfl rfl rfl) rfl rfl hl.1 rfl (lv_room (Nat.le_of_ble_eq_true rfl)) dX5_bestDriver_1 ⟨Nat.le_of_ble_eq_true rfl, Nat.le_of_ble_eq_true rfl⟩)) (fun r_2 σ_1 H locs hP hS hE => ?_)
  refine z_if_eq (tgt := 14) hx hb dX5_bestDriver_4 (by decide) hE (fun hE => ?_) (fun hE => ?_)
  · refine lv_iconst (v := 0) hx hb dX5_bestDriver_14 (by decide) ?_
    refine z_istore_n hx hb (fun x1_3 => [(1, .int x1_3), (0, .ref (ea E 0))]) dX5_bestDriver_15 rfl hl (by decide) rfl hE (fun x1_3 ls hl hE => ?_)
    refine lv_aload_n hx hb dX5_bestDriver_16 rfl (lv_at hl 1 rfl) ?_
    refine lv_iconst (v := 0) hx hb dX5_bestDriver_17 (by decide) ?_
    refine z_gol (wf := mW) hS hE (fun F1 h1 => (va_runV (As := [.int 0]) (rest := []) ⟨hx, hb, hml, hown, hts⟩ (kX5_worthOfRow l E hD 0 σ_1 F1 h1) (cwV 1 hts (gU_V u_780 u_781 u_782 u_5 u_783) rfl rfl rfl q_X5_worthOfRow ⟨Nat.le_of_ble_eq_true rfl, Nat.le_of_ble_eq_true rfl⟩) (z_preV hK hP hS (ci := 5) (q0 := 0) rfl rfl rfl) rfl rfl hl.1 rfl (lv_room (Nat.le_of_ble_eq_true rfl)) dX5_bestDriver_18 ⟨Nat.le_of_ble_eq_true rfl, Nat.le_of_ble_eq_true rfl⟩)) (fun r_5 σ_4 H locs hP hS hE => ?_)
    refine z_lstore_n hx hb (fun x2_6 => [(2, .long x2_6), (1, .int x1_3), (0, .ref (ea E 0))]) dX5_bestDriver_21 rfl hl (by decide) rfl hE (fun x2_6 ls hl hE => ?_)
    refine lv_iconst (v := 1) hx hb dX5_bestDriver_22 (by decide) ?_
    refine z_istore hx hb (fun x4_7 => [(4, .int x4_7), (2, .long x2_6), (1, .int x1_3), (0, .ref (ea E 0))]) dX5_bestDriver_23 hl (by decide) rfl hE (fun x4_7 ls hl hE => ?_)
    refine wX5_bestDriver_L25 C ?_ FU x1_3 x2_6 x4_7 σ_4 _ _ _ (lv_sub hl [3, 2, 1, 0] rfl) hP hS hE
    intro x1_17 σ_18 H locs ls hl hP hS hE
    refine lv_iload_n hx hb dX5_bestDriver_67 rfl (lv_at hl 0 rfl) ?_
    exact z_iret hx hb hr hlk hP hS dX5_bestDriver_68 hE
  refine lv_aload_n hx hb dX5_bestDriver_7 rfl (lv_at hl 0 rfl) ?_
  refine lv_bipush (v := -3) hx hb dX5_bestDriver_8 (by decide) ?_
  refine z_goi (wf := mW) hS hE (fun F1 h1 => (va_runV (As := [.int (-3)]) (rest := []) ⟨hx, hb, hml, hown, hts⟩ (kX5_no l E hD (-3) σ_1 F1 h1) (cwV 1 hts (gU_V u_131 u_132 u_133 u_5 u_134) rfl rfl rfl q_X5_no ⟨Nat.le_of_ble_eq_true rfl, Nat.le_of_ble_eq_true rfl⟩) (z_preV hK hP hS (ci := 5) (q0 := 0) rfl rfl rfl) rfl rfl hl.1 rfl (lv_room (Nat.le_of_ble_eq_true rfl)) dX5_bestDriver_10 ⟨Nat.le_of_ble_eq_true rfl, Nat.le_of_ble_eq_true rfl⟩)) (fun r_20 σ_19 H locs hP hS hE => ?_)
  exact z_iret hx hb hr hlk hP hS dX5_bestDriver_13 hE
theorem kX5_bestDriver (l : Launch) (E : EN) (hD : ∀ σ, va_D (eA E) (mW E σ))  (σ : ST) (F : Int32 × ST) (hE : fX5_bestDriver  σ = some F) : Met l yX5_bestDriver wu_X5_bestDriver r_X5_bestDriver (zPc E mW [.ref (ea E 0)] σ) (zQi E mW F) 0 0 (eA E) := by
  refine Met.ofW (cc := cX5_bestDriver) (maxL := 7) (ret := (some .int)) (by decide) rfl ?_
  intro p e s m args below meth c s₁ B hml hv
  obtain ⟨rfl, hP, hK⟩ := hv
  have hl := lv_entry ([.ref (ea E 0)]) (n := 7) (Nat.le_of_ble_eq_true rfl)
  rw [lg_entry_eq]
  generalize (lg_sl ([.ref (ea E 0)]) ++ List.replicate (7 - (lg_sl ([.ref (ea E 0)])).length) Slot.unset).toArray = ls at hl ⊢
  exact wX5_bestDriver ⟨B.exec, B.bytes, hml, findClass_of_methodNamed B.named, fun w h => atoms_spec (ws := wu_X5_bestDriver) B.pre w (List.mem_cons_of_mem _ h), B.returns, B.notSynchronized, hK, hD⟩  σ s.heap [] ls hl hP va_S.rf hE
def fX5_leftOut_L31 (ke : Int32 → ST → Option (Int32 × ST)) : Nat → Int32 → Int64 → Int32 → ST → Option (Int32 × ST)
  | 0, _, _, _, _ => none
  | n + 1, x1, x2, x4, σ => (if (gI σ 17) ≤ x4 then ke x1 σ else ald (gA σ 13) 10 x4 (fun v_9 => ald (gA σ 1) 200 2 (fun v_10 => (if v_10 ≤ v_9 then bnd (x4 + 1) (fun x4_11 => fX5_leftOut_L31 ke n x1 x2 x4_11 σ) else ald (gA σ 13) 10 x4 (fun v_12 => calv (fX5_byRow v_12 σ) (fun σ_13 => ald (gA σ_13 1) 200 5 (fun v_14 => calv (fX5_go v_14 σ_13) (fun σ_15 => (if (lg_cmp (gL σ_15 1) x2) ≤ 0 then bnd (x1 : Int32) (fun x1_16 => bnd ((jmaxl x2 (gL σ_15 1)) : Int64) (fun x2_17 => bnd (x4 + 1) (fun x4_18 => fX5_leftOut_L31 ke n x1_16 x2_17 x4_18 σ_15))) else ald (gA σ_15 13) 10 x4 (fun v_19 => bnd (v_19 : Int32) (fun x1_20 => bnd ((jmaxl x2 (gL σ_15 1)) : Int64) (fun x2_21 => bnd (x4 + 1) (fun x4_22 => fX5_leftOut_L31 ke n x1_20 x2_21 x4_22 σ_15)))))))))))))
set_option maxHeartbeats 4000000 in
set_option maxRecDepth 100000 in
theorem wX5_leftOut_L31 {p : Program} {l : Launch} {e : Env} {s : State} {m : MethodId} {args : Array Value} {below : List Frame} {meth : Method} {c : Code} {E : EN} (C : zC E mW p s m args meth c cX5_leftOut 5 RX5 (some .int) wsL_law) {F : Int32 × ST} {ke : Int32 → ST → Option (Int32 × ST)} (hke : ∀ (x1 : Int32) (σ : ST) (H : Heap) (locs : List Loc) (ls : Array Slot), lv_has ls 5 [(1, .int x1)] → va_P (eD E) vwCl (mW E σ) H → va_S (eA E) s.heap H locs → ke x1 σ = some F → zWi E mW p l e r_X5_leftOut s m args below meth c F H locs (F0 m 113 ls [])) : ∀ (n : Nat) (x1 : Int32) (x2 : Int64) (x4 : Int32) (σ : ST) (H : Heap) (locs : List Loc) (ls : Array Slot), lv_has ls 5 [(0, .ref (ea E 0)), (1, .int x1), (2, .long x2), (4, .int x4)] → va_P (eD E) vwCl (mW E σ) H → va_S (eA E) s.heap H locs → fX5_leftOut_L31 ke n x1 x2 x4 σ = some F → zWi E mW p l e r_X5_leftOut s m args below meth c F H locs (F0 m 31 ls []) := by
  obtain ⟨hx, hb, hml, hown, hts, hr, hlk, hK, hD⟩ := id C
  have hwX5 : ∀ w ∈ wsX50, w.before args s = true := fun w h => hts w (inlX5 w h)
  intro n
  induction n with
  | zero => intro x1 x2 x4 σ H locs ls hl hP hS hE; rw [fX5_leftOut_L31] at hE; cases hE
  | succ n ih =>
    intro x1 x2 x4 σ H locs ls hl hP hS hE
    rw [fX5_leftOut_L31] at hE
    refine lv_iload hx hb dX5_leftOut_31 (lv_at hl 3 rfl) ?_
    refine lv_aload_n hx hb dX5_leftOut_33 rfl (lv_at hl 0 rfl) ?_
    refine mg_0_33 hx hb hown hwX5 (hts _ u_601) hK hP dX5_leftOut_34 ?_
    refine z_icmp_ge (tgt := 113) hx hb dX5_leftOut_37 (by decide) hE (fun hE => ?_) (fun hE => ?_)
    · exact hke x1 σ _ _ _ (lv_sub hl [1] rfl) hP hS hE
    refine lv_aload_n hx hb dX5_leftOut_40 rfl (lv_at hl 0 rfl) ?_
    refine mg_0_32 hx hb hown hwX5 (hts _ u_111) hK hP dX5_leftOut_41 ?_
    refine lv_iload hx hb dX5_leftOut_44 (lv_at hl 3 rfl) ?_
    refine ma_14 hx hb hK hP dX5_leftOut_46 hE (fun v_9 hE => ?_)
    refine lv_aload_n hx hb dX5_leftOut_47 rfl (lv_at hl 0 rfl) ?_
    refine mg_0_1 hx hb hown hwX5 (hts _ u_97) hK hP dX5_leftOut_48 ?_
    refine lv_iconst (v := 2) hx hb dX5_leftOut_51 (by decide) ?_
    refine ma_2 hx hb hK hP dX5_leftOut_52 hE (fun v_10 hE => ?_)
    refine z_icmp_ge (tgt := 107) hx hb dX5_leftOut_53 (by decide) hE (fun hE => ?_) (fun hE => ?_)
    · refine z_iinc hx hb (v := (x4 + 1)) (k := 3) (fun x4_11 => [(4, .int x4_11), (0, .ref (ea E 0)), (1, .int x1), (2, .long x2)]) dX5_leftOut_107 hl rfl (by rfl) (by decide) rfl hE (fun x4_11 ls hl hE => ?_)
      refine lv_goto (tgt := 31) hx hb dX5_leftOut_110 (by decide) ?_
      exact ih x1 x2 x4_11 σ _ _ _ (lv_sub hl [1, 2, 3, 0] rfl) hP hS hE
    refine lv_aload_n hx hb dX5_leftOut_56 rfl (lv_at hl 0 rfl) ?_
    refine lv_aload_n hx hb dX5_leftOut_57 rfl (lv_at hl 0 rfl) ?_
    refine mg_0_32 hx hb hown hwX5 (hts _ u_111) hK hP dX5_leftOut_58 ?_
    refine lv_iload hx hb dX5_leftOut_61 (lv_at hl 3 rfl) ?_
    refine ma_14 hx hb hK hP dX5_leftOut_63 hE (fun v_12 hE => ?_)
    refine z_gov (wf := mW) hS hE (fun F1 h1 => (va_runV (As := [.int v_12]) (rest := []) ⟨hx, hb, hml, hown, hts⟩ (kX5_byRow l E hD v_12 σ F1 h1) (cwV 1 hts (gU_V u_596 u_597 u_598 u_5 u_599) rfl rfl rfl q_X5_byRow ⟨Nat.le_of_ble_eq_true rfl, Nat.le_of_ble_eq_true rfl⟩) (z_preV hK hP hS (ci := 5) (q0 := 0) rfl rfl rfl) rfl rfl hl.1 rfl (lv_room (Nat.le_of_ble_eq_true rfl)) dX5_leftOut_64 ⟨Nat.le_of_ble_eq_true rfl, Nat.le_of_ble_eq_true rfl⟩)) (fun σ_13 H locs hP hS hE => ?_)
    refine lv_aload_n hx hb dX5_leftOut_67 rfl (lv_at hl 0 rfl) ?_
    refine lv_aload_n hx hb dX5_leftOut_68 rfl (lv_at hl 0 rfl) ?_
    refine mg_0_1 hx hb hown hwX5 (hts _ u_97) hK hP dX5_leftOut_69 ?_
    refine lv_iconst (v := 5) hx hb dX5_leftOut_72 (by decide) ?_
    refine ma_2 hx hb hK hP dX5_leftOut_73 hE (fun v_14 hE => ?_)
    refine z_gov (wf := mW) hS hE (fun F1 h1 => (va_runV (As := [.int v_14]) (rest := []) ⟨hx, hb, hml, hown, hts⟩ (kX5_go l E hD v_14 σ_13 F1 h1) (cwV 1 hts (gU_V u_602 u_603 u_604 u_5 u_605) rfl rfl rfl q_X5_go ⟨Nat.le_of_ble_eq_true rfl, Nat.le_of_ble_eq_true rfl⟩) (z_preV hK hP hS (ci := 5) (q0 := 0) rfl rfl rfl) rfl rfl hl.1 rfl (lv_room (Nat.le_of_ble_eq_true rfl)) dX5_leftOut_74 ⟨Nat.le_of_ble_eq_true rfl, Nat.le_of_ble_eq_true rfl⟩)) (fun σ_15 H locs hP hS hE => ?_)
    refine lv_aload_n hx hb dX5_leftOut_77 rfl (lv_at hl 0 rfl) ?_
    refine mg_0_28 hx hb hown hwX5 (hts _ u_610) hK hP dX5_leftOut_78 ?_
    refine lv_lload_n hx hb dX5_leftOut_81 rfl (lv_at hl 2 rfl) ?_
    refine W.lcmp hx hb dX5_leftOut_82 ?_
    refine z_if_le (tgt := 96) hx hb dX5_leftOut_83 (by decide) hE (fun hE => ?_) (fun hE => ?_)
    · refine lv_iload_n hx hb dX5_leftOut_96 rfl (lv_at hl 1 rfl) ?_
      refine z_istore_n hx hb (fun x1_16 => [(1, .int x1_16), (0, .ref (ea E 0)), (2, .long x2), (4, .int x4)]) dX5_leftOut_97 rfl hl (by decide) rfl hE (fun x1_16 ls hl hE => ?_)
      refine lv_lload_n hx hb dX5_leftOut_98 rfl (lv_at hl 2 rfl) ?_
      refine lv_aload_n hx hb dX5_leftOut_99 rfl (lv_at hl 1 rfl) ?_
      refine mg_0_28 hx hb hown hwX5 (hts _ u_610) hK hP dX5_leftOut_100 ?_
      refine va_mmax_long hx hb (hml.trans hl.1.symm) hown (hts _ u_777) (hts _ u_778) (hts _ u_220) (hts _ u_779) (Nat.le_of_ble_eq_true rfl) (Nat.le_of_ble_eq_true rfl) (Nat.zero_le _) (Nat.zero_le _) dX5_leftOut_103 ?_
      refine W.eq (g2 := F0 m 106 ls [.long (jmaxl x2 (gL σ_15 1))]) rfl ?_
      refine z_lstore_n hx hb (fun x2_17 => [(2, .long x2_17), (1, .int x1_16), (0, .ref (ea E 0)), (4, .int x4)]) dX5_leftOut_106 rfl hl (by decide) rfl hE (fun x2_17 ls hl hE => ?_)
      refine z_iinc hx hb (v := (x4 + 1)) (k := 3) (fun x4_18 => [(4, .int x4_18), (2, .long x2_17), (1, .int x1_16), (0, .ref (ea E 0))]) dX5_leftOut_107 hl rfl (by rfl) (by decide) rfl hE (fun x4_18 ls hl hE => ?_)
      refine lv_goto (tgt := 31) hx hb dX5_leftOut_110 (by decide) ?_
      exact ih x1_16 x2_17 x4_18 σ_15 _ _ _ (lv_sub hl [3, 2, 1, 0] rfl) hP hS hE
    refine lv_aload_n hx hb dX5_leftOut_86 rfl (lv_at hl 0 rfl) ?_
    refine mg_0_32 hx hb hown hwX5 (hts _ u_111) hK hP dX5_leftOut_87 ?_
    refine lv_iload hx hb dX5_leftOut_90 (lv_at hl 3 rfl) ?_
    refine ma_14 hx hb hK hP dX5_leftOut_92 hE (fun v_19 hE => ?_)
    refine lv_goto (tgt := 97) hx hb dX5_leftOut_93 (by decide) ?_
    refine z_istore_n hx hb (fun x1_20 => [(1, .int x1_20), (0, .ref (ea E 0)), (2, .long x2), (4, .int x4)]) dX5_leftOut_97 rfl hl (by decide) rfl hE (fun x1_20 ls hl hE => ?_)
    refine lv_lload_n hx hb dX5_leftOut_98 rfl (lv_at hl 2 rfl) ?_
    refine lv_aload_n hx hb dX5_leftOut_99 rfl (lv_at hl 1 rfl) ?_
    refine mg_0_28 hx hb hown hwX5 (hts _ u_610) hK hP dX5_leftOut_100 ?_
    refine va_mmax_long hx hb (hml.trans hl.1.symm) hown (hts _ u_777) (hts _ u_778) (hts _ u_220) (hts _ u_779) (Nat.le_of_ble_eq_true rfl) (Nat.le_of_ble_eq_true rfl) (Nat.zero_le _) (Nat.zero_le _) dX5_leftOut_103 ?_
    refine W.eq (g2 := F0 m 106 ls [.long (jmaxl x2 (gL σ_15 1))]) rfl ?_
    refine z_lstore_n hx hb (fun x2_21 => [(2, .long x2_21), (1, .int x1_20), (0, .ref (ea E 0)), (4, .int x4)]) dX5_leftOut_106 rfl hl (by decide) rfl hE (fun x2_21 ls hl hE => ?_)
    refine z_iinc hx hb (v := (x4 + 1)) (k := 3) (fun x4_22 => [(4, .int x4_22), (2, .long x2_21), (1, .int x1_20), (0, .ref (ea E 0))]) dX5_leftOut_107 hl rfl (by rfl) (by decide) rfl hE (fun x4_22 ls hl hE => ?_)
    refine lv_goto (tgt := 31) hx hb dX5_leftOut_110 (by decide) ?_
    exact ih x1_20 x2_21 x4_22 σ_15 _ _ _ (lv_sub hl [3, 2, 1, 0] rfl) hP hS hE
def fX5_leftOut   (σ : ST) : Option (Int32 × ST) :=
  cali (fX5_isNoTown σ) (fun r_2 σ_1 => (if r_2 = 0 then bnd ((-9) : Int32) (fun x1_3 => ald (gA σ_1 1) 200 5 (fun v_4 => call (fX5_worthOfRow v_4 σ_1) (fun r_6 σ_5 => bnd (r_6 : Int64) (fun x2_7 => bnd (0 : Int32) (fun x4_8 => fX5_leftOut_L31 (fun x1_23 σ_24 => some (x1_23, σ_24)) FU x1_3 x2_7 x4_8 σ_5))))) else cali (fX5_no (-3) σ_1) (fun r_26 σ_25 => some (r_26, σ_25))))
set_option maxHeartbeats 4000000 in
set_option maxRecDepth 100000 in
theorem wX5_leftOut {p : Program} {l : Launch} {e : Env} {s : State} {m : MethodId} {args : Array Value} {below : List Frame} {meth : Method} {c : Code} {E : EN} (C : zC E mW p s m args meth c cX5_leftOut 5 RX5 (some .int) wsL_law) {F : Int32 × ST}    (σ : ST) (H : Heap) (locs : List Loc) (ls : Array Slot) (hl : lv_has ls 5 [(0, .ref (ea E 0))]) (hP : va_P (eD E) vwCl (mW E σ) H) (hS : va_S (eA E) s.heap H locs) (hE : fX5_leftOut   σ = some F) : zWi E mW p l e r_X5_leftOut s m args below meth c F H locs (F0 m 0 ls []) := by
  obtain ⟨hx, hb, hml, hown, hts, hr, hlk, hK, hD⟩ := id C
  have hwX5 : ∀ w ∈ wsX50, w.before args s = true := fun w h => hts w (inlX5 w h)
  unfold fX5_leftOut at hE
  refine lv_aload_n hx hb dX5_leftOut_0 rfl (lv_at hl 0 rfl) ?_
  refine z_goi (wf := mW) hS hE (fun F1 h1 => (va_runV (As := []) (rest := []) ⟨hx, hb, hml, hown, hts⟩ (kX5_isNoTown l E hD  σ F1 h1) (cwV 0 hts (gU_V u_588 u_589 u_590 u_5 u_591) rfl rfl rfl q_X5_isNoTown ⟨Nat.le_of_ble_eq_true rfl, Nat.le_of_ble_eq_true rfl⟩) (z_preV hK hP hS (ci := 5) (q0 := 0) rfl rfl rfl) rfl rfl hl.1 rfl (lv_room (Nat.le_of_ble_eq_true rfl)) dX5_leftOut_1 ⟨Nat.le_of_ble_eq_true rfl, Nat.le_of_ble_eq_true rfl⟩)) (fun r_2 σ_1 H locs hP hS hE => ?_)
  refine z_if_eq (tgt := 14) hx hb dX5_leftOut_4 (by decide) hE (fun hE => ?_) (fun hE => ?_)
  · refine lv_bipush (v := -9) hx hb dX5_leftOut_14 (by decide) ?_
    refine z_istore_n hx hb (fun x1_3 => [(1, .int x1_3), (0, .ref (ea E 0))]) dX5_leftOut_16 rfl hl (by decide) rfl hE (fun x1_3 ls hl hE => ?_)
    refine lv_aload_n hx hb dX5_leftOut_17 rfl (lv_at hl 1 rfl) ?_
    refine lv_aload_n hx hb dX5_leftOut_18 rfl (lv_at hl 1 rfl) ?_
    refine mg_0_1 hx hb hown hwX5 (hts _ u_97) hK hP dX5_leftOut_19 ?_
    refine lv_iconst (v := 5) hx hb dX5_leftOut_22 (by decide) ?_
    refine ma_2 hx hb hK hP dX5_leftOut_23 hE (fun v_4 hE => ?_)
    refine z_gol (wf := mW) hS hE (fun F1 h1 => (va_runV (As := [.int v_4]) (rest := []) ⟨hx, hb, hml, hown, hts⟩ (kX5_worthOfRow l E hD v_4 σ_1 F1 h1) (cwV 1 hts (gU_V u_780 u_781 u_782 u_5 u_783) rfl rfl rfl q_X5_worthOfRow ⟨Nat.le_of_ble_eq_true rfl, Nat.le_of_ble_eq_true rfl⟩) (z_preV hK hP hS (ci := 5) (q0 := 0) rfl rfl rfl) rfl rfl hl.1 rfl (lv_room (Nat.le_of_ble_eq_true rfl)) dX5_leftOut_24 ⟨Nat.le_of_ble_eq_true rfl, Nat.le_of_ble_eq_true rfl⟩)) (fun r_6 σ_5 H locs hP hS hE => ?_)
    refine z_lstore_n hx hb (fun x2_7 => [(2, .long x2_7), (1, .int x1_3), (0, .ref (ea E 0))]) dX5_leftOut_27 rfl hl (by decide) rfl hE (fun x2_7 ls hl hE => ?_)
    refine lv_iconst (v := 0) hx hb dX5_leftOut_28 (by decide) ?_
    refine z_istore hx hb (fun x4_8 => [(4, .int x4_8), (2, .long x2_7), (1, .int x1_3), (0, .ref (ea E 0))]) dX5_leftOut_29 hl (by decide) rfl hE (fun x4_8 ls hl hE => ?_)
    refine wX5_leftOut_L31 C ?_ FU x1_3 x2_7 x4_8 σ_5 _ _ _ (lv_sub hl [3, 2, 1, 0] rfl) hP hS hE
    intro x1_23 σ_24 H locs ls hl hP hS hE
    refine lv_iload_n hx hb dX5_leftOut_113 rfl (lv_at hl 0 rfl) ?_
    exact z_iret hx hb hr hlk hP hS dX5_leftOut_114 hE
  refine lv_aload_n hx hb dX5_leftOut_7 rfl (lv_at hl 0 rfl) ?_
  refine lv_bipush (v := -3) hx hb dX5_leftOut_8 (by decide) ?_
  refine z_goi (wf := mW) hS hE (fun F1 h1 => (va_runV (As := [.int (-3)]) (rest := []) ⟨hx, hb, hml, hown, hts⟩ (kX5_no l E hD (-3) σ_1 F1 h1) (cwV 1 hts (gU_V u_131 u_132 u_133 u_5 u_134) rfl rfl rfl q_X5_no ⟨Nat.le_of_ble_eq_true rfl, Nat.le_of_ble_eq_true rfl⟩) (z_preV hK hP hS (ci := 5) (q0 := 0) rfl rfl rfl) rfl rfl hl.1 rfl (lv_room (Nat.le_of_ble_eq_true rfl)) dX5_leftOut_10 ⟨Nat.le_of_ble_eq_true rfl, Nat.le_of_ble_eq_true rfl⟩)) (fun r_26 σ_25 H locs hP hS hE => ?_)
  exact z_iret hx hb hr hlk hP hS dX5_leftOut_13 hE
theorem kX5_leftOut (l : Launch) (E : EN) (hD : ∀ σ, va_D (eA E) (mW E σ))  (σ : ST) (F : Int32 × ST) (hE : fX5_leftOut  σ = some F) : Met l yX5_leftOut wu_X5_leftOut r_X5_leftOut (zPc E mW [.ref (ea E 0)] σ) (zQi E mW F) 0 0 (eA E) := by
  refine Met.ofW (cc := cX5_leftOut) (maxL := 5) (ret := (some .int)) (by decide) rfl ?_
  intro p e s m args below meth c s₁ B hml hv
  obtain ⟨rfl, hP, hK⟩ := hv
  have hl := lv_entry ([.ref (ea E 0)]) (n := 5) (Nat.le_of_ble_eq_true rfl)
  rw [lg_entry_eq]
  generalize (lg_sl ([.ref (ea E 0)]) ++ List.replicate (5 - (lg_sl ([.ref (ea E 0)])).length) Slot.unset).toArray = ls at hl ⊢
  exact wX5_leftOut ⟨B.exec, B.bytes, hml, findClass_of_methodNamed B.named, fun w h => atoms_spec (ws := wu_X5_leftOut) B.pre w (List.mem_cons_of_mem _ h), B.returns, B.notSynchronized, hK, hD⟩  σ s.heap [] ls hl hP va_S.rf hE
def fX5_runOn_L28 (ke : Int32 → Int32 → ST → Option (Int32 × ST)) : Nat → Int32 → Int32 → Int64 → Int32 → ST → Option (Int32 × ST)
  | 0, _, _, _, _, _ => none
  | n + 1, x1, x2, x3, x5, σ => (if 60 < x5 then ke x1 x2 σ else ast σ 1 200 4 x5 (fun σ_8 => call (fX5_worthOfRow 1 σ_8) (fun r_10 σ_9 => bnd (r_10 : Int64) (fun x6_11 => (if x5 = 0 then bnd (x6_11 : Int64) (fun x3_12 => bnd (x5 : Int32) (fun x2_13 => bnd (x5 + 1) (fun x5_14 => fX5_runOn_L28 ke n x1 x2_13 x3_12 x5_14 σ_9))) else (if (lg_cmp x6_11 x3) ≤ 0 then bnd (x5 + 1) (fun x5_15 => fX5_runOn_L28 ke n x1 x2 x3 x5_15 σ_9) else bnd (x6_11 : Int64) (fun x3_16 => bnd (x5 : Int32) (fun x2_17 => bnd (x5 + 1) (fun x5_18 => fX5_runOn_L28 ke n x1 x2_17 x3_16 x5_18 σ_9)))))))))
set_option maxHeartbeats 4000000 in
set_option maxRecDepth 100000 in
theorem wX5_runOn_L28 {p : Program} {l : Launch} {e : Env} {s : State} {m : MethodId} {args : Array Value} {below : List Frame} {meth : Method} {c : Code} {E : EN} (C : zC E mW p s m args meth c cX5_runOn 8 RX5 (some .int) wsL_law) {F : Int32 × ST} {ke : Int32 → Int32 → ST → Option (Int32 × ST)} (hke : ∀ (x1 : Int32) (x2 : Int32) (σ : ST) (H : Heap) (locs : List Loc) (ls : Array Slot), lv_has ls 8 [(0, .ref (ea E 0)), (1, .int x1), (2, .int x2)] → va_P (eD E) vwCl (mW E σ) H → va_S (eA E) s.heap H locs → ke x1 x2 σ = some F → zWi E mW p l e r_X5_runOn s m args below meth c F H locs (F0 m 74 ls [])) : ∀ (n : Nat) (x1 : Int32) (x2 : Int32) (x3 : Int64) (x5 : Int32) (σ : ST) (H : Heap) (locs : List Loc) (ls : Array Slot), lv_has ls 8 [(0, .ref (ea E 0)), (1, .int x1), (2, .int x2), (3, .long x3), (5, .int x5)] → va_P (eD E) vwCl (mW E σ) H → va_S (eA E) s.heap H locs → fX5_runOn_L28 ke n x1 x2 x3 x5 σ = some F → zWi E mW p l e r_X5_runOn s m args below meth c F H locs (F0 m 28 ls []) := by
  obtain ⟨hx, hb, hml, hown, hts, hr, hlk, hK, hD⟩ := id C
  have hwX5 : ∀ w ∈ wsX50, w.before args s = true := fun w h => hts w (inlX5 w h)
  intro n
  induction n with
  | zero => intro x1 x2 x3 x5 σ H locs ls hl hP hS hE; rw [fX5_runOn_L28] at hE; cases hE
  | succ n ih =>
    intro x1 x2 x3 x5 σ H locs ls hl hP hS hE
    rw [fX5_runOn_L28] at hE
    refine lv_iload hx hb dX5_runOn_28 (lv_at hl 4 rfl) ?_
    refine lv_bipush (v := 60) hx hb dX5_runOn_30 (by decide) ?_
    refine z_icmp_gt (tgt := 74) hx hb dX5_runOn_32 (by decide) hE (fun hE => ?_) (fun hE => ?_)
    · exact hke x1 x2 σ _ _ _ (lv_sub hl [0, 1, 2] rfl) hP hS hE
    refine lv_aload_n hx hb dX5_runOn_35 rfl (lv_at hl 0 rfl) ?_
    refine mg_0_1 hx hb hown hwX5 (hts _ u_97) hK hP dX5_runOn_36 ?_
    refine lv_iconst (v := 4) hx hb dX5_runOn_39 (by decide) ?_
    refine lv_iload hx hb dX5_runOn_40 (lv_at hl 4 rfl) ?_
    refine ms_2 hx hb hK hD hP hS dX5_runOn_42 hE (fun σ_8 H locs hP hS hE => ?_)
    refine lv_aload_n hx hb dX5_runOn_43 rfl (lv_at hl 0 rfl) ?_
    refine lv_iconst (v := 1) hx hb dX5_runOn_44 (by decide) ?_
    refine z_gol (wf := mW) hS hE (fun F1 h1 => (va_runV (As := [.int 1]) (rest := []) ⟨hx, hb, hml, hown, hts⟩ (kX5_worthOfRow l E hD 1 σ_8 F1 h1) (cwV 1 hts (gU_V u_780 u_781 u_782 u_5 u_783) rfl rfl rfl q_X5_worthOfRow ⟨Nat.le_of_ble_eq_true rfl, Nat.le_of_ble_eq_true rfl⟩) (z_preV hK hP hS (ci := 5) (q0 := 0) rfl rfl rfl) rfl rfl hl.1 rfl (lv_room (Nat.le_of_ble_eq_true rfl)) dX5_runOn_45 ⟨Nat.le_of_ble_eq_true rfl, Nat.le_of_ble_eq_true rfl⟩)) (fun r_10 σ_9 H locs hP hS hE => ?_)
    refine z_lstore hx hb (fun x6_11 => [(6, .long x6_11), (0, .ref (ea E 0)), (1, .int x1), (2, .int x2), (3, .long x3), (5, .int x5)]) dX5_runOn_48 hl (by decide) rfl hE (fun x6_11 ls hl hE => ?_)
    refine lv_iload hx hb dX5_runOn_50 (lv_at hl 5 rfl) ?_
    refine z_if_eq (tgt := 62) hx hb dX5_runOn_52 (by decide) hE (fun hE => ?_) (fun hE => ?_)
    · refine lv_lload hx hb dX5_runOn_62 (lv_at hl 0 rfl) ?_
      refine z_lstore_n hx hb (fun x3_12 => [(3, .long x3_12), (6, .long x6_11), (0, .ref (ea E 0)), (1, .int x1), (2, .int x2), (5, .int x5)]) dX5_runOn_64 rfl hl (by decide) rfl hE (fun x3_12 ls hl hE => ?_)
      refine lv_iload hx hb dX5_runOn_65 (lv_at hl 5 rfl) ?_
      refine z_istore_n hx hb (fun x2_13 => [(2, .int x2_13), (3, .long x3_12), (6, .long x6_11), (0, .ref (ea E 0)), (1, .int x1), (5, .int x5)]) dX5_runOn_67 rfl hl (by decide) rfl hE (fun x2_13 ls hl hE => ?_)
      refine z_iinc hx hb (v := (x5 + 1)) (k := 5) (fun x5_14 => [(5, .int x5_14), (2, .int x2_13), (3, .long x3_12), (6, .long x6_11), (0, .ref (ea E 0)), (1, .int x1)]) dX5_runOn_68 hl rfl (by rfl) (by decide) rfl hE (fun x5_14 ls hl hE => ?_)
      refine lv_goto (tgt := 28) hx hb dX5_runOn_71 (by decide) ?_
      exact ih x1 x2_13 x3_12 x5_14 σ_9 _ _ _ (lv_sub hl [4, 5, 1, 2, 0] rfl) hP hS hE
    refine lv_lload hx hb dX5_runOn_55 (lv_at hl 0 rfl) ?_
    refine lv_lload_n hx hb dX5_runOn_57 rfl (lv_at hl 4 rfl) ?_
    refine W.lcmp hx hb dX5_runOn_58 ?_
    refine z_if_le (tgt := 68) hx hb dX5_runOn_59 (by decide) hE (fun hE => ?_) (fun hE => ?_)
    · refine z_iinc hx hb (v := (x5 + 1)) (k := 5) (fun x5_15 => [(5, .int x5_15), (6, .long x6_11), (0, .ref (ea E 0)), (1, .int x1), (2, .int x2), (3, .long x3)]) dX5_runOn_68 hl rfl (by rfl) (by decide) rfl hE (fun x5_15 ls hl hE => ?_)
      refine lv_goto (tgt := 28) hx hb dX5_runOn_71 (by decide) ?_
      exact ih x1 x2 x3 x5_15 σ_9 _ _ _ (lv_sub hl [2, 3, 4, 5, 0] rfl) hP hS hE
    refine lv_lload hx hb dX5_runOn_62 (lv_at hl 0 rfl) ?_
    refine z_lstore_n hx hb (fun x3_16 => [(3, .long x3_16), (6, .long x6_11), (0, .ref (ea E 0)), (1, .int x1), (2, .int x2), (5, .int x5)]) dX5_runOn_64 rfl hl (by decide) rfl hE (fun x3_16 ls hl hE => ?_)
    refine lv_iload hx hb dX5_runOn_65 (lv_at hl 5 rfl) ?_
    refine z_istore_n hx hb (fun x2_17 => [(2, .int x2_17), (3, .long x3_16), (6, .long x6_11), (0, .ref (ea E 0)), (1, .int x1), (5, .int x5)]) dX5_runOn_67 rfl hl (by decide) rfl hE (fun x2_17 ls hl hE => ?_)
    refine z_iinc hx hb (v := (x5 + 1)) (k := 5) (fun x5_18 => [(5, .int x5_18), (2, .int x2_17), (3, .long x3_16), (6, .long x6_11), (0, .ref (ea E 0)), (1, .int x1)]) dX5_runOn_68 hl rfl (by rfl) (by decide) rfl hE (fun x5_18 ls hl hE => ?_)
    refine lv_goto (tgt := 28) hx hb dX5_runOn_71 (by decide) ?_
    exact ih x1 x2_17 x3_16 x5_18 σ_9 _ _ _ (lv_sub hl [4, 5, 1, 2, 0] rfl) hP hS hE
def fX5_runOn   (σ : ST) : Option (Int32 × ST) :=
  cali (fX5_isNoTown σ) (fun r_2 σ_1 => (if r_2 = 0 then ald (gA σ_1 1) 200 4 (fun v_3 => bnd (v_3 : Int32) (fun x1_4 => bnd (0 : Int32) (fun x2_5 => bnd (0 : Int64) (fun x3_6 => bnd (0 : Int32) (fun x5_7 => fX5_runOn_L28 (fun x1_19 x2_20 σ_21 => ast σ_21 1 200 4 x1_19 (fun σ_22 => some (x2_20, σ_22))) FU x1_4 x2_5 x3_6 x5_7 σ_1))))) else cali (fX5_no (-3) σ_1) (fun r_24 σ_23 => some (r_24, σ_23))))
set_option maxHeartbeats 4000000 in
set_option maxRecDepth 100000 in
theorem wX5_runOn {p : Program} {l : Launch} {e : Env} {s : State} {m : MethodId} {args : Array Value} {below : List Frame} {meth : Method} {c : Code} {E : EN} (C : zC E mW p s m args meth c cX5_runOn 8 RX5 (some .int) wsL_law) {F : Int32 × ST}    (σ : ST) (H : Heap) (locs : List Loc) (ls : Array Slot) (hl : lv_has ls 8 [(0, .ref (ea E 0))]) (hP : va_P (eD E) vwCl (mW E σ) H) (hS : va_S (eA E) s.heap H locs) (hE : fX5_runOn   σ = some F) : zWi E mW p l e r_X5_runOn s m args below meth c F H locs (F0 m 0 ls []) := by
  obtain ⟨hx, hb, hml, hown, hts, hr, hlk, hK, hD⟩ := id C
  have hwX5 : ∀ w ∈ wsX50, w.before args s = true := fun w h => hts w (inlX5 w h)
  unfold fX5_runOn at hE
  refine lv_aload_n hx hb dX5_runOn_0 rfl (lv_at hl 0 rfl) ?_
  refine z_goi (wf := mW) hS hE (fun F1 h1 => (va_runV (As := []) (rest := []) ⟨hx, hb, hml, hown, hts⟩ (kX5_isNoTown l E hD  σ F1 h1) (cwV 0 hts (gU_V u_588 u_589 u_590 u_5 u_591) rfl rfl rfl q_X5_isNoTown ⟨Nat.le_of_ble_eq_true rfl, Nat.le_of_ble_eq_true rfl⟩) (z_preV hK hP hS (ci := 5) (q0 := 0) rfl rfl rfl) rfl rfl hl.1 rfl (lv_room (Nat.le_of_ble_eq_true rfl)) dX5_runOn_1 ⟨Nat.le_of_ble_eq_true rfl, Nat.le_of_ble_eq_true rfl⟩)) (fun r_2 σ_1 H locs hP hS hE => ?_)
  refine z_if_eq (tgt := 14) hx hb dX5_runOn_4 (by decide) hE (fun hE => ?_) (fun hE => ?_)
  · refine lv_aload_n hx hb dX5_runOn_14 rfl (lv_at hl 0 rfl) ?_
    refine mg_0_1 hx hb hown hwX5 (hts _ u_97) hK hP dX5_runOn_15 ?_
    refine lv_iconst (v := 4) hx hb dX5_runOn_18 (by decide) ?_
    refine ma_2 hx hb hK hP dX5_runOn_19 hE (fun v_3 hE => ?_)
    refine z_istore_n hx hb (fun x1_4 => [(1, .int x1_4), (0, .ref (ea E 0))]) dX5_runOn_20 rfl hl (by decide) rfl hE (fun x1_4 ls hl hE => ?_)
    refine lv_iconst (v := 0) hx hb dX5_runOn_21 (by decide) ?_
    refine z_istore_n hx hb (fun x2_5 => [(2, .int x2_5), (1, .int x1_4), (0, .ref (ea E 0))]) dX5_runOn_22 rfl hl (by decide) rfl hE (fun x2_5 ls hl hE => ?_)
    refine lv_lconst (v := 0) hx hb dX5_runOn_23 (by decide) ?_
    refine z_lstore_n hx hb (fun x3_6 => [(3, .long x3_6), (2, .int x2_5), (1, .int x1_4), (0, .ref (ea E 0))]) dX5_runOn_24 rfl hl (by decide) rfl hE (fun x3_6 ls hl hE => ?_)
    refine lv_iconst (v := 0) hx hb dX5_runOn_25 (by decide) ?_
    refine z_istore hx hb (fun x5_7 => [(5, .int x5_7), (3, .long x3_6), (2, .int x2_5), (1, .int x1_4), (0, .ref (ea E 0))]) dX5_runOn_26 hl (by decide) rfl hE (fun x5_7 ls hl hE => ?_)
    refine wX5_runOn_L28 C ?_ FU x1_4 x2_5 x3_6 x5_7 σ_1 _ _ _ (lv_sub hl [4, 3, 2, 1, 0] rfl) hP hS hE
    intro x1_19 x2_20 σ_21 H locs ls hl hP hS hE
    refine lv_aload_n hx hb dX5_runOn_74 rfl (lv_at hl 0 rfl) ?_
    refine mg_0_1 hx hb hown hwX5 (hts _ u_97) hK hP dX5_runOn_75 ?_
    refine lv_iconst (v := 4) hx hb dX5_runOn_78 (by decide) ?_
    refine lv_iload_n hx hb dX5_runOn_79 rfl (lv_at hl 1 rfl) ?_
    refine ms_2 hx hb hK hD hP hS dX5_runOn_80 hE (fun σ_22 H locs hP hS hE => ?_)
    refine lv_iload_n hx hb dX5_runOn_81 rfl (lv_at hl 2 rfl) ?_
    exact z_iret hx hb hr hlk hP hS dX5_runOn_82 hE
  refine lv_aload_n hx hb dX5_runOn_7 rfl (lv_at hl 0 rfl) ?_
  refine lv_bipush (v := -3) hx hb dX5_runOn_8 (by decide) ?_
  refine z_goi (wf := mW) hS hE (fun F1 h1 => (va_runV (As := [.int (-3)]) (rest := []) ⟨hx, hb, hml, hown, hts⟩ (kX5_no l E hD (-3) σ_1 F1 h1) (cwV 1 hts (gU_V u_131 u_132 u_133 u_5 u_134) rfl rfl rfl q_X5_no ⟨Nat.le_of_ble_eq_true rfl, Nat.le_of_ble_eq_true rfl⟩) (z_preV hK hP hS (ci := 5) (q0 := 0) rfl rfl rfl) rfl rfl hl.1 rfl (lv_room (Nat.le_of_ble_eq_true rfl)) dX5_runOn_10 ⟨Nat.le_of_ble_eq_true rfl, Nat.le_of_ble_eq_true rfl⟩)) (fun r_24 σ_23 H locs hP hS hE => ?_)
  exact z_iret hx hb hr hlk hP hS dX5_runOn_13 hE
theorem kX5_runOn (l : Launch) (E : EN) (hD : ∀ σ, va_D (eA E) (mW E σ))  (σ : ST) (F : Int32 × ST) (hE : fX5_runOn  σ = some F) : Met l yX5_runOn wu_X5_runOn r_X5_runOn (zPc E mW [.ref (ea E 0)] σ) (zQi E mW F) 0 0 (eA E) := by
  refine Met.ofW (cc := cX5_runOn) (maxL := 8) (ret := (some .int)) (by decide) rfl ?_
  intro p e s m args below meth c s₁ B hml hv
  obtain ⟨rfl, hP, hK⟩ := hv
  have hl := lv_entry ([.ref (ea E 0)]) (n := 8) (Nat.le_of_ble_eq_true rfl)
  rw [lg_entry_eq]
  generalize (lg_sl ([.ref (ea E 0)]) ++ List.replicate (8 - (lg_sl ([.ref (ea E 0)])).length) Slot.unset).toArray = ls at hl ⊢
  exact wX5_runOn ⟨B.exec, B.bytes, hml, findClass_of_methodNamed B.named, fun w h => atoms_spec (ws := wu_X5_runOn) B.pre w (List.mem_cons_of_mem _ h), B.returns, B.notSynchronized, hK, hD⟩  σ s.heap [] ls hl hP va_S.rf hE
def fX5_push_L26 (ke : Int32 → ST → Option (Int32 × ST)) : Nat → Int32 → Int64 → Int32 → ST → Option (Int32 × ST)
  | 0, _, _, _, _ => none
  | n + 1, x1, x2, x4, σ => ald (gA σ 1) 200 0 (fun v_8 => (if v_8 ≤ x4 then ke x1 σ else ald (gA σ 1) 200 ((10 + (3 * x4)) + 2) (fun v_9 => (if 3 ≤ v_9 then bnd (x4 + 1) (fun x4_10 => fX5_push_L26 ke n x1 x2 x4_10 σ) else bnd (sI σ 7 x4) (fun σ_11 => call (fX5_worthOfRow 3 σ_11) (fun r_13 σ_12 => bnd (r_13 : Int64) (fun x5_14 => (if (lg_cmp x5_14 x2) ≤ 0 then bnd (x1 : Int32) (fun x1_15 => bnd ((jmaxl x2 x5_14) : Int64) (fun x2_16 => bnd (x4 + 1) (fun x4_17 => fX5_push_L26 ke n x1_15 x2_16 x4_17 σ_12))) else bnd (x4 : Int32) (fun x1_18 => bnd ((jmaxl x2 x5_14) : Int64) (fun x2_19 => bnd (x4 + 1) (fun x4_20 => fX5_push_L26 ke n x1_18 x2_19 x4_20 σ_12)))))))))))
set_option maxHeartbeats 4000000 in
set_option maxRecDepth 100000 in
theorem wX5_push_L26 {p : Program} {l : Launch} {e : Env} {s : State} {m : MethodId} {args : Array Value} {below : List Frame} {meth : Method} {c : Code} {E : EN} (C : zC E mW p s m args meth c cX5_push 7 RX5 (some .int) wsL_law) {F : Int32 × ST} {ke : Int32 → ST → Option (Int32 × ST)} (hke : ∀ (x1 : Int32) (σ : ST) (H : Heap) (locs : List Loc) (ls : Array Slot), lv_has ls 7 [(0, .ref (ea E 0)), (1, .int x1)] → va_P (eD E) vwCl (mW E σ) H → va_S (eA E) s.heap H locs → ke x1 σ = some F → zWi E mW p l e r_X5_push s m args below meth c F H locs (F0 m 95 ls [])) : ∀ (n : Nat) (x1 : Int32) (x2 : Int64) (x4 : Int32) (σ : ST) (H : Heap) (locs : List Loc) (ls : Array Slot), lv_has ls 7 [(0, .ref (ea E 0)), (1, .int x1), (2, .long x2), (4, .int x4)] → va_P (eD E) vwCl (mW E σ) H → va_S (eA E) s.heap H locs → fX5_push_L26 ke n x1 x2 x4 σ = some F → zWi E mW p l e r_X5_push s m args below meth c F H locs (F0 m 26 ls []) := by
  obtain ⟨hx, hb, hml, hown, hts, hr, hlk, hK, hD⟩ := id C
  have hwX5 : ∀ w ∈ wsX50, w.before args s = true := fun w h => hts w (inlX5 w h)
  intro n
  induction n with
  | zero => intro x1 x2 x4 σ H locs ls hl hP hS hE; rw [fX5_push_L26] at hE; cases hE
  | succ n ih =>
    intro x1 x2 x4 σ H locs ls hl hP hS hE
    rw [fX5_push_L26] at hE
    refine lv_iload hx hb dX5_push_26 (lv_at hl 3 rfl) ?_
    refine lv_aload_n hx hb dX5_push_28 rfl (lv_at hl 0 rfl) ?_
    refine mg_0_1 hx hb hown hwX5 (hts _ u_97) hK hP dX5_push_29 ?_
    refine lv_iconst (v := 0) hx hb dX5_push_32 (by decide) ?_
    refine ma_2 hx hb hK hP dX5_push_33 hE (fun v_8 hE => ?_)
    refine z_icmp_ge (tgt := 95) hx hb dX5_push_34 (by decide) hE (fun hE => ?_) (fun hE => ?_)
    · exact hke x1 σ _ _ _ (lv_sub hl [0, 1] rfl) hP hS hE
    refine lv_aload_n hx hb dX5_push_37 rfl (lv_at hl 0 rfl) ?_
    refine mg_0_1 hx hb hown hwX5 (hts _ u_97) hK hP dX5_push_38 ?_
    refine lv_bipush (v := 10) hx hb dX5_push_41 (by decide) ?_
    refine lv_iconst (v := 3) hx hb dX5_push_43 (by decide) ?_
    refine lv_iload hx hb dX5_push_44 (lv_at hl 3 rfl) ?_
    refine lv_imul hx hb dX5_push_46 ?_
    refine lv_iadd hx hb dX5_push_47 ?_
    refine lv_iconst (v := 2) hx hb dX5_push_48 (by decide) ?_
    refine lv_iadd hx hb dX5_push_49 ?_
    refine ma_2 hx hb hK hP dX5_push_50 hE (fun v_9 hE => ?_)
    refine lv_iconst (v := 3) hx hb dX5_push_51 (by decide) ?_
    refine z_icmp_ge (tgt := 89) hx hb dX5_push_52 (by decide) hE (fun hE => ?_) (fun hE => ?_)
    · refine z_iinc hx hb (v := (x4 + 1)) (k := 3) (fun x4_10 => [(4, .int x4_10), (0, .ref (ea E 0)), (1, .int x1), (2, .long x2)]) dX5_push_89 hl rfl (by rfl) (by decide) rfl hE (fun x4_10 ls hl hE => ?_)
      refine lv_goto (tgt := 26) hx hb dX5_push_92 (by decide) ?_
      exact ih x1 x2 x4_10 σ _ _ _ (lv_sub hl [1, 2, 3, 0] rfl) hP hS hE
    refine lv_aload_n hx hb dX5_push_55 rfl (lv_at hl 0 rfl) ?_
    refine lv_iload hx hb dX5_push_56 (lv_at hl 3 rfl) ?_
    refine mp_0_15 hx hb hown hwX5 (hts _ u_105) hK hD hP hS dX5_push_58 hE (fun σ_11 H locs hP hS hE => ?_)
    refine lv_aload_n hx hb dX5_push_61 rfl (lv_at hl 0 rfl) ?_
    refine lv_iconst (v := 3) hx hb dX5_push_62 (by decide) ?_
    refine z_gol (wf := mW) hS hE (fun F1 h1 => (va_runV (As := [.int 3]) (rest := []) ⟨hx, hb, hml, hown, hts⟩ (kX5_worthOfRow l E hD 3 σ_11 F1 h1) (cwV 1 hts (gU_V u_780 u_781 u_782 u_5 u_783) rfl rfl rfl q_X5_worthOfRow ⟨Nat.le_of_ble_eq_true rfl, Nat.le_of_ble_eq_true rfl⟩) (z_preV hK hP hS (ci := 5) (q0 := 0) rfl rfl rfl) rfl rfl hl.1 rfl (lv_room (Nat.le_of_ble_eq_true rfl)) dX5_push_63 ⟨Nat.le_of_ble_eq_true rfl, Nat.le_of_ble_eq_true rfl⟩)) (fun r_13 σ_12 H locs hP hS hE => ?_)
    refine z_lstore hx hb (fun x5_14 => [(5, .long x5_14), (0, .ref (ea E 0)), (1, .int x1), (2, .long x2), (4, .int x4)]) dX5_push_66 hl (by decide) rfl hE (fun x5_14 ls hl hE => ?_)
    refine lv_lload hx hb dX5_push_68 (lv_at hl 0 rfl) ?_
    refine lv_lload_n hx hb dX5_push_70 rfl (lv_at hl 3 rfl) ?_
    refine W.lcmp hx hb dX5_push_71 ?_
    refine z_if_le (tgt := 80) hx hb dX5_push_72 (by decide) hE (fun hE => ?_) (fun hE => ?_)
    · refine lv_iload_n hx hb dX5_push_80 rfl (lv_at hl 2 rfl) ?_
      refine z_istore_n hx hb (fun x1_15 => [(1, .int x1_15), (5, .long x5_14), (0, .ref (ea E 0)), (2, .long x2), (4, .int x4)]) dX5_push_81 rfl hl (by decide) rfl hE (fun x1_15 ls hl hE => ?_)
      refine lv_lload_n hx hb dX5_push_82 rfl (lv_at hl 3 rfl) ?_
      refine lv_lload hx hb dX5_push_83 (lv_at hl 1 rfl) ?_
      refine va_mmax_long hx hb (hml.trans hl.1.symm) hown (hts _ u_777) (hts _ u_778) (hts _ u_220) (hts _ u_779) (Nat.le_of_ble_eq_true rfl) (Nat.le_of_ble_eq_true rfl) (Nat.zero_le _) (Nat.zero_le _) dX5_push_85 ?_
      refine W.eq (g2 := F0 m 88 ls [.long (jmaxl x2 x5_14)]) rfl ?_
      refine z_lstore_n hx hb (fun x2_16 => [(2, .long x2_16), (1, .int x1_15), (5, .long x5_14), (0, .ref (ea E 0)), (4, .int x4)]) dX5_push_88 rfl hl (by decide) rfl hE (fun x2_16 ls hl hE => ?_)
      refine z_iinc hx hb (v := (x4 + 1)) (k := 4) (fun x4_17 => [(4, .int x4_17), (2, .long x2_16), (1, .int x1_15), (5, .long x5_14), (0, .ref (ea E 0))]) dX5_push_89 hl rfl (by rfl) (by decide) rfl hE (fun x4_17 ls hl hE => ?_)
      refine lv_goto (tgt := 26) hx hb dX5_push_92 (by decide) ?_
      exact ih x1_15 x2_16 x4_17 σ_12 _ _ _ (lv_sub hl [4, 2, 1, 0] rfl) hP hS hE
    refine lv_iload hx hb dX5_push_75 (lv_at hl 4 rfl) ?_
    refine lv_goto (tgt := 81) hx hb dX5_push_77 (by decide) ?_
    refine z_istore_n hx hb (fun x1_18 => [(1, .int x1_18), (5, .long x5_14), (0, .ref (ea E 0)), (2, .long x2), (4, .int x4)]) dX5_push_81 rfl hl (by decide) rfl hE (fun x1_18 ls hl hE => ?_)
    refine lv_lload_n hx hb dX5_push_82 rfl (lv_at hl 3 rfl) ?_
    refine lv_lload hx hb dX5_push_83 (lv_at hl 1 rfl) ?_
    refine va_mmax_long hx hb (hml.trans hl.1.symm) hown (hts _ u_777) (hts _ u_778) (hts _ u_220) (hts _ u_779) (Nat.le_of_ble_eq_true rfl) (Nat.le_of_ble_eq_true rfl) (Nat.zero_le _) (Nat.zero_le _) dX5_push_85 ?_
    refine W.eq (g2 := F0 m 88 ls [.long (jmaxl x2 x5_14)]) rfl ?_
    refine z_lstore_n hx hb (fun x2_19 => [(2, .long x2_19), (1, .int x1_18), (5, .long x5_14), (0, .ref (ea E 0)), (4, .int x4)]) dX5_push_88 rfl hl (by decide) rfl hE (fun x2_19 ls hl hE => ?_)
    refine z_iinc hx hb (v := (x4 + 1)) (k := 4) (fun x4_20 => [(4, .int x4_20), (2, .long x2_19), (1, .int x1_18), (5, .long x5_14), (0, .ref (ea E 0))]) dX5_push_89 hl rfl (by rfl) (by decide) rfl hE (fun x4_20 ls hl hE => ?_)
    refine lv_goto (tgt := 26) hx hb dX5_push_92 (by decide) ?_
    exact ih x1_18 x2_19 x4_20 σ_12 _ _ _ (lv_sub hl [4, 2, 1, 0] rfl) hP hS hE
def fX5_push   (σ : ST) : Option (Int32 × ST) :=
  cali (fX5_isNoTown σ) (fun r_2 σ_1 => (if r_2 = 0 then bnd ((-9) : Int32) (fun x1_3 => call (fX5_worthOfRow 3 σ_1) (fun r_5 σ_4 => bnd (r_5 : Int64) (fun x2_6 => bnd (0 : Int32) (fun x4_7 => fX5_push_L26 (fun x1_21 σ_22 => bnd (sI σ_22 7 (-9)) (fun σ_23 => some (x1_21, σ_23))) FU x1_3 x2_6 x4_7 σ_4)))) else cali (fX5_no (-3) σ_1) (fun r_25 σ_24 => some (r_25, σ_24))))
set_option maxHeartbeats 4000000 in
set_option maxRecDepth 100000 in
theorem wX5_push {p : Program} {l : Launch} {e : Env} {s : State} {m : MethodId} {args : Array Value} {below : List Frame} {meth : Method} {c : Code} {E : EN} (C : zC E mW p s m args meth c cX5_push 7 RX5 (some .int) wsL_law) {F : Int32 × ST}    (σ : ST) (H : Heap) (locs : List Loc) (ls : Array Slot) (hl : lv_has ls 7 [(0, .ref (ea E 0))]) (hP : va_P (eD E) vwCl (mW E σ) H) (hS : va_S (eA E) s.heap H locs) (hE : fX5_push   σ = some F) : zWi E mW p l e r_X5_push s m args below meth c F H locs (F0 m 0 ls []) := by
  obtain ⟨hx, hb, hml, hown, hts, hr, hlk, hK, hD⟩ := id C
  have hwX5 : ∀ w ∈ wsX50, w.before args s = true := fun w h => hts w (inlX5 w h)
  unfold fX5_push at hE
  refine lv_aload_n hx hb dX5_push_0 rfl (lv_at hl 0 rfl) ?_
  refine z_goi (wf := mW) hS hE (fun F1 h1 => (va_runV (As := []) (rest := []) ⟨hx, hb, hml, hown, hts⟩ (kX5_isNoTown l E hD  σ F1 h1) (cwV 0 hts (gU_V u_588 u_589 u_590 u_5 u_591) rfl rfl rfl q_X5_isNoTown ⟨Nat.le_of_ble_eq_true rfl, Nat.le_of_ble_eq_true rfl⟩) (z_preV hK hP hS (ci := 5) (q0 := 0) rfl rfl rfl) rfl rfl hl.1 rfl (lv_room (Nat.le_of_ble_eq_true rfl)) dX5_push_1 ⟨Nat.le_of_ble_eq_true rfl, Nat.le_of_ble_eq_true rfl⟩)) (fun r_2 σ_1 H locs hP hS hE => ?_)
  refine z_if_eq (tgt := 14) hx hb dX5_push_4 (by decide) hE (fun hE => ?_) (fun hE => ?_)
  · refine lv_bipush (v := -9) hx hb dX5_push_14 (by decide) ?_
    refine z_istore_n hx hb (fun x1_3 => [(1, .int x1_3), (0, .ref (ea E 0))]) dX5_push_16 rfl hl (by decide) rfl hE (fun x1_3 ls hl hE => ?_)
    refine lv_aload_n hx hb dX5_push_17 rfl (lv_at hl 1 rfl) ?_
    refine lv_iconst (v := 3) hx hb dX5_push_18 (by decide) ?_
    refine z_gol (wf := mW) hS hE (fun F1 h1 => (va_runV (As := [.int 3]) (rest := []) ⟨hx, hb, hml, hown, hts⟩ (kX5_worthOfRow l E hD 3 σ_1 F1 h1) (cwV 1 hts (gU_V u_780 u_781 u_782 u_5 u_783) rfl rfl rfl q_X5_worthOfRow ⟨Nat.le_of_ble_eq_true rfl, Nat.le_of_ble_eq_true rfl⟩) (z_preV hK hP hS (ci := 5) (q0 := 0) rfl rfl rfl) rfl rfl hl.1 rfl (lv_room (Nat.le_of_ble_eq_true rfl)) dX5_push_19 ⟨Nat.le_of_ble_eq_true rfl, Nat.le_of_ble_eq_true rfl⟩)) (fun r_5 σ_4 H locs hP hS hE => ?_)
    refine z_lstore_n hx hb (fun x2_6 => [(2, .long x2_6), (1, .int x1_3), (0, .ref (ea E 0))]) dX5_push_22 rfl hl (by decide) rfl hE (fun x2_6 ls hl hE => ?_)
    refine lv_iconst (v := 0) hx hb dX5_push_23 (by decide) ?_
    refine z_istore hx hb (fun x4_7 => [(4, .int x4_7), (2, .long x2_6), (1, .int x1_3), (0, .ref (ea E 0))]) dX5_push_24 hl (by decide) rfl hE (fun x4_7 ls hl hE => ?_)
    refine wX5_push_L26 C ?_ FU x1_3 x2_6 x4_7 σ_4 _ _ _ (lv_sub hl [3, 2, 1, 0] rfl) hP hS hE
    intro x1_21 σ_22 H locs ls hl hP hS hE
    refine lv_aload_n hx hb dX5_push_95 rfl (lv_at hl 0 rfl) ?_
    refine lv_bipush (v := -9) hx hb dX5_push_96 (by decide) ?_
    refine mp_0_15 hx hb hown hwX5 (hts _ u_105) hK hD hP hS dX5_push_98 hE (fun σ_23 H locs hP hS hE => ?_)
    refine lv_iload_n hx hb dX5_push_101 rfl (lv_at hl 1 rfl) ?_
    exact z_iret hx hb hr hlk hP hS dX5_push_102 hE
  refine lv_aload_n hx hb dX5_push_7 rfl (lv_at hl 0 rfl) ?_
  refine lv_bipush (v := -3) hx hb dX5_push_8 (by decide) ?_
  refine z_goi (wf := mW) hS hE (fun F1 h1 => (va_runV (As := [.int (-3)]) (rest := []) ⟨hx, hb, hml, hown, hts⟩ (kX5_no l E hD (-3) σ_1 F1 h1) (cwV 1 hts (gU_V u_131 u_132 u_133 u_5 u_134) rfl rfl rfl q_X5_no ⟨Nat.le_of_ble_eq_true rfl, Nat.le_of_ble_eq_true rfl⟩) (z_preV hK hP hS (ci := 5) (q0 := 0) rfl rfl rfl) rfl rfl hl.1 rfl (lv_room (Nat.le_of_ble_eq_true rfl)) dX5_push_10 ⟨Nat.le_of_ble_eq_true rfl, Nat.le_of_ble_eq_true rfl⟩)) (fun r_25 σ_24 H locs hP hS hE => ?_)
  exact z_iret hx hb hr hlk hP hS dX5_push_13 hE
theorem kX5_push (l : Launch) (E : EN) (hD : ∀ σ, va_D (eA E) (mW E σ))  (σ : ST) (F : Int32 × ST) (hE : fX5_push  σ = some F) : Met l yX5_push wu_X5_push r_X5_push (zPc E mW [.ref (ea E 0)] σ) (zQi E mW F) 0 0 (eA E) := by
  refine Met.ofW (cc := cX5_push) (maxL := 7) (ret := (some .int)) (by decide) rfl ?_
  intro p e s m args below meth c s₁ B hml hv
  obtain ⟨rfl, hP, hK⟩ := hv
  have hl := lv_entry ([.ref (ea E 0)]) (n := 7) (Nat.le_of_ble_eq_true rfl)
  rw [lg_entry_eq]
  generalize (lg_sl ([.ref (ea E 0)]) ++ List.replicate (7 - (lg_sl ([.ref (ea E 0)])).length) Slot.unset).toArray = ls at hl ⊢
  exact wX5_push ⟨B.exec, B.bytes, hml, findClass_of_methodNamed B.named, fun w h => atoms_spec (ws := wu_X5_push) B.pre w (List.mem_cons_of_mem _ h), B.returns, B.notSynchronized, hK, hD⟩  σ s.heap [] ls hl hP va_S.rf hE
def fX5_hill  (x1 : Int32) (σ : ST) : Option (Int64 × ST) :=
  cali (fX5_isNoPart x1 σ) (fun r_2 σ_1 => (if r_2 = 0 then cali (fX5_isNoTown σ_1) (fun r_4 σ_3 => (if r_4 = 0 then ald (gA σ_3 1) 200 5 (fun v_5 => call (fX5_worthOfRow v_5 σ_3) (fun r_7 σ_6 => bnd (r_7 : Int64) (fun x2_8 => bnd (sI σ_6 6 1) (fun σ_9 => ald (gA σ_9 1) 200 5 (fun v_10 => call (fX5_worthOfRow v_10 σ_9) (fun r_12 σ_11 => bnd (r_12 : Int64) (fun x4_13 => bnd (sI σ_11 6 0) (fun σ_14 => call (fX5_part (x4_13 - x2_8) x1 σ_14) (fun r_16 σ_15 => some (r_16, σ_15)))))))))) else call (fX5_noLong (-3) σ_3) (fun r_18 σ_17 => some (r_18, σ_17)))) else call (fX5_noLong (-2) σ_1) (fun r_20 σ_19 => some (r_20, σ_19))))
set_option maxHeartbeats 4000000 in
set_option maxRecDepth 100000 in
theorem wX5_hill {p : Program} {l : Launch} {e : Env} {s : State} {m : MethodId} {args : Array Value} {below : List Frame} {meth : Method} {c : Code} {E : EN} (C : zC E mW p s m args meth c cX5_hill 6 RX5 (some .long) wsL_law) {F : Int64 × ST}   (x1 : Int32) (σ : ST) (H : Heap) (locs : List Loc) (ls : Array Slot) (hl : lv_has ls 6 [(0, .ref (ea E 0)), (1, .int x1)]) (hP : va_P (eD E) vwCl (mW E σ) H) (hS : va_S (eA E) s.heap H locs) (hE : fX5_hill  x1 σ = some F) : zWl E mW p l e r_X5_hill s m args below meth c F H locs (F0 m 0 ls []) := by
  obtain ⟨hx, hb, hml, hown, hts, hr, hlk, hK, hD⟩ := id C
  have hwX5 : ∀ w ∈ wsX50, w.before args s = true := fun w h => hts w (inlX5 w h)
  unfold fX5_hill at hE
  refine lv_iload_n hx hb dX5_hill_0 rfl (lv_at hl 1 rfl) ?_
  refine z_goi (wf := mW) hS hE (fun F1 h1 => (va_runS (As := [.int x1]) (rest := []) ⟨hx, hb, hml, hown, hts⟩ (kX5_isNoPart l E hD x1 σ F1 h1) (va_cwS 1 hts (gU_S u_662 u_663 u_5 u_664) rfl rfl rfl q_X5_isNoPart ⟨Nat.le_of_ble_eq_true rfl, Nat.le_of_ble_eq_true rfl⟩) (z_preS hK hP hS) rfl rfl hl.1 rfl (lv_room (Nat.le_of_ble_eq_true rfl)) dX5_hill_1 ⟨Nat.le_of_ble_eq_true rfl, Nat.le_of_ble_eq_true rfl⟩)) (fun r_2 σ_1 H locs hP hS hE => ?_)
  refine z_if_eq (tgt := 14) hx hb dX5_hill_4 (by decide) hE (fun hE => ?_) (fun hE => ?_)
  · refine lv_aload_n hx hb dX5_hill_14 rfl (lv_at hl 0 rfl) ?_
    refine z_goi (wf := mW) hS hE (fun F1 h1 => (va_runV (As := []) (rest := []) ⟨hx, hb, hml, hown, hts⟩ (kX5_isNoTown l E hD  σ_1 F1 h1) (cwV 0 hts (gU_V u_588 u_589 u_590 u_5 u_591) rfl rfl rfl q_X5_isNoTown ⟨Nat.le_of_ble_eq_true rfl, Nat.le_of_ble_eq_true rfl⟩) (z_preV hK hP hS (ci := 5) (q0 := 0) rfl rfl rfl) rfl rfl hl.1 rfl (lv_room (Nat.le_of_ble_eq_true rfl)) dX5_hill_15 ⟨Nat.le_of_ble_eq_true rfl, Nat.le_of_ble_eq_true rfl⟩)) (fun r_4 σ_3 H locs hP hS hE => ?_)
    refine z_if_eq (tgt := 28) hx hb dX5_hill_18 (by decide) hE (fun hE => ?_) (fun hE => ?_)
    · refine lv_aload_n hx hb dX5_hill_28 rfl (lv_at hl 0 rfl) ?_
      refine lv_aload_n hx hb dX5_hill_29 rfl (lv_at hl 0 rfl) ?_
      refine mg_0_1 hx hb hown hwX5 (hts _ u_97) hK hP dX5_hill_30 ?_
      refine lv_iconst (v := 5) hx hb dX5_hill_33 (by decide) ?_
      refine ma_2 hx hb hK hP dX5_hill_34 hE (fun v_5 hE => ?_)
      refine z_gol (wf := mW) hS hE (fun F1 h1 => (va_runV (As := [.int v_5]) (rest := []) ⟨hx, hb, hml, hown, hts⟩ (kX5_worthOfRow l E hD v_5 σ_3 F1 h1) (cwV 1 hts (gU_V u_780 u_781 u_782 u_5 u_783) rfl rfl rfl q_X5_worthOfRow ⟨Nat.le_of_ble_eq_true rfl, Nat.le_of_ble_eq_true rfl⟩) (z_preV hK hP hS (ci := 5) (q0 := 0) rfl rfl rfl) rfl rfl hl.1 rfl (lv_room (Nat.le_of_ble_eq_true rfl)) dX5_hill_35 ⟨Nat.le_of_ble_eq_true rfl, Nat.le_of_ble_eq_true rfl⟩)) (fun r_7 σ_6 H locs hP hS hE => ?_)
      refine z_lstore_n hx hb (fun x2_8 => [(2, .long x2_8), (0, .ref (ea E 0)), (1, .int x1)]) dX5_hill_38 rfl hl (by decide) rfl hE (fun x2_8 ls hl hE => ?_)
      refine lv_aload_n hx hb dX5_hill_39 rfl (lv_at hl 1 rfl) ?_
      refine lv_iconst (v := 1) hx hb dX5_hill_40 (by decide) ?_
      refine mp_0_14 hx hb hown hwX5 (hts _ u_419) hK hD hP hS rfl dX5_hill_41 hE (fun σ_9 H locs hP hS hE => ?_)
      refine lv_aload_n hx hb dX5_hill_44 rfl (lv_at hl 1 rfl) ?_
      refine lv_aload_n hx hb dX5_hill_45 rfl (lv_at hl 1 rfl) ?_
      refine mg_0_1 hx hb hown hwX5 (hts _ u_97) hK hP dX5_hill_46 ?_
      refine lv_iconst (v := 5) hx hb dX5_hill_49 (by decide) ?_
      refine ma_2 hx hb hK hP dX5_hill_50 hE (fun v_10 hE => ?_)
      refine z_gol (wf := mW) hS hE (fun F1 h1 => (va_runV (As := [.int v_10]) (rest := []) ⟨hx, hb, hml, hown, hts⟩ (kX5_worthOfRow l E hD v_10 σ_9 F1 h1) (cwV 1 hts (gU_V u_780 u_781 u_782 u_5 u_783) rfl rfl rfl q_X5_worthOfRow ⟨Nat.le_of_ble_eq_true rfl, Nat.le_of_ble_eq_true rfl⟩) (z_preV hK hP hS (ci := 5) (q0 := 0) rfl rfl rfl) rfl rfl hl.1 rfl (lv_room (Nat.le_of_ble_eq_true rfl)) dX5_hill_51 ⟨Nat.le_of_ble_eq_true rfl, Nat.le_of_ble_eq_true rfl⟩)) (fun r_12 σ_11 H locs hP hS hE => ?_)
      refine z_lstore hx hb (fun x4_13 => [(4, .long x4_13), (2, .long x2_8), (0, .ref (ea E 0)), (1, .int x1)]) dX5_hill_54 hl (by decide) rfl hE (fun x4_13 ls hl hE => ?_)
      refine lv_aload_n hx hb dX5_hill_56 rfl (lv_at hl 2 rfl) ?_
      refine lv_iconst (v := 0) hx hb dX5_hill_57 (by decide) ?_
      refine mp_0_14 hx hb hown hwX5 (hts _ u_419) hK hD hP hS rfl dX5_hill_58 hE (fun σ_14 H locs hP hS hE => ?_)
      refine lv_lload hx hb dX5_hill_61 (lv_at hl 0 rfl) ?_
      refine lv_lload_n hx hb dX5_hill_63 rfl (lv_at hl 1 rfl) ?_
      refine lv_lsub hx hb dX5_hill_64 ?_
      refine lv_iload_n hx hb dX5_hill_65 rfl (lv_at hl 3 rfl) ?_
      refine z_gol (wf := mW) hS hE (fun F1 h1 => (va_runS (As := [.long (x4_13 - x2_8), .int x1]) (rest := []) ⟨hx, hb, hml, hown, hts⟩ (kX5_part l E hD (x4_13 - x2_8) x1 σ_14 F1 h1) (va_cwS 2 hts (gU_S u_670 u_671 u_5 u_672) rfl rfl rfl q_X5_part ⟨Nat.le_of_ble_eq_true rfl, Nat.le_of_ble_eq_true rfl⟩) (z_preS hK hP hS) rfl rfl hl.1 rfl (lv_room (Nat.le_of_ble_eq_true rfl)) dX5_hill_66 ⟨Nat.le_of_ble_eq_true rfl, Nat.le_of_ble_eq_true rfl⟩)) (fun r_16 σ_15 H locs hP hS hE => ?_)
      exact z_lret hx hb hr hlk hP hS dX5_hill_69 hE
    refine lv_aload_n hx hb dX5_hill_21 rfl (lv_at hl 0 rfl) ?_
    refine lv_bipush (v := -3) hx hb dX5_hill_22 (by decide) ?_
    refine z_gol (wf := mW) hS hE (fun F1 h1 => (va_runV (As := [.int (-3)]) (rest := []) ⟨hx, hb, hml, hown, hts⟩ (kX5_noLong l E hD (-3) σ_3 F1 h1) (cwV 1 hts (gU_V u_665 u_666 u_667 u_5 u_668) rfl rfl rfl q_X5_noLong ⟨Nat.le_of_ble_eq_true rfl, Nat.le_of_ble_eq_true rfl⟩) (z_preV hK hP hS (ci := 5) (q0 := 0) rfl rfl rfl) rfl rfl hl.1 rfl (lv_room (Nat.le_of_ble_eq_true rfl)) dX5_hill_24 ⟨Nat.le_of_ble_eq_true rfl, Nat.le_of_ble_eq_true rfl⟩)) (fun r_18 σ_17 H locs hP hS hE => ?_)
    exact z_lret hx hb hr hlk hP hS dX5_hill_27 hE
  refine lv_aload_n hx hb dX5_hill_7 rfl (lv_at hl 0 rfl) ?_
  refine lv_bipush (v := -2) hx hb dX5_hill_8 (by decide) ?_
  refine z_gol (wf := mW) hS hE (fun F1 h1 => (va_runV (As := [.int (-2)]) (rest := []) ⟨hx, hb, hml, hown, hts⟩ (kX5_noLong l E hD (-2) σ_1 F1 h1) (cwV 1 hts (gU_V u_665 u_666 u_667 u_5 u_668) rfl rfl rfl q_X5_noLong ⟨Nat.le_of_ble_eq_true rfl, Nat.le_of_ble_eq_true rfl⟩) (z_preV hK hP hS (ci := 5) (q0 := 0) rfl rfl rfl) rfl rfl hl.1 rfl (lv_room (Nat.le_of_ble_eq_true rfl)) dX5_hill_10 ⟨Nat.le_of_ble_eq_true rfl, Nat.le_of_ble_eq_true rfl⟩)) (fun r_20 σ_19 H locs hP hS hE => ?_)
  exact z_lret hx hb hr hlk hP hS dX5_hill_13 hE
theorem kX5_hill (l : Launch) (E : EN) (hD : ∀ σ, va_D (eA E) (mW E σ)) (x1 : Int32) (σ : ST) (F : Int64 × ST) (hE : fX5_hill x1 σ = some F) : Met l yX5_hill wu_X5_hill r_X5_hill (zPc E mW [.ref (ea E 0), .int x1] σ) (zQl E mW F) 0 0 (eA E) := by
  refine Met.ofW (cc := cX5_hill) (maxL := 6) (ret := (some .long)) (by decide) rfl ?_
  intro p e s m args below meth c s₁ B hml hv
  obtain ⟨rfl, hP, hK⟩ := hv
  have hl := lv_entry ([.ref (ea E 0), .int x1]) (n := 6) (Nat.le_of_ble_eq_true rfl)
  rw [lg_entry_eq]
  generalize (lg_sl ([.ref (ea E 0), .int x1]) ++ List.replicate (6 - (lg_sl ([.ref (ea E 0), .int x1])).length) Slot.unset).toArray = ls at hl ⊢
  exact wX5_hill ⟨B.exec, B.bytes, hml, findClass_of_methodNamed B.named, fun w h => atoms_spec (ws := wu_X5_hill) B.pre w (List.mem_cons_of_mem _ h), B.returns, B.notSynchronized, hK, hD⟩ x1 σ s.heap [] ls hl hP va_S.rf hE
def fX5_mended   (σ : ST) : Option (Int64 × ST) :=
  ald (gA σ 1) 200 5 (fun v_1 => call (fX5_worthOfRow v_1 σ) (fun r_3 σ_2 => bnd (r_3 : Int64) (fun x1_4 => bnd (sI σ_2 5 1) (fun σ_5 => ald (gA σ_5 1) 200 5 (fun v_6 => call (fX5_worthOfRow v_6 σ_5) (fun r_8 σ_7 => bnd (r_8 : Int64) (fun x3_9 => bnd (sI σ_7 5 0) (fun σ_10 => some ((x3_9 - x1_4), σ_10)))))))))
set_option maxHeartbeats 4000000 in
set_option maxRecDepth 100000 in
theorem wX5_mended {p : Program} {l : Launch} {e : Env} {s : State} {m : MethodId} {args : Array Value} {below : List Frame} {meth : Method} {c : Code} {E : EN} (C : zC E mW p s m args meth c cX5_mended 5 RX5 (some .long) wsL_law) {F : Int64 × ST}    (σ : ST) (H : Heap) (locs : List Loc) (ls : Array Slot) (hl : lv_has ls 5 [(0, .ref (ea E 0))]) (hP : va_P (eD E) vwCl (mW E σ) H) (hS : va_S (eA E) s.heap H locs) (hE : fX5_mended   σ = some F) : zWl E mW p l e r_X5_mended s m args below meth c F H locs (F0 m 0 ls []) := by
  obtain ⟨hx, hb, hml, hown, hts, hr, hlk, hK, hD⟩ := id C
  have hwX5 : ∀ w ∈ wsX50, w.before args s = true := fun w h => hts w (inlX5 w h)
  unfold fX5_mended at hE
  refine lv_aload_n hx hb dX5_mended_0 rfl (lv_at hl 0 rfl) ?_
  refine lv_aload_n hx hb dX5_mended_1 rfl (lv_at hl 0 rfl) ?_
  refine mg_0_1 hx hb hown hwX5 (hts _ u_97) hK hP dX5_mended_2 ?_
  refine lv_iconst (v := 5) hx hb dX5_mended_5 (by decide) ?_
  refine ma_2 hx hb hK hP dX5_mended_6 hE (fun v_1 hE => ?_)
  refine z_gol (wf := mW) hS hE (fun F1 h1 => (va_runV (As := [.int v_1]) (rest := []) ⟨hx, hb, hml, hown, hts⟩ (kX5_worthOfRow l E hD v_1 σ F1 h1) (cwV 1 hts (gU_V u_780 u_781 u_782 u_5 u_783) rfl rfl rfl q_X5_worthOfRow ⟨Nat.le_of_ble_eq_true rfl, Nat.le_of_ble_eq_true rfl⟩) (z_preV hK hP hS (ci := 5) (q0 := 0) rfl rfl rfl) rfl rfl hl.1 rfl (lv_room (Nat.le_of_ble_eq_true rfl)) dX5_mended_7 ⟨Nat.le_of_ble_eq_true rfl, Nat.le_of_ble_eq_true rfl⟩)) (fun r_3 σ_2 H locs hP hS hE => ?_)
  refine z_lstore_n hx hb (fun x1_4 => [(1, .long x1_4), (0, .ref (ea E 0))]) dX5_mended_10 rfl hl (by decide) rfl hE (fun x1_4 ls hl hE => ?_)
  refine lv_aload_n hx hb dX5_mended_11 rfl (lv_at hl 1 rfl) ?_
  refine lv_iconst (v := 1) hx hb dX5_mended_12 (by decide) ?_
  refine mp_0_13 hx hb hown hwX5 (hts _ u_418) hK hD hP hS rfl dX5_mended_13 hE (fun σ_5 H locs hP hS hE => ?_)
  refine lv_aload_n hx hb dX5_mended_16 rfl (lv_at hl 1 rfl) ?_
  refine lv_aload_n hx hb dX5_mended_17 rfl (lv_at hl 1 rfl) ?_
  refine mg_0_1 hx hb hown hwX5 (hts _ u_97) hK hP dX5_mended_18 ?_
  refine lv_iconst (v := 5) hx hb dX5_mended_21 (by decide) ?_
  refine ma_2 hx hb hK hP dX5_mended_22 hE (fun v_6 hE => ?_)
  refine z_gol (wf := mW) hS hE (fun F1 h1 => (va_runV (As := [.int v_6]) (rest := []) ⟨hx, hb, hml, hown, hts⟩ (kX5_worthOfRow l E hD v_6 σ_5 F1 h1) (cwV 1 hts (gU_V u_780 u_781 u_782 u_5 u_783) rfl rfl rfl q_X5_worthOfRow ⟨Nat.le_of_ble_eq_true rfl, Nat.le_of_ble_eq_true rfl⟩) (z_preV hK hP hS (ci := 5) (q0 := 0) rfl rfl rfl) rfl rfl hl.1 rfl (lv_room (Nat.le_of_ble_eq_true rfl)) dX5_mended_23 ⟨Nat.le_of_ble_eq_true rfl, Nat.le_of_ble_eq_true rfl⟩)) (fun r_8 σ_7 H locs hP hS hE => ?_)
  refine z_lstore_n hx hb (fun x3_9 => [(3, .long x3_9), (1, .long x1_4), (0, .ref (ea E 0))]) dX5_mended_26 rfl hl (by decide) rfl hE (fun x3_9 ls hl hE => ?_)
  refine lv_aload_n hx hb dX5_mended_27 rfl (lv_at hl 2 rfl) ?_
  refine lv_iconst (v := 0) hx hb dX5_mended_28 (by decide) ?_
  refine mp_0_13 hx hb hown hwX5 (hts _ u_418) hK hD hP hS rfl dX5_mended_29 hE (fun σ_10 H locs hP hS hE => ?_)
  refine lv_lload_n hx hb dX5_mended_32 rfl (lv_at hl 0 rfl) ?_
  refine lv_lload_n hx hb dX5_mended_33 rfl (lv_at hl 1 rfl) ?_
  refine lv_lsub hx hb dX5_mended_34 ?_
  exact z_lret hx hb hr hlk hP hS dX5_mended_35 hE
theorem kX5_mended (l : Launch) (E : EN) (hD : ∀ σ, va_D (eA E) (mW E σ))  (σ : ST) (F : Int64 × ST) (hE : fX5_mended  σ = some F) : Met l yX5_mended wu_X5_mended r_X5_mended (zPc E mW [.ref (ea E 0)] σ) (zQl E mW F) 0 0 (eA E) := by
  refine Met.ofW (cc := cX5_mended) (maxL := 5) (ret := (some .long)) (by decide) rfl ?_
  intro p e s m args below meth c s₁ B hml hv
  obtain ⟨rfl, hP, hK⟩ := hv
  have hl := lv_entry ([.ref (ea E 0)]) (n := 5) (Nat.le_of_ble_eq_true rfl)
  rw [lg_entry_eq]
  generalize (lg_sl ([.ref (ea E 0)]) ++ List.replicate (5 - (lg_sl ([.ref (ea E 0)])).length) Slot.unset).toArray = ls at hl ⊢
  exact wX5_mended ⟨B.exec, B.bytes, hml, findClass_of_methodNamed B.named, fun w h => atoms_spec (ws := wu_X5_mended) B.pre w (List.mem_cons_of_mem _ h), B.returns, B.notSynchronized, hK, hD⟩  σ s.heap [] ls hl hP va_S.rf hE
def fX5_mend  (x1 : Int32) (x2 : Int32) (σ : ST) : Option (Int32 × ST) :=
  (if x1 < 0 then cali (fX5_no (-4) σ) (fun r_2 σ_1 => some (r_2, σ_1)) else (if 1 ≤ x2 then (if 999 < x1 then cali (fX5_no (-6) σ) (fun r_4 σ_3 => some (r_4, σ_3)) else (if x2 ≤ 99 then cali (fX5_isNoTown σ) (fun r_6 σ_5 => (if r_6 = 0 then call (fX5_mended σ_5) (fun r_8 σ_7 => (if (lg_cmp ((Int32.toInt64 x2) * r_8) ((Int32.toInt64 x1) * 1000000000000)) < 0 then some (0, σ_7) else some (1, σ_7))) else cali (fX5_no (-3) σ_5) (fun r_10 σ_9 => some (r_10, σ_9)))) else cali (fX5_no (-6) σ) (fun r_12 σ_11 => some (r_12, σ_11)))) else cali (fX5_no (-4) σ) (fun r_14 σ_13 => some (r_14, σ_13))))
set_option maxHeartbeats 4000000 in
set_option maxRecDepth 100000 in
theorem wX5_mend {p : Program} {l : Launch} {e : Env} {s : State} {m : MethodId} {args : Array Value} {below : List Frame} {meth : Method} {c : Code} {E : EN} (C : zC E mW p s m args meth c cX5_mend 3 RX5 (some .int) wsL_law) {F : Int32 × ST}   (x1 : Int32) (x2 : Int32) (σ : ST) (H : Heap) (locs : List Loc) (ls : Array Slot) (hl : lv_has ls 3 [(0, .ref (ea E 0)), (1, .int x1), (2, .int x2)]) (hP : va_P (eD E) vwCl (mW E σ) H) (hS : va_S (eA E) s.heap H locs) (hE : fX5_mend  x1 x2 σ = some F) : zWi E mW p l e r_X5_mend s m args below meth c F H locs (F0 m 0 ls []) := by
  obtain ⟨hx, hb, hml, hown, hts, hr, hlk, hK, hD⟩ := id C
  unfold fX5_mend at hE
  refine lv_iload_n hx hb dX5_mend_0 rfl (lv_at hl 1 rfl) ?_
  refine z_if_lt (tgt := 9) hx hb dX5_mend_1 (by decide) hE (fun hE => ?_) (fun hE => ?_)
  · refine lv_aload_n hx hb dX5_mend_9 rfl (lv_at hl 0 rfl) ?_
    refine lv_bipush (v := -4) hx hb dX5_mend_10 (by decide) ?_
    refine z_goi (wf := mW) hS hE (fun F1 h1 => (va_runV (As := [.int (-4)]) (rest := []) ⟨hx, hb, hml, hown, hts⟩ (kX5_no l E hD (-4) σ F1 h1) (cwV 1 hts (gU_V u_131 u_132 u_133 u_5 u_134) rfl rfl rfl q_X5_no ⟨Nat.le_of_ble_eq_true rfl, Nat.le_of_ble_eq_true rfl⟩) (z_preV hK hP hS (ci := 5) (q0 := 0) rfl rfl rfl) rfl rfl hl.1 rfl (lv_room (Nat.le_of_ble_eq_true rfl)) dX5_mend_12 ⟨Nat.le_of_ble_eq_true rfl, Nat.le_of_ble_eq_true rfl⟩)) (fun r_2 σ_1 H locs hP hS hE => ?_)
    exact z_iret hx hb hr hlk hP hS dX5_mend_15 hE
  refine lv_iload_n hx hb dX5_mend_4 rfl (lv_at hl 2 rfl) ?_
  refine lv_iconst (v := 1) hx hb dX5_mend_5 (by decide) ?_
  refine z_icmp_ge (tgt := 16) hx hb dX5_mend_6 (by decide) hE (fun hE => ?_) (fun hE => ?_)
  · refine lv_iload_n hx hb dX5_mend_16 rfl (lv_at hl 1 rfl) ?_
    refine lv_sipush (v := 999) hx hb dX5_mend_17 (by decide) ?_
    refine z_icmp_gt (tgt := 29) hx hb dX5_mend_20 (by decide) hE (fun hE => ?_) (fun hE => ?_)
    · refine lv_aload_n hx hb dX5_mend_29 rfl (lv_at hl 0 rfl) ?_
      refine lv_bipush (v := -6) hx hb dX5_mend_30 (by decide) ?_
      refine z_goi (wf := mW) hS hE (fun F1 h1 => (va_runV (As := [.int (-6)]) (rest := []) ⟨hx, hb, hml, hown, hts⟩ (kX5_no l E hD (-6) σ F1 h1) (cwV 1 hts (gU_V u_131 u_132 u_133 u_5 u_134) rfl rfl rfl q_X5_no ⟨Nat.le_of_ble_eq_true rfl, Nat.le_of_ble_eq_true rfl⟩) (z_preV hK hP hS (ci := 5) (q0 := 0) rfl rfl rfl) rfl rfl hl.1 rfl (lv_room (Nat.le_of_ble_eq_true rfl)) dX5_mend_32 ⟨Nat.le_of_ble_eq_true rfl, Nat.le_of_ble_eq_true rfl⟩)) (fun r_4 σ_3 H locs hP hS hE => ?_)
      exact z_iret hx hb hr hlk hP hS dX5_mend_35 hE
    refine lv_iload_n hx hb dX5_mend_23 rfl (lv_at hl 2 rfl) ?_
    refine lv_bipush (v := 99) hx hb dX5_mend_24 (by decide) ?_
    refine z_icmp_le (tgt := 36) hx hb dX5_mend_26 (by decide) hE (fun hE => ?_) (fun hE => ?_)
    · refine lv_aload_n hx hb dX5_mend_36 rfl (lv_at hl 0 rfl) ?_
      refine z_goi (wf := mW) hS hE (fun F1 h1 => (va_runV (As := []) (rest := []) ⟨hx, hb, hml, hown, hts⟩ (kX5_isNoTown l E hD  σ F1 h1) (cwV 0 hts (gU_V u_588 u_589 u_590 u_5 u_591) rfl rfl rfl q_X5_isNoTown ⟨Nat.le_of_ble_eq_true rfl, Nat.le_of_ble_eq_true rfl⟩) (z_preV hK hP hS (ci := 5) (q0 := 0) rfl rfl rfl) rfl rfl hl.1 rfl (lv_room (Nat.le_of_ble_eq_true rfl)) dX5_mend_37 ⟨Nat.le_of_ble_eq_true rfl, Nat.le_of_ble_eq_true rfl⟩)) (fun r_6 σ_5 H locs hP hS hE => ?_)
      refine z_if_eq (tgt := 50) hx hb dX5_mend_40 (by decide) hE (fun hE => ?_) (fun hE => ?_)
      · refine lv_iload_n hx hb dX5_mend_50 rfl (lv_at hl 2 rfl) ?_
        refine lv_i2l (v := (Int32.toInt64 x2)) hx hb dX5_mend_51 rfl ?_
        refine lv_aload_n hx hb dX5_mend_52 rfl (lv_at hl 0 rfl) ?_
        refine z_gol (wf := mW) hS hE (fun F1 h1 => (va_runV (As := []) (rest := [.long (Int32.toInt64 x2)]) ⟨hx, hb, hml, hown, hts⟩ (kX5_mended l E hD  σ_5 F1 h1) (cwV 0 hts (gU_V u_835 u_836 u_837 u_5 u_838) rfl rfl rfl q_X5_mended ⟨Nat.le_of_ble_eq_true rfl, Nat.le_of_ble_eq_true rfl⟩) (z_preV hK hP hS (ci := 5) (q0 := 0) rfl rfl rfl) rfl rfl hl.1 rfl (lv_room (Nat.le_of_ble_eq_true rfl)) dX5_mend_53 ⟨Nat.le_of_ble_eq_true rfl, Nat.le_of_ble_eq_true rfl⟩)) (fun r_8 σ_7 H locs hP hS hE => ?_)
        refine lv_lmul hx hb dX5_mend_56 ?_
        refine lv_iload_n hx hb dX5_mend_57 rfl (lv_at hl 1 rfl) ?_
        refine lv_i2l (v := (Int32.toInt64 x1)) hx hb dX5_mend_58 rfl ?_
        refine lv_ldc2 (v := 1000000000000) hx hb hown (hts _ u_608) dX5_mend_59 ?_
        refine lv_lmul hx hb dX5_mend_62 ?_
        refine W.lcmp hx hb dX5_mend_63 ?_
        refine z_if_lt (tgt := 71) hx hb dX5_mend_64 (by decide) hE (fun hE => ?_) (fun hE => ?_)
        · refine lv_iconst (v := 0) hx hb dX5_mend_71 (by decide) ?_
          exact z_iret hx hb hr hlk hP hS dX5_mend_72 hE
        refine lv_iconst (v := 1) hx hb dX5_mend_67 (by decide) ?_
        refine lv_goto (tgt := 72) hx hb dX5_mend_68 (by decide) ?_
        exact z_iret hx hb hr hlk hP hS dX5_mend_72 hE
      refine lv_aload_n hx hb dX5_mend_43 rfl (lv_at hl 0 rfl) ?_
      refine lv_bipush (v := -3) hx hb dX5_mend_44 (by decide) ?_
      refine z_goi (wf := mW) hS hE (fun F1 h1 => (va_runV (As := [.int (-3)]) (rest := []) ⟨hx, hb, hml, hown, hts⟩ (kX5_no l E hD (-3) σ_5 F1 h1) (cwV 1 hts (gU_V u_131 u_132 u_133 u_5 u_134) rfl rfl rfl q_X5_no ⟨Nat.le_of_ble_eq_true rfl, Nat.le_of_ble_eq_true rfl⟩) (z_preV hK hP hS (ci := 5) (q0 := 0) rfl rfl rfl) rfl rfl hl.1 rfl (lv_room (Nat.le_of_ble_eq_true rfl)) dX5_mend_46 ⟨Nat.le_of_ble_eq_true rfl, Nat.le_of_ble_eq_true rfl⟩)) (fun r_10 σ_9 H locs hP hS hE => ?_)
      exact z_iret hx hb hr hlk hP hS dX5_mend_49 hE
    refine lv_aload_n hx hb dX5_mend_29 rfl (lv_at hl 0 rfl) ?_
    refine lv_bipush (v := -6) hx hb dX5_mend_30 (by decide) ?_
    refine z_goi (wf := mW) hS hE (fun F1 h1 => (va_runV (As := [.int (-6)]) (rest := []) ⟨hx, hb, hml, hown, hts⟩ (kX5_no l E hD (-6) σ F1 h1) (cwV 1 hts (gU_V u_131 u_132 u_133 u_5 u_134) rfl rfl rfl q_X5_no ⟨Nat.le_of_ble_eq_true rfl, Nat.le_of_ble_eq_true rfl⟩) (z_preV hK hP hS (ci := 5) (q0 := 0) rfl rfl rfl) rfl rfl hl.1 rfl (lv_room (Nat.le_of_ble_eq_true rfl)) dX5_mend_32 ⟨Nat.le_of_ble_eq_true rfl, Nat.le_of_ble_eq_true rfl⟩)) (fun r_12 σ_11 H locs hP hS hE => ?_)
    exact z_iret hx hb hr hlk hP hS dX5_mend_35 hE
  refine lv_aload_n hx hb dX5_mend_9 rfl (lv_at hl 0 rfl) ?_
  refine lv_bipush (v := -4) hx hb dX5_mend_10 (by decide) ?_
  refine z_goi (wf := mW) hS hE (fun F1 h1 => (va_runV (As := [.int (-4)]) (rest := []) ⟨hx, hb, hml, hown, hts⟩ (kX5_no l E hD (-4) σ F1 h1) (cwV 1 hts (gU_V u_131 u_132 u_133 u_5 u_134) rfl rfl rfl q_X5_no ⟨Nat.le_of_ble_eq_true rfl, Nat.le_of_ble_eq_true rfl⟩) (z_preV hK hP hS (ci := 5) (q0 := 0) rfl rfl rfl) rfl rfl hl.1 rfl (lv_room (Nat.le_of_ble_eq_true rfl)) dX5_mend_12 ⟨Nat.le_of_ble_eq_true rfl, Nat.le_of_ble_eq_true rfl⟩)) (fun r_14 σ_13 H locs hP hS hE => ?_)
  exact z_iret hx hb hr hlk hP hS dX5_mend_15 hE
theorem kX5_mend (l : Launch) (E : EN) (hD : ∀ σ, va_D (eA E) (mW E σ)) (x1 : Int32) (x2 : Int32) (σ : ST) (F : Int32 × ST) (hE : fX5_mend x1 x2 σ = some F) : Met l yX5_mend wu_X5_mend r_X5_mend (zPc E mW [.ref (ea E 0), .int x1, .int x2] σ) (zQi E mW F) 0 0 (eA E) := by
  refine Met.ofW (cc := cX5_mend) (maxL := 3) (ret := (some .int)) (by decide) rfl ?_
  intro p e s m args below meth c s₁ B hml hv
  obtain ⟨rfl, hP, hK⟩ := hv
  have hl := lv_entry ([.ref (ea E 0), .int x1, .int x2]) (n := 3) (Nat.le_of_ble_eq_true rfl)
  rw [lg_entry_eq]
  generalize (lg_sl ([.ref (ea E 0), .int x1, .int x2]) ++ List.replicate (3 - (lg_sl ([.ref (ea E 0), .int x1, .int x2])).length) Slot.unset).toArray = ls at hl ⊢
  exact wX5_mend ⟨B.exec, B.bytes, hml, findClass_of_methodNamed B.named, fun w h => atoms_spec (ws := wu_X5_mend) B.pre w (List.mem_cons_of_mem _ h), B.returns, B.notSynchronized, hK, hD⟩ x1 x2 σ s.heap [] ls hl hP va_S.rf hE
