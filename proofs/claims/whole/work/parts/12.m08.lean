def fX5_mendFrom_L47 (ke : ST → Option (Int32 × ST)) : Nat → Int32 → Int64 → Int32 → ST → Option (Int32 × ST)
  | 0, _, _, _, _ => none
  | n + 1, x1, x2, x4, σ => (if 100 ≤ x4 then ke  σ else (if (lg_cmp ((Int32.toInt64 x4) * x2) ((Int32.toInt64 x1) * 1000000000000)) < 0 then bnd (x4 + 1) (fun x4_7 => fX5_mendFrom_L47 ke n x1 x2 x4_7 σ) else some (x4, σ)))
set_option maxHeartbeats 4000000 in
set_option maxRecDepth 100000 in
theorem wX5_mendFrom_L47 {p : Program} {l : Launch} {e : Env} {s : State} {m : MethodId} {args : Array Value} {below : List Frame} {meth : Method} {c : Code} {E : EN} (C : zC E mW p s m args meth c cX5_mendFrom 5 RX5 (some .int) wsL_law) {F : Int32 × ST} {ke : ST → Option (Int32 × ST)} (hke : ∀  (σ : ST) (H : Heap) (locs : List Loc) (ls : Array Slot), lv_has ls 5 [] → va_P (eD E) vwCl (mW E σ) H → va_S (eA E) s.heap H locs → ke  σ = some F → zWi E mW p l e r_X5_mendFrom s m args below meth c F H locs (F0 m 78 ls [])) : ∀ (n : Nat) (x1 : Int32) (x2 : Int64) (x4 : Int32) (σ : ST) (H : Heap) (locs : List Loc) (ls : Array Slot), lv_has ls 5 [(1, .int x1), (2, .long x2), (4, .int x4)] → va_P (eD E) vwCl (mW E σ) H → va_S (eA E) s.heap H locs → fX5_mendFrom_L47 ke n x1 x2 x4 σ = some F → zWi E mW p l e r_X5_mendFrom s m args below meth c F H locs (F0 m 47 ls []) := by
  obtain ⟨hx, hb, hml, hown, hts, hr, hlk, hK, hD⟩ := id C
  intro n
  induction n with
  | zero => intro x1 x2 x4 σ H locs ls hl hP hS hE; rw [fX5_mendFrom_L47] at hE; cases hE
  | succ n ih =>
    intro x1 x2 x4 σ H locs ls hl hP hS hE
    rw [fX5_mendFrom_L47] at hE
    refine lv_iload hx hb dX5_mendFrom_47 (lv_at hl 2 rfl) ?_
    refine lv_bipush (v := 100) hx hb dX5_mendFrom_49 (by decide) ?_
    refine z_icmp_ge (tgt := 78) hx hb dX5_mendFrom_51 (by decide) hE (fun hE => ?_) (fun hE => ?_)
    · exact hke  σ _ _ _ (lv_sub hl [] rfl) hP hS hE
    refine lv_iload hx hb dX5_mendFrom_54 (lv_at hl 2 rfl) ?_
    refine lv_i2l (v := (Int32.toInt64 x4)) hx hb dX5_mendFrom_56 rfl ?_
    refine lv_lload_n hx hb dX5_mendFrom_57 rfl (lv_at hl 1 rfl) ?_
    refine lv_lmul hx hb dX5_mendFrom_58 ?_
    refine lv_iload_n hx hb dX5_mendFrom_59 rfl (lv_at hl 0 rfl) ?_
    refine lv_i2l (v := (Int32.toInt64 x1)) hx hb dX5_mendFrom_60 rfl ?_
    refine lv_ldc2 (v := 1000000000000) hx hb hown (hts _ u_608) dX5_mendFrom_61 ?_
    refine lv_lmul hx hb dX5_mendFrom_64 ?_
    refine W.lcmp hx hb dX5_mendFrom_65 ?_
    refine z_if_lt (tgt := 72) hx hb dX5_mendFrom_66 (by decide) hE (fun hE => ?_) (fun hE => ?_)
    · refine z_iinc hx hb (v := (x4 + 1)) (k := 2) (fun x4_7 => [(4, .int x4_7), (1, .int x1), (2, .long x2)]) dX5_mendFrom_72 hl rfl (by rfl) (by decide) rfl hE (fun x4_7 ls hl hE => ?_)
      refine lv_goto (tgt := 47) hx hb dX5_mendFrom_75 (by decide) ?_
      exact ih x1 x2 x4_7 σ _ _ _ (lv_sub hl [1, 2, 0] rfl) hP hS hE
    refine lv_iload hx hb dX5_mendFrom_69 (lv_at hl 2 rfl) ?_
    exact z_iret hx hb hr hlk hP hS dX5_mendFrom_71 hE
def fX5_mendFrom  (x1 : Int32) (σ : ST) : Option (Int32 × ST) :=
  (if 0 ≤ x1 then (if x1 ≤ 999 then cali (fX5_isNoTown σ) (fun r_2 σ_1 => (if r_2 = 0 then call (fX5_mended σ_1) (fun r_4 σ_3 => bnd (r_4 : Int64) (fun x2_5 => bnd (1 : Int32) (fun x4_6 => fX5_mendFrom_L47 (fun σ_8 => some ((-9), σ_8)) FU x1 x2_5 x4_6 σ_3))) else cali (fX5_no (-3) σ_1) (fun r_10 σ_9 => some (r_10, σ_9)))) else cali (fX5_no (-6) σ) (fun r_12 σ_11 => some (r_12, σ_11))) else cali (fX5_no (-4) σ) (fun r_14 σ_13 => some (r_14, σ_13)))
set_option maxHeartbeats 4000000 in
set_option maxRecDepth 100000 in
theorem wX5_mendFrom {p : Program} {l : Launch} {e : Env} {s : State} {m : MethodId} {args : Array Value} {below : List Frame} {meth : Method} {c : Code} {E : EN} (C : zC E mW p s m args meth c cX5_mendFrom 5 RX5 (some .int) wsL_law) {F : Int32 × ST}   (x1 : Int32) (σ : ST) (H : Heap) (locs : List Loc) (ls : Array Slot) (hl : lv_has ls 5 [(0, .ref (ea E 0)), (1, .int x1)]) (hP : va_P (eD E) vwCl (mW E σ) H) (hS : va_S (eA E) s.heap H locs) (hE : fX5_mendFrom  x1 σ = some F) : zWi E mW p l e r_X5_mendFrom s m args below meth c F H locs (F0 m 0 ls []) := by
  obtain ⟨hx, hb, hml, hown, hts, hr, hlk, hK, hD⟩ := id C
  unfold fX5_mendFrom at hE
  refine lv_iload_n hx hb dX5_mendFrom_0 rfl (lv_at hl 1 rfl) ?_
  refine z_if_ge (tgt := 11) hx hb dX5_mendFrom_1 (by decide) hE (fun hE => ?_) (fun hE => ?_)
  · refine lv_iload_n hx hb dX5_mendFrom_11 rfl (lv_at hl 1 rfl) ?_
    refine lv_sipush (v := 999) hx hb dX5_mendFrom_12 (by decide) ?_
    refine z_icmp_le (tgt := 25) hx hb dX5_mendFrom_15 (by decide) hE (fun hE => ?_) (fun hE => ?_)
    · refine lv_aload_n hx hb dX5_mendFrom_25 rfl (lv_at hl 0 rfl) ?_
      refine z_goi (wf := mW) hS hE (fun F1 h1 => (va_runV (As := []) (rest := []) ⟨hx, hb, hml, hown, hts⟩ (kX5_isNoTown l E hD  σ F1 h1) (cwV 0 hts (gU_V u_588 u_589 u_590 u_5 u_591) rfl rfl rfl q_X5_isNoTown ⟨Nat.le_of_ble_eq_true rfl, Nat.le_of_ble_eq_true rfl⟩) (z_preV hK hP hS (ci := 5) (q0 := 0) rfl rfl rfl) rfl rfl hl.1 rfl (lv_room (Nat.le_of_ble_eq_true rfl)) dX5_mendFrom_26 ⟨Nat.le_of_ble_eq_true rfl, Nat.le_of_ble_eq_true rfl⟩)) (fun r_2 σ_1 H locs hP hS hE => ?_)
      refine z_if_eq (tgt := 39) hx hb dX5_mendFrom_29 (by decide) hE (fun hE => ?_) (fun hE => ?_)
      · refine lv_aload_n hx hb dX5_mendFrom_39 rfl (lv_at hl 0 rfl) ?_
        refine z_gol (wf := mW) hS hE (fun F1 h1 => (va_runV (As := []) (rest := []) ⟨hx, hb, hml, hown, hts⟩ (kX5_mended l E hD  σ_1 F1 h1) (cwV 0 hts (gU_V u_835 u_836 u_837 u_5 u_838) rfl rfl rfl q_X5_mended ⟨Nat.le_of_ble_eq_true rfl, Nat.le_of_ble_eq_true rfl⟩) (z_preV hK hP hS (ci := 5) (q0 := 0) rfl rfl rfl) rfl rfl hl.1 rfl (lv_room (Nat.le_of_ble_eq_true rfl)) dX5_mendFrom_40 ⟨Nat.le_of_ble_eq_true rfl, Nat.le_of_ble_eq_true rfl⟩)) (fun r_4 σ_3 H locs hP hS hE => ?_)
        refine z_lstore_n hx hb (fun x2_5 => [(2, .long x2_5), (0, .ref (ea E 0)), (1, .int x1)]) dX5_mendFrom_43 rfl hl (by decide) rfl hE (fun x2_5 ls hl hE => ?_)
        refine lv_iconst (v := 1) hx hb dX5_mendFrom_44 (by decide) ?_
        refine z_istore hx hb (fun x4_6 => [(4, .int x4_6), (2, .long x2_5), (0, .ref (ea E 0)), (1, .int x1)]) dX5_mendFrom_45 hl (by decide) rfl hE (fun x4_6 ls hl hE => ?_)
        refine wX5_mendFrom_L47 C ?_ FU x1 x2_5 x4_6 σ_3 _ _ _ (lv_sub hl [3, 1, 0] rfl) hP hS hE
        intro σ_8 H locs ls hl hP hS hE
        refine lv_bipush (v := -9) hx hb dX5_mendFrom_78 (by decide) ?_
        exact z_iret hx hb hr hlk hP hS dX5_mendFrom_80 hE
      refine lv_aload_n hx hb dX5_mendFrom_32 rfl (lv_at hl 0 rfl) ?_
      refine lv_bipush (v := -3) hx hb dX5_mendFrom_33 (by decide) ?_
      refine z_goi (wf := mW) hS hE (fun F1 h1 => (va_runV (As := [.int (-3)]) (rest := []) ⟨hx, hb, hml, hown, hts⟩ (kX5_no l E hD (-3) σ_1 F1 h1) (cwV 1 hts (gU_V u_131 u_132 u_133 u_5 u_134) rfl rfl rfl q_X5_no ⟨Nat.le_of_ble_eq_true rfl, Nat.le_of_ble_eq_true rfl⟩) (z_preV hK hP hS (ci := 5) (q0 := 0) rfl rfl rfl) rfl rfl hl.1 rfl (lv_room (Nat.le_of_ble_eq_true rfl)) dX5_mendFrom_35 ⟨Nat.le_of_ble_eq_true rfl, Nat.le_of_ble_eq_true rfl⟩)) (fun r_10 σ_9 H locs hP hS hE => ?_)
      exact z_iret hx hb hr hlk hP hS dX5_mendFrom_38 hE
    refine lv_aload_n hx hb dX5_mendFrom_18 rfl (lv_at hl 0 rfl) ?_
    refine lv_bipush (v := -6) hx hb dX5_mendFrom_19 (by decide) ?_
    refine z_goi (wf := mW) hS hE (fun F1 h1 => (va_runV (As := [.int (-6)]) (rest := []) ⟨hx, hb, hml, hown, hts⟩ (kX5_no l E hD (-6) σ F1 h1) (cwV 1 hts (gU_V u_131 u_132 u_133 u_5 u_134) rfl rfl rfl q_X5_no ⟨Nat.le_of_ble_eq_true rfl, Nat.le_of_ble_eq_true rfl⟩) (z_preV hK hP hS (ci := 5) (q0 := 0) rfl rfl rfl) rfl rfl hl.1 rfl (lv_room (Nat.le_of_ble_eq_true rfl)) dX5_mendFrom_21 ⟨Nat.le_of_ble_eq_true rfl, Nat.le_of_ble_eq_true rfl⟩)) (fun r_12 σ_11 H locs hP hS hE => ?_)
    exact z_iret hx hb hr hlk hP hS dX5_mendFrom_24 hE
  refine lv_aload_n hx hb dX5_mendFrom_4 rfl (lv_at hl 0 rfl) ?_
  refine lv_bipush (v := -4) hx hb dX5_mendFrom_5 (by decide) ?_
  refine z_goi (wf := mW) hS hE (fun F1 h1 => (va_runV (As := [.int (-4)]) (rest := []) ⟨hx, hb, hml, hown, hts⟩ (kX5_no l E hD (-4) σ F1 h1) (cwV 1 hts (gU_V u_131 u_132 u_133 u_5 u_134) rfl rfl rfl q_X5_no ⟨Nat.le_of_ble_eq_true rfl, Nat.le_of_ble_eq_true rfl⟩) (z_preV hK hP hS (ci := 5) (q0 := 0) rfl rfl rfl) rfl rfl hl.1 rfl (lv_room (Nat.le_of_ble_eq_true rfl)) dX5_mendFrom_7 ⟨Nat.le_of_ble_eq_true rfl, Nat.le_of_ble_eq_true rfl⟩)) (fun r_14 σ_13 H locs hP hS hE => ?_)
  exact z_iret hx hb hr hlk hP hS dX5_mendFrom_10 hE
theorem kX5_mendFrom (l : Launch) (E : EN) (hD : ∀ σ, va_D (eA E) (mW E σ)) (x1 : Int32) (σ : ST) (F : Int32 × ST) (hE : fX5_mendFrom x1 σ = some F) : Met l yX5_mendFrom wu_X5_mendFrom r_X5_mendFrom (zPc E mW [.ref (ea E 0), .int x1] σ) (zQi E mW F) 0 0 (eA E) := by
  refine Met.ofW (cc := cX5_mendFrom) (maxL := 5) (ret := (some .int)) (by decide) rfl ?_
  intro p e s m args below meth c s₁ B hml hv
  obtain ⟨rfl, hP, hK⟩ := hv
  have hl := lv_entry ([.ref (ea E 0), .int x1]) (n := 5) (Nat.le_of_ble_eq_true rfl)
  rw [lg_entry_eq]
  generalize (lg_sl ([.ref (ea E 0), .int x1]) ++ List.replicate (5 - (lg_sl ([.ref (ea E 0), .int x1])).length) Slot.unset).toArray = ls at hl ⊢
  exact wX5_mendFrom ⟨B.exec, B.bytes, hml, findClass_of_methodNamed B.named, fun w h => atoms_spec (ws := wu_X5_mendFrom) B.pre w (List.mem_cons_of_mem _ h), B.returns, B.notSynchronized, hK, hD⟩ x1 σ s.heap [] ls hl hP va_S.rf hE
def fX5_onFoot_L53 (ke : Int32 → Int32 → Int32 → ST → Option (Int32 × ST)) : Nat → Int32 → Int32 → Int32 → Int32 → Int32 → Int32 → ST → Option (Int32 × ST)
  | 0, _, _, _, _, _, _, _ => none
  | n + 1, x1, x2, x3, x4, x5, x6, σ => ald (gA σ 1) 200 0 (fun v_11 => (if v_11 ≤ x6 then ke x3 x4 x5 σ else ald (gA σ 8) 64 ((8 * x6) + x1) (fun v_12 => ald (gA σ 8) 64 ((8 * x6) + x2) (fun v_13 => bnd ((v_12 + v_13) : Int32) (fun x7_14 => cali (fX5_starts x6 σ) (fun r_16 σ_15 => (if r_16 = 10 then (if x5 ≤ x7_14 then bnd (x6 + 1) (fun x6_18 => fX5_onFoot_L53 ke n x1 x2 x3 x4 x5 x6_18 σ_15) else bnd (x7_14 : Int32) (fun x5_19 => bnd (x6 : Int32) (fun x4_20 => bnd (x6 + 1) (fun x6_21 => fX5_onFoot_L53 ke n x1 x2 x3 x4_20 x5_19 x6_21 σ_15)))) else bnd (x6 + 1) (fun x6_17 => fX5_onFoot_L53 ke n x1 x2 x3 x4 x5 x6_17 σ_15))))))))
set_option maxHeartbeats 4000000 in
set_option maxRecDepth 100000 in
theorem wX5_onFoot_L53 {p : Program} {l : Launch} {e : Env} {s : State} {m : MethodId} {args : Array Value} {below : List Frame} {meth : Method} {c : Code} {E : EN} (C : zC E mW p s m args meth c cX5_onFoot 8 RX5 (some .int) wsL_law) {F : Int32 × ST} {ke : Int32 → Int32 → Int32 → ST → Option (Int32 × ST)} (hke : ∀ (x3 : Int32) (x4 : Int32) (x5 : Int32) (σ : ST) (H : Heap) (locs : List Loc) (ls : Array Slot), lv_has ls 8 [(3, .int x3), (4, .int x4), (5, .int x5)] → va_P (eD E) vwCl (mW E σ) H → va_S (eA E) s.heap H locs → ke x3 x4 x5 σ = some F → zWi E mW p l e r_X5_onFoot s m args below meth c F H locs (F0 m 123 ls [])) : ∀ (n : Nat) (x1 : Int32) (x2 : Int32) (x3 : Int32) (x4 : Int32) (x5 : Int32) (x6 : Int32) (σ : ST) (H : Heap) (locs : List Loc) (ls : Array Slot), lv_has ls 8 [(0, .ref (ea E 0)), (1, .int x1), (2, .int x2), (3, .int x3), (4, .int x4), (5, .int x5), (6, .int x6)] → va_P (eD E) vwCl (mW E σ) H → va_S (eA E) s.heap H locs → fX5_onFoot_L53 ke n x1 x2 x3 x4 x5 x6 σ = some F → zWi E mW p l e r_X5_onFoot s m args below meth c F H locs (F0 m 53 ls []) := by
  obtain ⟨hx, hb, hml, hown, hts, hr, hlk, hK, hD⟩ := id C
  have hwX5 : ∀ w ∈ wsX50, w.before args s = true := fun w h => hts w (inlX5 w h)
  intro n
  induction n with
  | zero => intro x1 x2 x3 x4 x5 x6 σ H locs ls hl hP hS hE; rw [fX5_onFoot_L53] at hE; cases hE
  | succ n ih =>
    intro x1 x2 x3 x4 x5 x6 σ H locs ls hl hP hS hE
    rw [fX5_onFoot_L53] at hE
    refine lv_iload hx hb dX5_onFoot_53 (lv_at hl 6 rfl) ?_
    refine lv_aload_n hx hb dX5_onFoot_55 rfl (lv_at hl 0 rfl) ?_
    refine mg_0_1 hx hb hown hwX5 (hts _ u_97) hK hP dX5_onFoot_56 ?_
    refine lv_iconst (v := 0) hx hb dX5_onFoot_59 (by decide) ?_
    refine ma_2 hx hb hK hP dX5_onFoot_60 hE (fun v_11 hE => ?_)
    refine z_icmp_ge (tgt := 123) hx hb dX5_onFoot_61 (by decide) hE (fun hE => ?_) (fun hE => ?_)
    · exact hke x3 x4 x5 σ _ _ _ (lv_sub hl [3, 4, 5] rfl) hP hS hE
    refine lv_aload_n hx hb dX5_onFoot_64 rfl (lv_at hl 0 rfl) ?_
    refine mg_0_16 hx hb hown hwX5 (hts _ u_106) hK hP dX5_onFoot_65 ?_
    refine lv_bipush (v := 8) hx hb dX5_onFoot_68 (by decide) ?_
    refine lv_iload hx hb dX5_onFoot_70 (lv_at hl 6 rfl) ?_
    refine lv_imul hx hb dX5_onFoot_72 ?_
    refine lv_iload_n hx hb dX5_onFoot_73 rfl (lv_at hl 1 rfl) ?_
    refine lv_iadd hx hb dX5_onFoot_74 ?_
    refine ma_9 hx hb hK hP dX5_onFoot_75 hE (fun v_12 hE => ?_)
    refine lv_aload_n hx hb dX5_onFoot_76 rfl (lv_at hl 0 rfl) ?_
    refine mg_0_16 hx hb hown hwX5 (hts _ u_106) hK hP dX5_onFoot_77 ?_
    refine lv_bipush (v := 8) hx hb dX5_onFoot_80 (by decide) ?_
    refine lv_iload hx hb dX5_onFoot_82 (lv_at hl 6 rfl) ?_
    refine lv_imul hx hb dX5_onFoot_84 ?_
    refine lv_iload_n hx hb dX5_onFoot_85 rfl (lv_at hl 2 rfl) ?_
    refine lv_iadd hx hb dX5_onFoot_86 ?_
    refine ma_9 hx hb hK hP dX5_onFoot_87 hE (fun v_13 hE => ?_)
    refine lv_iadd hx hb dX5_onFoot_88 ?_
    refine z_istore hx hb (fun x7_14 => [(7, .int x7_14), (0, .ref (ea E 0)), (1, .int x1), (2, .int x2), (3, .int x3), (4, .int x4), (5, .int x5), (6, .int x6)]) dX5_onFoot_89 hl (by decide) rfl hE (fun x7_14 ls hl hE => ?_)
    refine lv_aload_n hx hb dX5_onFoot_91 rfl (lv_at hl 1 rfl) ?_
    refine lv_iload hx hb dX5_onFoot_92 (lv_at hl 7 rfl) ?_
    refine z_goi (wf := mW) hS hE (fun F1 h1 => (va_runV (As := [.int x6]) (rest := []) ⟨hx, hb, hml, hown, hts⟩ (kX5_starts l E hD x6 σ F1 h1) (cwV 1 hts (gU_V u_414 u_415 u_416 u_5 u_417) rfl rfl rfl q_X5_starts ⟨Nat.le_of_ble_eq_true rfl, Nat.le_of_ble_eq_true rfl⟩) (z_preV hK hP hS (ci := 5) (q0 := 0) rfl rfl rfl) rfl rfl hl.1 rfl (lv_room (Nat.le_of_ble_eq_true rfl)) dX5_onFoot_94 ⟨Nat.le_of_ble_eq_true rfl, Nat.le_of_ble_eq_true rfl⟩)) (fun r_16 σ_15 H locs hP hS hE => ?_)
    refine lv_bipush (v := 10) hx hb dX5_onFoot_97 (by decide) ?_
    refine z_icmp_ne (tgt := 117) hx hb dX5_onFoot_99 (by decide) hE (fun hE => ?_) (fun hE => ?_)
    · refine z_iinc hx hb (v := (x6 + 1)) (k := 7) (fun x6_17 => [(6, .int x6_17), (7, .int x7_14), (0, .ref (ea E 0)), (1, .int x1), (2, .int x2), (3, .int x3), (4, .int x4), (5, .int x5)]) dX5_onFoot_117 hl rfl (by rfl) (by decide) rfl hE (fun x6_17 ls hl hE => ?_)
      refine lv_goto (tgt := 53) hx hb dX5_onFoot_120 (by decide) ?_
      exact ih x1 x2 x3 x4 x5 x6_17 σ_15 _ _ _ (lv_sub hl [2, 3, 4, 5, 6, 7, 0] rfl) hP hS hE
    refine lv_iload hx hb dX5_onFoot_102 (lv_at hl 0 rfl) ?_
    refine lv_iload hx hb dX5_onFoot_104 (lv_at hl 6 rfl) ?_
    refine z_icmp_ge (tgt := 117) hx hb dX5_onFoot_106 (by decide) hE (fun hE => ?_) (fun hE => ?_)
    · refine z_iinc hx hb (v := (x6 + 1)) (k := 7) (fun x6_18 => [(6, .int x6_18), (7, .int x7_14), (0, .ref (ea E 0)), (1, .int x1), (2, .int x2), (3, .int x3), (4, .int x4), (5, .int x5)]) dX5_onFoot_117 hl rfl (by rfl) (by decide) rfl hE (fun x6_18 ls hl hE => ?_)
      refine lv_goto (tgt := 53) hx hb dX5_onFoot_120 (by decide) ?_
      exact ih x1 x2 x3 x4 x5 x6_18 σ_15 _ _ _ (lv_sub hl [2, 3, 4, 5, 6, 7, 0] rfl) hP hS hE
    refine lv_iload hx hb dX5_onFoot_109 (lv_at hl 0 rfl) ?_
    refine z_istore hx hb (fun x5_19 => [(5, .int x5_19), (7, .int x7_14), (0, .ref (ea E 0)), (1, .int x1), (2, .int x2), (3, .int x3), (4, .int x4), (6, .int x6)]) dX5_onFoot_111 hl (by decide) rfl hE (fun x5_19 ls hl hE => ?_)
    refine lv_iload hx hb dX5_onFoot_113 (lv_at hl 7 rfl) ?_
    refine z_istore hx hb (fun x4_20 => [(4, .int x4_20), (5, .int x5_19), (7, .int x7_14), (0, .ref (ea E 0)), (1, .int x1), (2, .int x2), (3, .int x3), (6, .int x6)]) dX5_onFoot_115 hl (by decide) rfl hE (fun x4_20 ls hl hE => ?_)
    refine z_iinc hx hb (v := (x6 + 1)) (k := 7) (fun x6_21 => [(6, .int x6_21), (4, .int x4_20), (5, .int x5_19), (7, .int x7_14), (0, .ref (ea E 0)), (1, .int x1), (2, .int x2), (3, .int x3)]) dX5_onFoot_117 hl rfl (by rfl) (by decide) rfl hE (fun x6_21 ls hl hE => ?_)
    refine lv_goto (tgt := 53) hx hb dX5_onFoot_120 (by decide) ?_
    exact ih x1 x2 x3 x4_20 x5_19 x6_21 σ_15 _ _ _ (lv_sub hl [4, 5, 6, 7, 1, 2, 0] rfl) hP hS hE
def fX5_onFoot_J38  (x1 : Int32) (x2 : Int32) (x3 : Int32) (σ : ST) : Option (Int32 × ST) :=
  calv (fX5_legs σ) (fun σ_7 => bnd ((-9) : Int32) (fun x4_8 => bnd (100000 : Int32) (fun x5_9 => bnd (0 : Int32) (fun x6_10 => fX5_onFoot_L53 (fun x3_22 x4_23 x5_24 σ_25 => (if x4_23 = (-9) then some ((-9), σ_25) else (if x3_22 = 0 then some (x4_23, σ_25) else some ((10 * x5_24), σ_25)))) FU x1 x2 x3 x4_8 x5_9 x6_10 σ_7))))
set_option maxHeartbeats 4000000 in
set_option maxRecDepth 100000 in
theorem wX5_onFoot_J38 {p : Program} {l : Launch} {e : Env} {s : State} {m : MethodId} {args : Array Value} {below : List Frame} {meth : Method} {c : Code} {E : EN} (C : zC E mW p s m args meth c cX5_onFoot 8 RX5 (some .int) wsL_law) {F : Int32 × ST}   (x1 : Int32) (x2 : Int32) (x3 : Int32) (σ : ST) (H : Heap) (locs : List Loc) (ls : Array Slot) (hl : lv_has ls 8 [(0, .ref (ea E 0)), (1, .int x1), (2, .int x2), (3, .int x3)]) (hP : va_P (eD E) vwCl (mW E σ) H) (hS : va_S (eA E) s.heap H locs) (hE : fX5_onFoot_J38  x1 x2 x3 σ = some F) : zWi E mW p l e r_X5_onFoot s m args below meth c F H locs (F0 m 38 ls []) := by
  obtain ⟨hx, hb, hml, hown, hts, hr, hlk, hK, hD⟩ := id C
  unfold fX5_onFoot_J38 at hE
  refine lv_aload_n hx hb dX5_onFoot_38 rfl (lv_at hl 0 rfl) ?_
  refine z_gov (wf := mW) hS hE (fun F1 h1 => (va_runV (As := []) (rest := []) ⟨hx, hb, hml, hown, hts⟩ (kX5_legs l E hD  σ F1 h1) (cwV 0 hts (gU_V u_498 u_499 u_500 u_5 u_501) rfl rfl rfl q_X5_legs ⟨Nat.le_of_ble_eq_true rfl, Nat.le_of_ble_eq_true rfl⟩) (z_preV hK hP hS (ci := 5) (q0 := 0) rfl rfl rfl) rfl rfl hl.1 rfl (lv_room (Nat.le_of_ble_eq_true rfl)) dX5_onFoot_39 ⟨Nat.le_of_ble_eq_true rfl, Nat.le_of_ble_eq_true rfl⟩)) (fun σ_7 H locs hP hS hE => ?_)
  refine lv_bipush (v := -9) hx hb dX5_onFoot_42 (by decide) ?_
  refine z_istore hx hb (fun x4_8 => [(4, .int x4_8), (0, .ref (ea E 0)), (1, .int x1), (2, .int x2), (3, .int x3)]) dX5_onFoot_44 hl (by decide) rfl hE (fun x4_8 ls hl hE => ?_)
  refine lv_ldc (v := 100000) hx hb hown (hts _ u_497) dX5_onFoot_46 ?_
  refine z_istore hx hb (fun x5_9 => [(5, .int x5_9), (4, .int x4_8), (0, .ref (ea E 0)), (1, .int x1), (2, .int x2), (3, .int x3)]) dX5_onFoot_48 hl (by decide) rfl hE (fun x5_9 ls hl hE => ?_)
  refine lv_iconst (v := 0) hx hb dX5_onFoot_50 (by decide) ?_
  refine z_istore hx hb (fun x6_10 => [(6, .int x6_10), (5, .int x5_9), (4, .int x4_8), (0, .ref (ea E 0)), (1, .int x1), (2, .int x2), (3, .int x3)]) dX5_onFoot_51 hl (by decide) rfl hE (fun x6_10 ls hl hE => ?_)
  refine wX5_onFoot_L53 C ?_ FU x1 x2 x3 x4_8 x5_9 x6_10 σ_7 _ _ _ (lv_sub hl [3, 4, 5, 6, 2, 1, 0] rfl) hP hS hE
  intro x3_22 x4_23 x5_24 σ_25 H locs ls hl hP hS hE
  refine lv_iload hx hb dX5_onFoot_123 (lv_at hl 1 rfl) ?_
  refine lv_bipush (v := -9) hx hb dX5_onFoot_125 (by decide) ?_
  refine z_icmp_ne (tgt := 135) hx hb dX5_onFoot_127 (by decide) hE (fun hE => ?_) (fun hE => ?_)
  · refine lv_iload_n hx hb dX5_onFoot_135 rfl (lv_at hl 0 rfl) ?_
    refine z_if_ne (tgt := 144) hx hb dX5_onFoot_136 (by decide) hE (fun hE => ?_) (fun hE => ?_)
    · refine lv_bipush (v := 10) hx hb dX5_onFoot_144 (by decide) ?_
      refine lv_iload hx hb dX5_onFoot_146 (lv_at hl 2 rfl) ?_
      refine lv_imul hx hb dX5_onFoot_148 ?_
      exact z_iret hx hb hr hlk hP hS dX5_onFoot_149 hE
    refine lv_iload hx hb dX5_onFoot_139 (lv_at hl 1 rfl) ?_
    refine lv_goto (tgt := 149) hx hb dX5_onFoot_141 (by decide) ?_
    exact z_iret hx hb hr hlk hP hS dX5_onFoot_149 hE
  refine lv_bipush (v := -9) hx hb dX5_onFoot_130 (by decide) ?_
  refine lv_goto (tgt := 149) hx hb dX5_onFoot_132 (by decide) ?_
  exact z_iret hx hb hr hlk hP hS dX5_onFoot_149 hE
def fX5_onFoot  (x1 : Int32) (x2 : Int32) (x3 : Int32) (σ : ST) : Option (Int32 × ST) :=
  cali (fX5_isNoPlace x1 σ) (fun r_2 σ_1 => (if r_2 = 0 then cali (fX5_isNoPlace x2 σ_1) (fun r_6 σ_5 => (if r_6 = 0 then (if x3 = 0 then fX5_onFoot_J38  x1 x2 x3 σ_5 else (if x3 = 1 then fX5_onFoot_J38  x1 x2 x3 σ_5 else cali (fX5_no (-2) σ_5) (fun r_27 σ_26 => some (r_27, σ_26)))) else cali (fX5_no (-1) σ_5) (fun r_29 σ_28 => some (r_29, σ_28)))) else cali (fX5_no (-1) σ_1) (fun r_4 σ_3 => some (r_4, σ_3))))
set_option maxHeartbeats 4000000 in
set_option maxRecDepth 100000 in
theorem wX5_onFoot {p : Program} {l : Launch} {e : Env} {s : State} {m : MethodId} {args : Array Value} {below : List Frame} {meth : Method} {c : Code} {E : EN} (C : zC E mW p s m args meth c cX5_onFoot 8 RX5 (some .int) wsL_law) {F : Int32 × ST}   (x1 : Int32) (x2 : Int32) (x3 : Int32) (σ : ST) (H : Heap) (locs : List Loc) (ls : Array Slot) (hl : lv_has ls 8 [(0, .ref (ea E 0)), (1, .int x1), (2, .int x2), (3, .int x3)]) (hP : va_P (eD E) vwCl (mW E σ) H) (hS : va_S (eA E) s.heap H locs) (hE : fX5_onFoot  x1 x2 x3 σ = some F) : zWi E mW p l e r_X5_onFoot s m args below meth c F H locs (F0 m 0 ls []) := by
  obtain ⟨hx, hb, hml, hown, hts, hr, hlk, hK, hD⟩ := id C
  unfold fX5_onFoot at hE
  refine lv_aload_n hx hb dX5_onFoot_0 rfl (lv_at hl 0 rfl) ?_
  refine lv_iload_n hx hb dX5_onFoot_1 rfl (lv_at hl 1 rfl) ?_
  refine z_goi (wf := mW) hS hE (fun F1 h1 => (va_runV (As := [.int x1]) (rest := []) ⟨hx, hb, hml, hown, hts⟩ (kX5_isNoPlace l E hD x1 σ F1 h1) (cwV 1 hts (gU_V u_410 u_411 u_412 u_5 u_413) rfl rfl rfl q_X5_isNoPlace ⟨Nat.le_of_ble_eq_true rfl, Nat.le_of_ble_eq_true rfl⟩) (z_preV hK hP hS (ci := 5) (q0 := 0) rfl rfl rfl) rfl rfl hl.1 rfl (lv_room (Nat.le_of_ble_eq_true rfl)) dX5_onFoot_2 ⟨Nat.le_of_ble_eq_true rfl, Nat.le_of_ble_eq_true rfl⟩)) (fun r_2 σ_1 H locs hP hS hE => ?_)
  refine z_if_ne (tgt := 16) hx hb dX5_onFoot_5 (by decide) hE (fun hE => ?_) (fun hE => ?_)
  · refine lv_aload_n hx hb dX5_onFoot_16 rfl (lv_at hl 0 rfl) ?_
    refine lv_iconst (v := -1) hx hb dX5_onFoot_17 (by decide) ?_
    refine z_goi (wf := mW) hS hE (fun F1 h1 => (va_runV (As := [.int (-1)]) (rest := []) ⟨hx, hb, hml, hown, hts⟩ (kX5_no l E hD (-1) σ_1 F1 h1) (cwV 1 hts (gU_V u_131 u_132 u_133 u_5 u_134) rfl rfl rfl q_X5_no ⟨Nat.le_of_ble_eq_true rfl, Nat.le_of_ble_eq_true rfl⟩) (z_preV hK hP hS (ci := 5) (q0 := 0) rfl rfl rfl) rfl rfl hl.1 rfl (lv_room (Nat.le_of_ble_eq_true rfl)) dX5_onFoot_18 ⟨Nat.le_of_ble_eq_true rfl, Nat.le_of_ble_eq_true rfl⟩)) (fun r_4 σ_3 H locs hP hS hE => ?_)
    exact z_iret hx hb hr hlk hP hS dX5_onFoot_21 hE
  refine lv_aload_n hx hb dX5_onFoot_8 rfl (lv_at hl 0 rfl) ?_
  refine lv_iload_n hx hb dX5_onFoot_9 rfl (lv_at hl 2 rfl) ?_
  refine z_goi (wf := mW) hS hE (fun F1 h1 => (va_runV (As := [.int x2]) (rest := []) ⟨hx, hb, hml, hown, hts⟩ (kX5_isNoPlace l E hD x2 σ_1 F1 h1) (cwV 1 hts (gU_V u_410 u_411 u_412 u_5 u_413) rfl rfl rfl q_X5_isNoPlace ⟨Nat.le_of_ble_eq_true rfl, Nat.le_of_ble_eq_true rfl⟩) (z_preV hK hP hS (ci := 5) (q0 := 0) rfl rfl rfl) rfl rfl hl.1 rfl (lv_room (Nat.le_of_ble_eq_true rfl)) dX5_onFoot_10 ⟨Nat.le_of_ble_eq_true rfl, Nat.le_of_ble_eq_true rfl⟩)) (fun r_6 σ_5 H locs hP hS hE => ?_)
  refine z_if_eq (tgt := 22) hx hb dX5_onFoot_13 (by decide) hE (fun hE => ?_) (fun hE => ?_)
  · refine lv_iload_n hx hb dX5_onFoot_22 rfl (lv_at hl 3 rfl) ?_
    refine z_if_eq (tgt := 38) hx hb dX5_onFoot_23 (by decide) hE (fun hE => ?_) (fun hE => ?_)
    · exact wX5_onFoot_J38 C  x1 x2 x3 σ_5 _ _ _ (lv_sub hl [0, 1, 2, 3] rfl) hP hS hE
    refine lv_iload_n hx hb dX5_onFoot_26 rfl (lv_at hl 3 rfl) ?_
    refine lv_iconst (v := 1) hx hb dX5_onFoot_27 (by decide) ?_
    refine z_icmp_eq (tgt := 38) hx hb dX5_onFoot_28 (by decide) hE (fun hE => ?_) (fun hE => ?_)
    · exact wX5_onFoot_J38 C  x1 x2 x3 σ_5 _ _ _ (lv_sub hl [0, 1, 2, 3] rfl) hP hS hE
    refine lv_aload_n hx hb dX5_onFoot_31 rfl (lv_at hl 0 rfl) ?_
    refine lv_bipush (v := -2) hx hb dX5_onFoot_32 (by decide) ?_
    refine z_goi (wf := mW) hS hE (fun F1 h1 => (va_runV (As := [.int (-2)]) (rest := []) ⟨hx, hb, hml, hown, hts⟩ (kX5_no l E hD (-2) σ_5 F1 h1) (cwV 1 hts (gU_V u_131 u_132 u_133 u_5 u_134) rfl rfl rfl q_X5_no ⟨Nat.le_of_ble_eq_true rfl, Nat.le_of_ble_eq_true rfl⟩) (z_preV hK hP hS (ci := 5) (q0 := 0) rfl rfl rfl) rfl rfl hl.1 rfl (lv_room (Nat.le_of_ble_eq_true rfl)) dX5_onFoot_34 ⟨Nat.le_of_ble_eq_true rfl, Nat.le_of_ble_eq_true rfl⟩)) (fun r_27 σ_26 H locs hP hS hE => ?_)
    exact z_iret hx hb hr hlk hP hS dX5_onFoot_37 hE
  refine lv_aload_n hx hb dX5_onFoot_16 rfl (lv_at hl 0 rfl) ?_
  refine lv_iconst (v := -1) hx hb dX5_onFoot_17 (by decide) ?_
  refine z_goi (wf := mW) hS hE (fun F1 h1 => (va_runV (As := [.int (-1)]) (rest := []) ⟨hx, hb, hml, hown, hts⟩ (kX5_no l E hD (-1) σ_5 F1 h1) (cwV 1 hts (gU_V u_131 u_132 u_133 u_5 u_134) rfl rfl rfl q_X5_no ⟨Nat.le_of_ble_eq_true rfl, Nat.le_of_ble_eq_true rfl⟩) (z_preV hK hP hS (ci := 5) (q0 := 0) rfl rfl rfl) rfl rfl hl.1 rfl (lv_room (Nat.le_of_ble_eq_true rfl)) dX5_onFoot_18 ⟨Nat.le_of_ble_eq_true rfl, Nat.le_of_ble_eq_true rfl⟩)) (fun r_29 σ_28 H locs hP hS hE => ?_)
  exact z_iret hx hb hr hlk hP hS dX5_onFoot_21 hE
theorem kX5_onFoot (l : Launch) (E : EN) (hD : ∀ σ, va_D (eA E) (mW E σ)) (x1 : Int32) (x2 : Int32) (x3 : Int32) (σ : ST) (F : Int32 × ST) (hE : fX5_onFoot x1 x2 x3 σ = some F) : Met l yX5_onFoot wu_X5_onFoot r_X5_onFoot (zPc E mW [.ref (ea E 0), .int x1, .int x2, .int x3] σ) (zQi E mW F) 0 0 (eA E) := by
  refine Met.ofW (cc := cX5_onFoot) (maxL := 8) (ret := (some .int)) (by decide) rfl ?_
  intro p e s m args below meth c s₁ B hml hv
  obtain ⟨rfl, hP, hK⟩ := hv
  have hl := lv_entry ([.ref (ea E 0), .int x1, .int x2, .int x3]) (n := 8) (Nat.le_of_ble_eq_true rfl)
  rw [lg_entry_eq]
  generalize (lg_sl ([.ref (ea E 0), .int x1, .int x2, .int x3]) ++ List.replicate (8 - (lg_sl ([.ref (ea E 0), .int x1, .int x2, .int x3])).length) Slot.unset).toArray = ls at hl ⊢
  exact wX5_onFoot ⟨B.exec, B.bytes, hml, findClass_of_methodNamed B.named, fun w h => atoms_spec (ws := wu_X5_onFoot) B.pre w (List.mem_cons_of_mem _ h), B.returns, B.notSynchronized, hK, hD⟩ x1 x2 x3 σ s.heap [] ls hl hP va_S.rf hE
def fX5_onTheWay  (x1 : Int32) (x2 : Int32) (x3 : Int32) (σ : ST) : Option (Int32 × ST) :=
  cali (fX5_isNoPlace x1 σ) (fun r_2 σ_1 => (if r_2 = 0 then cali (fX5_isNoPlace x2 σ_1) (fun r_6 σ_5 => (if r_6 = 0 then cali (fX5_isNoPlace x3 σ_5) (fun r_10 σ_9 => (if r_10 = 0 then calv (fX5_legs σ_9) (fun σ_11 => ald (gA σ_11 8) 64 ((8 * x2) + x1) (fun v_12 => ald (gA σ_11 8) 64 ((8 * x1) + x3) (fun v_13 => bnd ((v_12 + v_13) : Int32) (fun x4_14 => (if 100000 ≤ x4_14 then some (0, σ_11) else ald (gA σ_11 8) 64 ((8 * x2) + x3) (fun v_15 => (if x4_14 = v_15 then some (1, σ_11) else some (0, σ_11)))))))) else cali (fX5_no (-1) σ_9) (fun r_17 σ_16 => some (r_17, σ_16)))) else cali (fX5_no (-1) σ_5) (fun r_8 σ_7 => some (r_8, σ_7)))) else cali (fX5_no (-1) σ_1) (fun r_4 σ_3 => some (r_4, σ_3))))
set_option maxHeartbeats 4000000 in
set_option maxRecDepth 100000 in
theorem wX5_onTheWay {p : Program} {l : Launch} {e : Env} {s : State} {m : MethodId} {args : Array Value} {below : List Frame} {meth : Method} {c : Code} {E : EN} (C : zC E mW p s m args meth c cX5_onTheWay 5 RX5 (some .int) wsL_law) {F : Int32 × ST}   (x1 : Int32) (x2 : Int32) (x3 : Int32) (σ : ST) (H : Heap) (locs : List Loc) (ls : Array Slot) (hl : lv_has ls 5 [(0, .ref (ea E 0)), (1, .int x1), (2, .int x2), (3, .int x3)]) (hP : va_P (eD E) vwCl (mW E σ) H) (hS : va_S (eA E) s.heap H locs) (hE : fX5_onTheWay  x1 x2 x3 σ = some F) : zWi E mW p l e r_X5_onTheWay s m args below meth c F H locs (F0 m 0 ls []) := by
  obtain ⟨hx, hb, hml, hown, hts, hr, hlk, hK, hD⟩ := id C
  have hwX5 : ∀ w ∈ wsX50, w.before args s = true := fun w h => hts w (inlX5 w h)
  unfold fX5_onTheWay at hE
  refine lv_aload_n hx hb dX5_onTheWay_0 rfl (lv_at hl 0 rfl) ?_
  refine lv_iload_n hx hb dX5_onTheWay_1 rfl (lv_at hl 1 rfl) ?_
  refine z_goi (wf := mW) hS hE (fun F1 h1 => (va_runV (As := [.int x1]) (rest := []) ⟨hx, hb, hml, hown, hts⟩ (kX5_isNoPlace l E hD x1 σ F1 h1) (cwV 1 hts (gU_V u_410 u_411 u_412 u_5 u_413) rfl rfl rfl q_X5_isNoPlace ⟨Nat.le_of_ble_eq_true rfl, Nat.le_of_ble_eq_true rfl⟩) (z_preV hK hP hS (ci := 5) (q0 := 0) rfl rfl rfl) rfl rfl hl.1 rfl (lv_room (Nat.le_of_ble_eq_true rfl)) dX5_onTheWay_2 ⟨Nat.le_of_ble_eq_true rfl, Nat.le_of_ble_eq_true rfl⟩)) (fun r_2 σ_1 H locs hP hS hE => ?_)
  refine z_if_ne (tgt := 24) hx hb dX5_onTheWay_5 (by decide) hE (fun hE => ?_) (fun hE => ?_)
  · refine lv_aload_n hx hb dX5_onTheWay_24 rfl (lv_at hl 0 rfl) ?_
    refine lv_iconst (v := -1) hx hb dX5_onTheWay_25 (by decide) ?_
    refine z_goi (wf := mW) hS hE (fun F1 h1 => (va_runV (As := [.int (-1)]) (rest := []) ⟨hx, hb, hml, hown, hts⟩ (kX5_no l E hD (-1) σ_1 F1 h1) (cwV 1 hts (gU_V u_131 u_132 u_133 u_5 u_134) rfl rfl rfl q_X5_no ⟨Nat.le_of_ble_eq_true rfl, Nat.le_of_ble_eq_true rfl⟩) (z_preV hK hP hS (ci := 5) (q0 := 0) rfl rfl rfl) rfl rfl hl.1 rfl (lv_room (Nat.le_of_ble_eq_true rfl)) dX5_onTheWay_26 ⟨Nat.le_of_ble_eq_true rfl, Nat.le_of_ble_eq_true rfl⟩)) (fun r_4 σ_3 H locs hP hS hE => ?_)
    exact z_iret hx hb hr hlk hP hS dX5_onTheWay_29 hE
  refine lv_aload_n hx hb dX5_onTheWay_8 rfl (lv_at hl 0 rfl) ?_
  refine lv_iload_n hx hb dX5_onTheWay_9 rfl (lv_at hl 2 rfl) ?_
  refine z_goi (wf := mW) hS hE (fun F1 h1 => (va_runV (As := [.int x2]) (rest := []) ⟨hx, hb, hml, hown, hts⟩ (kX5_isNoPlace l E hD x2 σ_1 F1 h1) (cwV 1 hts (gU_V u_410 u_411 u_412 u_5 u_413) rfl rfl rfl q_X5_isNoPlace ⟨Nat.le_of_ble_eq_true rfl, Nat.le_of_ble_eq_true rfl⟩) (z_preV hK hP hS (ci := 5) (q0 := 0) rfl rfl rfl) rfl rfl hl.1 rfl (lv_room (Nat.le_of_ble_eq_true rfl)) dX5_onTheWay_10 ⟨Nat.le_of_ble_eq_true rfl, Nat.le_of_ble_eq_true rfl⟩)) (fun r_6 σ_5 H locs hP hS hE => ?_)
  refine z_if_ne (tgt := 24) hx hb dX5_onTheWay_13 (by decide) hE (fun hE => ?_) (fun hE => ?_)
  · refine lv_aload_n hx hb dX5_onTheWay_24 rfl (lv_at hl 0 rfl) ?_
    refine lv_iconst (v := -1) hx hb dX5_onTheWay_25 (by decide) ?_
    refine z_goi (wf := mW) hS hE (fun F1 h1 => (va_runV (As := [.int (-1)]) (rest := []) ⟨hx, hb, hml, hown, hts⟩ (kX5_no l E hD (-1) σ_5 F1 h1) (cwV 1 hts (gU_V u_131 u_132 u_133 u_5 u_134) rfl rfl rfl q_X5_no ⟨Nat.le_of_ble_eq_true rfl, Nat.le_of_ble_eq_true rfl⟩) (z_preV hK hP hS (ci := 5) (q0 := 0) rfl rfl rfl) rfl rfl hl.1 rfl (lv_room (Nat.le_of_ble_eq_true rfl)) dX5_onTheWay_26 ⟨Nat.le_of_ble_eq_true rfl, Nat.le_of_ble_eq_true rfl⟩)) (fun r_8 σ_7 H locs hP hS hE => ?_)
    exact z_iret hx hb hr hlk hP hS dX5_onTheWay_29 hE
  refine lv_aload_n hx hb dX5_onTheWay_16 rfl (lv_at hl 0 rfl) ?_
  refine lv_iload_n hx hb dX5_onTheWay_17 rfl (lv_at hl 3 rfl) ?_
  refine z_goi (wf := mW) hS hE (fun F1 h1 => (va_runV (As := [.int x3]) (rest := []) ⟨hx, hb, hml, hown, hts⟩ (kX5_isNoPlace l E hD x3 σ_5 F1 h1) (cwV 1 hts (gU_V u_410 u_411 u_412 u_5 u_413) rfl rfl rfl q_X5_isNoPlace ⟨Nat.le_of_ble_eq_true rfl, Nat.le_of_ble_eq_true rfl⟩) (z_preV hK hP hS (ci := 5) (q0 := 0) rfl rfl rfl) rfl rfl hl.1 rfl (lv_room (Nat.le_of_ble_eq_true rfl)) dX5_onTheWay_18 ⟨Nat.le_of_ble_eq_true rfl, Nat.le_of_ble_eq_true rfl⟩)) (fun r_10 σ_9 H locs hP hS hE => ?_)
  refine z_if_eq (tgt := 30) hx hb dX5_onTheWay_21 (by decide) hE (fun hE => ?_) (fun hE => ?_)
  · refine lv_aload_n hx hb dX5_onTheWay_30 rfl (lv_at hl 0 rfl) ?_
    refine z_gov (wf := mW) hS hE (fun F1 h1 => (va_runV (As := []) (rest := []) ⟨hx, hb, hml, hown, hts⟩ (kX5_legs l E hD  σ_9 F1 h1) (cwV 0 hts (gU_V u_498 u_499 u_500 u_5 u_501) rfl rfl rfl q_X5_legs ⟨Nat.le_of_ble_eq_true rfl, Nat.le_of_ble_eq_true rfl⟩) (z_preV hK hP hS (ci := 5) (q0 := 0) rfl rfl rfl) rfl rfl hl.1 rfl (lv_room (Nat.le_of_ble_eq_true rfl)) dX5_onTheWay_31 ⟨Nat.le_of_ble_eq_true rfl, Nat.le_of_ble_eq_true rfl⟩)) (fun σ_11 H locs hP hS hE => ?_)
    refine lv_aload_n hx hb dX5_onTheWay_34 rfl (lv_at hl 0 rfl) ?_
    refine mg_0_16 hx hb hown hwX5 (hts _ u_106) hK hP dX5_onTheWay_35 ?_
    refine lv_bipush (v := 8) hx hb dX5_onTheWay_38 (by decide) ?_
    refine lv_iload_n hx hb dX5_onTheWay_40 rfl (lv_at hl 2 rfl) ?_
    refine lv_imul hx hb dX5_onTheWay_41 ?_
    refine lv_iload_n hx hb dX5_onTheWay_42 rfl (lv_at hl 1 rfl) ?_
    refine lv_iadd hx hb dX5_onTheWay_43 ?_
    refine ma_9 hx hb hK hP dX5_onTheWay_44 hE (fun v_12 hE => ?_)
    refine lv_aload_n hx hb dX5_onTheWay_45 rfl (lv_at hl 0 rfl) ?_
    refine mg_0_16 hx hb hown hwX5 (hts _ u_106) hK hP dX5_onTheWay_46 ?_
    refine lv_bipush (v := 8) hx hb dX5_onTheWay_49 (by decide) ?_
    refine lv_iload_n hx hb dX5_onTheWay_51 rfl (lv_at hl 1 rfl) ?_
    refine lv_imul hx hb dX5_onTheWay_52 ?_
    refine lv_iload_n hx hb dX5_onTheWay_53 rfl (lv_at hl 3 rfl) ?_
    refine lv_iadd hx hb dX5_onTheWay_54 ?_
    refine ma_9 hx hb hK hP dX5_onTheWay_55 hE (fun v_13 hE => ?_)
    refine lv_iadd hx hb dX5_onTheWay_56 ?_
    refine z_istore hx hb (fun x4_14 => [(4, .int x4_14), (0, .ref (ea E 0)), (1, .int x1), (2, .int x2), (3, .int x3)]) dX5_onTheWay_57 hl (by decide) rfl hE (fun x4_14 ls hl hE => ?_)
    refine lv_iload hx hb dX5_onTheWay_59 (lv_at hl 0 rfl) ?_
    refine lv_ldc (v := 100000) hx hb hown (hts _ u_497) dX5_onTheWay_61 ?_
    refine z_icmp_ge (tgt := 86) hx hb dX5_onTheWay_63 (by decide) hE (fun hE => ?_) (fun hE => ?_)
    · refine lv_iconst (v := 0) hx hb dX5_onTheWay_86 (by decide) ?_
      exact z_iret hx hb hr hlk hP hS dX5_onTheWay_87 hE
    refine lv_iload hx hb dX5_onTheWay_66 (lv_at hl 0 rfl) ?_
    refine lv_aload_n hx hb dX5_onTheWay_68 rfl (lv_at hl 1 rfl) ?_
    refine mg_0_16 hx hb hown hwX5 (hts _ u_106) hK hP dX5_onTheWay_69 ?_
    refine lv_bipush (v := 8) hx hb dX5_onTheWay_72 (by decide) ?_
    refine lv_iload_n hx hb dX5_onTheWay_74 rfl (lv_at hl 3 rfl) ?_
    refine lv_imul hx hb dX5_onTheWay_75 ?_
    refine lv_iload_n hx hb dX5_onTheWay_76 rfl (lv_at hl 4 rfl) ?_
    refine lv_iadd hx hb dX5_onTheWay_77 ?_
    refine ma_9 hx hb hK hP dX5_onTheWay_78 hE (fun v_15 hE => ?_)
    refine z_icmp_ne (tgt := 86) hx hb dX5_onTheWay_79 (by decide) hE (fun hE => ?_) (fun hE => ?_)
    · refine lv_iconst (v := 0) hx hb dX5_onTheWay_86 (by decide) ?_
      exact z_iret hx hb hr hlk hP hS dX5_onTheWay_87 hE
    refine lv_iconst (v := 1) hx hb dX5_onTheWay_82 (by decide) ?_
    refine lv_goto (tgt := 87) hx hb dX5_onTheWay_83 (by decide) ?_
    exact z_iret hx hb hr hlk hP hS dX5_onTheWay_87 hE
  refine lv_aload_n hx hb dX5_onTheWay_24 rfl (lv_at hl 0 rfl) ?_
  refine lv_iconst (v := -1) hx hb dX5_onTheWay_25 (by decide) ?_
  refine z_goi (wf := mW) hS hE (fun F1 h1 => (va_runV (As := [.int (-1)]) (rest := []) ⟨hx, hb, hml, hown, hts⟩ (kX5_no l E hD (-1) σ_9 F1 h1) (cwV 1 hts (gU_V u_131 u_132 u_133 u_5 u_134) rfl rfl rfl q_X5_no ⟨Nat.le_of_ble_eq_true rfl, Nat.le_of_ble_eq_true rfl⟩) (z_preV hK hP hS (ci := 5) (q0 := 0) rfl rfl rfl) rfl rfl hl.1 rfl (lv_room (Nat.le_of_ble_eq_true rfl)) dX5_onTheWay_26 ⟨Nat.le_of_ble_eq_true rfl, Nat.le_of_ble_eq_true rfl⟩)) (fun r_17 σ_16 H locs hP hS hE => ?_)
  exact z_iret hx hb hr hlk hP hS dX5_onTheWay_29 hE
theorem kX5_onTheWay (l : Launch) (E : EN) (hD : ∀ σ, va_D (eA E) (mW E σ)) (x1 : Int32) (x2 : Int32) (x3 : Int32) (σ : ST) (F : Int32 × ST) (hE : fX5_onTheWay x1 x2 x3 σ = some F) : Met l yX5_onTheWay wu_X5_onTheWay r_X5_onTheWay (zPc E mW [.ref (ea E 0), .int x1, .int x2, .int x3] σ) (zQi E mW F) 0 0 (eA E) := by
  refine Met.ofW (cc := cX5_onTheWay) (maxL := 5) (ret := (some .int)) (by decide) rfl ?_
  intro p e s m args below meth c s₁ B hml hv
  obtain ⟨rfl, hP, hK⟩ := hv
  have hl := lv_entry ([.ref (ea E 0), .int x1, .int x2, .int x3]) (n := 5) (Nat.le_of_ble_eq_true rfl)
  rw [lg_entry_eq]
  generalize (lg_sl ([.ref (ea E 0), .int x1, .int x2, .int x3]) ++ List.replicate (5 - (lg_sl ([.ref (ea E 0), .int x1, .int x2, .int x3])).length) Slot.unset).toArray = ls at hl ⊢
  exact wX5_onTheWay ⟨B.exec, B.bytes, hml, findClass_of_methodNamed B.named, fun w h => atoms_spec (ws := wu_X5_onTheWay) B.pre w (List.mem_cons_of_mem _ h), B.returns, B.notSynchronized, hK, hD⟩ x1 x2 x3 σ s.heap [] ls hl hP va_S.rf hE
def fX5_row  (x1 : Int32) (σ : ST) : Option (Int32 × ST) :=
  (if 0 ≤ x1 then (if 9 < x1 then cali (fX5_no (-6) σ) (fun r_2 σ_1 => some (r_2, σ_1)) else (if (gI σ 17) = 10 then cali (fX5_no (-6) σ) (fun r_6 σ_5 => some (r_6, σ_5)) else ast σ 13 10 (gI σ 17) x1 (fun σ_3 => bnd (sI σ_3 17 ((gI σ_3 17) + 1)) (fun σ_4 => some ((gI σ_4 17), σ_4))))) else cali (fX5_no (-4) σ) (fun r_8 σ_7 => some (r_8, σ_7)))
set_option maxHeartbeats 4000000 in
set_option maxRecDepth 100000 in
theorem wX5_row {p : Program} {l : Launch} {e : Env} {s : State} {m : MethodId} {args : Array Value} {below : List Frame} {meth : Method} {c : Code} {E : EN} (C : zC E mW p s m args meth c cX5_row 2 RX5 (some .int) wsL_law) {F : Int32 × ST}   (x1 : Int32) (σ : ST) (H : Heap) (locs : List Loc) (ls : Array Slot) (hl : lv_has ls 2 [(0, .ref (ea E 0)), (1, .int x1)]) (hP : va_P (eD E) vwCl (mW E σ) H) (hS : va_S (eA E) s.heap H locs) (hE : fX5_row  x1 σ = some F) : zWi E mW p l e r_X5_row s m args below meth c F H locs (F0 m 0 ls []) := by
  obtain ⟨hx, hb, hml, hown, hts, hr, hlk, hK, hD⟩ := id C
  have hwX5 : ∀ w ∈ wsX50, w.before args s = true := fun w h => hts w (inlX5 w h)
  unfold fX5_row at hE
  refine lv_iload_n hx hb dX5_row_0 rfl (lv_at hl 1 rfl) ?_
  refine z_if_ge (tgt := 11) hx hb dX5_row_1 (by decide) hE (fun hE => ?_) (fun hE => ?_)
  · refine lv_iload_n hx hb dX5_row_11 rfl (lv_at hl 1 rfl) ?_
    refine lv_bipush (v := 9) hx hb dX5_row_12 (by decide) ?_
    refine z_icmp_gt (tgt := 26) hx hb dX5_row_14 (by decide) hE (fun hE => ?_) (fun hE => ?_)
    · refine lv_aload_n hx hb dX5_row_26 rfl (lv_at hl 0 rfl) ?_
      refine lv_bipush (v := -6) hx hb dX5_row_27 (by decide) ?_
      refine z_goi (wf := mW) hS hE (fun F1 h1 => (va_runV (As := [.int (-6)]) (rest := []) ⟨hx, hb, hml, hown, hts⟩ (kX5_no l E hD (-6) σ F1 h1) (cwV 1 hts (gU_V u_131 u_132 u_133 u_5 u_134) rfl rfl rfl q_X5_no ⟨Nat.le_of_ble_eq_true rfl, Nat.le_of_ble_eq_true rfl⟩) (z_preV hK hP hS (ci := 5) (q0 := 0) rfl rfl rfl) rfl rfl hl.1 rfl (lv_room (Nat.le_of_ble_eq_true rfl)) dX5_row_29 ⟨Nat.le_of_ble_eq_true rfl, Nat.le_of_ble_eq_true rfl⟩)) (fun r_2 σ_1 H locs hP hS hE => ?_)
      exact z_iret hx hb hr hlk hP hS dX5_row_32 hE
    refine lv_aload_n hx hb dX5_row_17 rfl (lv_at hl 0 rfl) ?_
    refine mg_0_33 hx hb hown hwX5 (hts _ u_601) hK hP dX5_row_18 ?_
    refine lv_bipush (v := 10) hx hb dX5_row_21 (by decide) ?_
    refine z_icmp_ne (tgt := 33) hx hb dX5_row_23 (by decide) hE (fun hE => ?_) (fun hE => ?_)
    · refine lv_aload_n hx hb dX5_row_33 rfl (lv_at hl 0 rfl) ?_
      refine mg_0_32 hx hb hown hwX5 (hts _ u_111) hK hP dX5_row_34 ?_
      refine lv_aload_n hx hb dX5_row_37 rfl (lv_at hl 0 rfl) ?_
      refine mg_0_33 hx hb hown hwX5 (hts _ u_601) hK hP dX5_row_38 ?_
      refine lv_iload_n hx hb dX5_row_41 rfl (lv_at hl 1 rfl) ?_
      refine ms_14 hx hb hK hD hP hS dX5_row_42 hE (fun σ_3 H locs hP hS hE => ?_)
      refine lv_aload_n hx hb dX5_row_43 rfl (lv_at hl 0 rfl) ?_
      refine lv_dup hx hb dX5_row_44 rfl ?_
      refine mg_0_33 hx hb hown hwX5 (hts _ u_601) hK hP dX5_row_45 ?_
      refine lv_iconst (v := 1) hx hb dX5_row_48 (by decide) ?_
      refine lv_iadd hx hb dX5_row_49 ?_
      refine mp_0_33 hx hb hown hwX5 (hts _ u_601) hK hD hP hS dX5_row_50 hE (fun σ_4 H locs hP hS hE => ?_)
      refine lv_aload_n hx hb dX5_row_53 rfl (lv_at hl 0 rfl) ?_
      refine mg_0_33 hx hb hown hwX5 (hts _ u_601) hK hP dX5_row_54 ?_
      exact z_iret hx hb hr hlk hP hS dX5_row_57 hE
    refine lv_aload_n hx hb dX5_row_26 rfl (lv_at hl 0 rfl) ?_
    refine lv_bipush (v := -6) hx hb dX5_row_27 (by decide) ?_
    refine z_goi (wf := mW) hS hE (fun F1 h1 => (va_runV (As := [.int (-6)]) (rest := []) ⟨hx, hb, hml, hown, hts⟩ (kX5_no l E hD (-6) σ F1 h1) (cwV 1 hts (gU_V u_131 u_132 u_133 u_5 u_134) rfl rfl rfl q_X5_no ⟨Nat.le_of_ble_eq_true rfl, Nat.le_of_ble_eq_true rfl⟩) (z_preV hK hP hS (ci := 5) (q0 := 0) rfl rfl rfl) rfl rfl hl.1 rfl (lv_room (Nat.le_of_ble_eq_true rfl)) dX5_row_29 ⟨Nat.le_of_ble_eq_true rfl, Nat.le_of_ble_eq_true rfl⟩)) (fun r_6 σ_5 H locs hP hS hE => ?_)
    exact z_iret hx hb hr hlk hP hS dX5_row_32 hE
  refine lv_aload_n hx hb dX5_row_4 rfl (lv_at hl 0 rfl) ?_
  refine lv_bipush (v := -4) hx hb dX5_row_5 (by decide) ?_
  refine z_goi (wf := mW) hS hE (fun F1 h1 => (va_runV (As := [.int (-4)]) (rest := []) ⟨hx, hb, hml, hown, hts⟩ (kX5_no l E hD (-4) σ F1 h1) (cwV 1 hts (gU_V u_131 u_132 u_133 u_5 u_134) rfl rfl rfl q_X5_no ⟨Nat.le_of_ble_eq_true rfl, Nat.le_of_ble_eq_true rfl⟩) (z_preV hK hP hS (ci := 5) (q0 := 0) rfl rfl rfl) rfl rfl hl.1 rfl (lv_room (Nat.le_of_ble_eq_true rfl)) dX5_row_7 ⟨Nat.le_of_ble_eq_true rfl, Nat.le_of_ble_eq_true rfl⟩)) (fun r_8 σ_7 H locs hP hS hE => ?_)
  exact z_iret hx hb hr hlk hP hS dX5_row_10 hE
theorem kX5_row (l : Launch) (E : EN) (hD : ∀ σ, va_D (eA E) (mW E σ)) (x1 : Int32) (σ : ST) (F : Int32 × ST) (hE : fX5_row x1 σ = some F) : Met l yX5_row wu_X5_row r_X5_row (zPc E mW [.ref (ea E 0), .int x1] σ) (zQi E mW F) 0 0 (eA E) := by
  refine Met.ofW (cc := cX5_row) (maxL := 2) (ret := (some .int)) (by decide) rfl ?_
  intro p e s m args below meth c s₁ B hml hv
  obtain ⟨rfl, hP, hK⟩ := hv
  have hl := lv_entry ([.ref (ea E 0), .int x1]) (n := 2) (Nat.le_of_ble_eq_true rfl)
  rw [lg_entry_eq]
  generalize (lg_sl ([.ref (ea E 0), .int x1]) ++ List.replicate (2 - (lg_sl ([.ref (ea E 0), .int x1])).length) Slot.unset).toArray = ls at hl ⊢
  exact wX5_row ⟨B.exec, B.bytes, hml, findClass_of_methodNamed B.named, fun w h => atoms_spec (ws := wu_X5_row) B.pre w (List.mem_cons_of_mem _ h), B.returns, B.notSynchronized, hK, hD⟩ x1 σ s.heap [] ls hl hP va_S.rf hE
def fX5_clear   (σ : ST) : Option (Int32 × ST) :=
  bnd ((gI σ 17) : Int32) (fun x1_1 => bnd (sI σ 17 0) (fun σ_2 => some (x1_1, σ_2)))
set_option maxHeartbeats 4000000 in
set_option maxRecDepth 100000 in
theorem wX5_clear {p : Program} {l : Launch} {e : Env} {s : State} {m : MethodId} {args : Array Value} {below : List Frame} {meth : Method} {c : Code} {E : EN} (C : zC E mW p s m args meth c cX5_clear 2 RX5 (some .int) wsL_law) {F : Int32 × ST}    (σ : ST) (H : Heap) (locs : List Loc) (ls : Array Slot) (hl : lv_has ls 2 [(0, .ref (ea E 0))]) (hP : va_P (eD E) vwCl (mW E σ) H) (hS : va_S (eA E) s.heap H locs) (hE : fX5_clear   σ = some F) : zWi E mW p l e r_X5_clear s m args below meth c F H locs (F0 m 0 ls []) := by
  obtain ⟨hx, hb, hml, hown, hts, hr, hlk, hK, hD⟩ := id C
  have hwX5 : ∀ w ∈ wsX50, w.before args s = true := fun w h => hts w (inlX5 w h)
  unfold fX5_clear at hE
  refine lv_aload_n hx hb dX5_clear_0 rfl (lv_at hl 0 rfl) ?_
  refine mg_0_33 hx hb hown hwX5 (hts _ u_601) hK hP dX5_clear_1 ?_
  refine z_istore_n hx hb (fun x1_1 => [(1, .int x1_1), (0, .ref (ea E 0))]) dX5_clear_4 rfl hl (by decide) rfl hE (fun x1_1 ls hl hE => ?_)
  refine lv_aload_n hx hb dX5_clear_5 rfl (lv_at hl 1 rfl) ?_
  refine lv_iconst (v := 0) hx hb dX5_clear_6 (by decide) ?_
  refine mp_0_33 hx hb hown hwX5 (hts _ u_601) hK hD hP hS dX5_clear_7 hE (fun σ_2 H locs hP hS hE => ?_)
  refine lv_iload_n hx hb dX5_clear_10 rfl (lv_at hl 0 rfl) ?_
  exact z_iret hx hb hr hlk hP hS dX5_clear_11 hE
theorem kX5_clear (l : Launch) (E : EN) (hD : ∀ σ, va_D (eA E) (mW E σ))  (σ : ST) (F : Int32 × ST) (hE : fX5_clear  σ = some F) : Met l yX5_clear wu_X5_clear r_X5_clear (zPc E mW [.ref (ea E 0)] σ) (zQi E mW F) 0 0 (eA E) := by
  refine Met.ofW (cc := cX5_clear) (maxL := 2) (ret := (some .int)) (by decide) rfl ?_
  intro p e s m args below meth c s₁ B hml hv
  obtain ⟨rfl, hP, hK⟩ := hv
  have hl := lv_entry ([.ref (ea E 0)]) (n := 2) (Nat.le_of_ble_eq_true rfl)
  rw [lg_entry_eq]
  generalize (lg_sl ([.ref (ea E 0)]) ++ List.replicate (2 - (lg_sl ([.ref (ea E 0)])).length) Slot.unset).toArray = ls at hl ⊢
  exact wX5_clear ⟨B.exec, B.bytes, hml, findClass_of_methodNamed B.named, fun w h => atoms_spec (ws := wu_X5_clear) B.pre w (List.mem_cons_of_mem _ h), B.returns, B.notSynchronized, hK, hD⟩  σ s.heap [] ls hl hP va_S.rf hE
def fX5_judge_L28 (ke : ST → Option (Int32 × ST)) : Nat → Int32 → Int32 → ST → Option (Int32 × ST)
  | 0, _, _, _ => none
  | n + 1, x1, x2, σ => (if (gI σ 17) ≤ x2 then ke  σ else ald (gA σ 13) 10 x2 (fun v_7 => (if (((gI σ 12) >>> (v_7 &&& 31)) &&& 1) = 0 then some (x2, σ) else ald (gA σ 13) 10 x2 (fun v_8 => (if ((x1 >>> (v_8 &&& 31)) &&& 1) = 1 then some (x2, σ) else ald (gA σ 13) 10 x2 (fun v_9 => bnd ((x1 ||| (1 <<< (v_9 &&& 31))) : Int32) (fun x1_10 => bnd (x2 + 1) (fun x2_11 => fX5_judge_L28 ke n x1_10 x2_11 σ))))))))
set_option maxHeartbeats 4000000 in
set_option maxRecDepth 100000 in
theorem wX5_judge_L28 {p : Program} {l : Launch} {e : Env} {s : State} {m : MethodId} {args : Array Value} {below : List Frame} {meth : Method} {c : Code} {E : EN} (C : zC E mW p s m args meth c cX5_judge 3 RX5 (some .int) wsL_law) {F : Int32 × ST} {ke : ST → Option (Int32 × ST)} (hke : ∀  (σ : ST) (H : Heap) (locs : List Loc) (ls : Array Slot), lv_has ls 3 [] → va_P (eD E) vwCl (mW E σ) H → va_S (eA E) s.heap H locs → ke  σ = some F → zWi E mW p l e r_X5_judge s m args below meth c F H locs (F0 m 85 ls [])) : ∀ (n : Nat) (x1 : Int32) (x2 : Int32) (σ : ST) (H : Heap) (locs : List Loc) (ls : Array Slot), lv_has ls 3 [(0, .ref (ea E 0)), (1, .int x1), (2, .int x2)] → va_P (eD E) vwCl (mW E σ) H → va_S (eA E) s.heap H locs → fX5_judge_L28 ke n x1 x2 σ = some F → zWi E mW p l e r_X5_judge s m args below meth c F H locs (F0 m 28 ls []) := by
  obtain ⟨hx, hb, hml, hown, hts, hr, hlk, hK, hD⟩ := id C
  have hwX5 : ∀ w ∈ wsX50, w.before args s = true := fun w h => hts w (inlX5 w h)
  intro n
  induction n with
  | zero => intro x1 x2 σ H locs ls hl hP hS hE; rw [fX5_judge_L28] at hE; cases hE
  | succ n ih =>
    intro x1 x2 σ H locs ls hl hP hS hE
    rw [fX5_judge_L28] at hE
    refine lv_iload_n hx hb dX5_judge_28 rfl (lv_at hl 2 rfl) ?_
    refine lv_aload_n hx hb dX5_judge_29 rfl (lv_at hl 0 rfl) ?_
    refine mg_0_33 hx hb hown hwX5 (hts _ u_601) hK hP dX5_judge_30 ?_
    refine z_icmp_ge (tgt := 85) hx hb dX5_judge_33 (by decide) hE (fun hE => ?_) (fun hE => ?_)
    · exact hke  σ _ _ _ (lv_sub hl [] rfl) hP hS hE
    refine lv_aload_n hx hb dX5_judge_36 rfl (lv_at hl 0 rfl) ?_
    refine mg_0_25 hx hb hown hwX5 (hts _ u_586) hK hP dX5_judge_37 ?_
    refine lv_aload_n hx hb dX5_judge_40 rfl (lv_at hl 0 rfl) ?_
    refine mg_0_32 hx hb hown hwX5 (hts _ u_111) hK hP dX5_judge_41 ?_
    refine lv_iload_n hx hb dX5_judge_44 rfl (lv_at hl 2 rfl) ?_
    refine ma_14 hx hb hK hP dX5_judge_45 hE (fun v_7 hE => ?_)
    refine lv_ishr hx hb dX5_judge_46 ?_
    refine lv_iconst (v := 1) hx hb dX5_judge_47 (by decide) ?_
    refine lv_iand hx hb dX5_judge_48 ?_
    refine z_if_eq (tgt := 66) hx hb dX5_judge_49 (by decide) hE (fun hE => ?_) (fun hE => ?_)
    · refine lv_iload_n hx hb dX5_judge_66 rfl (lv_at hl 2 rfl) ?_
      exact z_iret hx hb hr hlk hP hS dX5_judge_67 hE
    refine lv_iload_n hx hb dX5_judge_52 rfl (lv_at hl 1 rfl) ?_
    refine lv_aload_n hx hb dX5_judge_53 rfl (lv_at hl 0 rfl) ?_
    refine mg_0_32 hx hb hown hwX5 (hts _ u_111) hK hP dX5_judge_54 ?_
    refine lv_iload_n hx hb dX5_judge_57 rfl (lv_at hl 2 rfl) ?_
    refine ma_14 hx hb hK hP dX5_judge_58 hE (fun v_8 hE => ?_)
    refine lv_ishr hx hb dX5_judge_59 ?_
    refine lv_iconst (v := 1) hx hb dX5_judge_60 (by decide) ?_
    refine lv_iand hx hb dX5_judge_61 ?_
    refine lv_iconst (v := 1) hx hb dX5_judge_62 (by decide) ?_
    refine z_icmp_ne (tgt := 68) hx hb dX5_judge_63 (by decide) hE (fun hE => ?_) (fun hE => ?_)
    · refine lv_iload_n hx hb dX5_judge_68 rfl (lv_at hl 1 rfl) ?_
      refine lv_iconst (v := 1) hx hb dX5_judge_69 (by decide) ?_
      refine lv_aload_n hx hb dX5_judge_70 rfl (lv_at hl 0 rfl) ?_
      refine mg_0_32 hx hb hown hwX5 (hts _ u_111) hK hP dX5_judge_71 ?_
      refine lv_iload_n hx hb dX5_judge_74 rfl (lv_at hl 2 rfl) ?_
      refine ma_14 hx hb hK hP dX5_judge_75 hE (fun v_9 hE => ?_)
      refine lv_ishl hx hb dX5_judge_76 ?_
      refine lv_ior hx hb dX5_judge_77 ?_
      refine z_istore_n hx hb (fun x1_10 => [(1, .int x1_10), (0, .ref (ea E 0)), (2, .int x2)]) dX5_judge_78 rfl hl (by decide) rfl hE (fun x1_10 ls hl hE => ?_)
      refine z_iinc hx hb (v := (x2 + 1)) (k := 2) (fun x2_11 => [(2, .int x2_11), (1, .int x1_10), (0, .ref (ea E 0))]) dX5_judge_79 hl rfl (by rfl) (by decide) rfl hE (fun x2_11 ls hl hE => ?_)
      refine lv_goto (tgt := 28) hx hb dX5_judge_82 (by decide) ?_
      exact ih x1_10 x2_11 σ _ _ _ (lv_sub hl [2, 1, 0] rfl) hP hS hE
    refine lv_iload_n hx hb dX5_judge_66 rfl (lv_at hl 2 rfl) ?_
    exact z_iret hx hb hr hlk hP hS dX5_judge_67 hE
def fX5_judge   (σ : ST) : Option (Int32 × ST) :=
  cali (fX5_isNoTown σ) (fun r_2 σ_1 => (if r_2 = 0 then ald (gA σ_1 1) 200 5 (fun v_3 => calv (fX5_dayOfRow v_3 σ_1) (fun σ_4 => bnd (0 : Int32) (fun x1_5 => bnd (0 : Int32) (fun x2_6 => fX5_judge_L28 (fun σ_12 => some ((-9), σ_12)) FU x1_5 x2_6 σ_4)))) else cali (fX5_no (-3) σ_1) (fun r_14 σ_13 => some (r_14, σ_13))))
set_option maxHeartbeats 4000000 in
set_option maxRecDepth 100000 in
theorem wX5_judge {p : Program} {l : Launch} {e : Env} {s : State} {m : MethodId} {args : Array Value} {below : List Frame} {meth : Method} {c : Code} {E : EN} (C : zC E mW p s m args meth c cX5_judge 3 RX5 (some .int) wsL_law) {F : Int32 × ST}    (σ : ST) (H : Heap) (locs : List Loc) (ls : Array Slot) (hl : lv_has ls 3 [(0, .ref (ea E 0))]) (hP : va_P (eD E) vwCl (mW E σ) H) (hS : va_S (eA E) s.heap H locs) (hE : fX5_judge   σ = some F) : zWi E mW p l e r_X5_judge s m args below meth c F H locs (F0 m 0 ls []) := by
  obtain ⟨hx, hb, hml, hown, hts, hr, hlk, hK, hD⟩ := id C
  have hwX5 : ∀ w ∈ wsX50, w.before args s = true := fun w h => hts w (inlX5 w h)
  unfold fX5_judge at hE
  refine lv_aload_n hx hb dX5_judge_0 rfl (lv_at hl 0 rfl) ?_
  refine z_goi (wf := mW) hS hE (fun F1 h1 => (va_runV (As := []) (rest := []) ⟨hx, hb, hml, hown, hts⟩ (kX5_isNoTown l E hD  σ F1 h1) (cwV 0 hts (gU_V u_588 u_589 u_590 u_5 u_591) rfl rfl rfl q_X5_isNoTown ⟨Nat.le_of_ble_eq_true rfl, Nat.le_of_ble_eq_true rfl⟩) (z_preV hK hP hS (ci := 5) (q0 := 0) rfl rfl rfl) rfl rfl hl.1 rfl (lv_room (Nat.le_of_ble_eq_true rfl)) dX5_judge_1 ⟨Nat.le_of_ble_eq_true rfl, Nat.le_of_ble_eq_true rfl⟩)) (fun r_2 σ_1 H locs hP hS hE => ?_)
  refine z_if_eq (tgt := 14) hx hb dX5_judge_4 (by decide) hE (fun hE => ?_) (fun hE => ?_)
  · refine lv_aload_n hx hb dX5_judge_14 rfl (lv_at hl 0 rfl) ?_
    refine lv_aload_n hx hb dX5_judge_15 rfl (lv_at hl 0 rfl) ?_
    refine mg_0_1 hx hb hown hwX5 (hts _ u_97) hK hP dX5_judge_16 ?_
    refine lv_iconst (v := 5) hx hb dX5_judge_19 (by decide) ?_
    refine ma_2 hx hb hK hP dX5_judge_20 hE (fun v_3 hE => ?_)
    refine z_gov (wf := mW) hS hE (fun F1 h1 => (va_runV (As := [.int v_3]) (rest := []) ⟨hx, hb, hml, hown, hts⟩ (kX5_dayOfRow l E hD v_3 σ_1 F1 h1) (cwV 1 hts (gU_V u_592 u_593 u_594 u_5 u_595) rfl rfl rfl q_X5_dayOfRow ⟨Nat.le_of_ble_eq_true rfl, Nat.le_of_ble_eq_true rfl⟩) (z_preV hK hP hS (ci := 5) (q0 := 0) rfl rfl rfl) rfl rfl hl.1 rfl (lv_room (Nat.le_of_ble_eq_true rfl)) dX5_judge_21 ⟨Nat.le_of_ble_eq_true rfl, Nat.le_of_ble_eq_true rfl⟩)) (fun σ_4 H locs hP hS hE => ?_)
    refine lv_iconst (v := 0) hx hb dX5_judge_24 (by decide) ?_
    refine z_istore_n hx hb (fun x1_5 => [(1, .int x1_5), (0, .ref (ea E 0))]) dX5_judge_25 rfl hl (by decide) rfl hE (fun x1_5 ls hl hE => ?_)
    refine lv_iconst (v := 0) hx hb dX5_judge_26 (by decide) ?_
    refine z_istore_n hx hb (fun x2_6 => [(2, .int x2_6), (1, .int x1_5), (0, .ref (ea E 0))]) dX5_judge_27 rfl hl (by decide) rfl hE (fun x2_6 ls hl hE => ?_)
    refine wX5_judge_L28 C ?_ FU x1_5 x2_6 σ_4 _ _ _ (lv_sub hl [2, 1, 0] rfl) hP hS hE
    intro σ_12 H locs ls hl hP hS hE
    refine lv_bipush (v := -9) hx hb dX5_judge_85 (by decide) ?_
    exact z_iret hx hb hr hlk hP hS dX5_judge_87 hE
  refine lv_aload_n hx hb dX5_judge_7 rfl (lv_at hl 0 rfl) ?_
  refine lv_bipush (v := -3) hx hb dX5_judge_8 (by decide) ?_
  refine z_goi (wf := mW) hS hE (fun F1 h1 => (va_runV (As := [.int (-3)]) (rest := []) ⟨hx, hb, hml, hown, hts⟩ (kX5_no l E hD (-3) σ_1 F1 h1) (cwV 1 hts (gU_V u_131 u_132 u_133 u_5 u_134) rfl rfl rfl q_X5_no ⟨Nat.le_of_ble_eq_true rfl, Nat.le_of_ble_eq_true rfl⟩) (z_preV hK hP hS (ci := 5) (q0 := 0) rfl rfl rfl) rfl rfl hl.1 rfl (lv_room (Nat.le_of_ble_eq_true rfl)) dX5_judge_10 ⟨Nat.le_of_ble_eq_true rfl, Nat.le_of_ble_eq_true rfl⟩)) (fun r_14 σ_13 H locs hP hS hE => ?_)
  exact z_iret hx hb hr hlk hP hS dX5_judge_13 hE
theorem kX5_judge (l : Launch) (E : EN) (hD : ∀ σ, va_D (eA E) (mW E σ))  (σ : ST) (F : Int32 × ST) (hE : fX5_judge  σ = some F) : Met l yX5_judge wu_X5_judge r_X5_judge (zPc E mW [.ref (ea E 0)] σ) (zQi E mW F) 0 0 (eA E) := by
  refine Met.ofW (cc := cX5_judge) (maxL := 3) (ret := (some .int)) (by decide) rfl ?_
  intro p e s m args below meth c s₁ B hml hv
  obtain ⟨rfl, hP, hK⟩ := hv
  have hl := lv_entry ([.ref (ea E 0)]) (n := 3) (Nat.le_of_ble_eq_true rfl)
  rw [lg_entry_eq]
  generalize (lg_sl ([.ref (ea E 0)]) ++ List.replicate (3 - (lg_sl ([.ref (ea E 0)])).length) Slot.unset).toArray = ls at hl ⊢
  exact wX5_judge ⟨B.exec, B.bytes, hml, findClass_of_methodNamed B.named, fun w h => atoms_spec (ws := wu_X5_judge) B.pre w (List.mem_cons_of_mem _ h), B.returns, B.notSynchronized, hK, hD⟩  σ s.heap [] ls hl hP va_S.rf hE
def fX5_lots_L54 (ke : Int32 → ST → Option (Int32 × ST)) : Nat → Int32 → Int32 → Int32 → ST → Option (Int32 × ST)
  | 0, _, _, _, _ => none
  | n + 1, x1, x3, x4, σ => (if x1 ≤ x4 then ke x3 σ else bnd (sI σ 15 1) (fun σ_7 => ald (gA σ_7 1) 200 5 (fun v_8 => calv (fX5_dayOfRow v_8 σ_7) (fun σ_9 => (if (gI σ_9 15) = 0 then bnd ((x3 + 0) : Int32) (fun x3_10 => bnd (x4 + 1) (fun x4_11 => fX5_lots_L54 ke n x1 x3_10 x4_11 σ_9)) else bnd ((x3 + 1) : Int32) (fun x3_12 => bnd (x4 + 1) (fun x4_13 => fX5_lots_L54 ke n x1 x3_12 x4_13 σ_9)))))))
set_option maxHeartbeats 4000000 in
set_option maxRecDepth 100000 in
theorem wX5_lots_L54 {p : Program} {l : Launch} {e : Env} {s : State} {m : MethodId} {args : Array Value} {below : List Frame} {meth : Method} {c : Code} {E : EN} (C : zC E mW p s m args meth c cX5_lots 5 RX5 (some .int) wsL_law) {F : Int32 × ST} {ke : Int32 → ST → Option (Int32 × ST)} (hke : ∀ (x3 : Int32) (σ : ST) (H : Heap) (locs : List Loc) (ls : Array Slot), lv_has ls 5 [(0, .ref (ea E 0)), (3, .int x3)] → va_P (eD E) vwCl (mW E σ) H → va_S (eA E) s.heap H locs → ke x3 σ = some F → zWi E mW p l e r_X5_lots s m args below meth c F H locs (F0 m 96 ls [])) : ∀ (n : Nat) (x1 : Int32) (x3 : Int32) (x4 : Int32) (σ : ST) (H : Heap) (locs : List Loc) (ls : Array Slot), lv_has ls 5 [(0, .ref (ea E 0)), (1, .int x1), (3, .int x3), (4, .int x4)] → va_P (eD E) vwCl (mW E σ) H → va_S (eA E) s.heap H locs → fX5_lots_L54 ke n x1 x3 x4 σ = some F → zWi E mW p l e r_X5_lots s m args below meth c F H locs (F0 m 54 ls []) := by
  obtain ⟨hx, hb, hml, hown, hts, hr, hlk, hK, hD⟩ := id C
  have hwX5 : ∀ w ∈ wsX50, w.before args s = true := fun w h => hts w (inlX5 w h)
  intro n
  induction n with
  | zero => intro x1 x3 x4 σ H locs ls hl hP hS hE; rw [fX5_lots_L54] at hE; cases hE
  | succ n ih =>
    intro x1 x3 x4 σ H locs ls hl hP hS hE
    rw [fX5_lots_L54] at hE
    refine lv_iload hx hb dX5_lots_54 (lv_at hl 3 rfl) ?_
    refine lv_iload_n hx hb dX5_lots_56 rfl (lv_at hl 1 rfl) ?_
    refine z_icmp_ge (tgt := 96) hx hb dX5_lots_57 (by decide) hE (fun hE => ?_) (fun hE => ?_)
    · exact hke x3 σ _ _ _ (lv_sub hl [0, 2] rfl) hP hS hE
    refine lv_aload_n hx hb dX5_lots_60 rfl (lv_at hl 0 rfl) ?_
    refine lv_iconst (v := 1) hx hb dX5_lots_61 (by decide) ?_
    refine mp_0_30 hx hb hown hwX5 (hts _ u_621) hK hD hP hS rfl dX5_lots_62 hE (fun σ_7 H locs hP hS hE => ?_)
    refine lv_aload_n hx hb dX5_lots_65 rfl (lv_at hl 0 rfl) ?_
    refine lv_aload_n hx hb dX5_lots_66 rfl (lv_at hl 0 rfl) ?_
    refine mg_0_1 hx hb hown hwX5 (hts _ u_97) hK hP dX5_lots_67 ?_
    refine lv_iconst (v := 5) hx hb dX5_lots_70 (by decide) ?_
    refine ma_2 hx hb hK hP dX5_lots_71 hE (fun v_8 hE => ?_)
    refine z_gov (wf := mW) hS hE (fun F1 h1 => (va_runV (As := [.int v_8]) (rest := []) ⟨hx, hb, hml, hown, hts⟩ (kX5_dayOfRow l E hD v_8 σ_7 F1 h1) (cwV 1 hts (gU_V u_592 u_593 u_594 u_5 u_595) rfl rfl rfl q_X5_dayOfRow ⟨Nat.le_of_ble_eq_true rfl, Nat.le_of_ble_eq_true rfl⟩) (z_preV hK hP hS (ci := 5) (q0 := 0) rfl rfl rfl) rfl rfl hl.1 rfl (lv_room (Nat.le_of_ble_eq_true rfl)) dX5_lots_72 ⟨Nat.le_of_ble_eq_true rfl, Nat.le_of_ble_eq_true rfl⟩)) (fun σ_9 H locs hP hS hE => ?_)
    refine lv_iload_n hx hb dX5_lots_75 rfl (lv_at hl 2 rfl) ?_
    refine lv_aload_n hx hb dX5_lots_76 rfl (lv_at hl 0 rfl) ?_
    refine mg_0_30 hx hb hown hwX5 (hts _ u_621) hK hP dX5_lots_77 ?_
    refine z_if_eq (tgt := 87) hx hb dX5_lots_80 (by decide) hE (fun hE => ?_) (fun hE => ?_)
    · refine lv_iconst (v := 0) hx hb dX5_lots_87 (by decide) ?_
      refine lv_iadd hx hb dX5_lots_88 ?_
      refine z_istore_n hx hb (fun x3_10 => [(3, .int x3_10), (0, .ref (ea E 0)), (1, .int x1), (4, .int x4)]) dX5_lots_89 rfl hl (by decide) rfl hE (fun x3_10 ls hl hE => ?_)
      refine z_iinc hx hb (v := (x4 + 1)) (k := 3) (fun x4_11 => [(4, .int x4_11), (3, .int x3_10), (0, .ref (ea E 0)), (1, .int x1)]) dX5_lots_90 hl rfl (by rfl) (by decide) rfl hE (fun x4_11 ls hl hE => ?_)
      refine lv_goto (tgt := 54) hx hb dX5_lots_93 (by decide) ?_
      exact ih x1 x3_10 x4_11 σ_9 _ _ _ (lv_sub hl [2, 3, 1, 0] rfl) hP hS hE
    refine lv_iconst (v := 1) hx hb dX5_lots_83 (by decide) ?_
    refine lv_goto (tgt := 88) hx hb dX5_lots_84 (by decide) ?_
    refine lv_iadd hx hb dX5_lots_88 ?_
    refine z_istore_n hx hb (fun x3_12 => [(3, .int x3_12), (0, .ref (ea E 0)), (1, .int x1), (4, .int x4)]) dX5_lots_89 rfl hl (by decide) rfl hE (fun x3_12 ls hl hE => ?_)
    refine z_iinc hx hb (v := (x4 + 1)) (k := 3) (fun x4_13 => [(4, .int x4_13), (3, .int x3_12), (0, .ref (ea E 0)), (1, .int x1)]) dX5_lots_90 hl rfl (by rfl) (by decide) rfl hE (fun x4_13 ls hl hE => ?_)
    refine lv_goto (tgt := 54) hx hb dX5_lots_93 (by decide) ?_
    exact ih x1 x3_12 x4_13 σ_9 _ _ _ (lv_sub hl [2, 3, 1, 0] rfl) hP hS hE
def fX5_lots  (x1 : Int32) (x2 : Int32) (σ : ST) : Option (Int32 × ST) :=
  (if 1 ≤ x1 then (if x1 ≤ 20 then cali (fX5_isNoTown σ) (fun r_2 σ_1 => (if r_2 = 0 then bnd (sI σ_1 16 x2) (fun σ_3 => bnd (0 : Int32) (fun x3_4 => bnd (sI σ_3 14 1) (fun σ_5 => bnd (0 : Int32) (fun x4_6 => fX5_lots_L54 (fun x3_14 σ_15 => bnd (sI σ_15 14 0) (fun σ_16 => some (x3_14, σ_16))) FU x1 x3_4 x4_6 σ_5)))) else cali (fX5_no (-3) σ_1) (fun r_18 σ_17 => some (r_18, σ_17)))) else cali (fX5_no (-6) σ) (fun r_20 σ_19 => some (r_20, σ_19))) else cali (fX5_no (-4) σ) (fun r_22 σ_21 => some (r_22, σ_21)))
set_option maxHeartbeats 4000000 in
set_option maxRecDepth 100000 in
theorem wX5_lots {p : Program} {l : Launch} {e : Env} {s : State} {m : MethodId} {args : Array Value} {below : List Frame} {meth : Method} {c : Code} {E : EN} (C : zC E mW p s m args meth c cX5_lots 5 RX5 (some .int) wsL_law) {F : Int32 × ST}   (x1 : Int32) (x2 : Int32) (σ : ST) (H : Heap) (locs : List Loc) (ls : Array Slot) (hl : lv_has ls 5 [(0, .ref (ea E 0)), (1, .int x1), (2, .int x2)]) (hP : va_P (eD E) vwCl (mW E σ) H) (hS : va_S (eA E) s.heap H locs) (hE : fX5_lots  x1 x2 σ = some F) : zWi E mW p l e r_X5_lots s m args below meth c F H locs (F0 m 0 ls []) := by
  obtain ⟨hx, hb, hml, hown, hts, hr, hlk, hK, hD⟩ := id C
  have hwX5 : ∀ w ∈ wsX50, w.before args s = true := fun w h => hts w (inlX5 w h)
  unfold fX5_lots at hE
  refine lv_iload_n hx hb dX5_lots_0 rfl (lv_at hl 1 rfl) ?_
  refine lv_iconst (v := 1) hx hb dX5_lots_1 (by decide) ?_
  refine z_icmp_ge (tgt := 12) hx hb dX5_lots_2 (by decide) hE (fun hE => ?_) (fun hE => ?_)
  · refine lv_iload_n hx hb dX5_lots_12 rfl (lv_at hl 1 rfl) ?_
    refine lv_bipush (v := 20) hx hb dX5_lots_13 (by decide) ?_
    refine z_icmp_le (tgt := 25) hx hb dX5_lots_15 (by decide) hE (fun hE => ?_) (fun hE => ?_)
    · refine lv_aload_n hx hb dX5_lots_25 rfl (lv_at hl 0 rfl) ?_
      refine z_goi (wf := mW) hS hE (fun F1 h1 => (va_runV (As := []) (rest := []) ⟨hx, hb, hml, hown, hts⟩ (kX5_isNoTown l E hD  σ F1 h1) (cwV 0 hts (gU_V u_588 u_589 u_590 u_5 u_591) rfl rfl rfl q_X5_isNoTown ⟨Nat.le_of_ble_eq_true rfl, Nat.le_of_ble_eq_true rfl⟩) (z_preV hK hP hS (ci := 5) (q0 := 0) rfl rfl rfl) rfl rfl hl.1 rfl (lv_room (Nat.le_of_ble_eq_true rfl)) dX5_lots_26 ⟨Nat.le_of_ble_eq_true rfl, Nat.le_of_ble_eq_true rfl⟩)) (fun r_2 σ_1 H locs hP hS hE => ?_)
      refine z_if_eq (tgt := 39) hx hb dX5_lots_29 (by decide) hE (fun hE => ?_) (fun hE => ?_)
      · refine lv_aload_n hx hb dX5_lots_39 rfl (lv_at hl 0 rfl) ?_
        refine lv_iload_n hx hb dX5_lots_40 rfl (lv_at hl 2 rfl) ?_
        refine mp_0_31 hx hb hown hwX5 (hts _ u_626) hK hD hP hS dX5_lots_41 hE (fun σ_3 H locs hP hS hE => ?_)
        refine lv_iconst (v := 0) hx hb dX5_lots_44 (by decide) ?_
        refine z_istore_n hx hb (fun x3_4 => [(3, .int x3_4), (0, .ref (ea E 0)), (1, .int x1), (2, .int x2)]) dX5_lots_45 rfl hl (by decide) rfl hE (fun x3_4 ls hl hE => ?_)
        refine lv_aload_n hx hb dX5_lots_46 rfl (lv_at hl 1 rfl) ?_
        refine lv_iconst (v := 1) hx hb dX5_lots_47 (by decide) ?_
        refine mp_0_29 hx hb hown hwX5 (hts _ u_620) hK hD hP hS rfl dX5_lots_48 hE (fun σ_5 H locs hP hS hE => ?_)
        refine lv_iconst (v := 0) hx hb dX5_lots_51 (by decide) ?_
        refine z_istore hx hb (fun x4_6 => [(4, .int x4_6), (3, .int x3_4), (0, .ref (ea E 0)), (1, .int x1), (2, .int x2)]) dX5_lots_52 hl (by decide) rfl hE (fun x4_6 ls hl hE => ?_)
        refine wX5_lots_L54 C ?_ FU x1 x3_4 x4_6 σ_5 _ _ _ (lv_sub hl [2, 3, 1, 0] rfl) hP hS hE
        intro x3_14 σ_15 H locs ls hl hP hS hE
        refine lv_aload_n hx hb dX5_lots_96 rfl (lv_at hl 0 rfl) ?_
        refine lv_iconst (v := 0) hx hb dX5_lots_97 (by decide) ?_
        refine mp_0_29 hx hb hown hwX5 (hts _ u_620) hK hD hP hS rfl dX5_lots_98 hE (fun σ_16 H locs hP hS hE => ?_)
        refine lv_iload_n hx hb dX5_lots_101 rfl (lv_at hl 1 rfl) ?_
        exact z_iret hx hb hr hlk hP hS dX5_lots_102 hE
      refine lv_aload_n hx hb dX5_lots_32 rfl (lv_at hl 0 rfl) ?_
      refine lv_bipush (v := -3) hx hb dX5_lots_33 (by decide) ?_
      refine z_goi (wf := mW) hS hE (fun F1 h1 => (va_runV (As := [.int (-3)]) (rest := []) ⟨hx, hb, hml, hown, hts⟩ (kX5_no l E hD (-3) σ_1 F1 h1) (cwV 1 hts (gU_V u_131 u_132 u_133 u_5 u_134) rfl rfl rfl q_X5_no ⟨Nat.le_of_ble_eq_true rfl, Nat.le_of_ble_eq_true rfl⟩) (z_preV hK hP hS (ci := 5) (q0 := 0) rfl rfl rfl) rfl rfl hl.1 rfl (lv_room (Nat.le_of_ble_eq_true rfl)) dX5_lots_35 ⟨Nat.le_of_ble_eq_true rfl, Nat.le_of_ble_eq_true rfl⟩)) (fun r_18 σ_17 H locs hP hS hE => ?_)
      exact z_iret hx hb hr hlk hP hS dX5_lots_38 hE
    refine lv_aload_n hx hb dX5_lots_18 rfl (lv_at hl 0 rfl) ?_
    refine lv_bipush (v := -6) hx hb dX5_lots_19 (by decide) ?_
    refine z_goi (wf := mW) hS hE (fun F1 h1 => (va_runV (As := [.int (-6)]) (rest := []) ⟨hx, hb, hml, hown, hts⟩ (kX5_no l E hD (-6) σ F1 h1) (cwV 1 hts (gU_V u_131 u_132 u_133 u_5 u_134) rfl rfl rfl q_X5_no ⟨Nat.le_of_ble_eq_true rfl, Nat.le_of_ble_eq_true rfl⟩) (z_preV hK hP hS (ci := 5) (q0 := 0) rfl rfl rfl) rfl rfl hl.1 rfl (lv_room (Nat.le_of_ble_eq_true rfl)) dX5_lots_21 ⟨Nat.le_of_ble_eq_true rfl, Nat.le_of_ble_eq_true rfl⟩)) (fun r_20 σ_19 H locs hP hS hE => ?_)
    exact z_iret hx hb hr hlk hP hS dX5_lots_24 hE
  refine lv_aload_n hx hb dX5_lots_5 rfl (lv_at hl 0 rfl) ?_
  refine lv_bipush (v := -4) hx hb dX5_lots_6 (by decide) ?_
  refine z_goi (wf := mW) hS hE (fun F1 h1 => (va_runV (As := [.int (-4)]) (rest := []) ⟨hx, hb, hml, hown, hts⟩ (kX5_no l E hD (-4) σ F1 h1) (cwV 1 hts (gU_V u_131 u_132 u_133 u_5 u_134) rfl rfl rfl q_X5_no ⟨Nat.le_of_ble_eq_true rfl, Nat.le_of_ble_eq_true rfl⟩) (z_preV hK hP hS (ci := 5) (q0 := 0) rfl rfl rfl) rfl rfl hl.1 rfl (lv_room (Nat.le_of_ble_eq_true rfl)) dX5_lots_8 ⟨Nat.le_of_ble_eq_true rfl, Nat.le_of_ble_eq_true rfl⟩)) (fun r_22 σ_21 H locs hP hS hE => ?_)
  exact z_iret hx hb hr hlk hP hS dX5_lots_11 hE
theorem kX5_lots (l : Launch) (E : EN) (hD : ∀ σ, va_D (eA E) (mW E σ)) (x1 : Int32) (x2 : Int32) (σ : ST) (F : Int32 × ST) (hE : fX5_lots x1 x2 σ = some F) : Met l yX5_lots wu_X5_lots r_X5_lots (zPc E mW [.ref (ea E 0), .int x1, .int x2] σ) (zQi E mW F) 0 0 (eA E) := by
  refine Met.ofW (cc := cX5_lots) (maxL := 5) (ret := (some .int)) (by decide) rfl ?_
  intro p e s m args below meth c s₁ B hml hv
  obtain ⟨rfl, hP, hK⟩ := hv
  have hl := lv_entry ([.ref (ea E 0), .int x1, .int x2]) (n := 5) (Nat.le_of_ble_eq_true rfl)
  rw [lg_entry_eq]
  generalize (lg_sl ([.ref (ea E 0), .int x1, .int x2]) ++ List.replicate (5 - (lg_sl ([.ref (ea E 0), .int x1, .int x2])).length) Slot.unset).toArray = ls at hl ⊢
  exact wX5_lots ⟨B.exec, B.bytes, hml, findClass_of_methodNamed B.named, fun w h => atoms_spec (ws := wu_X5_lots) B.pre w (List.mem_cons_of_mem _ h), B.returns, B.notSynchronized, hK, hD⟩ x1 x2 σ s.heap [] ls hl hP va_S.rf hE
