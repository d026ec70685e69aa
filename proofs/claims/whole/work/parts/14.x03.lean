def fX2_hasWay_6_J30 (kb : Int32 → Int32 → Int32 → ST → Option (Int32 × ST)) (x1 : Int32) (x2 : Int32) (x3 : Int32) (σ : ST) : Option (Int32 × ST) :=
  ald (gA σ 31) 14 x3 (fun v_3 => (if v_3 = x2 then ald (gA σ 32) 14 x3 (fun v_5 => (if v_5 = x1 then some (1, σ) else bnd (x3 + 1) (fun x3_6 => kb x1 x2 x3_6 σ))) else bnd (x3 + 1) (fun x3_4 => kb x1 x2 x3_4 σ)))
set_option maxHeartbeats 4000000 in
set_option maxRecDepth 100000 in
theorem wX2_hasWay_6_J30 {p : Program} {l : Launch} {e : Env} {s : State} {m : MethodId} {args : Array Value} {below : List Frame} {meth : Method} {c : Code} {E : EN} (C : zC E xW p s m args meth c cX2_hasWay 4 RX2 (some .boolean) wsL_law) {F : Int32 × ST} {kb : Int32 → Int32 → Int32 → ST → Option (Int32 × ST)} (hkb : ∀ (x1 : Int32) (x2 : Int32) (x3 : Int32) (σ : ST) (H : Heap) (locs : List Loc) (ls : Array Slot), lv_has ls 4 [(0, .ref (ea E 6)), (1, .int x1), (2, .int x2), (3, .int x3)] → va_P (eD E) vwCl (xW E σ) H → va_S (eA E) s.heap H locs → kb x1 x2 x3 σ = some F → zWi E xW p l e r_X2_hasWay s m args below meth c F H locs (F0 m 2 ls [])) (x1 : Int32) (x2 : Int32) (x3 : Int32) (σ : ST) (H : Heap) (locs : List Loc) (ls : Array Slot) (hl : lv_has ls 4 [(0, .ref (ea E 6)), (1, .int x1), (2, .int x2), (3, .int x3)]) (hP : va_P (eD E) vwCl (xW E σ) H) (hS : va_S (eA E) s.heap H locs) (hE : fX2_hasWay_6_J30 kb x1 x2 x3 σ = some F) : zWi E xW p l e r_X2_hasWay s m args below meth c F H locs (F0 m 30 ls []) := by
  obtain ⟨hx, hb, hml, hown, hts, hr, hlk, hK, hD⟩ := id C
  have hwX2 : ∀ w ∈ wsX20, w.before args s = true := fun w h => hts w (inlX2 w h)
  unfold fX2_hasWay_6_J30 at hE
  refine lv_aload_n hx hb dX2_hasWay_30 rfl (lv_at hl 0 rfl) ?_
  refine xg_6_3 hx hb hown hwX2 (hts _ u_65) hK hP dX2_hasWay_31 ?_
  refine lv_iload_n hx hb dX2_hasWay_34 rfl (lv_at hl 3 rfl) ?_
  refine xa_38 hx hb hK hP dX2_hasWay_35 hE (fun v_3 hE => ?_)
  refine lv_iload_n hx hb dX2_hasWay_36 rfl (lv_at hl 2 rfl) ?_
  refine z_icmp_ne (tgt := 52) hx hb dX2_hasWay_37 (by decide) hE (fun hE => ?_) (fun hE => ?_)
  · refine z_iinc hx hb (v := (x3 + 1)) (k := 3) (fun x3_4 => [(3, .int x3_4), (0, .ref (ea E 6)), (1, .int x1), (2, .int x2)]) dX2_hasWay_52 hl rfl (by rfl) (by decide) rfl hE (fun x3_4 ls hl hE => ?_)
    refine lv_goto (tgt := 2) hx hb dX2_hasWay_55 (by decide) ?_
    exact hkb x1 x2 x3_4 σ _ _ _ (lv_sub hl [1, 2, 3, 0] rfl) hP hS hE
  refine lv_aload_n hx hb dX2_hasWay_40 rfl (lv_at hl 0 rfl) ?_
  refine xg_6_4 hx hb hown hwX2 (hts _ u_66) hK hP dX2_hasWay_41 ?_
  refine lv_iload_n hx hb dX2_hasWay_44 rfl (lv_at hl 3 rfl) ?_
  refine xa_39 hx hb hK hP dX2_hasWay_45 hE (fun v_5 hE => ?_)
  refine lv_iload_n hx hb dX2_hasWay_46 rfl (lv_at hl 1 rfl) ?_
  refine z_icmp_ne (tgt := 52) hx hb dX2_hasWay_47 (by decide) hE (fun hE => ?_) (fun hE => ?_)
  · refine z_iinc hx hb (v := (x3 + 1)) (k := 3) (fun x3_6 => [(3, .int x3_6), (0, .ref (ea E 6)), (1, .int x1), (2, .int x2)]) dX2_hasWay_52 hl rfl (by rfl) (by decide) rfl hE (fun x3_6 ls hl hE => ?_)
    refine lv_goto (tgt := 2) hx hb dX2_hasWay_55 (by decide) ?_
    exact hkb x1 x2 x3_6 σ _ _ _ (lv_sub hl [1, 2, 3, 0] rfl) hP hS hE
  refine lv_iconst (v := 1) hx hb dX2_hasWay_50 (by decide) ?_
  exact z_zret hx hb hr hlk rfl hP hS dX2_hasWay_51 hE
def fX2_hasWay_6_L2 (ke : ST → Option (Int32 × ST)) : Nat → Int32 → Int32 → Int32 → ST → Option (Int32 × ST)
  | 0, _, _, _, _ => none
  | n + 1, x1, x2, x3, σ => (if (gI σ 16) ≤ x3 then ke  σ else ald (gA σ 31) 14 x3 (fun v_2 => (if v_2 = x1 then ald (gA σ 32) 14 x3 (fun v_7 => (if v_7 = x2 then some (1, σ) else fX2_hasWay_6_J30 (fX2_hasWay_6_L2 ke n) x1 x2 x3 σ)) else fX2_hasWay_6_J30 (fX2_hasWay_6_L2 ke n) x1 x2 x3 σ)))
set_option maxHeartbeats 4000000 in
set_option maxRecDepth 100000 in
theorem wX2_hasWay_6_L2 {p : Program} {l : Launch} {e : Env} {s : State} {m : MethodId} {args : Array Value} {below : List Frame} {meth : Method} {c : Code} {E : EN} (C : zC E xW p s m args meth c cX2_hasWay 4 RX2 (some .boolean) wsL_law) {F : Int32 × ST} {ke : ST → Option (Int32 × ST)} (hke : ∀  (σ : ST) (H : Heap) (locs : List Loc) (ls : Array Slot), lv_has ls 4 [] → va_P (eD E) vwCl (xW E σ) H → va_S (eA E) s.heap H locs → ke  σ = some F → zWi E xW p l e r_X2_hasWay s m args below meth c F H locs (F0 m 58 ls [])) : ∀ (n : Nat) (x1 : Int32) (x2 : Int32) (x3 : Int32) (σ : ST) (H : Heap) (locs : List Loc) (ls : Array Slot), lv_has ls 4 [(0, .ref (ea E 6)), (1, .int x1), (2, .int x2), (3, .int x3)] → va_P (eD E) vwCl (xW E σ) H → va_S (eA E) s.heap H locs → fX2_hasWay_6_L2 ke n x1 x2 x3 σ = some F → zWi E xW p l e r_X2_hasWay s m args below meth c F H locs (F0 m 2 ls []) := by
  obtain ⟨hx, hb, hml, hown, hts, hr, hlk, hK, hD⟩ := id C
  have hwX2 : ∀ w ∈ wsX20, w.before args s = true := fun w h => hts w (inlX2 w h)
  intro n
  induction n with
  | zero => intro x1 x2 x3 σ H locs ls hl hP hS hE; rw [fX2_hasWay_6_L2] at hE; cases hE
  | succ n ih =>
    intro x1 x2 x3 σ H locs ls hl hP hS hE
    rw [fX2_hasWay_6_L2] at hE
    refine lv_iload_n hx hb dX2_hasWay_2 rfl (lv_at hl 3 rfl) ?_
    refine lv_aload_n hx hb dX2_hasWay_3 rfl (lv_at hl 0 rfl) ?_
    refine xg_6_12 hx hb hown hwX2 (hts _ u_74) hK hP dX2_hasWay_4 ?_
    refine z_icmp_ge (tgt := 58) hx hb dX2_hasWay_7 (by decide) hE (fun hE => ?_) (fun hE => ?_)
    · exact hke  σ _ _ _ (lv_sub hl [] rfl) hP hS hE
    refine lv_aload_n hx hb dX2_hasWay_10 rfl (lv_at hl 0 rfl) ?_
    refine xg_6_3 hx hb hown hwX2 (hts _ u_65) hK hP dX2_hasWay_11 ?_
    refine lv_iload_n hx hb dX2_hasWay_14 rfl (lv_at hl 3 rfl) ?_
    refine xa_38 hx hb hK hP dX2_hasWay_15 hE (fun v_2 hE => ?_)
    refine lv_iload_n hx hb dX2_hasWay_16 rfl (lv_at hl 1 rfl) ?_
    refine z_icmp_ne (tgt := 30) hx hb dX2_hasWay_17 (by decide) hE (fun hE => ?_) (fun hE => ?_)
    · exact wX2_hasWay_6_J30 C ih x1 x2 x3 σ _ _ _ (lv_sub hl [0, 1, 2, 3] rfl) hP hS hE
    refine lv_aload_n hx hb dX2_hasWay_20 rfl (lv_at hl 0 rfl) ?_
    refine xg_6_4 hx hb hown hwX2 (hts _ u_66) hK hP dX2_hasWay_21 ?_
    refine lv_iload_n hx hb dX2_hasWay_24 rfl (lv_at hl 3 rfl) ?_
    refine xa_39 hx hb hK hP dX2_hasWay_25 hE (fun v_7 hE => ?_)
    refine lv_iload_n hx hb dX2_hasWay_26 rfl (lv_at hl 2 rfl) ?_
    refine z_icmp_eq (tgt := 50) hx hb dX2_hasWay_27 (by decide) hE (fun hE => ?_) (fun hE => ?_)
    · refine lv_iconst (v := 1) hx hb dX2_hasWay_50 (by decide) ?_
      exact z_zret hx hb hr hlk rfl hP hS dX2_hasWay_51 hE
    exact wX2_hasWay_6_J30 C ih x1 x2 x3 σ _ _ _ (lv_sub hl [0, 1, 2, 3] rfl) hP hS hE
def fX2_hasWay_6  (x1 : Int32) (x2 : Int32) (σ : ST) : Option (Int32 × ST) :=
  bnd (0 : Int32) (fun x3_1 => fX2_hasWay_6_L2 (fun σ_8 => some (0, σ_8)) FU x1 x2 x3_1 σ)
set_option maxHeartbeats 4000000 in
set_option maxRecDepth 100000 in
theorem wX2_hasWay_6 {p : Program} {l : Launch} {e : Env} {s : State} {m : MethodId} {args : Array Value} {below : List Frame} {meth : Method} {c : Code} {E : EN} (C : zC E xW p s m args meth c cX2_hasWay 4 RX2 (some .boolean) wsL_law) {F : Int32 × ST}   (x1 : Int32) (x2 : Int32) (σ : ST) (H : Heap) (locs : List Loc) (ls : Array Slot) (hl : lv_has ls 4 [(0, .ref (ea E 6)), (1, .int x1), (2, .int x2)]) (hP : va_P (eD E) vwCl (xW E σ) H) (hS : va_S (eA E) s.heap H locs) (hE : fX2_hasWay_6  x1 x2 σ = some F) : zWi E xW p l e r_X2_hasWay s m args below meth c F H locs (F0 m 0 ls []) := by
  obtain ⟨hx, hb, hml, hown, hts, hr, hlk, hK, hD⟩ := id C
  unfold fX2_hasWay_6 at hE
  refine lv_iconst (v := 0) hx hb dX2_hasWay_0 (by decide) ?_
  refine z_istore_n hx hb (fun x3_1 => [(3, .int x3_1), (0, .ref (ea E 6)), (1, .int x1), (2, .int x2)]) dX2_hasWay_1 rfl hl (by decide) rfl hE (fun x3_1 ls hl hE => ?_)
  refine wX2_hasWay_6_L2 C ?_ FU x1 x2 x3_1 σ _ _ _ (lv_sub hl [1, 2, 3, 0] rfl) hP hS hE
  intro σ_8 H locs ls hl hP hS hE
  refine lv_iconst (v := 0) hx hb dX2_hasWay_58 (by decide) ?_
  exact z_zret hx hb hr hlk rfl hP hS dX2_hasWay_59 hE
theorem kX2_hasWay_6 (l : Launch) (E : EN) (hD : ∀ σ, va_D (eA E) (xW E σ)) (x1 : Int32) (x2 : Int32) (σ : ST) (F : Int32 × ST) (hE : fX2_hasWay_6 x1 x2 σ = some F) : Met l yX2_hasWay wu_X2_hasWay r_X2_hasWay (zPc E xW [.ref (ea E 6), .int x1, .int x2] σ) (zQi E xW F) 0 0 (eA E) := by
  refine Met.ofW (cc := cX2_hasWay) (maxL := 4) (ret := (some .boolean)) (by decide) rfl ?_
  intro p e s m args below meth c s₁ B hml hv
  obtain ⟨rfl, hP, hK⟩ := hv
  have hl := lv_entry ([.ref (ea E 6), .int x1, .int x2]) (n := 4) (Nat.le_of_ble_eq_true rfl)
  rw [lg_entry_eq]
  generalize (lg_sl ([.ref (ea E 6), .int x1, .int x2]) ++ List.replicate (4 - (lg_sl ([.ref (ea E 6), .int x1, .int x2])).length) Slot.unset).toArray = ls at hl ⊢
  exact wX2_hasWay_6 ⟨B.exec, B.bytes, hml, findClass_of_methodNamed B.named, fun w h => atoms_spec (ws := wu_X2_hasWay) B.pre w (List.mem_cons_of_mem _ h), B.returns, B.notSynchronized, hK, hD⟩ x1 x2 σ s.heap [] ls hl hP va_S.rf hE
def fX2_addWay_6  (x1 : Int32) (x2 : Int32) (x3 : Int32) (x4 : Int32) (σ : ST) : Option (Int32 × ST) :=
  (if 14 ≤ (gI σ 16) then some (0, σ) else (if (gI σ 15) ≤ x1 then some (0, σ) else (if (gI σ 15) ≤ x2 then some (0, σ) else (if x1 = x2 then some (0, σ) else cali (fX2_hasWay_6 x1 x2 σ) (fun r_2 σ_1 => (if r_2 = 0 then (if x3 < 1 then some (0, σ_1) else (if x3 ≤ 60 then ast σ_1 31 14 (gI σ_1 16) x1 (fun σ_3 => ast σ_3 32 14 (gI σ_3 16) x2 (fun σ_4 => ast σ_4 33 14 (gI σ_4 16) x3 (fun σ_5 => ast σ_5 34 14 (gI σ_5 16) x4 (fun σ_6 => bnd (sI σ_6 16 ((gI σ_6 16) + 1)) (fun σ_7 => some (1, σ_7)))))) else some (0, σ_1))) else some (0, σ_1)))))))
set_option maxHeartbeats 4000000 in
set_option maxRecDepth 100000 in
theorem wX2_addWay_6 {p : Program} {l : Launch} {e : Env} {s : State} {m : MethodId} {args : Array Value} {below : List Frame} {meth : Method} {c : Code} {E : EN} (C : zC E xW p s m args meth c cX2_addWay 5 RX2 (some .boolean) wsL_law) {F : Int32 × ST}   (x1 : Int32) (x2 : Int32) (x3 : Int32) (x4 : Int32) (σ : ST) (H : Heap) (locs : List Loc) (ls : Array Slot) (hl : lv_has ls 5 [(0, .ref (ea E 6)), (1, .int x1), (2, .int x2), (3, .int x3), (4, .int x4)]) (hP : va_P (eD E) vwCl (xW E σ) H) (hS : va_S (eA E) s.heap H locs) (hE : fX2_addWay_6  x1 x2 x3 x4 σ = some F) : zWi E xW p l e r_X2_addWay s m args below meth c F H locs (F0 m 0 ls []) := by
  obtain ⟨hx, hb, hml, hown, hts, hr, hlk, hK, hD⟩ := id C
  have hwX2 : ∀ w ∈ wsX20, w.before args s = true := fun w h => hts w (inlX2 w h)
  unfold fX2_addWay_6 at hE
  refine lv_aload_n hx hb dX2_addWay_0 rfl (lv_at hl 0 rfl) ?_
  refine xg_6_12 hx hb hown hwX2 (hts _ u_74) hK hP dX2_addWay_1 ?_
  refine lv_bipush (v := 14) hx hb dX2_addWay_4 (by decide) ?_
  refine z_icmp_ge (tgt := 39) hx hb dX2_addWay_6 (by decide) hE (fun hE => ?_) (fun hE => ?_)
  · refine lv_iconst (v := 0) hx hb dX2_addWay_39 (by decide) ?_
    exact z_zret hx hb hr hlk rfl hP hS dX2_addWay_40 hE
  refine lv_iload_n hx hb dX2_addWay_9 rfl (lv_at hl 1 rfl) ?_
  refine lv_aload_n hx hb dX2_addWay_10 rfl (lv_at hl 0 rfl) ?_
  refine xg_6_11 hx hb hown hwX2 (hts _ u_73) hK hP dX2_addWay_11 ?_
  refine z_icmp_ge (tgt := 39) hx hb dX2_addWay_14 (by decide) hE (fun hE => ?_) (fun hE => ?_)
  · refine lv_iconst (v := 0) hx hb dX2_addWay_39 (by decide) ?_
    exact z_zret hx hb hr hlk rfl hP hS dX2_addWay_40 hE
  refine lv_iload_n hx hb dX2_addWay_17 rfl (lv_at hl 2 rfl) ?_
  refine lv_aload_n hx hb dX2_addWay_18 rfl (lv_at hl 0 rfl) ?_
  refine xg_6_11 hx hb hown hwX2 (hts _ u_73) hK hP dX2_addWay_19 ?_
  refine z_icmp_ge (tgt := 39) hx hb dX2_addWay_22 (by decide) hE (fun hE => ?_) (fun hE => ?_)
  · refine lv_iconst (v := 0) hx hb dX2_addWay_39 (by decide) ?_
    exact z_zret hx hb hr hlk rfl hP hS dX2_addWay_40 hE
  refine lv_iload_n hx hb dX2_addWay_25 rfl (lv_at hl 1 rfl) ?_
  refine lv_iload_n hx hb dX2_addWay_26 rfl (lv_at hl 2 rfl) ?_
  refine z_icmp_eq (tgt := 39) hx hb dX2_addWay_27 (by decide) hE (fun hE => ?_) (fun hE => ?_)
  · refine lv_iconst (v := 0) hx hb dX2_addWay_39 (by decide) ?_
    exact z_zret hx hb hr hlk rfl hP hS dX2_addWay_40 hE
  refine lv_aload_n hx hb dX2_addWay_30 rfl (lv_at hl 0 rfl) ?_
  refine lv_iload_n hx hb dX2_addWay_31 rfl (lv_at hl 1 rfl) ?_
  refine lv_iload_n hx hb dX2_addWay_32 rfl (lv_at hl 2 rfl) ?_
  refine z_goi (wf := xW) hS hE (fun F1 h1 => (va_runV (As := [.int x1, .int x2]) (rest := []) ⟨hx, hb, hml, hown, hts⟩ (kX2_hasWay_6 l E hD x1 x2 σ F1 h1) (cwV 2 hts (gU_V u_299 u_300 u_301 u_22 u_302) rfl rfl rfl q_X2_hasWay ⟨Nat.le_of_ble_eq_true rfl, Nat.le_of_ble_eq_true rfl⟩) (z_preV hK hP hS (ci := 2) (q0 := 6) rfl rfl rfl) rfl rfl hl.1 rfl (lv_room (Nat.le_of_ble_eq_true rfl)) dX2_addWay_33 ⟨Nat.le_of_ble_eq_true rfl, Nat.le_of_ble_eq_true rfl⟩)) (fun r_2 σ_1 H locs hP hS hE => ?_)
  refine z_if_eq (tgt := 41) hx hb dX2_addWay_36 (by decide) hE (fun hE => ?_) (fun hE => ?_)
  · refine lv_iload_n hx hb dX2_addWay_41 rfl (lv_at hl 3 rfl) ?_
    refine lv_iconst (v := 1) hx hb dX2_addWay_42 (by decide) ?_
    refine z_icmp_lt (tgt := 52) hx hb dX2_addWay_43 (by decide) hE (fun hE => ?_) (fun hE => ?_)
    · refine lv_iconst (v := 0) hx hb dX2_addWay_52 (by decide) ?_
      exact z_zret hx hb hr hlk rfl hP hS dX2_addWay_53 hE
    refine lv_iload_n hx hb dX2_addWay_46 rfl (lv_at hl 3 rfl) ?_
    refine lv_bipush (v := 60) hx hb dX2_addWay_47 (by decide) ?_
    refine z_icmp_le (tgt := 54) hx hb dX2_addWay_49 (by decide) hE (fun hE => ?_) (fun hE => ?_)
    · refine lv_aload_n hx hb dX2_addWay_54 rfl (lv_at hl 0 rfl) ?_
      refine xg_6_3 hx hb hown hwX2 (hts _ u_65) hK hP dX2_addWay_55 ?_
      refine lv_aload_n hx hb dX2_addWay_58 rfl (lv_at hl 0 rfl) ?_
      refine xg_6_12 hx hb hown hwX2 (hts _ u_74) hK hP dX2_addWay_59 ?_
      refine lv_iload_n hx hb dX2_addWay_62 rfl (lv_at hl 1 rfl) ?_
      refine xs_38 hx hb hK hD hP hS dX2_addWay_63 hE (fun σ_3 H locs hP hS hE => ?_)
      refine lv_aload_n hx hb dX2_addWay_64 rfl (lv_at hl 0 rfl) ?_
      refine xg_6_4 hx hb hown hwX2 (hts _ u_66) hK hP dX2_addWay_65 ?_
      refine lv_aload_n hx hb dX2_addWay_68 rfl (lv_at hl 0 rfl) ?_
      refine xg_6_12 hx hb hown hwX2 (hts _ u_74) hK hP dX2_addWay_69 ?_
      refine lv_iload_n hx hb dX2_addWay_72 rfl (lv_at hl 2 rfl) ?_
      refine xs_39 hx hb hK hD hP hS dX2_addWay_73 hE (fun σ_4 H locs hP hS hE => ?_)
      refine lv_aload_n hx hb dX2_addWay_74 rfl (lv_at hl 0 rfl) ?_
      refine xg_6_5 hx hb hown hwX2 (hts _ u_67) hK hP dX2_addWay_75 ?_
      refine lv_aload_n hx hb dX2_addWay_78 rfl (lv_at hl 0 rfl) ?_
      refine xg_6_12 hx hb hown hwX2 (hts _ u_74) hK hP dX2_addWay_79 ?_
      refine lv_iload_n hx hb dX2_addWay_82 rfl (lv_at hl 3 rfl) ?_
      refine xs_40 hx hb hK hD hP hS dX2_addWay_83 hE (fun σ_5 H locs hP hS hE => ?_)
      refine lv_aload_n hx hb dX2_addWay_84 rfl (lv_at hl 0 rfl) ?_
      refine xg_6_6 hx hb hown hwX2 (hts _ u_68) hK hP dX2_addWay_85 ?_
      refine lv_aload_n hx hb dX2_addWay_88 rfl (lv_at hl 0 rfl) ?_
      refine xg_6_12 hx hb hown hwX2 (hts _ u_74) hK hP dX2_addWay_89 ?_
      refine lv_iload hx hb dX2_addWay_92 (lv_at hl 4 rfl) ?_
      refine xs_41 hx hb hK hD hP hS dX2_addWay_94 hE (fun σ_6 H locs hP hS hE => ?_)
      refine lv_aload_n hx hb dX2_addWay_95 rfl (lv_at hl 0 rfl) ?_
      refine lv_dup hx hb dX2_addWay_96 rfl ?_
      refine xg_6_12 hx hb hown hwX2 (hts _ u_74) hK hP dX2_addWay_97 ?_
      refine lv_iconst (v := 1) hx hb dX2_addWay_100 (by decide) ?_
      refine lv_iadd hx hb dX2_addWay_101 ?_
      refine xp_6_12 hx hb hown hwX2 (hts _ u_74) hK hD hP hS dX2_addWay_102 hE (fun σ_7 H locs hP hS hE => ?_)
      refine lv_iconst (v := 1) hx hb dX2_addWay_105 (by decide) ?_
      exact z_zret hx hb hr hlk rfl hP hS dX2_addWay_106 hE
    refine lv_iconst (v := 0) hx hb dX2_addWay_52 (by decide) ?_
    exact z_zret hx hb hr hlk rfl hP hS dX2_addWay_53 hE
  refine lv_iconst (v := 0) hx hb dX2_addWay_39 (by decide) ?_
  exact z_zret hx hb hr hlk rfl hP hS dX2_addWay_40 hE
theorem kX2_addWay_6 (l : Launch) (E : EN) (hD : ∀ σ, va_D (eA E) (xW E σ)) (x1 : Int32) (x2 : Int32) (x3 : Int32) (x4 : Int32) (σ : ST) (F : Int32 × ST) (hE : fX2_addWay_6 x1 x2 x3 x4 σ = some F) : Met l yX2_addWay wu_X2_addWay r_X2_addWay (zPc E xW [.ref (ea E 6), .int x1, .int x2, .int x3, .int x4] σ) (zQi E xW F) 0 0 (eA E) := by
  refine Met.ofW (cc := cX2_addWay) (maxL := 5) (ret := (some .boolean)) (by decide) rfl ?_
  intro p e s m args below meth c s₁ B hml hv
  obtain ⟨rfl, hP, hK⟩ := hv
  have hl := lv_entry ([.ref (ea E 6), .int x1, .int x2, .int x3, .int x4]) (n := 5) (Nat.le_of_ble_eq_true rfl)
  rw [lg_entry_eq]
  generalize (lg_sl ([.ref (ea E 6), .int x1, .int x2, .int x3, .int x4]) ++ List.replicate (5 - (lg_sl ([.ref (ea E 6), .int x1, .int x2, .int x3, .int x4])).length) Slot.unset).toArray = ls at hl ⊢
  exact wX2_addWay_6 ⟨B.exec, B.bytes, hml, findClass_of_methodNamed B.named, fun w h => atoms_spec (ws := wu_X2_addWay) B.pre w (List.mem_cons_of_mem _ h), B.returns, B.notSynchronized, hK, hD⟩ x1 x2 x3 x4 σ s.heap [] ls hl hP va_S.rf hE
def fX1_tellStatement_6  (x2 : Int32) (σ : ST) : Option (Int32 × ST) :=
  ald (gA σ 5) 96 x2 (fun v_1 => (if v_1 = 100 then cali (fX1_number (x2 + 1) 1 σ) (fun r_3 σ_2 => cali (fX2_takeDriver_6 r_3 σ_2) (fun r_5 σ_4 => bz r_5 (some (r_5, σ_4)))) else (if v_1 = 101 then cali (fX1_number (x2 + 1) 1 σ) (fun r_7 σ_6 => cali (fX1_number (x2 + 2) 2 σ_6) (fun r_9 σ_8 => cali (fX1_number (x2 + 4) 2 σ_8) (fun r_11 σ_10 => cali (fX1_number (x2 + 6) 3 σ_10) (fun r_13 σ_12 => cali (fX2_addErrand_6 r_7 r_9 r_11 r_13 σ_12) (fun r_15 σ_14 => bz r_15 (some (r_15, σ_14))))))) else (if v_1 = 102 then cali (fX1_number (x2 + 1) 1 σ) (fun r_17 σ_16 => cali (fX1_number (x2 + 2) 2 σ_16) (fun r_19 σ_18 => cali (fX2_useFuel_6 r_17 r_19 σ_18) (fun r_21 σ_20 => bz r_21 (some (r_21, σ_20))))) else (if v_1 = 112 then cali (fX1_kindAt (x2 + 1) σ) (fun r_23 σ_22 => cali (fX1_number (x2 + 2) 1 σ_22) (fun r_25 σ_24 => cali (fX1_number (x2 + 3) 1 σ_24) (fun r_27 σ_26 => cali (fX2_addPlace_6 r_23 r_25 r_27 σ_26) (fun r_29 σ_28 => bz r_29 (some (r_29, σ_28)))))) else (if v_1 = 119 then cali (fX1_number (x2 + 1) 1 σ) (fun r_31 σ_30 => cali (fX1_number (x2 + 2) 1 σ_30) (fun r_33 σ_32 => cali (fX1_number (x2 + 3) 2 σ_32) (fun r_35 σ_34 => cali (fX1_number (x2 + 5) 1 σ_34) (fun r_37 σ_36 => cali (fX2_addWay_6 r_31 r_33 r_35 r_37 σ_36) (fun r_39 σ_38 => bz r_39 (some (r_39, σ_38))))))) else some (0, σ)))))))
set_option maxHeartbeats 4000000 in
set_option maxRecDepth 100000 in
theorem wX1_tellStatement_6 {p : Program} {l : Launch} {e : Env} {s : State} {m : MethodId} {args : Array Value} {below : List Frame} {meth : Method} {c : Code} {E : EN} (C : zC E xW p s m args meth c cX1_tellStatement 3 RX1 (some .boolean) wsL_law) {F : Int32 × ST}   (x2 : Int32) (σ : ST) (H : Heap) (locs : List Loc) (ls : Array Slot) (hl : lv_has ls 3 [(0, .ref (ea E 3)), (1, .ref (ea E 6)), (2, .int x2)]) (hP : va_P (eD E) vwCl (xW E σ) H) (hS : va_S (eA E) s.heap H locs) (hE : fX1_tellStatement_6  x2 σ = some F) : zWi E xW p l e r_X1_tellStatement s m args below meth c F H locs (F0 m 0 ls []) := by
  obtain ⟨hx, hb, hml, hown, hts, hr, hlk, hK, hD⟩ := id C
  have hwX1 : ∀ w ∈ wsX10, w.before args s = true := fun w h => hts w (inlX1 w h)
  unfold fX1_tellStatement_6 at hE
  refine lv_aload_n hx hb dX1_tellStatement_0 rfl (lv_at hl 0 rfl) ?_
  refine xg_3_0 hx hb hown hwX1 (hts _ u_90) hK hP dX1_tellStatement_1 ?_
  refine lv_iload_n hx hb dX1_tellStatement_4 rfl (lv_at hl 2 rfl) ?_
  refine xa_12 hx hb hK hP dX1_tellStatement_5 hE (fun v_1 hE => ?_)
  by_cases q100 : v_1 = 100
  · have hE := (if_pos q100).symm.trans hE
    refine z_lookIn (tgt := 180) (off := 174) hx hb q100 dX1_tellStatement_6 (by decide) (by decide) (by decide) ?_
    refine lv_aload_n hx hb dX1_tellStatement_180 rfl (lv_at hl 1 rfl) ?_
    refine lv_aload_n hx hb dX1_tellStatement_181 rfl (lv_at hl 0 rfl) ?_
    refine lv_iload_n hx hb dX1_tellStatement_182 rfl (lv_at hl 2 rfl) ?_
    refine lv_iconst (v := 1) hx hb dX1_tellStatement_183 (by decide) ?_
    refine lv_iadd hx hb dX1_tellStatement_184 ?_
    refine lv_iconst (v := 1) hx hb dX1_tellStatement_185 (by decide) ?_
    refine z_goi (wf := xW) hS hE (fun F1 h1 => (va_runV (As := [.int (x2 + 1), .int 1]) (rest := [.ref (ea E 6)]) ⟨hx, hb, hml, hown, hts⟩ (kX1_number l E hD (x2 + 1) 1 σ F1 h1) (cwV 2 hts (gU_V u_287 u_288 u_289 u_27 u_290) rfl rfl rfl q_X1_number ⟨Nat.le_of_ble_eq_true rfl, Nat.le_of_ble_eq_true rfl⟩) (z_preV hK hP hS (ci := 1) (q0 := 3) rfl rfl rfl) rfl rfl hl.1 rfl (lv_room (Nat.le_of_ble_eq_true rfl)) dX1_tellStatement_186 ⟨Nat.le_of_ble_eq_true rfl, Nat.le_of_ble_eq_true rfl⟩)) (fun r_3 σ_2 H locs hP hS hE => ?_)
    refine z_goi (wf := xW) hS hE (fun F1 h1 => (va_runV (As := [.int r_3]) (rest := []) ⟨hx, hb, hml, hown, hts⟩ (kX2_takeDriver_6 l E hD r_3 σ_2 F1 h1) (cwV 1 hts (gU_V u_311 u_312 u_313 u_22 u_314) rfl rfl rfl q_X2_takeDriver ⟨Nat.le_of_ble_eq_true rfl, Nat.le_of_ble_eq_true rfl⟩) (z_preV hK hP hS (ci := 2) (q0 := 6) rfl rfl rfl) rfl rfl hl.1 rfl (lv_room (Nat.le_of_ble_eq_true rfl)) dX1_tellStatement_189 ⟨Nat.le_of_ble_eq_true rfl, Nat.le_of_ble_eq_true rfl⟩)) (fun r_5 σ_4 H locs hP hS hE => ?_)
    obtain ⟨hz, hE⟩ := z_bz hE
    exact z_zret hx hb hr hlk hz hP hS dX1_tellStatement_192 hE
  replace hE := (if_neg q100).symm.trans hE
  by_cases q101 : v_1 = 101
  · have hE := (if_pos q101).symm.trans hE
    refine z_lookIn (tgt := 121) (off := 115) hx hb q101 dX1_tellStatement_6 (by decide) (by decide) (by decide) ?_
    refine lv_aload_n hx hb dX1_tellStatement_121 rfl (lv_at hl 1 rfl) ?_
    refine lv_aload_n hx hb dX1_tellStatement_122 rfl (lv_at hl 0 rfl) ?_
    refine lv_iload_n hx hb dX1_tellStatement_123 rfl (lv_at hl 2 rfl) ?_
    refine lv_iconst (v := 1) hx hb dX1_tellStatement_124 (by decide) ?_
    refine lv_iadd hx hb dX1_tellStatement_125 ?_
    refine lv_iconst (v := 1) hx hb dX1_tellStatement_126 (by decide) ?_
    refine z_goi (wf := xW) hS hE (fun F1 h1 => (va_runV (As := [.int (x2 + 1), .int 1]) (rest := [.ref (ea E 6)]) ⟨hx, hb, hml, hown, hts⟩ (kX1_number l E hD (x2 + 1) 1 σ F1 h1) (cwV 2 hts (gU_V u_287 u_288 u_289 u_27 u_290) rfl rfl rfl q_X1_number ⟨Nat.le_of_ble_eq_true rfl, Nat.le_of_ble_eq_true rfl⟩) (z_preV hK hP hS (ci := 1) (q0 := 3) rfl rfl rfl) rfl rfl hl.1 rfl (lv_room (Nat.le_of_ble_eq_true rfl)) dX1_tellStatement_127 ⟨Nat.le_of_ble_eq_true rfl, Nat.le_of_ble_eq_true rfl⟩)) (fun r_7 σ_6 H locs hP hS hE => ?_)
    refine lv_aload_n hx hb dX1_tellStatement_130 rfl (lv_at hl 0 rfl) ?_
    refine lv_iload_n hx hb dX1_tellStatement_131 rfl (lv_at hl 2 rfl) ?_
    refine lv_iconst (v := 2) hx hb dX1_tellStatement_132 (by decide) ?_
    refine lv_iadd hx hb dX1_tellStatement_133 ?_
    refine lv_iconst (v := 2) hx hb dX1_tellStatement_134 (by decide) ?_
    refine z_goi (wf := xW) hS hE (fun F1 h1 => (va_runV (As := [.int (x2 + 2), .int 2]) (rest := [.int r_7, .ref (ea E 6)]) ⟨hx, hb, hml, hown, hts⟩ (kX1_number l E hD (x2 + 2) 2 σ_6 F1 h1) (cwV 2 hts (gU_V u_287 u_288 u_289 u_27 u_290) rfl rfl rfl q_X1_number ⟨Nat.le_of_ble_eq_true rfl, Nat.le_of_ble_eq_true rfl⟩) (z_preV hK hP hS (ci := 1) (q0 := 3) rfl rfl rfl) rfl rfl hl.1 rfl (lv_room (Nat.le_of_ble_eq_true rfl)) dX1_tellStatement_135 ⟨Nat.le_of_ble_eq_true rfl, Nat.le_of_ble_eq_true rfl⟩)) (fun r_9 σ_8 H locs hP hS hE => ?_)
    refine lv_aload_n hx hb dX1_tellStatement_138 rfl (lv_at hl 0 rfl) ?_
    refine lv_iload_n hx hb dX1_tellStatement_139 rfl (lv_at hl 2 rfl) ?_
    refine lv_iconst (v := 4) hx hb dX1_tellStatement_140 (by decide) ?_
    refine lv_iadd hx hb dX1_tellStatement_141 ?_
    refine lv_iconst (v := 2) hx hb dX1_tellStatement_142 (by decide) ?_
    refine z_goi (wf := xW) hS hE (fun F1 h1 => (va_runV (As := [.int (x2 + 4), .int 2]) (rest := [.int r_9, .int r_7, .ref (ea E 6)]) ⟨hx, hb, hml, hown, hts⟩ (kX1_number l E hD (x2 + 4) 2 σ_8 F1 h1) (cwV 2 hts (gU_V u_287 u_288 u_289 u_27 u_290) rfl rfl rfl q_X1_number ⟨Nat.le_of_ble_eq_true rfl, Nat.le_of_ble_eq_true rfl⟩) (z_preV hK hP hS (ci := 1) (q0 := 3) rfl rfl rfl) rfl rfl hl.1 rfl (lv_room (Nat.le_of_ble_eq_true rfl)) dX1_tellStatement_143 ⟨Nat.le_of_ble_eq_true rfl, Nat.le_of_ble_eq_true rfl⟩)) (fun r_11 σ_10 H locs hP hS hE => ?_)
    refine lv_aload_n hx hb dX1_tellStatement_146 rfl (lv_at hl 0 rfl) ?_
    refine lv_iload_n hx hb dX1_tellStatement_147 rfl (lv_at hl 2 rfl) ?_
    refine lv_bipush (v := 6) hx hb dX1_tellStatement_148 (by decide) ?_
    refine lv_iadd hx hb dX1_tellStatement_150 ?_
    refine lv_iconst (v := 3) hx hb dX1_tellStatement_151 (by decide) ?_
    refine z_goi (wf := xW) hS hE (fun F1 h1 => (va_runV (As := [.int (x2 + 6), .int 3]) (rest := [.int r_11, .int r_9, .int r_7, .ref (ea E 6)]) ⟨hx, hb, hml, hown, hts⟩ (kX1_number l E hD (x2 + 6) 3 σ_10 F1 h1) (cwV 2 hts (gU_V u_287 u_288 u_289 u_27 u_290) rfl rfl rfl q_X1_number ⟨Nat.le_of_ble_eq_true rfl, Nat.le_of_ble_eq_true rfl⟩) (z_preV hK hP hS (ci := 1) (q0 := 3) rfl rfl rfl) rfl rfl hl.1 rfl (lv_room (Nat.le_of_ble_eq_true rfl)) dX1_tellStatement_152 ⟨Nat.le_of_ble_eq_true rfl, Nat.le_of_ble_eq_true rfl⟩)) (fun r_13 σ_12 H locs hP hS hE => ?_)
    refine z_goi (wf := xW) hS hE (fun F1 h1 => (va_runV (As := [.int r_7, .int r_9, .int r_11, .int r_13]) (rest := []) ⟨hx, hb, hml, hown, hts⟩ (kX2_addErrand_6 l E hD r_7 r_9 r_11 r_13 σ_12 F1 h1) (cwV 4 hts (gU_V u_303 u_304 u_305 u_22 u_306) rfl rfl rfl q_X2_addErrand ⟨Nat.le_of_ble_eq_true rfl, Nat.le_of_ble_eq_true rfl⟩) (z_preV hK hP hS (ci := 2) (q0 := 6) rfl rfl rfl) rfl rfl hl.1 rfl (lv_room (Nat.le_of_ble_eq_true rfl)) dX1_tellStatement_155 ⟨Nat.le_of_ble_eq_true rfl, Nat.le_of_ble_eq_true rfl⟩)) (fun r_15 σ_14 H locs hP hS hE => ?_)
    obtain ⟨hz, hE⟩ := z_bz hE
    exact z_zret hx hb hr hlk hz hP hS dX1_tellStatement_158 hE
  replace hE := (if_neg q101).symm.trans hE
  by_cases q102 : v_1 = 102
  · have hE := (if_pos q102).symm.trans hE
    refine z_lookIn (tgt := 159) (off := 153) hx hb q102 dX1_tellStatement_6 (by decide) (by decide) (by decide) ?_
    refine lv_aload_n hx hb dX1_tellStatement_159 rfl (lv_at hl 1 rfl) ?_
    refine lv_aload_n hx hb dX1_tellStatement_160 rfl (lv_at hl 0 rfl) ?_
    refine lv_iload_n hx hb dX1_tellStatement_161 rfl (lv_at hl 2 rfl) ?_
    refine lv_iconst (v := 1) hx hb dX1_tellStatement_162 (by decide) ?_
    refine lv_iadd hx hb dX1_tellStatement_163 ?_
    refine lv_iconst (v := 1) hx hb dX1_tellStatement_164 (by decide) ?_
    refine z_goi (wf := xW) hS hE (fun F1 h1 => (va_runV (As := [.int (x2 + 1), .int 1]) (rest := [.ref (ea E 6)]) ⟨hx, hb, hml, hown, hts⟩ (kX1_number l E hD (x2 + 1) 1 σ F1 h1) (cwV 2 hts (gU_V u_287 u_288 u_289 u_27 u_290) rfl rfl rfl q_X1_number ⟨Nat.le_of_ble_eq_true rfl, Nat.le_of_ble_eq_true rfl⟩) (z_preV hK hP hS (ci := 1) (q0 := 3) rfl rfl rfl) rfl rfl hl.1 rfl (lv_room (Nat.le_of_ble_eq_true rfl)) dX1_tellStatement_165 ⟨Nat.le_of_ble_eq_true rfl, Nat.le_of_ble_eq_true rfl⟩)) (fun r_17 σ_16 H locs hP hS hE => ?_)
    refine lv_aload_n hx hb dX1_tellStatement_168 rfl (lv_at hl 0 rfl) ?_
    refine lv_iload_n hx hb dX1_tellStatement_169 rfl (lv_at hl 2 rfl) ?_
    refine lv_iconst (v := 2) hx hb dX1_tellStatement_170 (by decide) ?_
    refine lv_iadd hx hb dX1_tellStatement_171 ?_
    refine lv_iconst (v := 2) hx hb dX1_tellStatement_172 (by decide) ?_
    refine z_goi (wf := xW) hS hE (fun F1 h1 => (va_runV (As := [.int (x2 + 2), .int 2]) (rest := [.int r_17, .ref (ea E 6)]) ⟨hx, hb, hml, hown, hts⟩ (kX1_number l E hD (x2 + 2) 2 σ_16 F1 h1) (cwV 2 hts (gU_V u_287 u_288 u_289 u_27 u_290) rfl rfl rfl q_X1_number ⟨Nat.le_of_ble_eq_true rfl, Nat.le_of_ble_eq_true rfl⟩) (z_preV hK hP hS (ci := 1) (q0 := 3) rfl rfl rfl) rfl rfl hl.1 rfl (lv_room (Nat.le_of_ble_eq_true rfl)) dX1_tellStatement_173 ⟨Nat.le_of_ble_eq_true rfl, Nat.le_of_ble_eq_true rfl⟩)) (fun r_19 σ_18 H locs hP hS hE => ?_)
    refine z_goi (wf := xW) hS hE (fun F1 h1 => (va_runV (As := [.int r_17, .int r_19]) (rest := []) ⟨hx, hb, hml, hown, hts⟩ (kX2_useFuel_6 l E hD r_17 r_19 σ_18 F1 h1) (cwV 2 hts (gU_V u_307 u_308 u_309 u_22 u_310) rfl rfl rfl q_X2_useFuel ⟨Nat.le_of_ble_eq_true rfl, Nat.le_of_ble_eq_true rfl⟩) (z_preV hK hP hS (ci := 2) (q0 := 6) rfl rfl rfl) rfl rfl hl.1 rfl (lv_room (Nat.le_of_ble_eq_true rfl)) dX1_tellStatement_176 ⟨Nat.le_of_ble_eq_true rfl, Nat.le_of_ble_eq_true rfl⟩)) (fun r_21 σ_20 H locs hP hS hE => ?_)
    obtain ⟨hz, hE⟩ := z_bz hE
    exact z_zret hx hb hr hlk hz hP hS dX1_tellStatement_179 hE
  replace hE := (if_neg q102).symm.trans hE
  by_cases q112 : v_1 = 112
  · have hE := (if_pos q112).symm.trans hE
    refine z_lookIn (tgt := 56) (off := 50) hx hb q112 dX1_tellStatement_6 (by decide) (by decide) (by decide) ?_
    refine lv_aload_n hx hb dX1_tellStatement_56 rfl (lv_at hl 1 rfl) ?_
    refine lv_aload_n hx hb dX1_tellStatement_57 rfl (lv_at hl 0 rfl) ?_
    refine lv_iload_n hx hb dX1_tellStatement_58 rfl (lv_at hl 2 rfl) ?_
    refine lv_iconst (v := 1) hx hb dX1_tellStatement_59 (by decide) ?_
    refine lv_iadd hx hb dX1_tellStatement_60 ?_
    refine z_goi (wf := xW) hS hE (fun F1 h1 => (va_runV (As := [.int (x2 + 1)]) (rest := [.ref (ea E 6)]) ⟨hx, hb, hml, hown, hts⟩ (kX1_kindAt l E hD (x2 + 1) σ F1 h1) (cwV 1 hts (gU_V u_283 u_284 u_285 u_27 u_286) rfl rfl rfl q_X1_kindAt ⟨Nat.le_of_ble_eq_true rfl, Nat.le_of_ble_eq_true rfl⟩) (z_preV hK hP hS (ci := 1) (q0 := 3) rfl rfl rfl) rfl rfl hl.1 rfl (lv_room (Nat.le_of_ble_eq_true rfl)) dX1_tellStatement_61 ⟨Nat.le_of_ble_eq_true rfl, Nat.le_of_ble_eq_true rfl⟩)) (fun r_23 σ_22 H locs hP hS hE => ?_)
    refine lv_aload_n hx hb dX1_tellStatement_64 rfl (lv_at hl 0 rfl) ?_
    refine lv_iload_n hx hb dX1_tellStatement_65 rfl (lv_at hl 2 rfl) ?_
    refine lv_iconst (v := 2) hx hb dX1_tellStatement_66 (by decide) ?_
    refine lv_iadd hx hb dX1_tellStatement_67 ?_
    refine lv_iconst (v := 1) hx hb dX1_tellStatement_68 (by decide) ?_
    refine z_goi (wf := xW) hS hE (fun F1 h1 => (va_runV (As := [.int (x2 + 2), .int 1]) (rest := [.int r_23, .ref (ea E 6)]) ⟨hx, hb, hml, hown, hts⟩ (kX1_number l E hD (x2 + 2) 1 σ_22 F1 h1) (cwV 2 hts (gU_V u_287 u_288 u_289 u_27 u_290) rfl rfl rfl q_X1_number ⟨Nat.le_of_ble_eq_true rfl, Nat.le_of_ble_eq_true rfl⟩) (z_preV hK hP hS (ci := 1) (q0 := 3) rfl rfl rfl) rfl rfl hl.1 rfl (lv_room (Nat.le_of_ble_eq_true rfl)) dX1_tellStatement_69 ⟨Nat.le_of_ble_eq_true rfl, Nat.le_of_ble_eq_true rfl⟩)) (fun r_25 σ_24 H locs hP hS hE => ?_)
    refine lv_aload_n hx hb dX1_tellStatement_72 rfl (lv_at hl 0 rfl) ?_
    refine lv_iload_n hx hb dX1_tellStatement_73 rfl (lv_at hl 2 rfl) ?_
    refine lv_iconst (v := 3) hx hb dX1_tellStatement_74 (by decide) ?_
    refine lv_iadd hx hb dX1_tellStatement_75 ?_
    refine lv_iconst (v := 1) hx hb dX1_tellStatement_76 (by decide) ?_
    refine z_goi (wf := xW) hS hE (fun F1 h1 => (va_runV (As := [.int (x2 + 3), .int 1]) (rest := [.int r_25, .int r_23, .ref (ea E 6)]) ⟨hx, hb, hml, hown, hts⟩ (kX1_number l E hD (x2 + 3) 1 σ_24 F1 h1) (cwV 2 hts (gU_V u_287 u_288 u_289 u_27 u_290) rfl rfl rfl q_X1_number ⟨Nat.le_of_ble_eq_true rfl, Nat.le_of_ble_eq_true rfl⟩) (z_preV hK hP hS (ci := 1) (q0 := 3) rfl rfl rfl) rfl rfl hl.1 rfl (lv_room (Nat.le_of_ble_eq_true rfl)) dX1_tellStatement_77 ⟨Nat.le_of_ble_eq_true rfl, Nat.le_of_ble_eq_true rfl⟩)) (fun r_27 σ_26 H locs hP hS hE => ?_)
    refine z_goi (wf := xW) hS hE (fun F1 h1 => (va_runV (As := [.int r_23, .int r_25, .int r_27]) (rest := []) ⟨hx, hb, hml, hown, hts⟩ (kX2_addPlace_6 l E hD r_23 r_25 r_27 σ_26 F1 h1) (cwV 3 hts (gU_V u_291 u_292 u_293 u_22 u_294) rfl rfl rfl q_X2_addPlace ⟨Nat.le_of_ble_eq_true rfl, Nat.le_of_ble_eq_true rfl⟩) (z_preV hK hP hS (ci := 2) (q0 := 6) rfl rfl rfl) rfl rfl hl.1 rfl (lv_room (Nat.le_of_ble_eq_true rfl)) dX1_tellStatement_80 ⟨Nat.le_of_ble_eq_true rfl, Nat.le_of_ble_eq_true rfl⟩)) (fun r_29 σ_28 H locs hP hS hE => ?_)
    obtain ⟨hz, hE⟩ := z_bz hE
    exact z_zret hx hb hr hlk hz hP hS dX1_tellStatement_83 hE
  replace hE := (if_neg q112).symm.trans hE
  by_cases q119 : v_1 = 119
  · have hE := (if_pos q119).symm.trans hE
    refine z_lookIn (tgt := 84) (off := 78) hx hb q119 dX1_tellStatement_6 (by decide) (by decide) (by decide) ?_
    refine lv_aload_n hx hb dX1_tellStatement_84 rfl (lv_at hl 1 rfl) ?_
    refine lv_aload_n hx hb dX1_tellStatement_85 rfl (lv_at hl 0 rfl) ?_
    refine lv_iload_n hx hb dX1_tellStatement_86 rfl (lv_at hl 2 rfl) ?_
    refine lv_iconst (v := 1) hx hb dX1_tellStatement_87 (by decide) ?_
    refine lv_iadd hx hb dX1_tellStatement_88 ?_
    refine lv_iconst (v := 1) hx hb dX1_tellStatement_89 (by decide) ?_
    refine z_goi (wf := xW) hS hE (fun F1 h1 => (va_runV (As := [.int (x2 + 1), .int 1]) (rest := [.ref (ea E 6)]) ⟨hx, hb, hml, hown, hts⟩ (kX1_number l E hD (x2 + 1) 1 σ F1 h1) (cwV 2 hts (gU_V u_287 u_288 u_289 u_27 u_290) rfl rfl rfl q_X1_number ⟨Nat.le_of_ble_eq_true rfl, Nat.le_of_ble_eq_true rfl⟩) (z_preV hK hP hS (ci := 1) (q0 := 3) rfl rfl rfl) rfl rfl hl.1 rfl (lv_room (Nat.le_of_ble_eq_true rfl)) dX1_tellStatement_90 ⟨Nat.le_of_ble_eq_true rfl, Nat.le_of_ble_eq_true rfl⟩)) (fun r_31 σ_30 H locs hP hS hE => ?_)
    refine lv_aload_n hx hb dX1_tellStatement_93 rfl (lv_at hl 0 rfl) ?_
    refine lv_iload_n hx hb dX1_tellStatement_94 rfl (lv_at hl 2 rfl) ?_
    refine lv_iconst (v := 2) hx hb dX1_tellStatement_95 (by decide) ?_
    refine lv_iadd hx hb dX1_tellStatement_96 ?_
    refine lv_iconst (v := 1) hx hb dX1_tellStatement_97 (by decide) ?_
    refine z_goi (wf := xW) hS hE (fun F1 h1 => (va_runV (As := [.int (x2 + 2), .int 1]) (rest := [.int r_31, .ref (ea E 6)]) ⟨hx, hb, hml, hown, hts⟩ (kX1_number l E hD (x2 + 2) 1 σ_30 F1 h1) (cwV 2 hts (gU_V u_287 u_288 u_289 u_27 u_290) rfl rfl rfl q_X1_number ⟨Nat.le_of_ble_eq_true rfl, Nat.le_of_ble_eq_true rfl⟩) (z_preV hK hP hS (ci := 1) (q0 := 3) rfl rfl rfl) rfl rfl hl.1 rfl (lv_room (Nat.le_of_ble_eq_true rfl)) dX1_tellStatement_98 ⟨Nat.le_of_ble_eq_true rfl, Nat.le_of_ble_eq_true rfl⟩)) (fun r_33 σ_32 H locs hP hS hE => ?_)
    refine lv_aload_n hx hb dX1_tellStatement_101 rfl (lv_at hl 0 rfl) ?_
    refine lv_iload_n hx hb dX1_tellStatement_102 rfl (lv_at hl 2 rfl) ?_
    refine lv_iconst (v := 3) hx hb dX1_tellStatement_103 (by decide) ?_
    refine lv_iadd hx hb dX1_tellStatement_104 ?_
    refine lv_iconst (v := 2) hx hb dX1_tellStatement_105 (by decide) ?_
    refine z_goi (wf := xW) hS hE (fun F1 h1 => (va_runV (As := [.int (x2 + 3), .int 2]) (rest := [.int r_33, .int r_31, .ref (ea E 6)]) ⟨hx, hb, hml, hown, hts⟩ (kX1_number l E hD (x2 + 3) 2 σ_32 F1 h1) (cwV 2 hts (gU_V u_287 u_288 u_289 u_27 u_290) rfl rfl rfl q_X1_number ⟨Nat.le_of_ble_eq_true rfl, Nat.le_of_ble_eq_true rfl⟩) (z_preV hK hP hS (ci := 1) (q0 := 3) rfl rfl rfl) rfl rfl hl.1 rfl (lv_room (Nat.le_of_ble_eq_true rfl)) dX1_tellStatement_106 ⟨Nat.le_of_ble_eq_true rfl, Nat.le_of_ble_eq_true rfl⟩)) (fun r_35 σ_34 H locs hP hS hE => ?_)
    refine lv_aload_n hx hb dX1_tellStatement_109 rfl (lv_at hl 0 rfl) ?_
    refine lv_iload_n hx hb dX1_tellStatement_110 rfl (lv_at hl 2 rfl) ?_
    refine lv_iconst (v := 5) hx hb dX1_tellStatement_111 (by decide) ?_
    refine lv_iadd hx hb dX1_tellStatement_112 ?_
    refine lv_iconst (v := 1) hx hb dX1_tellStatement_113 (by decide) ?_
    refine z_goi (wf := xW) hS hE (fun F1 h1 => (va_runV (As := [.int (x2 + 5), .int 1]) (rest := [.int r_35, .int r_33, .int r_31, .ref (ea E 6)]) ⟨hx, hb, hml, hown, hts⟩ (kX1_number l E hD (x2 + 5) 1 σ_34 F1 h1) (cwV 2 hts (gU_V u_287 u_288 u_289 u_27 u_290) rfl rfl rfl q_X1_number ⟨Nat.le_of_ble_eq_true rfl, Nat.le_of_ble_eq_true rfl⟩) (z_preV hK hP hS (ci := 1) (q0 := 3) rfl rfl rfl) rfl rfl hl.1 rfl (lv_room (Nat.le_of_ble_eq_true rfl)) dX1_tellStatement_114 ⟨Nat.le_of_ble_eq_true rfl, Nat.le_of_ble_eq_true rfl⟩)) (fun r_37 σ_36 H locs hP hS hE => ?_)
    refine z_goi (wf := xW) hS hE (fun F1 h1 => (va_runV (As := [.int r_31, .int r_33, .int r_35, .int r_37]) (rest := []) ⟨hx, hb, hml, hown, hts⟩ (kX2_addWay_6 l E hD r_31 r_33 r_35 r_37 σ_36 F1 h1) (cwV 4 hts (gU_V u_295 u_296 u_297 u_22 u_298) rfl rfl rfl q_X2_addWay ⟨Nat.le_of_ble_eq_true rfl, Nat.le_of_ble_eq_true rfl⟩) (z_preV hK hP hS (ci := 2) (q0 := 6) rfl rfl rfl) rfl rfl hl.1 rfl (lv_room (Nat.le_of_ble_eq_true rfl)) dX1_tellStatement_117 ⟨Nat.le_of_ble_eq_true rfl, Nat.le_of_ble_eq_true rfl⟩)) (fun r_39 σ_38 H locs hP hS hE => ?_)
    obtain ⟨hz, hE⟩ := z_bz hE
    exact z_zret hx hb hr hlk hz hP hS dX1_tellStatement_120 hE
  replace hE := (if_neg q119).symm.trans hE
  refine lv_lookup (tgt := 193) hx hb dX1_tellStatement_6 (by decide) (off := 187) (by first | (simp [Op.lookupswitch.offset, show ¬ Int32.toInt v_1 = 100 from z_ne q100, show ¬ Int32.toInt v_1 = 101 from z_ne q101, show ¬ Int32.toInt v_1 = 102 from z_ne q102, show ¬ Int32.toInt v_1 = 112 from z_ne q112, show ¬ Int32.toInt v_1 = 119 from z_ne q119]; done) | (simp [Op.lookupswitch.offset, show ¬ 100 = Int32.toInt v_1 from fun z => z_ne q100 z.symm, show ¬ 101 = Int32.toInt v_1 from fun z => z_ne q101 z.symm, show ¬ 102 = Int32.toInt v_1 from fun z => z_ne q102 z.symm, show ¬ 112 = Int32.toInt v_1 from fun z => z_ne q112 z.symm, show ¬ 119 = Int32.toInt v_1 from fun z => z_ne q119 z.symm, show ¬ Int32.toInt v_1 = 100 from z_ne q100, show ¬ Int32.toInt v_1 = 101 from z_ne q101, show ¬ Int32.toInt v_1 = 102 from z_ne q102, show ¬ Int32.toInt v_1 = 112 from z_ne q112, show ¬ Int32.toInt v_1 = 119 from z_ne q119]; done)) (by decide) ?_
  refine lv_iconst (v := 0) hx hb dX1_tellStatement_193 (by decide) ?_
  exact z_zret hx hb hr hlk rfl hP hS dX1_tellStatement_194 hE
theorem kX1_tellStatement_6 (l : Launch) (E : EN) (hD : ∀ σ, va_D (eA E) (xW E σ)) (x2 : Int32) (σ : ST) (F : Int32 × ST) (hE : fX1_tellStatement_6 x2 σ = some F) : Met l yX1_tellStatement wu_X1_tellStatement r_X1_tellStatement (zPc E xW [.ref (ea E 3), .ref (ea E 6), .int x2] σ) (zQi E xW F) 0 0 (eA E) := by
  refine Met.ofW (cc := cX1_tellStatement) (maxL := 3) (ret := (some .boolean)) (by decide) rfl ?_
  intro p e s m args below meth c s₁ B hml hv
  obtain ⟨rfl, hP, hK⟩ := hv
  have hl := lv_entry ([.ref (ea E 3), .ref (ea E 6), .int x2]) (n := 3) (Nat.le_of_ble_eq_true rfl)
  rw [lg_entry_eq]
  generalize (lg_sl ([.ref (ea E 3), .ref (ea E 6), .int x2]) ++ List.replicate (3 - (lg_sl ([.ref (ea E 3), .ref (ea E 6), .int x2])).length) Slot.unset).toArray = ls at hl ⊢
  exact wX1_tellStatement_6 ⟨B.exec, B.bytes, hml, findClass_of_methodNamed B.named, fun w h => atoms_spec (ws := wu_X1_tellStatement) B.pre w (List.mem_cons_of_mem _ h), B.returns, B.notSynchronized, hK, hD⟩ x2 σ s.heap [] ls hl hP va_S.rf hE
def fX1_firstWrongStatement_6_J32 (kb : Int32 → ST → Option (Int32 × ST)) (x2 : Int32) (t0 : Int32) (σ : ST) : Option (Int32 × ST) :=
  bnd (t0 : Int32) (fun x3_2 => (if x3_2 = 0 then bnd (x2 + 1) (fun x2_3 => kb x2_3 σ) else cali (fX1_tellStatement_6 x2 σ) (fun r_5 σ_4 => (if r_5 = 0 then some (x2, σ_4) else bnd (x2 + 1) (fun x2_6 => kb x2_6 σ_4)))))
set_option maxHeartbeats 4000000 in
set_option maxRecDepth 100000 in
theorem wX1_firstWrongStatement_6_J32 {p : Program} {l : Launch} {e : Env} {s : State} {m : MethodId} {args : Array Value} {below : List Frame} {meth : Method} {c : Code} {E : EN} (C : zC E xW p s m args meth c cX1_firstWrongStatement 4 RX1 (some .int) wsL_law) {F : Int32 × ST} {kb : Int32 → ST → Option (Int32 × ST)} (hkb : ∀ (x2 : Int32) (σ : ST) (H : Heap) (locs : List Loc) (ls : Array Slot), lv_has ls 4 [(0, .ref (ea E 3)), (1, .ref (ea E 6)), (2, .int x2)] → va_P (eD E) vwCl (xW E σ) H → va_S (eA E) s.heap H locs → kb x2 σ = some F → zWi E xW p l e r_X1_firstWrongStatement s m args below meth c F H locs (F0 m 2 ls [])) (x2 : Int32) (t0 : Int32) (σ : ST) (H : Heap) (locs : List Loc) (ls : Array Slot) (hl : lv_has ls 4 [(0, .ref (ea E 3)), (1, .ref (ea E 6)), (2, .int x2)]) (hP : va_P (eD E) vwCl (xW E σ) H) (hS : va_S (eA E) s.heap H locs) (hE : fX1_firstWrongStatement_6_J32 kb x2 t0 σ = some F) : zWi E xW p l e r_X1_firstWrongStatement s m args below meth c F H locs (F0 m 32 ls [.int t0]) := by
  obtain ⟨hx, hb, hml, hown, hts, hr, hlk, hK, hD⟩ := id C
  unfold fX1_firstWrongStatement_6_J32 at hE
  refine z_istore_n hx hb (fun x3_2 => [(3, .int x3_2), (0, .ref (ea E 3)), (1, .ref (ea E 6)), (2, .int x2)]) dX1_firstWrongStatement_32 rfl hl (by decide) rfl hE (fun x3_2 ls hl hE => ?_)
  refine lv_iload_n hx hb dX1_firstWrongStatement_33 rfl (lv_at hl 0 rfl) ?_
  refine z_if_eq (tgt := 48) hx hb dX1_firstWrongStatement_34 (by decide) hE (fun hE => ?_) (fun hE => ?_)
  · refine z_iinc hx hb (v := (x2 + 1)) (k := 3) (fun x2_3 => [(2, .int x2_3), (3, .int x3_2), (0, .ref (ea E 3)), (1, .ref (ea E 6))]) dX1_firstWrongStatement_48 hl rfl (by rfl) (by decide) rfl hE (fun x2_3 ls hl hE => ?_)
    refine lv_goto (tgt := 2) hx hb dX1_firstWrongStatement_51 (by decide) ?_
    exact hkb x2_3 σ _ _ _ (lv_sub hl [2, 3, 0] rfl) hP hS hE
  refine lv_aload_n hx hb dX1_firstWrongStatement_37 rfl (lv_at hl 1 rfl) ?_
  refine lv_aload_n hx hb dX1_firstWrongStatement_38 rfl (lv_at hl 2 rfl) ?_
  refine lv_iload_n hx hb dX1_firstWrongStatement_39 rfl (lv_at hl 3 rfl) ?_
  refine z_goi (wf := xW) hS hE (fun F1 h1 => (va_runV (As := [.ref (ea E 6), .int x2]) (rest := []) ⟨hx, hb, hml, hown, hts⟩ (kX1_tellStatement_6 l E hD x2 σ F1 h1) (cwV 2 hts (gU_V u_279 u_280 u_281 u_27 u_282) rfl rfl rfl q_X1_tellStatement ⟨Nat.le_of_ble_eq_true rfl, Nat.le_of_ble_eq_true rfl⟩) (z_preV hK hP hS (ci := 1) (q0 := 3) rfl rfl rfl) rfl rfl hl.1 rfl (lv_room (Nat.le_of_ble_eq_true rfl)) dX1_firstWrongStatement_40 ⟨Nat.le_of_ble_eq_true rfl, Nat.le_of_ble_eq_true rfl⟩)) (fun r_5 σ_4 H locs hP hS hE => ?_)
  refine z_if_ne (tgt := 48) hx hb dX1_firstWrongStatement_43 (by decide) hE (fun hE => ?_) (fun hE => ?_)
  · refine z_iinc hx hb (v := (x2 + 1)) (k := 3) (fun x2_6 => [(2, .int x2_6), (3, .int x3_2), (0, .ref (ea E 3)), (1, .ref (ea E 6))]) dX1_firstWrongStatement_48 hl rfl (by rfl) (by decide) rfl hE (fun x2_6 ls hl hE => ?_)
    refine lv_goto (tgt := 2) hx hb dX1_firstWrongStatement_51 (by decide) ?_
    exact hkb x2_6 σ_4 _ _ _ (lv_sub hl [2, 3, 0] rfl) hP hS hE
  refine lv_iload_n hx hb dX1_firstWrongStatement_46 rfl (lv_at hl 3 rfl) ?_
  exact z_iret hx hb hr hlk hP hS dX1_firstWrongStatement_47 hE
def fX1_firstWrongStatement_6_J27 (kb : Int32 → ST → Option (Int32 × ST)) (x2 : Int32) (σ : ST) : Option (Int32 × ST) :=
  fX1_firstWrongStatement_6_J32 kb x2 1 σ
set_option maxHeartbeats 4000000 in
set_option maxRecDepth 100000 in
theorem wX1_firstWrongStatement_6_J27 {p : Program} {l : Launch} {e : Env} {s : State} {m : MethodId} {args : Array Value} {below : List Frame} {meth : Method} {c : Code} {E : EN} (C : zC E xW p s m args meth c cX1_firstWrongStatement 4 RX1 (some .int) wsL_law) {F : Int32 × ST} {kb : Int32 → ST → Option (Int32 × ST)} (hkb : ∀ (x2 : Int32) (σ : ST) (H : Heap) (locs : List Loc) (ls : Array Slot), lv_has ls 4 [(0, .ref (ea E 3)), (1, .ref (ea E 6)), (2, .int x2)] → va_P (eD E) vwCl (xW E σ) H → va_S (eA E) s.heap H locs → kb x2 σ = some F → zWi E xW p l e r_X1_firstWrongStatement s m args below meth c F H locs (F0 m 2 ls [])) (x2 : Int32) (σ : ST) (H : Heap) (locs : List Loc) (ls : Array Slot) (hl : lv_has ls 4 [(0, .ref (ea E 3)), (1, .ref (ea E 6)), (2, .int x2)]) (hP : va_P (eD E) vwCl (xW E σ) H) (hS : va_S (eA E) s.heap H locs) (hE : fX1_firstWrongStatement_6_J27 kb x2 σ = some F) : zWi E xW p l e r_X1_firstWrongStatement s m args below meth c F H locs (F0 m 27 ls []) := by
  obtain ⟨hx, hb, hml, hown, hts, hr, hlk, hK, hD⟩ := id C
  unfold fX1_firstWrongStatement_6_J27 at hE
  refine lv_iconst (v := 1) hx hb dX1_firstWrongStatement_27 (by decide) ?_
  refine lv_goto (tgt := 32) hx hb dX1_firstWrongStatement_28 (by decide) ?_
  exact wX1_firstWrongStatement_6_J32 C hkb x2 1 σ _ _ _ (lv_sub hl [0, 1, 2] rfl) hP hS hE
def fX1_firstWrongStatement_6_L2 (ke : ST → Option (Int32 × ST)) : Nat → Int32 → ST → Option (Int32 × ST)
  | 0, _, _ => none
  | n + 1, x2, σ => (if (gI σ 2) ≤ x2 then ke  σ else (if x2 = 0 then fX1_firstWrongStatement_6_J27 (fX1_firstWrongStatement_6_L2 ke n) x2 σ else ald (gA σ 5) 96 (x2 - 1) (fun v_7 => (if v_7 = 59 then fX1_firstWrongStatement_6_J27 (fX1_firstWrongStatement_6_L2 ke n) x2 σ else fX1_firstWrongStatement_6_J32 (fX1_firstWrongStatement_6_L2 ke n) x2 0 σ))))
set_option maxHeartbeats 4000000 in
set_option maxRecDepth 100000 in
theorem wX1_firstWrongStatement_6_L2 {p : Program} {l : Launch} {e : Env} {s : State} {m : MethodId} {args : Array Value} {below : List Frame} {meth : Method} {c : Code} {E : EN} (C : zC E xW p s m args meth c cX1_firstWrongStatement 4 RX1 (some .int) wsL_law) {F : Int32 × ST} {ke : ST → Option (Int32 × ST)} (hke : ∀  (σ : ST) (H : Heap) (locs : List Loc) (ls : Array Slot), lv_has ls 4 [] → va_P (eD E) vwCl (xW E σ) H → va_S (eA E) s.heap H locs → ke  σ = some F → zWi E xW p l e r_X1_firstWrongStatement s m args below meth c F H locs (F0 m 54 ls [])) : ∀ (n : Nat) (x2 : Int32) (σ : ST) (H : Heap) (locs : List Loc) (ls : Array Slot), lv_has ls 4 [(0, .ref (ea E 3)), (1, .ref (ea E 6)), (2, .int x2)] → va_P (eD E) vwCl (xW E σ) H → va_S (eA E) s.heap H locs → fX1_firstWrongStatement_6_L2 ke n x2 σ = some F → zWi E xW p l e r_X1_firstWrongStatement s m args below meth c F H locs (F0 m 2 ls []) := by
  obtain ⟨hx, hb, hml, hown, hts, hr, hlk, hK, hD⟩ := id C
  have hwX1 : ∀ w ∈ wsX10, w.before args s = true := fun w h => hts w (inlX1 w h)
  intro n
  induction n with
  | zero => intro x2 σ H locs ls hl hP hS hE; rw [fX1_firstWrongStatement_6_L2] at hE; cases hE
  | succ n ih =>
    intro x2 σ H locs ls hl hP hS hE
    rw [fX1_firstWrongStatement_6_L2] at hE
    refine lv_iload_n hx hb dX1_firstWrongStatement_2 rfl (lv_at hl 2 rfl) ?_
    refine lv_aload_n hx hb dX1_firstWrongStatement_3 rfl (lv_at hl 0 rfl) ?_
    refine xg_3_1 hx hb hown hwX1 (hts _ u_91) hK hP dX1_firstWrongStatement_4 ?_
    refine z_icmp_ge (tgt := 54) hx hb dX1_firstWrongStatement_7 (by decide) hE (fun hE => ?_) (fun hE => ?_)
    · exact hke  σ _ _ _ (lv_sub hl [] rfl) hP hS hE
    refine lv_iload_n hx hb dX1_firstWrongStatement_10 rfl (lv_at hl 2 rfl) ?_
    refine z_if_eq (tgt := 27) hx hb dX1_firstWrongStatement_11 (by decide) hE (fun hE => ?_) (fun hE => ?_)
    · exact wX1_firstWrongStatement_6_J27 C ih x2 σ _ _ _ (lv_sub hl [0, 1, 2] rfl) hP hS hE
    refine lv_aload_n hx hb dX1_firstWrongStatement_14 rfl (lv_at hl 0 rfl) ?_
    refine xg_3_0 hx hb hown hwX1 (hts _ u_90) hK hP dX1_firstWrongStatement_15 ?_
    refine lv_iload_n hx hb dX1_firstWrongStatement_18 rfl (lv_at hl 2 rfl) ?_
    refine lv_iconst (v := 1) hx hb dX1_firstWrongStatement_19 (by decide) ?_
    refine lv_isub hx hb dX1_firstWrongStatement_20 ?_
    refine xa_12 hx hb hK hP dX1_firstWrongStatement_21 hE (fun v_7 hE => ?_)
    refine lv_bipush (v := 59) hx hb dX1_firstWrongStatement_22 (by decide) ?_
    refine z_icmp_ne (tgt := 31) hx hb dX1_firstWrongStatement_24 (by decide) hE (fun hE => ?_) (fun hE => ?_)
    · refine lv_iconst (v := 0) hx hb dX1_firstWrongStatement_31 (by decide) ?_
      exact wX1_firstWrongStatement_6_J32 C ih x2 0 σ _ _ _ (lv_sub hl [0, 1, 2] rfl) hP hS hE
    exact wX1_firstWrongStatement_6_J27 C ih x2 σ _ _ _ (lv_sub hl [0, 1, 2] rfl) hP hS hE
def fX1_firstWrongStatement_6   (σ : ST) : Option (Int32 × ST) :=
  bnd (0 : Int32) (fun x2_1 => fX1_firstWrongStatement_6_L2 (fun σ_8 => some ((-1), σ_8)) FU x2_1 σ)
set_option maxHeartbeats 4000000 in
set_option maxRecDepth 100000 in
theorem wX1_firstWrongStatement_6 {p : Program} {l : Launch} {e : Env} {s : State} {m : MethodId} {args : Array Value} {below : List Frame} {meth : Method} {c : Code} {E : EN} (C : zC E xW p s m args meth c cX1_firstWrongStatement 4 RX1 (some .int) wsL_law) {F : Int32 × ST}    (σ : ST) (H : Heap) (locs : List Loc) (ls : Array Slot) (hl : lv_has ls 4 [(0, .ref (ea E 3)), (1, .ref (ea E 6))]) (hP : va_P (eD E) vwCl (xW E σ) H) (hS : va_S (eA E) s.heap H locs) (hE : fX1_firstWrongStatement_6   σ = some F) : zWi E xW p l e r_X1_firstWrongStatement s m args below meth c F H locs (F0 m 0 ls []) := by
  obtain ⟨hx, hb, hml, hown, hts, hr, hlk, hK, hD⟩ := id C
  unfold fX1_firstWrongStatement_6 at hE
  refine lv_iconst (v := 0) hx hb dX1_firstWrongStatement_0 (by decide) ?_
  refine z_istore_n hx hb (fun x2_1 => [(2, .int x2_1), (0, .ref (ea E 3)), (1, .ref (ea E 6))]) dX1_firstWrongStatement_1 rfl hl (by decide) rfl hE (fun x2_1 ls hl hE => ?_)
  refine wX1_firstWrongStatement_6_L2 C ?_ FU x2_1 σ _ _ _ (lv_sub hl [1, 2, 0] rfl) hP hS hE
  intro σ_8 H locs ls hl hP hS hE
  refine lv_iconst (v := -1) hx hb dX1_firstWrongStatement_54 (by decide) ?_
  exact z_iret hx hb hr hlk hP hS dX1_firstWrongStatement_55 hE
theorem kX1_firstWrongStatement_6 (l : Launch) (E : EN) (hD : ∀ σ, va_D (eA E) (xW E σ))  (σ : ST) (F : Int32 × ST) (hE : fX1_firstWrongStatement_6  σ = some F) : Met l yX1_firstWrongStatement wu_X1_firstWrongStatement r_X1_firstWrongStatement (zPc E xW [.ref (ea E 3), .ref (ea E 6)] σ) (zQi E xW F) 0 0 (eA E) := by
  refine Met.ofW (cc := cX1_firstWrongStatement) (maxL := 4) (ret := (some .int)) (by decide) rfl ?_
  intro p e s m args below meth c s₁ B hml hv
  obtain ⟨rfl, hP, hK⟩ := hv
  have hl := lv_entry ([.ref (ea E 3), .ref (ea E 6)]) (n := 4) (Nat.le_of_ble_eq_true rfl)
  rw [lg_entry_eq]
  generalize (lg_sl ([.ref (ea E 3), .ref (ea E 6)]) ++ List.replicate (4 - (lg_sl ([.ref (ea E 3), .ref (ea E 6)])).length) Slot.unset).toArray = ls at hl ⊢
  exact wX1_firstWrongStatement_6 ⟨B.exec, B.bytes, hml, findClass_of_methodNamed B.named, fun w h => atoms_spec (ws := wu_X1_firstWrongStatement) B.pre w (List.mem_cons_of_mem _ h), B.returns, B.notSynchronized, hK, hD⟩  σ s.heap [] ls hl hP va_S.rf hE
def fX2_becomeLike_4_6   (σ : ST) : Option (ST) :=
  cpy σ 28 8 0 6 8 0 8 (fun σ_1 => cpy σ_1 29 8 0 7 8 0 8 (fun σ_2 => cpy σ_2 30 8 0 8 8 0 8 (fun σ_3 => cpy σ_3 31 14 0 9 14 0 14 (fun σ_4 => cpy σ_4 32 14 0 10 14 0 14 (fun σ_5 => cpy σ_5 33 14 0 11 14 0 14 (fun σ_6 => cpy σ_6 34 14 0 12 14 0 14 (fun σ_7 => cpy σ_7 35 5 0 13 5 0 5 (fun σ_8 => cpy σ_8 36 5 0 14 5 0 5 (fun σ_9 => cpy σ_9 37 5 0 15 5 0 5 (fun σ_10 => cpy σ_10 38 5 0 16 5 0 5 (fun σ_11 => bnd (sI σ_11 3 (gI σ_11 15)) (fun σ_12 => bnd (sI σ_12 4 (gI σ_12 16)) (fun σ_13 => bnd (sI σ_13 5 (gI σ_13 17)) (fun σ_14 => bnd (sI σ_14 6 (gI σ_14 18)) (fun σ_15 => bnd (sI σ_15 7 (gI σ_15 19)) (fun σ_16 => bnd (sI σ_16 8 (gI σ_16 20)) (fun σ_17 => some σ_17)))))))))))))))))
set_option maxHeartbeats 4000000 in
set_option maxRecDepth 100000 in
theorem wX2_becomeLike_4_6 {p : Program} {l : Launch} {e : Env} {s : State} {m : MethodId} {args : Array Value} {below : List Frame} {meth : Method} {c : Code} {E : EN} (C : zC E xW p s m args meth c cX2_becomeLike 2 RX2 none wsL_law) {F : ST}    (σ : ST) (H : Heap) (locs : List Loc) (ls : Array Slot) (hl : lv_has ls 2 [(0, .ref (ea E 4)), (1, .ref (ea E 6))]) (hP : va_P (eD E) vwCl (xW E σ) H) (hS : va_S (eA E) s.heap H locs) (hE : fX2_becomeLike_4_6   σ = some F) : zWv E xW p l e r_X2_becomeLike s m args below meth c F H locs (F0 m 0 ls []) := by
  obtain ⟨hx, hb, hml, hown, hts, hr, hlk, hK, hD⟩ := id C
  have hwX2 : ∀ w ∈ wsX20, w.before args s = true := fun w h => hts w (inlX2 w h)
  unfold fX2_becomeLike_4_6 at hE
  refine lv_aload_n hx hb dX2_becomeLike_0 rfl (lv_at hl 1 rfl) ?_
  refine xg_6_0 hx hb hown hwX2 (hts _ u_62) hK hP dX2_becomeLike_1 ?_
  refine lv_iconst (v := 0) hx hb dX2_becomeLike_4 (by decide) ?_
  refine lv_aload_n hx hb dX2_becomeLike_5 rfl (lv_at hl 0 rfl) ?_
  refine xg_4_0 hx hb hown hwX2 (hts _ u_62) hK hP dX2_becomeLike_6 ?_
  refine lv_iconst (v := 0) hx hb dX2_becomeLike_9 (by decide) ?_
  refine lv_bipush (v := 8) hx hb dX2_becomeLike_10 (by decide) ?_
  refine xc_35_13 hx hb (hml.trans hl.1.symm) hown (hts _ u_271) (hts _ u_272) (hts _ u_273) (hts _ u_274) hK hD hP hS (Nat.le_of_ble_eq_true rfl) (Nat.le_of_ble_eq_true rfl) dX2_becomeLike_12 hE (fun σ_1 H locs hP hS hE => ?_)
  refine lv_aload_n hx hb dX2_becomeLike_15 rfl (lv_at hl 1 rfl) ?_
  refine xg_6_1 hx hb hown hwX2 (hts _ u_63) hK hP dX2_becomeLike_16 ?_
  refine lv_iconst (v := 0) hx hb dX2_becomeLike_19 (by decide) ?_
  refine lv_aload_n hx hb dX2_becomeLike_20 rfl (lv_at hl 0 rfl) ?_
  refine xg_4_1 hx hb hown hwX2 (hts _ u_63) hK hP dX2_becomeLike_21 ?_
  refine lv_iconst (v := 0) hx hb dX2_becomeLike_24 (by decide) ?_
  refine lv_bipush (v := 8) hx hb dX2_becomeLike_25 (by decide) ?_
  refine xc_36_14 hx hb (hml.trans hl.1.symm) hown (hts _ u_271) (hts _ u_272) (hts _ u_273) (hts _ u_274) hK hD hP hS (Nat.le_of_ble_eq_true rfl) (Nat.le_of_ble_eq_true rfl) dX2_becomeLike_27 hE (fun σ_2 H locs hP hS hE => ?_)
  refine lv_aload_n hx hb dX2_becomeLike_30 rfl (lv_at hl 1 rfl) ?_
  refine xg_6_2 hx hb hown hwX2 (hts _ u_64) hK hP dX2_becomeLike_31 ?_
  refine lv_iconst (v := 0) hx hb dX2_becomeLike_34 (by decide) ?_
  refine lv_aload_n hx hb dX2_becomeLike_35 rfl (lv_at hl 0 rfl) ?_
  refine xg_4_2 hx hb hown hwX2 (hts _ u_64) hK hP dX2_becomeLike_36 ?_
  refine lv_iconst (v := 0) hx hb dX2_becomeLike_39 (by decide) ?_
  refine lv_bipush (v := 8) hx hb dX2_becomeLike_40 (by decide) ?_
  refine xc_37_15 hx hb (hml.trans hl.1.symm) hown (hts _ u_271) (hts _ u_272) (hts _ u_273) (hts _ u_274) hK hD hP hS (Nat.le_of_ble_eq_true rfl) (Nat.le_of_ble_eq_true rfl) dX2_becomeLike_42 hE (fun σ_3 H locs hP hS hE => ?_)
  refine lv_aload_n hx hb dX2_becomeLike_45 rfl (lv_at hl 1 rfl) ?_
  refine xg_6_3 hx hb hown hwX2 (hts _ u_65) hK hP dX2_becomeLike_46 ?_
  refine lv_iconst (v := 0) hx hb dX2_becomeLike_49 (by decide) ?_
  refine lv_aload_n hx hb dX2_becomeLike_50 rfl (lv_at hl 0 rfl) ?_
  refine xg_4_3 hx hb hown hwX2 (hts _ u_65) hK hP dX2_becomeLike_51 ?_
  refine lv_iconst (v := 0) hx hb dX2_becomeLike_54 (by decide) ?_
  refine lv_bipush (v := 14) hx hb dX2_becomeLike_55 (by decide) ?_
  refine xc_38_16 hx hb (hml.trans hl.1.symm) hown (hts _ u_271) (hts _ u_272) (hts _ u_273) (hts _ u_274) hK hD hP hS (Nat.le_of_ble_eq_true rfl) (Nat.le_of_ble_eq_true rfl) dX2_becomeLike_57 hE (fun σ_4 H locs hP hS hE => ?_)
  refine lv_aload_n hx hb dX2_becomeLike_60 rfl (lv_at hl 1 rfl) ?_
  refine xg_6_4 hx hb hown hwX2 (hts _ u_66) hK hP dX2_becomeLike_61 ?_
  refine lv_iconst (v := 0) hx hb dX2_becomeLike_64 (by decide) ?_
  refine lv_aload_n hx hb dX2_becomeLike_65 rfl (lv_at hl 0 rfl) ?_
  refine xg_4_4 hx hb hown hwX2 (hts _ u_66) hK hP dX2_becomeLike_66 ?_
  refine lv_iconst (v := 0) hx hb dX2_becomeLike_69 (by decide) ?_
  refine lv_bipush (v := 14) hx hb dX2_becomeLike_70 (by decide) ?_
  refine xc_39_17 hx hb (hml.trans hl.1.symm) hown (hts _ u_271) (hts _ u_272) (hts _ u_273) (hts _ u_274) hK hD hP hS (Nat.le_of_ble_eq_true rfl) (Nat.le_of_ble_eq_true rfl) dX2_becomeLike_72 hE (fun σ_5 H locs hP hS hE => ?_)
  refine lv_aload_n hx hb dX2_becomeLike_75 rfl (lv_at hl 1 rfl) ?_
  refine xg_6_5 hx hb hown hwX2 (hts _ u_67) hK hP dX2_becomeLike_76 ?_
  refine lv_iconst (v := 0) hx hb dX2_becomeLike_79 (by decide) ?_
  refine lv_aload_n hx hb dX2_becomeLike_80 rfl (lv_at hl 0 rfl) ?_
  refine xg_4_5 hx hb hown hwX2 (hts _ u_67) hK hP dX2_becomeLike_81 ?_
  refine lv_iconst (v := 0) hx hb dX2_becomeLike_84 (by decide) ?_
  refine lv_bipush (v := 14) hx hb dX2_becomeLike_85 (by decide) ?_
  refine xc_40_18 hx hb (hml.trans hl.1.symm) hown (hts _ u_271) (hts _ u_272) (hts _ u_273) (hts _ u_274) hK hD hP hS (Nat.le_of_ble_eq_true rfl) (Nat.le_of_ble_eq_true rfl) dX2_becomeLike_87 hE (fun σ_6 H locs hP hS hE => ?_)
  refine lv_aload_n hx hb dX2_becomeLike_90 rfl (lv_at hl 1 rfl) ?_
  refine xg_6_6 hx hb hown hwX2 (hts _ u_68) hK hP dX2_becomeLike_91 ?_
  refine lv_iconst (v := 0) hx hb dX2_becomeLike_94 (by decide) ?_
  refine lv_aload_n hx hb dX2_becomeLike_95 rfl (lv_at hl 0 rfl) ?_
  refine xg_4_6 hx hb hown hwX2 (hts _ u_68) hK hP dX2_becomeLike_96 ?_
  refine lv_iconst (v := 0) hx hb dX2_becomeLike_99 (by decide) ?_
  refine lv_bipush (v := 14) hx hb dX2_becomeLike_100 (by decide) ?_
  refine xc_41_19 hx hb (hml.trans hl.1.symm) hown (hts _ u_271) (hts _ u_272) (hts _ u_273) (hts _ u_274) hK hD hP hS (Nat.le_of_ble_eq_true rfl) (Nat.le_of_ble_eq_true rfl) dX2_becomeLike_102 hE (fun σ_7 H locs hP hS hE => ?_)
  refine lv_aload_n hx hb dX2_becomeLike_105 rfl (lv_at hl 1 rfl) ?_
  refine xg_6_7 hx hb hown hwX2 (hts _ u_69) hK hP dX2_becomeLike_106 ?_
  refine lv_iconst (v := 0) hx hb dX2_becomeLike_109 (by decide) ?_
  refine lv_aload_n hx hb dX2_becomeLike_110 rfl (lv_at hl 0 rfl) ?_
  refine xg_4_7 hx hb hown hwX2 (hts _ u_69) hK hP dX2_becomeLike_111 ?_
  refine lv_iconst (v := 0) hx hb dX2_becomeLike_114 (by decide) ?_
  refine lv_iconst (v := 5) hx hb dX2_becomeLike_115 (by decide) ?_
  refine xc_42_20 hx hb (hml.trans hl.1.symm) hown (hts _ u_271) (hts _ u_272) (hts _ u_273) (hts _ u_274) hK hD hP hS (Nat.le_of_ble_eq_true rfl) (Nat.le_of_ble_eq_true rfl) dX2_becomeLike_116 hE (fun σ_8 H locs hP hS hE => ?_)
  refine lv_aload_n hx hb dX2_becomeLike_119 rfl (lv_at hl 1 rfl) ?_
  refine xg_6_8 hx hb hown hwX2 (hts _ u_70) hK hP dX2_becomeLike_120 ?_
  refine lv_iconst (v := 0) hx hb dX2_becomeLike_123 (by decide) ?_
  refine lv_aload_n hx hb dX2_becomeLike_124 rfl (lv_at hl 0 rfl) ?_
  refine xg_4_8 hx hb hown hwX2 (hts _ u_70) hK hP dX2_becomeLike_125 ?_
  refine lv_iconst (v := 0) hx hb dX2_becomeLike_128 (by decide) ?_
  refine lv_iconst (v := 5) hx hb dX2_becomeLike_129 (by decide) ?_
  refine xc_43_21 hx hb (hml.trans hl.1.symm) hown (hts _ u_271) (hts _ u_272) (hts _ u_273) (hts _ u_274) hK hD hP hS (Nat.le_of_ble_eq_true rfl) (Nat.le_of_ble_eq_true rfl) dX2_becomeLike_130 hE (fun σ_9 H locs hP hS hE => ?_)
  refine lv_aload_n hx hb dX2_becomeLike_133 rfl (lv_at hl 1 rfl) ?_
  refine xg_6_9 hx hb hown hwX2 (hts _ u_71) hK hP dX2_becomeLike_134 ?_
  refine lv_iconst (v := 0) hx hb dX2_becomeLike_137 (by decide) ?_
  refine lv_aload_n hx hb dX2_becomeLike_138 rfl (lv_at hl 0 rfl) ?_
  refine xg_4_9 hx hb hown hwX2 (hts _ u_71) hK hP dX2_becomeLike_139 ?_
  refine lv_iconst (v := 0) hx hb dX2_becomeLike_142 (by decide) ?_
  refine lv_iconst (v := 5) hx hb dX2_becomeLike_143 (by decide) ?_
  refine xc_44_22 hx hb (hml.trans hl.1.symm) hown (hts _ u_271) (hts _ u_272) (hts _ u_273) (hts _ u_274) hK hD hP hS (Nat.le_of_ble_eq_true rfl) (Nat.le_of_ble_eq_true rfl) dX2_becomeLike_144 hE (fun σ_10 H locs hP hS hE => ?_)
  refine lv_aload_n hx hb dX2_becomeLike_147 rfl (lv_at hl 1 rfl) ?_
  refine xg_6_10 hx hb hown hwX2 (hts _ u_72) hK hP dX2_becomeLike_148 ?_
  refine lv_iconst (v := 0) hx hb dX2_becomeLike_151 (by decide) ?_
  refine lv_aload_n hx hb dX2_becomeLike_152 rfl (lv_at hl 0 rfl) ?_
  refine xg_4_10 hx hb hown hwX2 (hts _ u_72) hK hP dX2_becomeLike_153 ?_
  refine lv_iconst (v := 0) hx hb dX2_becomeLike_156 (by decide) ?_
  refine lv_iconst (v := 5) hx hb dX2_becomeLike_157 (by decide) ?_
  refine xc_45_23 hx hb (hml.trans hl.1.symm) hown (hts _ u_271) (hts _ u_272) (hts _ u_273) (hts _ u_274) hK hD hP hS (Nat.le_of_ble_eq_true rfl) (Nat.le_of_ble_eq_true rfl) dX2_becomeLike_158 hE (fun σ_11 H locs hP hS hE => ?_)
  refine lv_aload_n hx hb dX2_becomeLike_161 rfl (lv_at hl 0 rfl) ?_
  refine lv_aload_n hx hb dX2_becomeLike_162 rfl (lv_at hl 1 rfl) ?_
  refine xg_6_11 hx hb hown hwX2 (hts _ u_73) hK hP dX2_becomeLike_163 ?_
  refine xp_4_11 hx hb hown hwX2 (hts _ u_73) hK hD hP hS dX2_becomeLike_166 hE (fun σ_12 H locs hP hS hE => ?_)
  refine lv_aload_n hx hb dX2_becomeLike_169 rfl (lv_at hl 0 rfl) ?_
  refine lv_aload_n hx hb dX2_becomeLike_170 rfl (lv_at hl 1 rfl) ?_
  refine xg_6_12 hx hb hown hwX2 (hts _ u_74) hK hP dX2_becomeLike_171 ?_
  refine xp_4_12 hx hb hown hwX2 (hts _ u_74) hK hD hP hS dX2_becomeLike_174 hE (fun σ_13 H locs hP hS hE => ?_)
  refine lv_aload_n hx hb dX2_becomeLike_177 rfl (lv_at hl 0 rfl) ?_
  refine lv_aload_n hx hb dX2_becomeLike_178 rfl (lv_at hl 1 rfl) ?_
  refine xg_6_13 hx hb hown hwX2 (hts _ u_75) hK hP dX2_becomeLike_179 ?_
  refine xp_4_13 hx hb hown hwX2 (hts _ u_75) hK hD hP hS dX2_becomeLike_182 hE (fun σ_14 H locs hP hS hE => ?_)
  refine lv_aload_n hx hb dX2_becomeLike_185 rfl (lv_at hl 0 rfl) ?_
  refine lv_aload_n hx hb dX2_becomeLike_186 rfl (lv_at hl 1 rfl) ?_
  refine xg_6_14 hx hb hown hwX2 (hts _ u_76) hK hP dX2_becomeLike_187 ?_
  refine xp_4_14 hx hb hown hwX2 (hts _ u_76) hK hD hP hS dX2_becomeLike_190 hE (fun σ_15 H locs hP hS hE => ?_)
  refine lv_aload_n hx hb dX2_becomeLike_193 rfl (lv_at hl 0 rfl) ?_
  refine lv_aload_n hx hb dX2_becomeLike_194 rfl (lv_at hl 1 rfl) ?_
  refine xg_6_15 hx hb hown hwX2 (hts _ u_77) hK hP dX2_becomeLike_195 ?_
  refine xp_4_15 hx hb hown hwX2 (hts _ u_77) hK hD hP hS dX2_becomeLike_198 hE (fun σ_16 H locs hP hS hE => ?_)
  refine lv_aload_n hx hb dX2_becomeLike_201 rfl (lv_at hl 0 rfl) ?_
  refine lv_aload_n hx hb dX2_becomeLike_202 rfl (lv_at hl 1 rfl) ?_
  refine xg_6_16 hx hb hown hwX2 (hts _ u_78) hK hP dX2_becomeLike_203 ?_
  refine xp_4_16 hx hb hown hwX2 (hts _ u_78) hK hD hP hS dX2_becomeLike_206 hE (fun σ_17 H locs hP hS hE => ?_)
  exact z_vret hx hb hr hlk hP hS dX2_becomeLike_209 hE
theorem kX2_becomeLike_4_6 (l : Launch) (E : EN) (hD : ∀ σ, va_D (eA E) (xW E σ))  (σ : ST) (F : ST) (hE : fX2_becomeLike_4_6  σ = some F) : Met l yX2_becomeLike wu_X2_becomeLike r_X2_becomeLike (zPc E xW [.ref (ea E 4), .ref (ea E 6)] σ) (zQv E xW F) 0 0 (eA E) := by
  refine Met.ofW (cc := cX2_becomeLike) (maxL := 2) (ret := none) (by decide) rfl ?_
  intro p e s m args below meth c s₁ B hml hv
  obtain ⟨rfl, hP, hK⟩ := hv
  have hl := lv_entry ([.ref (ea E 4), .ref (ea E 6)]) (n := 2) (Nat.le_of_ble_eq_true rfl)
  rw [lg_entry_eq]
  generalize (lg_sl ([.ref (ea E 4), .ref (ea E 6)]) ++ List.replicate (2 - (lg_sl ([.ref (ea E 4), .ref (ea E 6)])).length) Slot.unset).toArray = ls at hl ⊢
  exact wX2_becomeLike_4_6 ⟨B.exec, B.bytes, hml, findClass_of_methodNamed B.named, fun w h => atoms_spec (ws := wu_X2_becomeLike) B.pre w (List.mem_cons_of_mem _ h), B.returns, B.notSynchronized, hK, hD⟩  σ s.heap [] ls hl hP va_S.rf hE
def fX1_statements_L4 (ke : Int32 → ST → Option (Int32 × ST)) : Nat → Int32 → Int32 → ST → Option (Int32 × ST)
  | 0, _, _, _ => none
  | n + 1, x1, x2, σ => (if (gI σ 2) ≤ x2 then ke x1 σ else ald (gA σ 5) 96 x2 (fun v_3 => (if v_3 = 59 then bnd (x1 + 1) (fun x1_5 => bnd (x2 + 1) (fun x2_6 => fX1_statements_L4 ke n x1_5 x2_6 σ)) else bnd (x2 + 1) (fun x2_4 => fX1_statements_L4 ke n x1 x2_4 σ))))
set_option maxHeartbeats 4000000 in
set_option maxRecDepth 100000 in
theorem wX1_statements_L4 {p : Program} {l : Launch} {e : Env} {s : State} {m : MethodId} {args : Array Value} {below : List Frame} {meth : Method} {c : Code} {E : EN} (C : zC E xW p s m args meth c cX1_statements 3 RX1 (some .int) wsL_law) {F : Int32 × ST} {ke : Int32 → ST → Option (Int32 × ST)} (hke : ∀ (x1 : Int32) (σ : ST) (H : Heap) (locs : List Loc) (ls : Array Slot), lv_has ls 3 [(1, .int x1)] → va_P (eD E) vwCl (xW E σ) H → va_S (eA E) s.heap H locs → ke x1 σ = some F → zWi E xW p l e r_X1_statements s m args below meth c F H locs (F0 m 32 ls [])) : ∀ (n : Nat) (x1 : Int32) (x2 : Int32) (σ : ST) (H : Heap) (locs : List Loc) (ls : Array Slot), lv_has ls 3 [(0, .ref (ea E 3)), (1, .int x1), (2, .int x2)] → va_P (eD E) vwCl (xW E σ) H → va_S (eA E) s.heap H locs → fX1_statements_L4 ke n x1 x2 σ = some F → zWi E xW p l e r_X1_statements s m args below meth c F H locs (F0 m 4 ls []) := by
  obtain ⟨hx, hb, hml, hown, hts, hr, hlk, hK, hD⟩ := id C
  have hwX1 : ∀ w ∈ wsX10, w.before args s = true := fun w h => hts w (inlX1 w h)
  intro n
  induction n with
  | zero => intro x1 x2 σ H locs ls hl hP hS hE; rw [fX1_statements_L4] at hE; cases hE
  | succ n ih =>
    intro x1 x2 σ H locs ls hl hP hS hE
    rw [fX1_statements_L4] at hE
    refine lv_iload_n hx hb dX1_statements_4 rfl (lv_at hl 2 rfl) ?_
    refine lv_aload_n hx hb dX1_statements_5 rfl (lv_at hl 0 rfl) ?_
    refine xg_3_1 hx hb hown hwX1 (hts _ u_91) hK hP dX1_statements_6 ?_
    refine z_icmp_ge (tgt := 32) hx hb dX1_statements_9 (by decide) hE (fun hE => ?_) (fun hE => ?_)
    · exact hke x1 σ _ _ _ (lv_sub hl [1] rfl) hP hS hE
    refine lv_aload_n hx hb dX1_statements_12 rfl (lv_at hl 0 rfl) ?_
    refine xg_3_0 hx hb hown hwX1 (hts _ u_90) hK hP dX1_statements_13 ?_
    refine lv_iload_n hx hb dX1_statements_16 rfl (lv_at hl 2 rfl) ?_
    refine xa_12 hx hb hK hP dX1_statements_17 hE (fun v_3 hE => ?_)
    refine lv_bipush (v := 59) hx hb dX1_statements_18 (by decide) ?_
    refine z_icmp_ne (tgt := 26) hx hb dX1_statements_20 (by decide) hE (fun hE => ?_) (fun hE => ?_)
    · refine z_iinc hx hb (v := (x2 + 1)) (k := 2) (fun x2_4 => [(2, .int x2_4), (0, .ref (ea E 3)), (1, .int x1)]) dX1_statements_26 hl rfl (by rfl) (by decide) rfl hE (fun x2_4 ls hl hE => ?_)
      refine lv_goto (tgt := 4) hx hb dX1_statements_29 (by decide) ?_
      exact ih x1 x2_4 σ _ _ _ (lv_sub hl [1, 2, 0] rfl) hP hS hE
    refine z_iinc hx hb (v := (x1 + 1)) (k := 1) (fun x1_5 => [(1, .int x1_5), (0, .ref (ea E 3)), (2, .int x2)]) dX1_statements_23 hl rfl (by rfl) (by decide) rfl hE (fun x1_5 ls hl hE => ?_)
    refine z_iinc hx hb (v := (x2 + 1)) (k := 2) (fun x2_6 => [(2, .int x2_6), (1, .int x1_5), (0, .ref (ea E 3))]) dX1_statements_26 hl rfl (by rfl) (by decide) rfl hE (fun x2_6 ls hl hE => ?_)
    refine lv_goto (tgt := 4) hx hb dX1_statements_29 (by decide) ?_
    exact ih x1_5 x2_6 σ _ _ _ (lv_sub hl [2, 1, 0] rfl) hP hS hE
def fX1_statements   (σ : ST) : Option (Int32 × ST) :=
  bnd (0 : Int32) (fun x1_1 => bnd (0 : Int32) (fun x2_2 => fX1_statements_L4 (fun x1_7 σ_8 => some (x1_7, σ_8)) FU x1_1 x2_2 σ))
set_option maxHeartbeats 4000000 in
set_option maxRecDepth 100000 in
theorem wX1_statements {p : Program} {l : Launch} {e : Env} {s : State} {m : MethodId} {args : Array Value} {below : List Frame} {meth : Method} {c : Code} {E : EN} (C : zC E xW p s m args meth c cX1_statements 3 RX1 (some .int) wsL_law) {F : Int32 × ST}    (σ : ST) (H : Heap) (locs : List Loc) (ls : Array Slot) (hl : lv_has ls 3 [(0, .ref (ea E 3))]) (hP : va_P (eD E) vwCl (xW E σ) H) (hS : va_S (eA E) s.heap H locs) (hE : fX1_statements   σ = some F) : zWi E xW p l e r_X1_statements s m args below meth c F H locs (F0 m 0 ls []) := by
  obtain ⟨hx, hb, hml, hown, hts, hr, hlk, hK, hD⟩ := id C
  unfold fX1_statements at hE
  refine lv_iconst (v := 0) hx hb dX1_statements_0 (by decide) ?_
  refine z_istore_n hx hb (fun x1_1 => [(1, .int x1_1), (0, .ref (ea E 3))]) dX1_statements_1 rfl hl (by decide) rfl hE (fun x1_1 ls hl hE => ?_)
  refine lv_iconst (v := 0) hx hb dX1_statements_2 (by decide) ?_
  refine z_istore_n hx hb (fun x2_2 => [(2, .int x2_2), (1, .int x1_1), (0, .ref (ea E 3))]) dX1_statements_3 rfl hl (by decide) rfl hE (fun x2_2 ls hl hE => ?_)
  refine wX1_statements_L4 C ?_ FU x1_1 x2_2 σ _ _ _ (lv_sub hl [2, 1, 0] rfl) hP hS hE
  intro x1_7 σ_8 H locs ls hl hP hS hE
  refine lv_iload_n hx hb dX1_statements_32 rfl (lv_at hl 0 rfl) ?_
  exact z_iret hx hb hr hlk hP hS dX1_statements_33 hE
theorem kX1_statements (l : Launch) (E : EN) (hD : ∀ σ, va_D (eA E) (xW E σ))  (σ : ST) (F : Int32 × ST) (hE : fX1_statements  σ = some F) : Met l yX1_statements wu_X1_statements r_X1_statements (zPc E xW [.ref (ea E 3)] σ) (zQi E xW F) 0 0 (eA E) := by
  refine Met.ofW (cc := cX1_statements) (maxL := 3) (ret := (some .int)) (by decide) rfl ?_
  intro p e s m args below meth c s₁ B hml hv
  obtain ⟨rfl, hP, hK⟩ := hv
  have hl := lv_entry ([.ref (ea E 3)]) (n := 3) (Nat.le_of_ble_eq_true rfl)
  rw [lg_entry_eq]
  generalize (lg_sl ([.ref (ea E 3)]) ++ List.replicate (3 - (lg_sl ([.ref (ea E 3)])).length) Slot.unset).toArray = ls at hl ⊢
  exact wX1_statements ⟨B.exec, B.bytes, hml, findClass_of_methodNamed B.named, fun w h => atoms_spec (ws := wu_X1_statements) B.pre w (List.mem_cons_of_mem _ h), B.returns, B.notSynchronized, hK, hD⟩  σ s.heap [] ls hl hP va_S.rf hE
