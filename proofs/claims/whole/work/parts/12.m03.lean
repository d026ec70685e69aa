def fX5_over_J94 (kb : Int32 → Int32 → Int32 → ST → Option (ST)) (x1 : Int32) (x2 : Int32) (x3 : Int32) (x4 : Int32) (x5 : Int32) (t0 : Int32) (t1 : Int32) (σ : ST) : Option (ST) :=
  ast σ 8 64 t1 t0 (fun σ_6 => (if x2 = x3 then ast σ_6 9 64 x4 0 (fun σ_7 => bnd (x3 + 1) (fun x3_8 => kb x1 x2 x3_8 σ_7)) else (if x5 = 0 then ast σ_6 9 64 x4 0 (fun σ_9 => bnd (x3 + 1) (fun x3_10 => kb x1 x2 x3_10 σ_9)) else ald (gA σ_6 1) 200 (130 + x4) (fun v_11 => ast σ_6 9 64 x4 v_11 (fun σ_12 => bnd (x3 + 1) (fun x3_13 => kb x1 x2 x3_13 σ_12))))))
set_option maxHeartbeats 4000000 in
set_option maxRecDepth 100000 in
theorem wX5_over_J94 {p : Program} {l : Launch} {e : Env} {s : State} {m : MethodId} {args : Array Value} {below : List Frame} {meth : Method} {c : Code} {E : EN} (C : zC E mW p s m args meth c cX5_over 8 RX5 none wsL_law) {F : ST} {kb : Int32 → Int32 → Int32 → ST → Option (ST)} (hkb : ∀ (x1 : Int32) (x2 : Int32) (x3 : Int32) (σ : ST) (H : Heap) (locs : List Loc) (ls : Array Slot), lv_has ls 8 [(0, .ref (ea E 0)), (1, .int x1), (2, .int x2), (3, .int x3)] → va_P (eD E) vwCl (mW E σ) H → va_S (eA E) s.heap H locs → kb x1 x2 x3 σ = some F → zWv E mW p l e r_X5_over s m args below meth c F H locs (F0 m 10 ls [])) (x1 : Int32) (x2 : Int32) (x3 : Int32) (x4 : Int32) (x5 : Int32) (t0 : Int32) (t1 : Int32) (σ : ST) (H : Heap) (locs : List Loc) (ls : Array Slot) (hl : lv_has ls 8 [(0, .ref (ea E 0)), (1, .int x1), (2, .int x2), (3, .int x3), (4, .int x4), (5, .int x5)]) (hP : va_P (eD E) vwCl (mW E σ) H) (hS : va_S (eA E) s.heap H locs) (hE : fX5_over_J94 kb x1 x2 x3 x4 x5 t0 t1 σ = some F) : zWv E mW p l e r_X5_over s m args below meth c F H locs (F0 m 94 ls [.int t0, .int t1, .ref (ea E 9)]) := by
  obtain ⟨hx, hb, hml, hown, hts, hr, hlk, hK, hD⟩ := id C
  have hwX5 : ∀ w ∈ wsX50, w.before args s = true := fun w h => hts w (inlX5 w h)
  unfold fX5_over_J94 at hE
  refine ms_9 hx hb hK hD hP hS dX5_over_94 hE (fun σ_6 H locs hP hS hE => ?_)
  refine lv_aload_n hx hb dX5_over_95 rfl (lv_at hl 0 rfl) ?_
  refine mg_0_17 hx hb hown hwX5 (hts _ u_107) hK hP dX5_over_96 ?_
  refine lv_iload hx hb dX5_over_99 (lv_at hl 4 rfl) ?_
  refine lv_iload_n hx hb dX5_over_101 rfl (lv_at hl 2 rfl) ?_
  refine lv_iload_n hx hb dX5_over_102 rfl (lv_at hl 3 rfl) ?_
  refine z_icmp_eq (tgt := 125) hx hb dX5_over_103 (by decide) hE (fun hE => ?_) (fun hE => ?_)
  · refine lv_iconst (v := 0) hx hb dX5_over_125 (by decide) ?_
    refine ms_10 hx hb hK hD hP hS dX5_over_126 hE (fun σ_7 H locs hP hS hE => ?_)
    refine z_iinc hx hb (v := (x3 + 1)) (k := 3) (fun x3_8 => [(3, .int x3_8), (0, .ref (ea E 0)), (1, .int x1), (2, .int x2), (4, .int x4), (5, .int x5)]) dX5_over_127 hl rfl (by rfl) (by decide) rfl hE (fun x3_8 ls hl hE => ?_)
    refine lv_goto (tgt := 10) hx hb dX5_over_130 (by decide) ?_
    exact hkb x1 x2 x3_8 σ_7 _ _ _ (lv_sub hl [1, 2, 3, 0] rfl) hP hS hE
  refine lv_iload hx hb dX5_over_106 (lv_at hl 5 rfl) ?_
  refine z_if_eq (tgt := 125) hx hb dX5_over_108 (by decide) hE (fun hE => ?_) (fun hE => ?_)
  · refine lv_iconst (v := 0) hx hb dX5_over_125 (by decide) ?_
    refine ms_10 hx hb hK hD hP hS dX5_over_126 hE (fun σ_9 H locs hP hS hE => ?_)
    refine z_iinc hx hb (v := (x3 + 1)) (k := 3) (fun x3_10 => [(3, .int x3_10), (0, .ref (ea E 0)), (1, .int x1), (2, .int x2), (4, .int x4), (5, .int x5)]) dX5_over_127 hl rfl (by rfl) (by decide) rfl hE (fun x3_10 ls hl hE => ?_)
    refine lv_goto (tgt := 10) hx hb dX5_over_130 (by decide) ?_
    exact hkb x1 x2 x3_10 σ_9 _ _ _ (lv_sub hl [1, 2, 3, 0] rfl) hP hS hE
  refine lv_aload_n hx hb dX5_over_111 rfl (lv_at hl 0 rfl) ?_
  refine mg_0_1 hx hb hown hwX5 (hts _ u_97) hK hP dX5_over_112 ?_
  refine lv_sipush (v := 130) hx hb dX5_over_115 (by decide) ?_
  refine lv_iload hx hb dX5_over_118 (lv_at hl 4 rfl) ?_
  refine lv_iadd hx hb dX5_over_120 ?_
  refine ma_2 hx hb hK hP dX5_over_121 hE (fun v_11 hE => ?_)
  refine lv_goto (tgt := 126) hx hb dX5_over_122 (by decide) ?_
  refine ms_10 hx hb hK hD hP hS dX5_over_126 hE (fun σ_12 H locs hP hS hE => ?_)
  refine z_iinc hx hb (v := (x3 + 1)) (k := 3) (fun x3_13 => [(3, .int x3_13), (0, .ref (ea E 0)), (1, .int x1), (2, .int x2), (4, .int x4), (5, .int x5)]) dX5_over_127 hl rfl (by rfl) (by decide) rfl hE (fun x3_13 ls hl hE => ?_)
  refine lv_goto (tgt := 10) hx hb dX5_over_130 (by decide) ?_
  exact hkb x1 x2 x3_13 σ_12 _ _ _ (lv_sub hl [1, 2, 3, 0] rfl) hP hS hE
def fX5_over_J57 (kb : Int32 → Int32 → Int32 → ST → Option (ST)) (x1 : Int32) (x2 : Int32) (x3 : Int32) (x4 : Int32) (t0 : Int32) (σ : ST) : Option (ST) :=
  bnd (t0 : Int32) (fun x5_5 => (if x2 = x3 then fX5_over_J94 kb x1 x2 x3 x4 x5_5 0 x4 σ else (if x5_5 = 0 then fX5_over_J94 kb x1 x2 x3 x4 x5_5 100000 x4 σ else ald (gA σ 1) 200 (60 + x4) (fun v_14 => fX5_over_J94 kb x1 x2 x3 x4 x5_5 v_14 x4 σ))))
set_option maxHeartbeats 4000000 in
set_option maxRecDepth 100000 in
theorem wX5_over_J57 {p : Program} {l : Launch} {e : Env} {s : State} {m : MethodId} {args : Array Value} {below : List Frame} {meth : Method} {c : Code} {E : EN} (C : zC E mW p s m args meth c cX5_over 8 RX5 none wsL_law) {F : ST} {kb : Int32 → Int32 → Int32 → ST → Option (ST)} (hkb : ∀ (x1 : Int32) (x2 : Int32) (x3 : Int32) (σ : ST) (H : Heap) (locs : List Loc) (ls : Array Slot), lv_has ls 8 [(0, .ref (ea E 0)), (1, .int x1), (2, .int x2), (3, .int x3)] → va_P (eD E) vwCl (mW E σ) H → va_S (eA E) s.heap H locs → kb x1 x2 x3 σ = some F → zWv E mW p l e r_X5_over s m args below meth c F H locs (F0 m 10 ls [])) (x1 : Int32) (x2 : Int32) (x3 : Int32) (x4 : Int32) (t0 : Int32) (σ : ST) (H : Heap) (locs : List Loc) (ls : Array Slot) (hl : lv_has ls 8 [(0, .ref (ea E 0)), (1, .int x1), (2, .int x2), (3, .int x3), (4, .int x4)]) (hP : va_P (eD E) vwCl (mW E σ) H) (hS : va_S (eA E) s.heap H locs) (hE : fX5_over_J57 kb x1 x2 x3 x4 t0 σ = some F) : zWv E mW p l e r_X5_over s m args below meth c F H locs (F0 m 57 ls [.int t0]) := by
  obtain ⟨hx, hb, hml, hown, hts, hr, hlk, hK, hD⟩ := id C
  have hwX5 : ∀ w ∈ wsX50, w.before args s = true := fun w h => hts w (inlX5 w h)
  unfold fX5_over_J57 at hE
  refine z_istore hx hb (fun x5_5 => [(5, .int x5_5), (0, .ref (ea E 0)), (1, .int x1), (2, .int x2), (3, .int x3), (4, .int x4)]) dX5_over_57 hl (by decide) rfl hE (fun x5_5 ls hl hE => ?_)
  refine lv_aload_n hx hb dX5_over_59 rfl (lv_at hl 1 rfl) ?_
  refine mg_0_16 hx hb hown hwX5 (hts _ u_106) hK hP dX5_over_60 ?_
  refine lv_iload hx hb dX5_over_63 (lv_at hl 5 rfl) ?_
  refine lv_iload_n hx hb dX5_over_65 rfl (lv_at hl 3 rfl) ?_
  refine lv_iload_n hx hb dX5_over_66 rfl (lv_at hl 4 rfl) ?_
  refine z_icmp_ne (tgt := 74) hx hb dX5_over_67 (by decide) hE (fun hE => ?_) (fun hE => ?_)
  · refine lv_iload hx hb dX5_over_74 (lv_at hl 0 rfl) ?_
    refine z_if_eq (tgt := 92) hx hb dX5_over_76 (by decide) hE (fun hE => ?_) (fun hE => ?_)
    · refine lv_ldc (v := 100000) hx hb hown (hts _ u_497) dX5_over_92 ?_
      exact wX5_over_J94 C hkb x1 x2 x3 x4 x5_5 100000 x4 σ _ _ _ (lv_sub hl [1, 2, 3, 4, 5, 0] rfl) hP hS hE
    refine lv_aload_n hx hb dX5_over_79 rfl (lv_at hl 1 rfl) ?_
    refine mg_0_1 hx hb hown hwX5 (hts _ u_97) hK hP dX5_over_80 ?_
    refine lv_bipush (v := 60) hx hb dX5_over_83 (by decide) ?_
    refine lv_iload hx hb dX5_over_85 (lv_at hl 5 rfl) ?_
    refine lv_iadd hx hb dX5_over_87 ?_
    refine ma_2 hx hb hK hP dX5_over_88 hE (fun v_14 hE => ?_)
    refine lv_goto (tgt := 94) hx hb dX5_over_89 (by decide) ?_
    exact wX5_over_J94 C hkb x1 x2 x3 x4 x5_5 v_14 x4 σ _ _ _ (lv_sub hl [1, 2, 3, 4, 5, 0] rfl) hP hS hE
  refine lv_iconst (v := 0) hx hb dX5_over_70 (by decide) ?_
  refine lv_goto (tgt := 94) hx hb dX5_over_71 (by decide) ?_
  exact wX5_over_J94 C hkb x1 x2 x3 x4 x5_5 0 x4 σ _ _ _ (lv_sub hl [1, 2, 3, 4, 5, 0] rfl) hP hS hE
def fX5_over_J56 (kb : Int32 → Int32 → Int32 → ST → Option (ST)) (x1 : Int32) (x2 : Int32) (x3 : Int32) (x4 : Int32) (σ : ST) : Option (ST) :=
  fX5_over_J57 kb x1 x2 x3 x4 0 σ
set_option maxHeartbeats 4000000 in
set_option maxRecDepth 100000 in
theorem wX5_over_J56 {p : Program} {l : Launch} {e : Env} {s : State} {m : MethodId} {args : Array Value} {below : List Frame} {meth : Method} {c : Code} {E : EN} (C : zC E mW p s m args meth c cX5_over 8 RX5 none wsL_law) {F : ST} {kb : Int32 → Int32 → Int32 → ST → Option (ST)} (hkb : ∀ (x1 : Int32) (x2 : Int32) (x3 : Int32) (σ : ST) (H : Heap) (locs : List Loc) (ls : Array Slot), lv_has ls 8 [(0, .ref (ea E 0)), (1, .int x1), (2, .int x2), (3, .int x3)] → va_P (eD E) vwCl (mW E σ) H → va_S (eA E) s.heap H locs → kb x1 x2 x3 σ = some F → zWv E mW p l e r_X5_over s m args below meth c F H locs (F0 m 10 ls [])) (x1 : Int32) (x2 : Int32) (x3 : Int32) (x4 : Int32) (σ : ST) (H : Heap) (locs : List Loc) (ls : Array Slot) (hl : lv_has ls 8 [(0, .ref (ea E 0)), (1, .int x1), (2, .int x2), (3, .int x3), (4, .int x4)]) (hP : va_P (eD E) vwCl (mW E σ) H) (hS : va_S (eA E) s.heap H locs) (hE : fX5_over_J56 kb x1 x2 x3 x4 σ = some F) : zWv E mW p l e r_X5_over s m args below meth c F H locs (F0 m 56 ls []) := by
  obtain ⟨hx, hb, hml, hown, hts, hr, hlk, hK, hD⟩ := id C
  unfold fX5_over_J56 at hE
  refine lv_iconst (v := 0) hx hb dX5_over_56 (by decide) ?_
  exact wX5_over_J57 C hkb x1 x2 x3 x4 0 σ _ _ _ (lv_sub hl [0, 1, 2, 3, 4] rfl) hP hS hE
def fX5_over_L10 (ke : Int32 → Int32 → ST → Option (ST)) : Nat → Int32 → Int32 → Int32 → ST → Option (ST)
  | 0, _, _, _, _ => none
  | n + 1, x1, x2, x3, σ => (if 8 ≤ x3 then ke x1 x2 σ else bnd (((8 * x2) + x3) : Int32) (fun x4_3 => ald (gA σ 1) 200 (60 + x4_3) (fun v_4 => (if v_4 ≤ 0 then fX5_over_J56 (fX5_over_L10 ke n) x1 x2 x3 x4_3 σ else ald (gA σ 1) 200 (130 + x4_3) (fun v_15 => (if x1 < v_15 then fX5_over_J56 (fX5_over_L10 ke n) x1 x2 x3 x4_3 σ else fX5_over_J57 (fX5_over_L10 ke n) x1 x2 x3 x4_3 1 σ))))))
set_option maxHeartbeats 4000000 in
set_option maxRecDepth 100000 in
theorem wX5_over_L10 {p : Program} {l : Launch} {e : Env} {s : State} {m : MethodId} {args : Array Value} {below : List Frame} {meth : Method} {c : Code} {E : EN} (C : zC E mW p s m args meth c cX5_over 8 RX5 none wsL_law) {F : ST} {ke : Int32 → Int32 → ST → Option (ST)} (hke : ∀ (x1 : Int32) (x2 : Int32) (σ : ST) (H : Heap) (locs : List Loc) (ls : Array Slot), lv_has ls 8 [(0, .ref (ea E 0)), (1, .int x1), (2, .int x2)] → va_P (eD E) vwCl (mW E σ) H → va_S (eA E) s.heap H locs → ke x1 x2 σ = some F → zWv E mW p l e r_X5_over s m args below meth c F H locs (F0 m 133 ls [])) : ∀ (n : Nat) (x1 : Int32) (x2 : Int32) (x3 : Int32) (σ : ST) (H : Heap) (locs : List Loc) (ls : Array Slot), lv_has ls 8 [(0, .ref (ea E 0)), (1, .int x1), (2, .int x2), (3, .int x3)] → va_P (eD E) vwCl (mW E σ) H → va_S (eA E) s.heap H locs → fX5_over_L10 ke n x1 x2 x3 σ = some F → zWv E mW p l e r_X5_over s m args below meth c F H locs (F0 m 10 ls []) := by
  obtain ⟨hx, hb, hml, hown, hts, hr, hlk, hK, hD⟩ := id C
  have hwX5 : ∀ w ∈ wsX50, w.before args s = true := fun w h => hts w (inlX5 w h)
  intro n
  induction n with
  | zero => intro x1 x2 x3 σ H locs ls hl hP hS hE; rw [fX5_over_L10] at hE; cases hE
  | succ n ih =>
    intro x1 x2 x3 σ H locs ls hl hP hS hE
    rw [fX5_over_L10] at hE
    refine lv_iload_n hx hb dX5_over_10 rfl (lv_at hl 3 rfl) ?_
    refine lv_bipush (v := 8) hx hb dX5_over_11 (by decide) ?_
    refine z_icmp_ge (tgt := 133) hx hb dX5_over_13 (by decide) hE (fun hE => ?_) (fun hE => ?_)
    · exact hke x1 x2 σ _ _ _ (lv_sub hl [0, 1, 2] rfl) hP hS hE
    refine lv_bipush (v := 8) hx hb dX5_over_16 (by decide) ?_
    refine lv_iload_n hx hb dX5_over_18 rfl (lv_at hl 2 rfl) ?_
    refine lv_imul hx hb dX5_over_19 ?_
    refine lv_iload_n hx hb dX5_over_20 rfl (lv_at hl 3 rfl) ?_
    refine lv_iadd hx hb dX5_over_21 ?_
    refine z_istore hx hb (fun x4_3 => [(4, .int x4_3), (0, .ref (ea E 0)), (1, .int x1), (2, .int x2), (3, .int x3)]) dX5_over_22 hl (by decide) rfl hE (fun x4_3 ls hl hE => ?_)
    refine lv_aload_n hx hb dX5_over_24 rfl (lv_at hl 1 rfl) ?_
    refine mg_0_1 hx hb hown hwX5 (hts _ u_97) hK hP dX5_over_25 ?_
    refine lv_bipush (v := 60) hx hb dX5_over_28 (by decide) ?_
    refine lv_iload hx hb dX5_over_30 (lv_at hl 0 rfl) ?_
    refine lv_iadd hx hb dX5_over_32 ?_
    refine ma_2 hx hb hK hP dX5_over_33 hE (fun v_4 hE => ?_)
    refine z_if_le (tgt := 56) hx hb dX5_over_34 (by decide) hE (fun hE => ?_) (fun hE => ?_)
    · exact wX5_over_J56 C ih x1 x2 x3 x4_3 σ _ _ _ (lv_sub hl [1, 2, 3, 4, 0] rfl) hP hS hE
    refine lv_aload_n hx hb dX5_over_37 rfl (lv_at hl 1 rfl) ?_
    refine mg_0_1 hx hb hown hwX5 (hts _ u_97) hK hP dX5_over_38 ?_
    refine lv_sipush (v := 130) hx hb dX5_over_41 (by decide) ?_
    refine lv_iload hx hb dX5_over_44 (lv_at hl 0 rfl) ?_
    refine lv_iadd hx hb dX5_over_46 ?_
    refine ma_2 hx hb hK hP dX5_over_47 hE (fun v_15 hE => ?_)
    refine lv_iload_n hx hb dX5_over_48 rfl (lv_at hl 2 rfl) ?_
    refine z_icmp_gt (tgt := 56) hx hb dX5_over_49 (by decide) hE (fun hE => ?_) (fun hE => ?_)
    · exact wX5_over_J56 C ih x1 x2 x3 x4_3 σ _ _ _ (lv_sub hl [1, 2, 3, 4, 0] rfl) hP hS hE
    refine lv_iconst (v := 1) hx hb dX5_over_52 (by decide) ?_
    refine lv_goto (tgt := 57) hx hb dX5_over_53 (by decide) ?_
    exact wX5_over_J57 C ih x1 x2 x3 x4_3 1 σ _ _ _ (lv_sub hl [1, 2, 3, 4, 0] rfl) hP hS hE
def fX5_over_L2 (ke : ST → Option (ST)) : Nat → Int32 → Int32 → ST → Option (ST)
  | 0, _, _, _ => none
  | n + 1, x1, x2, σ => (if 8 ≤ x2 then ke  σ else bnd (0 : Int32) (fun x3_2 => fX5_over_L10 (fun x1_16 x2_17 σ_18 => bnd (x2_17 + 1) (fun x2_19 => fX5_over_L2 ke n x1_16 x2_19 σ_18)) FU x1 x2 x3_2 σ))
set_option maxHeartbeats 4000000 in
set_option maxRecDepth 100000 in
theorem wX5_over_L2 {p : Program} {l : Launch} {e : Env} {s : State} {m : MethodId} {args : Array Value} {below : List Frame} {meth : Method} {c : Code} {E : EN} (C : zC E mW p s m args meth c cX5_over 8 RX5 none wsL_law) {F : ST} {ke : ST → Option (ST)} (hke : ∀  (σ : ST) (H : Heap) (locs : List Loc) (ls : Array Slot), lv_has ls 8 [(0, .ref (ea E 0))] → va_P (eD E) vwCl (mW E σ) H → va_S (eA E) s.heap H locs → ke  σ = some F → zWv E mW p l e r_X5_over s m args below meth c F H locs (F0 m 139 ls [])) : ∀ (n : Nat) (x1 : Int32) (x2 : Int32) (σ : ST) (H : Heap) (locs : List Loc) (ls : Array Slot), lv_has ls 8 [(0, .ref (ea E 0)), (1, .int x1), (2, .int x2)] → va_P (eD E) vwCl (mW E σ) H → va_S (eA E) s.heap H locs → fX5_over_L2 ke n x1 x2 σ = some F → zWv E mW p l e r_X5_over s m args below meth c F H locs (F0 m 2 ls []) := by
  obtain ⟨hx, hb, hml, hown, hts, hr, hlk, hK, hD⟩ := id C
  intro n
  induction n with
  | zero => intro x1 x2 σ H locs ls hl hP hS hE; rw [fX5_over_L2] at hE; cases hE
  | succ n ih =>
    intro x1 x2 σ H locs ls hl hP hS hE
    rw [fX5_over_L2] at hE
    refine lv_iload_n hx hb dX5_over_2 rfl (lv_at hl 2 rfl) ?_
    refine lv_bipush (v := 8) hx hb dX5_over_3 (by decide) ?_
    refine z_icmp_ge (tgt := 139) hx hb dX5_over_5 (by decide) hE (fun hE => ?_) (fun hE => ?_)
    · exact hke  σ _ _ _ (lv_sub hl [0] rfl) hP hS hE
    refine lv_iconst (v := 0) hx hb dX5_over_8 (by decide) ?_
    refine z_istore_n hx hb (fun x3_2 => [(3, .int x3_2), (0, .ref (ea E 0)), (1, .int x1), (2, .int x2)]) dX5_over_9 rfl hl (by decide) rfl hE (fun x3_2 ls hl hE => ?_)
    refine wX5_over_L10 C ?_ FU x1 x2 x3_2 σ _ _ _ (lv_sub hl [1, 2, 3, 0] rfl) hP hS hE
    intro x1_16 x2_17 σ_18 H locs ls hl hP hS hE
    refine z_iinc hx hb (v := (x2_17 + 1)) (k := 2) (fun x2_19 => [(2, .int x2_19), (0, .ref (ea E 0)), (1, .int x1_16)]) dX5_over_133 hl rfl (by rfl) (by decide) rfl hE (fun x2_19 ls hl hE => ?_)
    refine lv_goto (tgt := 2) hx hb dX5_over_136 (by decide) ?_
    exact ih x1_16 x2_19 σ_18 _ _ _ (lv_sub hl [1, 2, 0] rfl) hP hS hE
def fX5_over_J271 (kb : Int32 → Int32 → Int32 → ST → Option (ST)) (x2 : Int32) (x3 : Int32) (x4 : Int32) (x5 : Int32) (x6 : Int32) (x7 : Int32) (σ : ST) : Option (ST) :=
  ast σ 8 64 x7 x5 (fun σ_33 => ast σ_33 9 64 x7 x6 (fun σ_34 => bnd (x4 + 1) (fun x4_35 => kb x2 x3 x4_35 σ_34)))
set_option maxHeartbeats 4000000 in
set_option maxRecDepth 100000 in
theorem wX5_over_J271 {p : Program} {l : Launch} {e : Env} {s : State} {m : MethodId} {args : Array Value} {below : List Frame} {meth : Method} {c : Code} {E : EN} (C : zC E mW p s m args meth c cX5_over 8 RX5 none wsL_law) {F : ST} {kb : Int32 → Int32 → Int32 → ST → Option (ST)} (hkb : ∀ (x2 : Int32) (x3 : Int32) (x4 : Int32) (σ : ST) (H : Heap) (locs : List Loc) (ls : Array Slot), lv_has ls 8 [(0, .ref (ea E 0)), (2, .int x2), (3, .int x3), (4, .int x4)] → va_P (eD E) vwCl (mW E σ) H → va_S (eA E) s.heap H locs → kb x2 x3 x4 σ = some F → zWv E mW p l e r_X5_over s m args below meth c F H locs (F0 m 158 ls [])) (x2 : Int32) (x3 : Int32) (x4 : Int32) (x5 : Int32) (x6 : Int32) (x7 : Int32) (σ : ST) (H : Heap) (locs : List Loc) (ls : Array Slot) (hl : lv_has ls 8 [(0, .ref (ea E 0)), (2, .int x2), (3, .int x3), (4, .int x4), (5, .int x5), (6, .int x6), (7, .int x7)]) (hP : va_P (eD E) vwCl (mW E σ) H) (hS : va_S (eA E) s.heap H locs) (hE : fX5_over_J271 kb x2 x3 x4 x5 x6 x7 σ = some F) : zWv E mW p l e r_X5_over s m args below meth c F H locs (F0 m 271 ls []) := by
  obtain ⟨hx, hb, hml, hown, hts, hr, hlk, hK, hD⟩ := id C
  have hwX5 : ∀ w ∈ wsX50, w.before args s = true := fun w h => hts w (inlX5 w h)
  unfold fX5_over_J271 at hE
  refine lv_aload_n hx hb dX5_over_271 rfl (lv_at hl 0 rfl) ?_
  refine mg_0_16 hx hb hown hwX5 (hts _ u_106) hK hP dX5_over_272 ?_
  refine lv_iload hx hb dX5_over_275 (lv_at hl 6 rfl) ?_
  refine lv_iload hx hb dX5_over_277 (lv_at hl 4 rfl) ?_
  refine ms_9 hx hb hK hD hP hS dX5_over_279 hE (fun σ_33 H locs hP hS hE => ?_)
  refine lv_aload_n hx hb dX5_over_280 rfl (lv_at hl 0 rfl) ?_
  refine mg_0_17 hx hb hown hwX5 (hts _ u_107) hK hP dX5_over_281 ?_
  refine lv_iload hx hb dX5_over_284 (lv_at hl 6 rfl) ?_
  refine lv_iload hx hb dX5_over_286 (lv_at hl 5 rfl) ?_
  refine ms_10 hx hb hK hD hP hS dX5_over_288 hE (fun σ_34 H locs hP hS hE => ?_)
  refine z_iinc hx hb (v := (x4 + 1)) (k := 3) (fun x4_35 => [(4, .int x4_35), (0, .ref (ea E 0)), (2, .int x2), (3, .int x3), (5, .int x5), (6, .int x6), (7, .int x7)]) dX5_over_289 hl rfl (by rfl) (by decide) rfl hE (fun x4_35 ls hl hE => ?_)
  refine lv_goto (tgt := 158) hx hb dX5_over_292 (by decide) ?_
  exact hkb x2 x3 x4_35 σ_34 _ _ _ (lv_sub hl [1, 2, 3, 0] rfl) hP hS hE
def fX5_over_L158 (ke : Int32 → Int32 → ST → Option (ST)) : Nat → Int32 → Int32 → Int32 → ST → Option (ST)
  | 0, _, _, _, _ => none
  | n + 1, x2, x3, x4, σ => (if 8 ≤ x4 then ke x2 x3 σ else ald (gA σ 8) 64 ((8 * x3) + x2) (fun v_24 => ald (gA σ 8) 64 ((8 * x2) + x4) (fun v_25 => bnd ((v_24 + v_25) : Int32) (fun x5_26 => ald (gA σ 9) 64 ((8 * x3) + x2) (fun v_27 => ald (gA σ 9) 64 ((8 * x2) + x4) (fun v_28 => bnd ((jmax v_27 v_28) : Int32) (fun x6_29 => bnd (((8 * x3) + x4) : Int32) (fun x7_30 => (if 100000 ≤ x5_26 then bnd (x4 + 1) (fun x4_31 => fX5_over_L158 ke n x2 x3 x4_31 σ) else ald (gA σ 8) 64 x7_30 (fun v_32 => (if x5_26 < v_32 then fX5_over_J271 (fX5_over_L158 ke n) x2 x3 x4 x5_26 x6_29 x7_30 σ else ald (gA σ 8) 64 x7_30 (fun v_36 => (if x5_26 = v_36 then ald (gA σ 9) 64 x7_30 (fun v_38 => (if v_38 ≤ x6_29 then bnd (x4 + 1) (fun x4_39 => fX5_over_L158 ke n x2 x3 x4_39 σ) else fX5_over_J271 (fX5_over_L158 ke n) x2 x3 x4 x5_26 x6_29 x7_30 σ)) else bnd (x4 + 1) (fun x4_37 => fX5_over_L158 ke n x2 x3 x4_37 σ))))))))))))))
set_option maxHeartbeats 4000000 in
set_option maxRecDepth 100000 in
theorem wX5_over_L158 {p : Program} {l : Launch} {e : Env} {s : State} {m : MethodId} {args : Array Value} {below : List Frame} {meth : Method} {c : Code} {E : EN} (C : zC E mW p s m args meth c cX5_over 8 RX5 none wsL_law) {F : ST} {ke : Int32 → Int32 → ST → Option (ST)} (hke : ∀ (x2 : Int32) (x3 : Int32) (σ : ST) (H : Heap) (locs : List Loc) (ls : Array Slot), lv_has ls 8 [(0, .ref (ea E 0)), (2, .int x2), (3, .int x3)] → va_P (eD E) vwCl (mW E σ) H → va_S (eA E) s.heap H locs → ke x2 x3 σ = some F → zWv E mW p l e r_X5_over s m args below meth c F H locs (F0 m 295 ls [])) : ∀ (n : Nat) (x2 : Int32) (x3 : Int32) (x4 : Int32) (σ : ST) (H : Heap) (locs : List Loc) (ls : Array Slot), lv_has ls 8 [(0, .ref (ea E 0)), (2, .int x2), (3, .int x3), (4, .int x4)] → va_P (eD E) vwCl (mW E σ) H → va_S (eA E) s.heap H locs → fX5_over_L158 ke n x2 x3 x4 σ = some F → zWv E mW p l e r_X5_over s m args below meth c F H locs (F0 m 158 ls []) := by
  obtain ⟨hx, hb, hml, hown, hts, hr, hlk, hK, hD⟩ := id C
  have hwX5 : ∀ w ∈ wsX50, w.before args s = true := fun w h => hts w (inlX5 w h)
  intro n
  induction n with
  | zero => intro x2 x3 x4 σ H locs ls hl hP hS hE; rw [fX5_over_L158] at hE; cases hE
  | succ n ih =>
    intro x2 x3 x4 σ H locs ls hl hP hS hE
    rw [fX5_over_L158] at hE
    refine lv_iload hx hb dX5_over_158 (lv_at hl 3 rfl) ?_
    refine lv_bipush (v := 8) hx hb dX5_over_160 (by decide) ?_
    refine z_icmp_ge (tgt := 295) hx hb dX5_over_162 (by decide) hE (fun hE => ?_) (fun hE => ?_)
    · exact hke x2 x3 σ _ _ _ (lv_sub hl [0, 1, 2] rfl) hP hS hE
    refine lv_aload_n hx hb dX5_over_165 rfl (lv_at hl 0 rfl) ?_
    refine mg_0_16 hx hb hown hwX5 (hts _ u_106) hK hP dX5_over_166 ?_
    refine lv_bipush (v := 8) hx hb dX5_over_169 (by decide) ?_
    refine lv_iload_n hx hb dX5_over_171 rfl (lv_at hl 2 rfl) ?_
    refine lv_imul hx hb dX5_over_172 ?_
    refine lv_iload_n hx hb dX5_over_173 rfl (lv_at hl 1 rfl) ?_
    refine lv_iadd hx hb dX5_over_174 ?_
    refine ma_9 hx hb hK hP dX5_over_175 hE (fun v_24 hE => ?_)
    refine lv_aload_n hx hb dX5_over_176 rfl (lv_at hl 0 rfl) ?_
    refine mg_0_16 hx hb hown hwX5 (hts _ u_106) hK hP dX5_over_177 ?_
    refine lv_bipush (v := 8) hx hb dX5_over_180 (by decide) ?_
    refine lv_iload_n hx hb dX5_over_182 rfl (lv_at hl 1 rfl) ?_
    refine lv_imul hx hb dX5_over_183 ?_
    refine lv_iload hx hb dX5_over_184 (lv_at hl 3 rfl) ?_
    refine lv_iadd hx hb dX5_over_186 ?_
    refine ma_9 hx hb hK hP dX5_over_187 hE (fun v_25 hE => ?_)
    refine lv_iadd hx hb dX5_over_188 ?_
    refine z_istore hx hb (fun x5_26 => [(5, .int x5_26), (0, .ref (ea E 0)), (2, .int x2), (3, .int x3), (4, .int x4)]) dX5_over_189 hl (by decide) rfl hE (fun x5_26 ls hl hE => ?_)
    refine lv_aload_n hx hb dX5_over_191 rfl (lv_at hl 1 rfl) ?_
    refine mg_0_17 hx hb hown hwX5 (hts _ u_107) hK hP dX5_over_192 ?_
    refine lv_bipush (v := 8) hx hb dX5_over_195 (by decide) ?_
    refine lv_iload_n hx hb dX5_over_197 rfl (lv_at hl 3 rfl) ?_
    refine lv_imul hx hb dX5_over_198 ?_
    refine lv_iload_n hx hb dX5_over_199 rfl (lv_at hl 2 rfl) ?_
    refine lv_iadd hx hb dX5_over_200 ?_
    refine ma_10 hx hb hK hP dX5_over_201 hE (fun v_27 hE => ?_)
    refine lv_aload_n hx hb dX5_over_202 rfl (lv_at hl 1 rfl) ?_
    refine mg_0_17 hx hb hown hwX5 (hts _ u_107) hK hP dX5_over_203 ?_
    refine lv_bipush (v := 8) hx hb dX5_over_206 (by decide) ?_
    refine lv_iload_n hx hb dX5_over_208 rfl (lv_at hl 2 rfl) ?_
    refine lv_imul hx hb dX5_over_209 ?_
    refine lv_iload hx hb dX5_over_210 (lv_at hl 4 rfl) ?_
    refine lv_iadd hx hb dX5_over_212 ?_
    refine ma_10 hx hb hK hP dX5_over_213 hE (fun v_28 hE => ?_)
    refine va_mmax hx hb (hml.trans hl.1.symm) hown (hts _ u_421) (hts _ u_219) (hts _ u_220) (hts _ u_221) (Nat.le_of_ble_eq_true rfl) (Nat.le_of_ble_eq_true rfl) (Nat.zero_le _) (Nat.zero_le _) dX5_over_214 ?_
    refine W.eq (g2 := F0 m 217 ls [.int (jmax v_27 v_28)]) rfl ?_
    refine z_istore hx hb (fun x6_29 => [(6, .int x6_29), (5, .int x5_26), (0, .ref (ea E 0)), (2, .int x2), (3, .int x3), (4, .int x4)]) dX5_over_217 hl (by decide) rfl hE (fun x6_29 ls hl hE => ?_)
    refine lv_bipush (v := 8) hx hb dX5_over_219 (by decide) ?_
    refine lv_iload_n hx hb dX5_over_221 rfl (lv_at hl 4 rfl) ?_
    refine lv_imul hx hb dX5_over_222 ?_
    refine lv_iload hx hb dX5_over_223 (lv_at hl 5 rfl) ?_
    refine lv_iadd hx hb dX5_over_225 ?_
    refine z_istore hx hb (fun x7_30 => [(7, .int x7_30), (6, .int x6_29), (5, .int x5_26), (0, .ref (ea E 0)), (2, .int x2), (3, .int x3), (4, .int x4)]) dX5_over_226 hl (by decide) rfl hE (fun x7_30 ls hl hE => ?_)
    refine lv_iload hx hb dX5_over_228 (lv_at hl 2 rfl) ?_
    refine lv_ldc (v := 100000) hx hb hown (hts _ u_497) dX5_over_230 ?_
    refine z_icmp_ge (tgt := 289) hx hb dX5_over_232 (by decide) hE (fun hE => ?_) (fun hE => ?_)
    · refine z_iinc hx hb (v := (x4 + 1)) (k := 6) (fun x4_31 => [(4, .int x4_31), (7, .int x7_30), (6, .int x6_29), (5, .int x5_26), (0, .ref (ea E 0)), (2, .int x2), (3, .int x3)]) dX5_over_289 hl rfl (by rfl) (by decide) rfl hE (fun x4_31 ls hl hE => ?_)
      refine lv_goto (tgt := 158) hx hb dX5_over_292 (by decide) ?_
      exact ih x2 x3 x4_31 σ _ _ _ (lv_sub hl [4, 5, 6, 0] rfl) hP hS hE
    refine lv_iload hx hb dX5_over_235 (lv_at hl 2 rfl) ?_
    refine lv_aload_n hx hb dX5_over_237 rfl (lv_at hl 3 rfl) ?_
    refine mg_0_16 hx hb hown hwX5 (hts _ u_106) hK hP dX5_over_238 ?_
    refine lv_iload hx hb dX5_over_241 (lv_at hl 0 rfl) ?_
    refine ma_9 hx hb hK hP dX5_over_243 hE (fun v_32 hE => ?_)
    refine z_icmp_lt (tgt := 271) hx hb dX5_over_244 (by decide) hE (fun hE => ?_) (fun hE => ?_)
    · exact wX5_over_J271 C ih x2 x3 x4 x5_26 x6_29 x7_30 σ _ _ _ (lv_sub hl [3, 4, 5, 6, 2, 1, 0] rfl) hP hS hE
    refine lv_iload hx hb dX5_over_247 (lv_at hl 2 rfl) ?_
    refine lv_aload_n hx hb dX5_over_249 rfl (lv_at hl 3 rfl) ?_
    refine mg_0_16 hx hb hown hwX5 (hts _ u_106) hK hP dX5_over_250 ?_
    refine lv_iload hx hb dX5_over_253 (lv_at hl 0 rfl) ?_
    refine ma_9 hx hb hK hP dX5_over_255 hE (fun v_36 hE => ?_)
    refine z_icmp_ne (tgt := 289) hx hb dX5_over_256 (by decide) hE (fun hE => ?_) (fun hE => ?_)
    · refine z_iinc hx hb (v := (x4 + 1)) (k := 6) (fun x4_37 => [(4, .int x4_37), (7, .int x7_30), (6, .int x6_29), (5, .int x5_26), (0, .ref (ea E 0)), (2, .int x2), (3, .int x3)]) dX5_over_289 hl rfl (by rfl) (by decide) rfl hE (fun x4_37 ls hl hE => ?_)
      refine lv_goto (tgt := 158) hx hb dX5_over_292 (by decide) ?_
      exact ih x2 x3 x4_37 σ _ _ _ (lv_sub hl [4, 5, 6, 0] rfl) hP hS hE
    refine lv_iload hx hb dX5_over_259 (lv_at hl 1 rfl) ?_
    refine lv_aload_n hx hb dX5_over_261 rfl (lv_at hl 3 rfl) ?_
    refine mg_0_17 hx hb hown hwX5 (hts _ u_107) hK hP dX5_over_262 ?_
    refine lv_iload hx hb dX5_over_265 (lv_at hl 0 rfl) ?_
    refine ma_10 hx hb hK hP dX5_over_267 hE (fun v_38 hE => ?_)
    refine z_icmp_ge (tgt := 289) hx hb dX5_over_268 (by decide) hE (fun hE => ?_) (fun hE => ?_)
    · refine z_iinc hx hb (v := (x4 + 1)) (k := 6) (fun x4_39 => [(4, .int x4_39), (7, .int x7_30), (6, .int x6_29), (5, .int x5_26), (0, .ref (ea E 0)), (2, .int x2), (3, .int x3)]) dX5_over_289 hl rfl (by rfl) (by decide) rfl hE (fun x4_39 ls hl hE => ?_)
      refine lv_goto (tgt := 158) hx hb dX5_over_292 (by decide) ?_
      exact ih x2 x3 x4_39 σ _ _ _ (lv_sub hl [4, 5, 6, 0] rfl) hP hS hE
    exact wX5_over_J271 C ih x2 x3 x4 x5_26 x6_29 x7_30 σ _ _ _ (lv_sub hl [3, 4, 5, 6, 2, 1, 0] rfl) hP hS hE
def fX5_over_L149 (ke : Int32 → ST → Option (ST)) : Nat → Int32 → Int32 → ST → Option (ST)
  | 0, _, _, _ => none
  | n + 1, x2, x3, σ => (if 8 ≤ x3 then ke x2 σ else bnd (0 : Int32) (fun x4_23 => fX5_over_L158 (fun x2_40 x3_41 σ_42 => bnd (x3_41 + 1) (fun x3_43 => fX5_over_L149 ke n x2_40 x3_43 σ_42)) FU x2 x3 x4_23 σ))
set_option maxHeartbeats 4000000 in
set_option maxRecDepth 100000 in
theorem wX5_over_L149 {p : Program} {l : Launch} {e : Env} {s : State} {m : MethodId} {args : Array Value} {below : List Frame} {meth : Method} {c : Code} {E : EN} (C : zC E mW p s m args meth c cX5_over 8 RX5 none wsL_law) {F : ST} {ke : Int32 → ST → Option (ST)} (hke : ∀ (x2 : Int32) (σ : ST) (H : Heap) (locs : List Loc) (ls : Array Slot), lv_has ls 8 [(0, .ref (ea E 0)), (2, .int x2)] → va_P (eD E) vwCl (mW E σ) H → va_S (eA E) s.heap H locs → ke x2 σ = some F → zWv E mW p l e r_X5_over s m args below meth c F H locs (F0 m 301 ls [])) : ∀ (n : Nat) (x2 : Int32) (x3 : Int32) (σ : ST) (H : Heap) (locs : List Loc) (ls : Array Slot), lv_has ls 8 [(0, .ref (ea E 0)), (2, .int x2), (3, .int x3)] → va_P (eD E) vwCl (mW E σ) H → va_S (eA E) s.heap H locs → fX5_over_L149 ke n x2 x3 σ = some F → zWv E mW p l e r_X5_over s m args below meth c F H locs (F0 m 149 ls []) := by
  obtain ⟨hx, hb, hml, hown, hts, hr, hlk, hK, hD⟩ := id C
  intro n
  induction n with
  | zero => intro x2 x3 σ H locs ls hl hP hS hE; rw [fX5_over_L149] at hE; cases hE
  | succ n ih =>
    intro x2 x3 σ H locs ls hl hP hS hE
    rw [fX5_over_L149] at hE
    refine lv_iload_n hx hb dX5_over_149 rfl (lv_at hl 2 rfl) ?_
    refine lv_bipush (v := 8) hx hb dX5_over_150 (by decide) ?_
    refine z_icmp_ge (tgt := 301) hx hb dX5_over_152 (by decide) hE (fun hE => ?_) (fun hE => ?_)
    · exact hke x2 σ _ _ _ (lv_sub hl [0, 1] rfl) hP hS hE
    refine lv_iconst (v := 0) hx hb dX5_over_155 (by decide) ?_
    refine z_istore hx hb (fun x4_23 => [(4, .int x4_23), (0, .ref (ea E 0)), (2, .int x2), (3, .int x3)]) dX5_over_156 hl (by decide) rfl hE (fun x4_23 ls hl hE => ?_)
    refine wX5_over_L158 C ?_ FU x2 x3 x4_23 σ _ _ _ (lv_sub hl [1, 2, 3, 0] rfl) hP hS hE
    intro x2_40 x3_41 σ_42 H locs ls hl hP hS hE
    refine z_iinc hx hb (v := (x3_41 + 1)) (k := 2) (fun x3_43 => [(3, .int x3_43), (0, .ref (ea E 0)), (2, .int x2_40)]) dX5_over_295 hl rfl (by rfl) (by decide) rfl hE (fun x3_43 ls hl hE => ?_)
    refine lv_goto (tgt := 149) hx hb dX5_over_298 (by decide) ?_
    exact ih x2_40 x3_43 σ_42 _ _ _ (lv_sub hl [1, 2, 0] rfl) hP hS hE
def fX5_over_L141 (ke : ST → Option (ST)) : Nat → Int32 → ST → Option (ST)
  | 0, _, _ => none
  | n + 1, x2, σ => (if 8 ≤ x2 then ke  σ else bnd (0 : Int32) (fun x3_22 => fX5_over_L149 (fun x2_44 σ_45 => bnd (x2_44 + 1) (fun x2_46 => fX5_over_L141 ke n x2_46 σ_45)) FU x2 x3_22 σ))
set_option maxHeartbeats 4000000 in
set_option maxRecDepth 100000 in
theorem wX5_over_L141 {p : Program} {l : Launch} {e : Env} {s : State} {m : MethodId} {args : Array Value} {below : List Frame} {meth : Method} {c : Code} {E : EN} (C : zC E mW p s m args meth c cX5_over 8 RX5 none wsL_law) {F : ST} {ke : ST → Option (ST)} (hke : ∀  (σ : ST) (H : Heap) (locs : List Loc) (ls : Array Slot), lv_has ls 8 [] → va_P (eD E) vwCl (mW E σ) H → va_S (eA E) s.heap H locs → ke  σ = some F → zWv E mW p l e r_X5_over s m args below meth c F H locs (F0 m 307 ls [])) : ∀ (n : Nat) (x2 : Int32) (σ : ST) (H : Heap) (locs : List Loc) (ls : Array Slot), lv_has ls 8 [(0, .ref (ea E 0)), (2, .int x2)] → va_P (eD E) vwCl (mW E σ) H → va_S (eA E) s.heap H locs → fX5_over_L141 ke n x2 σ = some F → zWv E mW p l e r_X5_over s m args below meth c F H locs (F0 m 141 ls []) := by
  obtain ⟨hx, hb, hml, hown, hts, hr, hlk, hK, hD⟩ := id C
  intro n
  induction n with
  | zero => intro x2 σ H locs ls hl hP hS hE; rw [fX5_over_L141] at hE; cases hE
  | succ n ih =>
    intro x2 σ H locs ls hl hP hS hE
    rw [fX5_over_L141] at hE
    refine lv_iload_n hx hb dX5_over_141 rfl (lv_at hl 1 rfl) ?_
    refine lv_bipush (v := 8) hx hb dX5_over_142 (by decide) ?_
    refine z_icmp_ge (tgt := 307) hx hb dX5_over_144 (by decide) hE (fun hE => ?_) (fun hE => ?_)
    · exact hke  σ _ _ _ (lv_sub hl [] rfl) hP hS hE
    refine lv_iconst (v := 0) hx hb dX5_over_147 (by decide) ?_
    refine z_istore_n hx hb (fun x3_22 => [(3, .int x3_22), (0, .ref (ea E 0)), (2, .int x2)]) dX5_over_148 rfl hl (by decide) rfl hE (fun x3_22 ls hl hE => ?_)
    refine wX5_over_L149 C ?_ FU x2 x3_22 σ _ _ _ (lv_sub hl [1, 2, 0] rfl) hP hS hE
    intro x2_44 σ_45 H locs ls hl hP hS hE
    refine z_iinc hx hb (v := (x2_44 + 1)) (k := 1) (fun x2_46 => [(2, .int x2_46), (0, .ref (ea E 0))]) dX5_over_301 hl rfl (by rfl) (by decide) rfl hE (fun x2_46 ls hl hE => ?_)
    refine lv_goto (tgt := 141) hx hb dX5_over_304 (by decide) ?_
    exact ih x2_46 σ_45 _ _ _ (lv_sub hl [1, 0] rfl) hP hS hE
def fX5_over  (x1 : Int32) (σ : ST) : Option (ST) :=
  bnd (0 : Int32) (fun x2_1 => fX5_over_L2 (fun σ_20 => bnd (0 : Int32) (fun x2_21 => fX5_over_L141 (fun σ_47 => some σ_47) FU x2_21 σ_20)) FU x1 x2_1 σ)
set_option maxHeartbeats 4000000 in
set_option maxRecDepth 100000 in
theorem wX5_over {p : Program} {l : Launch} {e : Env} {s : State} {m : MethodId} {args : Array Value} {below : List Frame} {meth : Method} {c : Code} {E : EN} (C : zC E mW p s m args meth c cX5_over 8 RX5 none wsL_law) {F : ST}   (x1 : Int32) (σ : ST) (H : Heap) (locs : List Loc) (ls : Array Slot) (hl : lv_has ls 8 [(0, .ref (ea E 0)), (1, .int x1)]) (hP : va_P (eD E) vwCl (mW E σ) H) (hS : va_S (eA E) s.heap H locs) (hE : fX5_over  x1 σ = some F) : zWv E mW p l e r_X5_over s m args below meth c F H locs (F0 m 0 ls []) := by
  obtain ⟨hx, hb, hml, hown, hts, hr, hlk, hK, hD⟩ := id C
  unfold fX5_over at hE
  refine lv_iconst (v := 0) hx hb dX5_over_0 (by decide) ?_
  refine z_istore_n hx hb (fun x2_1 => [(2, .int x2_1), (0, .ref (ea E 0)), (1, .int x1)]) dX5_over_1 rfl hl (by decide) rfl hE (fun x2_1 ls hl hE => ?_)
  refine wX5_over_L2 C ?_ FU x1 x2_1 σ _ _ _ (lv_sub hl [1, 2, 0] rfl) hP hS hE
  intro σ_20 H locs ls hl hP hS hE
  refine lv_iconst (v := 0) hx hb dX5_over_139 (by decide) ?_
  refine z_istore_n hx hb (fun x2_21 => [(2, .int x2_21), (0, .ref (ea E 0))]) dX5_over_140 rfl hl (by decide) rfl hE (fun x2_21 ls hl hE => ?_)
  refine wX5_over_L141 C ?_ FU x2_21 σ_20 _ _ _ (lv_sub hl [1, 0] rfl) hP hS hE
  intro σ_47 H locs ls hl hP hS hE
  exact z_vret hx hb hr hlk hP hS dX5_over_307 hE
theorem kX5_over (l : Launch) (E : EN) (hD : ∀ σ, va_D (eA E) (mW E σ)) (x1 : Int32) (σ : ST) (F : ST) (hE : fX5_over x1 σ = some F) : Met l yX5_over wu_X5_over r_X5_over (zPc E mW [.ref (ea E 0), .int x1] σ) (zQv E mW F) 0 0 (eA E) := by
  refine Met.ofW (cc := cX5_over) (maxL := 8) (ret := none) (by decide) rfl ?_
  intro p e s m args below meth c s₁ B hml hv
  obtain ⟨rfl, hP, hK⟩ := hv
  have hl := lv_entry ([.ref (ea E 0), .int x1]) (n := 8) (Nat.le_of_ble_eq_true rfl)
  rw [lg_entry_eq]
  generalize (lg_sl ([.ref (ea E 0), .int x1]) ++ List.replicate (8 - (lg_sl ([.ref (ea E 0), .int x1])).length) Slot.unset).toArray = ls at hl ⊢
  exact wX5_over ⟨B.exec, B.bytes, hml, findClass_of_methodNamed B.named, fun w h => atoms_spec (ws := wu_X5_over) B.pre w (List.mem_cons_of_mem _ h), B.returns, B.notSynchronized, hK, hD⟩ x1 σ s.heap [] ls hl hP va_S.rf hE
def fX5_legs_L2 (ke : ST → Option (ST)) : Nat → Int32 → ST → Option (ST)
  | 0, _, _ => none
  | n + 1, x1, σ => (if 64 ≤ x1 then ke  σ else ast σ 10 64 x1 100000 (fun σ_2 => ast σ_2 11 64 x1 0 (fun σ_3 => bnd (x1 + 1) (fun x1_4 => fX5_legs_L2 ke n x1_4 σ_3))))
set_option maxHeartbeats 4000000 in
set_option maxRecDepth 100000 in
theorem wX5_legs_L2 {p : Program} {l : Launch} {e : Env} {s : State} {m : MethodId} {args : Array Value} {below : List Frame} {meth : Method} {c : Code} {E : EN} (C : zC E mW p s m args meth c cX5_legs 3 RX5 none wsL_law) {F : ST} {ke : ST → Option (ST)} (hke : ∀  (σ : ST) (H : Heap) (locs : List Loc) (ls : Array Slot), lv_has ls 3 [(0, .ref (ea E 0))] → va_P (eD E) vwCl (mW E σ) H → va_S (eA E) s.heap H locs → ke  σ = some F → zWv E mW p l e r_X5_legs s m args below meth c F H locs (F0 m 29 ls [])) : ∀ (n : Nat) (x1 : Int32) (σ : ST) (H : Heap) (locs : List Loc) (ls : Array Slot), lv_has ls 3 [(0, .ref (ea E 0)), (1, .int x1)] → va_P (eD E) vwCl (mW E σ) H → va_S (eA E) s.heap H locs → fX5_legs_L2 ke n x1 σ = some F → zWv E mW p l e r_X5_legs s m args below meth c F H locs (F0 m 2 ls []) := by
  obtain ⟨hx, hb, hml, hown, hts, hr, hlk, hK, hD⟩ := id C
  have hwX5 : ∀ w ∈ wsX50, w.before args s = true := fun w h => hts w (inlX5 w h)
  intro n
  induction n with
  | zero => intro x1 σ H locs ls hl hP hS hE; rw [fX5_legs_L2] at hE; cases hE
  | succ n ih =>
    intro x1 σ H locs ls hl hP hS hE
    rw [fX5_legs_L2] at hE
    refine lv_iload_n hx hb dX5_legs_2 rfl (lv_at hl 1 rfl) ?_
    refine lv_bipush (v := 64) hx hb dX5_legs_3 (by decide) ?_
    refine z_icmp_ge (tgt := 29) hx hb dX5_legs_5 (by decide) hE (fun hE => ?_) (fun hE => ?_)
    · exact hke  σ _ _ _ (lv_sub hl [0] rfl) hP hS hE
    refine lv_aload_n hx hb dX5_legs_8 rfl (lv_at hl 0 rfl) ?_
    refine mg_0_18 hx hb hown hwX5 (hts _ u_108) hK hP dX5_legs_9 ?_
    refine lv_iload_n hx hb dX5_legs_12 rfl (lv_at hl 1 rfl) ?_
    refine lv_ldc (v := 100000) hx hb hown (hts _ u_497) dX5_legs_13 ?_
    refine ms_11 hx hb hK hD hP hS dX5_legs_15 hE (fun σ_2 H locs hP hS hE => ?_)
    refine lv_aload_n hx hb dX5_legs_16 rfl (lv_at hl 0 rfl) ?_
    refine mg_0_19 hx hb hown hwX5 (hts _ u_109) hK hP dX5_legs_17 ?_
    refine lv_iload_n hx hb dX5_legs_20 rfl (lv_at hl 1 rfl) ?_
    refine lv_iconst (v := 0) hx hb dX5_legs_21 (by decide) ?_
    refine ms_12 hx hb hK hD hP hS dX5_legs_22 hE (fun σ_3 H locs hP hS hE => ?_)
    refine z_iinc hx hb (v := (x1 + 1)) (k := 1) (fun x1_4 => [(1, .int x1_4), (0, .ref (ea E 0))]) dX5_legs_23 hl rfl (by rfl) (by decide) rfl hE (fun x1_4 ls hl hE => ?_)
    refine lv_goto (tgt := 2) hx hb dX5_legs_26 (by decide) ?_
    exact ih x1_4 σ_3 _ _ _ (lv_sub hl [1, 0] rfl) hP hS hE
def fX5_legs_L44 (ke : Int32 → ST → Option (ST)) : Nat → Int32 → Int32 → ST → Option (ST)
  | 0, _, _, _ => none
  | n + 1, x1, x2, σ => (if 64 ≤ x2 then ke x1 σ else ald (gA σ 10) 64 x2 (fun v_9 => (if v_9 = 100000 then ald (gA σ 8) 64 x2 (fun v_11 => (if 100000 ≤ v_11 then bnd (x2 + 1) (fun x2_12 => fX5_legs_L44 ke n x1 x2_12 σ) else ald (gA σ 8) 64 x2 (fun v_13 => ast σ 10 64 x2 v_13 (fun σ_14 => rmi x2 9 (fun v_15 => (if v_15 = 0 then ast σ_14 11 64 x2 0 (fun σ_18 => bnd (x2 + 1) (fun x2_19 => fX5_legs_L44 ke n x1 x2_19 σ_18)) else ast σ_14 11 64 x2 x1 (fun σ_16 => bnd (x2 + 1) (fun x2_17 => fX5_legs_L44 ke n x1 x2_17 σ_16)))))))) else bnd (x2 + 1) (fun x2_10 => fX5_legs_L44 ke n x1 x2_10 σ))))
set_option maxHeartbeats 4000000 in
set_option maxRecDepth 100000 in
theorem wX5_legs_L44 {p : Program} {l : Launch} {e : Env} {s : State} {m : MethodId} {args : Array Value} {below : List Frame} {meth : Method} {c : Code} {E : EN} (C : zC E mW p s m args meth c cX5_legs 3 RX5 none wsL_law) {F : ST} {ke : Int32 → ST → Option (ST)} (hke : ∀ (x1 : Int32) (σ : ST) (H : Heap) (locs : List Loc) (ls : Array Slot), lv_has ls 3 [(0, .ref (ea E 0)), (1, .int x1)] → va_P (eD E) vwCl (mW E σ) H → va_S (eA E) s.heap H locs → ke x1 σ = some F → zWv E mW p l e r_X5_legs s m args below meth c F H locs (F0 m 108 ls [])) : ∀ (n : Nat) (x1 : Int32) (x2 : Int32) (σ : ST) (H : Heap) (locs : List Loc) (ls : Array Slot), lv_has ls 3 [(0, .ref (ea E 0)), (1, .int x1), (2, .int x2)] → va_P (eD E) vwCl (mW E σ) H → va_S (eA E) s.heap H locs → fX5_legs_L44 ke n x1 x2 σ = some F → zWv E mW p l e r_X5_legs s m args below meth c F H locs (F0 m 44 ls []) := by
  obtain ⟨hx, hb, hml, hown, hts, hr, hlk, hK, hD⟩ := id C
  have hwX5 : ∀ w ∈ wsX50, w.before args s = true := fun w h => hts w (inlX5 w h)
  intro n
  induction n with
  | zero => intro x1 x2 σ H locs ls hl hP hS hE; rw [fX5_legs_L44] at hE; cases hE
  | succ n ih =>
    intro x1 x2 σ H locs ls hl hP hS hE
    rw [fX5_legs_L44] at hE
    refine lv_iload_n hx hb dX5_legs_44 rfl (lv_at hl 2 rfl) ?_
    refine lv_bipush (v := 64) hx hb dX5_legs_45 (by decide) ?_
    refine z_icmp_ge (tgt := 108) hx hb dX5_legs_47 (by decide) hE (fun hE => ?_) (fun hE => ?_)
    · exact hke x1 σ _ _ _ (lv_sub hl [0, 1] rfl) hP hS hE
    refine lv_aload_n hx hb dX5_legs_50 rfl (lv_at hl 0 rfl) ?_
    refine mg_0_18 hx hb hown hwX5 (hts _ u_108) hK hP dX5_legs_51 ?_
    refine lv_iload_n hx hb dX5_legs_54 rfl (lv_at hl 2 rfl) ?_
    refine ma_11 hx hb hK hP dX5_legs_55 hE (fun v_9 hE => ?_)
    refine lv_ldc (v := 100000) hx hb hown (hts _ u_497) dX5_legs_56 ?_
    refine z_icmp_ne (tgt := 102) hx hb dX5_legs_58 (by decide) hE (fun hE => ?_) (fun hE => ?_)
    · refine z_iinc hx hb (v := (x2 + 1)) (k := 2) (fun x2_10 => [(2, .int x2_10), (0, .ref (ea E 0)), (1, .int x1)]) dX5_legs_102 hl rfl (by rfl) (by decide) rfl hE (fun x2_10 ls hl hE => ?_)
      refine lv_goto (tgt := 44) hx hb dX5_legs_105 (by decide) ?_
      exact ih x1 x2_10 σ _ _ _ (lv_sub hl [1, 2, 0] rfl) hP hS hE
    refine lv_aload_n hx hb dX5_legs_61 rfl (lv_at hl 0 rfl) ?_
    refine mg_0_16 hx hb hown hwX5 (hts _ u_106) hK hP dX5_legs_62 ?_
    refine lv_iload_n hx hb dX5_legs_65 rfl (lv_at hl 2 rfl) ?_
    refine ma_9 hx hb hK hP dX5_legs_66 hE (fun v_11 hE => ?_)
    refine lv_ldc (v := 100000) hx hb hown (hts _ u_497) dX5_legs_67 ?_
    refine z_icmp_ge (tgt := 102) hx hb dX5_legs_69 (by decide) hE (fun hE => ?_) (fun hE => ?_)
    · refine z_iinc hx hb (v := (x2 + 1)) (k := 2) (fun x2_12 => [(2, .int x2_12), (0, .ref (ea E 0)), (1, .int x1)]) dX5_legs_102 hl rfl (by rfl) (by decide) rfl hE (fun x2_12 ls hl hE => ?_)
      refine lv_goto (tgt := 44) hx hb dX5_legs_105 (by decide) ?_
      exact ih x1 x2_12 σ _ _ _ (lv_sub hl [1, 2, 0] rfl) hP hS hE
    refine lv_aload_n hx hb dX5_legs_72 rfl (lv_at hl 0 rfl) ?_
    refine mg_0_18 hx hb hown hwX5 (hts _ u_108) hK hP dX5_legs_73 ?_
    refine lv_iload_n hx hb dX5_legs_76 rfl (lv_at hl 2 rfl) ?_
    refine lv_aload_n hx hb dX5_legs_77 rfl (lv_at hl 0 rfl) ?_
    refine mg_0_16 hx hb hown hwX5 (hts _ u_106) hK hP dX5_legs_78 ?_
    refine lv_iload_n hx hb dX5_legs_81 rfl (lv_at hl 2 rfl) ?_
    refine ma_9 hx hb hK hP dX5_legs_82 hE (fun v_13 hE => ?_)
    refine ms_11 hx hb hK hD hP hS dX5_legs_83 hE (fun σ_14 H locs hP hS hE => ?_)
    refine lv_aload_n hx hb dX5_legs_84 rfl (lv_at hl 0 rfl) ?_
    refine mg_0_19 hx hb hown hwX5 (hts _ u_109) hK hP dX5_legs_85 ?_
    refine lv_iload_n hx hb dX5_legs_88 rfl (lv_at hl 2 rfl) ?_
    refine lv_iload_n hx hb dX5_legs_89 rfl (lv_at hl 2 rfl) ?_
    refine lv_bipush (v := 9) hx hb dX5_legs_90 (by decide) ?_
    refine z_irem hx hb dX5_legs_92 hE (fun v_15 hE => ?_)
    refine z_if_ne (tgt := 100) hx hb dX5_legs_93 (by decide) hE (fun hE => ?_) (fun hE => ?_)
    · refine lv_iload_n hx hb dX5_legs_100 rfl (lv_at hl 1 rfl) ?_
      refine ms_12 hx hb hK hD hP hS dX5_legs_101 hE (fun σ_16 H locs hP hS hE => ?_)
      refine z_iinc hx hb (v := (x2 + 1)) (k := 2) (fun x2_17 => [(2, .int x2_17), (0, .ref (ea E 0)), (1, .int x1)]) dX5_legs_102 hl rfl (by rfl) (by decide) rfl hE (fun x2_17 ls hl hE => ?_)
      refine lv_goto (tgt := 44) hx hb dX5_legs_105 (by decide) ?_
      exact ih x1 x2_17 σ_16 _ _ _ (lv_sub hl [1, 2, 0] rfl) hP hS hE
    refine lv_iconst (v := 0) hx hb dX5_legs_96 (by decide) ?_
    refine lv_goto (tgt := 101) hx hb dX5_legs_97 (by decide) ?_
    refine ms_12 hx hb hK hD hP hS dX5_legs_101 hE (fun σ_18 H locs hP hS hE => ?_)
    refine z_iinc hx hb (v := (x2 + 1)) (k := 2) (fun x2_19 => [(2, .int x2_19), (0, .ref (ea E 0)), (1, .int x1)]) dX5_legs_102 hl rfl (by rfl) (by decide) rfl hE (fun x2_19 ls hl hE => ?_)
    refine lv_goto (tgt := 44) hx hb dX5_legs_105 (by decide) ?_
    exact ih x1 x2_19 σ_18 _ _ _ (lv_sub hl [1, 2, 0] rfl) hP hS hE
def fX5_legs_L31 (ke : ST → Option (ST)) : Nat → Int32 → ST → Option (ST)
  | 0, _, _ => none
  | n + 1, x1, σ => (if 10 ≤ x1 then ke  σ else calv (fX5_over x1 σ) (fun σ_7 => bnd (0 : Int32) (fun x2_8 => fX5_legs_L44 (fun x1_20 σ_21 => bnd (x1_20 + 1) (fun x1_22 => fX5_legs_L31 ke n x1_22 σ_21)) FU x1 x2_8 σ_7)))
set_option maxHeartbeats 4000000 in
set_option maxRecDepth 100000 in
theorem wX5_legs_L31 {p : Program} {l : Launch} {e : Env} {s : State} {m : MethodId} {args : Array Value} {below : List Frame} {meth : Method} {c : Code} {E : EN} (C : zC E mW p s m args meth c cX5_legs 3 RX5 none wsL_law) {F : ST} {ke : ST → Option (ST)} (hke : ∀  (σ : ST) (H : Heap) (locs : List Loc) (ls : Array Slot), lv_has ls 3 [] → va_P (eD E) vwCl (mW E σ) H → va_S (eA E) s.heap H locs → ke  σ = some F → zWv E mW p l e r_X5_legs s m args below meth c F H locs (F0 m 114 ls [])) : ∀ (n : Nat) (x1 : Int32) (σ : ST) (H : Heap) (locs : List Loc) (ls : Array Slot), lv_has ls 3 [(0, .ref (ea E 0)), (1, .int x1)] → va_P (eD E) vwCl (mW E σ) H → va_S (eA E) s.heap H locs → fX5_legs_L31 ke n x1 σ = some F → zWv E mW p l e r_X5_legs s m args below meth c F H locs (F0 m 31 ls []) := by
  obtain ⟨hx, hb, hml, hown, hts, hr, hlk, hK, hD⟩ := id C
  intro n
  induction n with
  | zero => intro x1 σ H locs ls hl hP hS hE; rw [fX5_legs_L31] at hE; cases hE
  | succ n ih =>
    intro x1 σ H locs ls hl hP hS hE
    rw [fX5_legs_L31] at hE
    refine lv_iload_n hx hb dX5_legs_31 rfl (lv_at hl 1 rfl) ?_
    refine lv_bipush (v := 10) hx hb dX5_legs_32 (by decide) ?_
    refine z_icmp_ge (tgt := 114) hx hb dX5_legs_34 (by decide) hE (fun hE => ?_) (fun hE => ?_)
    · exact hke  σ _ _ _ (lv_sub hl [] rfl) hP hS hE
    refine lv_aload_n hx hb dX5_legs_37 rfl (lv_at hl 0 rfl) ?_
    refine lv_iload_n hx hb dX5_legs_38 rfl (lv_at hl 1 rfl) ?_
    refine z_gov (wf := mW) hS hE (fun F1 h1 => (va_runV (As := [.int x1]) (rest := []) ⟨hx, hb, hml, hown, hts⟩ (kX5_over l E hD x1 σ F1 h1) (cwV 1 hts (gU_V u_502 u_503 u_504 u_5 u_505) rfl rfl rfl q_X5_over ⟨Nat.le_of_ble_eq_true rfl, Nat.le_of_ble_eq_true rfl⟩) (z_preV hK hP hS (ci := 5) (q0 := 0) rfl rfl rfl) rfl rfl hl.1 rfl (lv_room (Nat.le_of_ble_eq_true rfl)) dX5_legs_39 ⟨Nat.le_of_ble_eq_true rfl, Nat.le_of_ble_eq_true rfl⟩)) (fun σ_7 H locs hP hS hE => ?_)
    refine lv_iconst (v := 0) hx hb dX5_legs_42 (by decide) ?_
    refine z_istore_n hx hb (fun x2_8 => [(2, .int x2_8), (0, .ref (ea E 0)), (1, .int x1)]) dX5_legs_43 rfl hl (by decide) rfl hE (fun x2_8 ls hl hE => ?_)
    refine wX5_legs_L44 C ?_ FU x1 x2_8 σ_7 _ _ _ (lv_sub hl [1, 2, 0] rfl) hP hS hE
    intro x1_20 σ_21 H locs ls hl hP hS hE
    refine z_iinc hx hb (v := (x1_20 + 1)) (k := 1) (fun x1_22 => [(1, .int x1_22), (0, .ref (ea E 0))]) dX5_legs_108 hl rfl (by rfl) (by decide) rfl hE (fun x1_22 ls hl hE => ?_)
    refine lv_goto (tgt := 31) hx hb dX5_legs_111 (by decide) ?_
    exact ih x1_22 σ_21 _ _ _ (lv_sub hl [1, 0] rfl) hP hS hE
def fX5_legs   (σ : ST) : Option (ST) :=
  bnd (0 : Int32) (fun x1_1 => fX5_legs_L2 (fun σ_5 => bnd (0 : Int32) (fun x1_6 => fX5_legs_L31 (fun σ_23 => some σ_23) FU x1_6 σ_5)) FU x1_1 σ)
set_option maxHeartbeats 4000000 in
set_option maxRecDepth 100000 in
theorem wX5_legs {p : Program} {l : Launch} {e : Env} {s : State} {m : MethodId} {args : Array Value} {below : List Frame} {meth : Method} {c : Code} {E : EN} (C : zC E mW p s m args meth c cX5_legs 3 RX5 none wsL_law) {F : ST}    (σ : ST) (H : Heap) (locs : List Loc) (ls : Array Slot) (hl : lv_has ls 3 [(0, .ref (ea E 0))]) (hP : va_P (eD E) vwCl (mW E σ) H) (hS : va_S (eA E) s.heap H locs) (hE : fX5_legs   σ = some F) : zWv E mW p l e r_X5_legs s m args below meth c F H locs (F0 m 0 ls []) := by
  obtain ⟨hx, hb, hml, hown, hts, hr, hlk, hK, hD⟩ := id C
  unfold fX5_legs at hE
  refine lv_iconst (v := 0) hx hb dX5_legs_0 (by decide) ?_
  refine z_istore_n hx hb (fun x1_1 => [(1, .int x1_1), (0, .ref (ea E 0))]) dX5_legs_1 rfl hl (by decide) rfl hE (fun x1_1 ls hl hE => ?_)
  refine wX5_legs_L2 C ?_ FU x1_1 σ _ _ _ (lv_sub hl [1, 0] rfl) hP hS hE
  intro σ_5 H locs ls hl hP hS hE
  refine lv_iconst (v := 0) hx hb dX5_legs_29 (by decide) ?_
  refine z_istore_n hx hb (fun x1_6 => [(1, .int x1_6), (0, .ref (ea E 0))]) dX5_legs_30 rfl hl (by decide) rfl hE (fun x1_6 ls hl hE => ?_)
  refine wX5_legs_L31 C ?_ FU x1_6 σ_5 _ _ _ (lv_sub hl [1, 0] rfl) hP hS hE
  intro σ_23 H locs ls hl hP hS hE
  exact z_vret hx hb hr hlk hP hS dX5_legs_114 hE
theorem kX5_legs (l : Launch) (E : EN) (hD : ∀ σ, va_D (eA E) (mW E σ))  (σ : ST) (F : ST) (hE : fX5_legs  σ = some F) : Met l yX5_legs wu_X5_legs r_X5_legs (zPc E mW [.ref (ea E 0)] σ) (zQv E mW F) 0 0 (eA E) := by
  refine Met.ofW (cc := cX5_legs) (maxL := 3) (ret := none) (by decide) rfl ?_
  intro p e s m args below meth c s₁ B hml hv
  obtain ⟨rfl, hP, hK⟩ := hv
  have hl := lv_entry ([.ref (ea E 0)]) (n := 3) (Nat.le_of_ble_eq_true rfl)
  rw [lg_entry_eq]
  generalize (lg_sl ([.ref (ea E 0)]) ++ List.replicate (3 - (lg_sl ([.ref (ea E 0)])).length) Slot.unset).toArray = ls at hl ⊢
  exact wX5_legs ⟨B.exec, B.bytes, hml, findClass_of_methodNamed B.named, fun w h => atoms_spec (ws := wu_X5_legs) B.pre w (List.mem_cons_of_mem _ h), B.returns, B.notSynchronized, hK, hD⟩  σ s.heap [] ls hl hP va_S.rf hE
def fX5_legTold_J38  (x1 : Int32) (x2 : Int32) (x3 : Int32) (x4 : Int32) (σ : ST) : Option (Int32 × ST) :=
  calv (fX5_legs σ) (fun σ_7 => bnd (((8 * x1) + x2) : Int32) (fun x5_8 => ald (gA σ_7 8) 64 x5_8 (fun v_9 => (if v_9 = 100000 then some ((-9), σ_7) else (if x4 = 0 then (if x3 = 0 then ald (gA σ_7 8) 64 x5_8 (fun v_11 => some (v_11, σ_7)) else ald (gA σ_7 9) 64 x5_8 (fun v_10 => some (v_10, σ_7))) else (if x3 = 0 then ald (gA σ_7 10) 64 x5_8 (fun v_13 => some (v_13, σ_7)) else ald (gA σ_7 11) 64 x5_8 (fun v_12 => some (v_12, σ_7))))))))
set_option maxHeartbeats 4000000 in
set_option maxRecDepth 100000 in
theorem wX5_legTold_J38 {p : Program} {l : Launch} {e : Env} {s : State} {m : MethodId} {args : Array Value} {below : List Frame} {meth : Method} {c : Code} {E : EN} (C : zC E mW p s m args meth c cX5_legTold 6 RX5 (some .int) wsL_law) {F : Int32 × ST}   (x1 : Int32) (x2 : Int32) (x3 : Int32) (x4 : Int32) (σ : ST) (H : Heap) (locs : List Loc) (ls : Array Slot) (hl : lv_has ls 6 [(0, .ref (ea E 0)), (1, .int x1), (2, .int x2), (3, .int x3), (4, .int x4)]) (hP : va_P (eD E) vwCl (mW E σ) H) (hS : va_S (eA E) s.heap H locs) (hE : fX5_legTold_J38  x1 x2 x3 x4 σ = some F) : zWi E mW p l e r_X5_legTold s m args below meth c F H locs (F0 m 38 ls []) := by
  obtain ⟨hx, hb, hml, hown, hts, hr, hlk, hK, hD⟩ := id C
  have hwX5 : ∀ w ∈ wsX50, w.before args s = true := fun w h => hts w (inlX5 w h)
  unfold fX5_legTold_J38 at hE
  refine lv_aload_n hx hb dX5_legTold_38 rfl (lv_at hl 0 rfl) ?_
  refine z_gov (wf := mW) hS hE (fun F1 h1 => (va_runV (As := []) (rest := []) ⟨hx, hb, hml, hown, hts⟩ (kX5_legs l E hD  σ F1 h1) (cwV 0 hts (gU_V u_498 u_499 u_500 u_5 u_501) rfl rfl rfl q_X5_legs ⟨Nat.le_of_ble_eq_true rfl, Nat.le_of_ble_eq_true rfl⟩) (z_preV hK hP hS (ci := 5) (q0 := 0) rfl rfl rfl) rfl rfl hl.1 rfl (lv_room (Nat.le_of_ble_eq_true rfl)) dX5_legTold_39 ⟨Nat.le_of_ble_eq_true rfl, Nat.le_of_ble_eq_true rfl⟩)) (fun σ_7 H locs hP hS hE => ?_)
  refine lv_bipush (v := 8) hx hb dX5_legTold_42 (by decide) ?_
  refine lv_iload_n hx hb dX5_legTold_44 rfl (lv_at hl 1 rfl) ?_
  refine lv_imul hx hb dX5_legTold_45 ?_
  refine lv_iload_n hx hb dX5_legTold_46 rfl (lv_at hl 2 rfl) ?_
  refine lv_iadd hx hb dX5_legTold_47 ?_
  refine z_istore hx hb (fun x5_8 => [(5, .int x5_8), (0, .ref (ea E 0)), (1, .int x1), (2, .int x2), (3, .int x3), (4, .int x4)]) dX5_legTold_48 hl (by decide) rfl hE (fun x5_8 ls hl hE => ?_)
  refine lv_aload_n hx hb dX5_legTold_50 rfl (lv_at hl 1 rfl) ?_
  refine mg_0_16 hx hb hown hwX5 (hts _ u_106) hK hP dX5_legTold_51 ?_
  refine lv_iload hx hb dX5_legTold_54 (lv_at hl 0 rfl) ?_
  refine ma_9 hx hb hK hP dX5_legTold_56 hE (fun v_9 hE => ?_)
  refine lv_ldc (v := 100000) hx hb hown (hts _ u_497) dX5_legTold_57 ?_
  refine z_icmp_ne (tgt := 65) hx hb dX5_legTold_59 (by decide) hE (fun hE => ?_) (fun hE => ?_)
  · refine lv_iload hx hb dX5_legTold_65 (lv_at hl 5 rfl) ?_
    refine z_if_eq (tgt := 94) hx hb dX5_legTold_67 (by decide) hE (fun hE => ?_) (fun hE => ?_)
    · refine lv_iload_n hx hb dX5_legTold_94 rfl (lv_at hl 4 rfl) ?_
      refine z_if_ne (tgt := 108) hx hb dX5_legTold_95 (by decide) hE (fun hE => ?_) (fun hE => ?_)
      · refine lv_aload_n hx hb dX5_legTold_108 rfl (lv_at hl 1 rfl) ?_
        refine mg_0_17 hx hb hown hwX5 (hts _ u_107) hK hP dX5_legTold_109 ?_
        refine lv_iload hx hb dX5_legTold_112 (lv_at hl 0 rfl) ?_
        refine ma_10 hx hb hK hP dX5_legTold_114 hE (fun v_10 hE => ?_)
        exact z_iret hx hb hr hlk hP hS dX5_legTold_115 hE
      refine lv_aload_n hx hb dX5_legTold_98 rfl (lv_at hl 1 rfl) ?_
      refine mg_0_16 hx hb hown hwX5 (hts _ u_106) hK hP dX5_legTold_99 ?_
      refine lv_iload hx hb dX5_legTold_102 (lv_at hl 0 rfl) ?_
      refine ma_9 hx hb hK hP dX5_legTold_104 hE (fun v_11 hE => ?_)
      refine lv_goto (tgt := 115) hx hb dX5_legTold_105 (by decide) ?_
      exact z_iret hx hb hr hlk hP hS dX5_legTold_115 hE
    refine lv_iload_n hx hb dX5_legTold_70 rfl (lv_at hl 4 rfl) ?_
    refine z_if_ne (tgt := 84) hx hb dX5_legTold_71 (by decide) hE (fun hE => ?_) (fun hE => ?_)
    · refine lv_aload_n hx hb dX5_legTold_84 rfl (lv_at hl 1 rfl) ?_
      refine mg_0_19 hx hb hown hwX5 (hts _ u_109) hK hP dX5_legTold_85 ?_
      refine lv_iload hx hb dX5_legTold_88 (lv_at hl 0 rfl) ?_
      refine ma_12 hx hb hK hP dX5_legTold_90 hE (fun v_12 hE => ?_)
      refine lv_goto (tgt := 115) hx hb dX5_legTold_91 (by decide) ?_
      exact z_iret hx hb hr hlk hP hS dX5_legTold_115 hE
    refine lv_aload_n hx hb dX5_legTold_74 rfl (lv_at hl 1 rfl) ?_
    refine mg_0_18 hx hb hown hwX5 (hts _ u_108) hK hP dX5_legTold_75 ?_
    refine lv_iload hx hb dX5_legTold_78 (lv_at hl 0 rfl) ?_
    refine ma_11 hx hb hK hP dX5_legTold_80 hE (fun v_13 hE => ?_)
    refine lv_goto (tgt := 115) hx hb dX5_legTold_81 (by decide) ?_
    exact z_iret hx hb hr hlk hP hS dX5_legTold_115 hE
  refine lv_bipush (v := -9) hx hb dX5_legTold_62 (by decide) ?_
  exact z_iret hx hb hr hlk hP hS dX5_legTold_64 hE
def fX5_legTold  (x1 : Int32) (x2 : Int32) (x3 : Int32) (x4 : Int32) (σ : ST) : Option (Int32 × ST) :=
  cali (fX5_isNoPlace x1 σ) (fun r_2 σ_1 => (if r_2 = 0 then cali (fX5_isNoPlace x2 σ_1) (fun r_6 σ_5 => (if r_6 = 0 then (if x3 = 0 then fX5_legTold_J38  x1 x2 x3 x4 σ_5 else (if x3 = 1 then fX5_legTold_J38  x1 x2 x3 x4 σ_5 else cali (fX5_no (-2) σ_5) (fun r_15 σ_14 => some (r_15, σ_14)))) else cali (fX5_no (-1) σ_5) (fun r_17 σ_16 => some (r_17, σ_16)))) else cali (fX5_no (-1) σ_1) (fun r_4 σ_3 => some (r_4, σ_3))))
set_option maxHeartbeats 4000000 in
set_option maxRecDepth 100000 in
theorem wX5_legTold {p : Program} {l : Launch} {e : Env} {s : State} {m : MethodId} {args : Array Value} {below : List Frame} {meth : Method} {c : Code} {E : EN} (C : zC E mW p s m args meth c cX5_legTold 6 RX5 (some .int) wsL_law) {F : Int32 × ST}   (x1 : Int32) (x2 : Int32) (x3 : Int32) (x4 : Int32) (σ : ST) (H : Heap) (locs : List Loc) (ls : Array Slot) (hl : lv_has ls 6 [(0, .ref (ea E 0)), (1, .int x1), (2, .int x2), (3, .int x3), (4, .int x4)]) (hP : va_P (eD E) vwCl (mW E σ) H) (hS : va_S (eA E) s.heap H locs) (hE : fX5_legTold  x1 x2 x3 x4 σ = some F) : zWi E mW p l e r_X5_legTold s m args below meth c F H locs (F0 m 0 ls []) := by
  obtain ⟨hx, hb, hml, hown, hts, hr, hlk, hK, hD⟩ := id C
  unfold fX5_legTold at hE
  refine lv_aload_n hx hb dX5_legTold_0 rfl (lv_at hl 0 rfl) ?_
  refine lv_iload_n hx hb dX5_legTold_1 rfl (lv_at hl 1 rfl) ?_
  refine z_goi (wf := mW) hS hE (fun F1 h1 => (va_runV (As := [.int x1]) (rest := []) ⟨hx, hb, hml, hown, hts⟩ (kX5_isNoPlace l E hD x1 σ F1 h1) (cwV 1 hts (gU_V u_410 u_411 u_412 u_5 u_413) rfl rfl rfl q_X5_isNoPlace ⟨Nat.le_of_ble_eq_true rfl, Nat.le_of_ble_eq_true rfl⟩) (z_preV hK hP hS (ci := 5) (q0 := 0) rfl rfl rfl) rfl rfl hl.1 rfl (lv_room (Nat.le_of_ble_eq_true rfl)) dX5_legTold_2 ⟨Nat.le_of_ble_eq_true rfl, Nat.le_of_ble_eq_true rfl⟩)) (fun r_2 σ_1 H locs hP hS hE => ?_)
  refine z_if_ne (tgt := 16) hx hb dX5_legTold_5 (by decide) hE (fun hE => ?_) (fun hE => ?_)
  · refine lv_aload_n hx hb dX5_legTold_16 rfl (lv_at hl 0 rfl) ?_
    refine lv_iconst (v := -1) hx hb dX5_legTold_17 (by decide) ?_
    refine z_goi (wf := mW) hS hE (fun F1 h1 => (va_runV (As := [.int (-1)]) (rest := []) ⟨hx, hb, hml, hown, hts⟩ (kX5_no l E hD (-1) σ_1 F1 h1) (cwV 1 hts (gU_V u_131 u_132 u_133 u_5 u_134) rfl rfl rfl q_X5_no ⟨Nat.le_of_ble_eq_true rfl, Nat.le_of_ble_eq_true rfl⟩) (z_preV hK hP hS (ci := 5) (q0 := 0) rfl rfl rfl) rfl rfl hl.1 rfl (lv_room (Nat.le_of_ble_eq_true rfl)) dX5_legTold_18 ⟨Nat.le_of_ble_eq_true rfl, Nat.le_of_ble_eq_true rfl⟩)) (fun r_4 σ_3 H locs hP hS hE => ?_)
    exact z_iret hx hb hr hlk hP hS dX5_legTold_21 hE
  refine lv_aload_n hx hb dX5_legTold_8 rfl (lv_at hl 0 rfl) ?_
  refine lv_iload_n hx hb dX5_legTold_9 rfl (lv_at hl 2 rfl) ?_
  refine z_goi (wf := mW) hS hE (fun F1 h1 => (va_runV (As := [.int x2]) (rest := []) ⟨hx, hb, hml, hown, hts⟩ (kX5_isNoPlace l E hD x2 σ_1 F1 h1) (cwV 1 hts (gU_V u_410 u_411 u_412 u_5 u_413) rfl rfl rfl q_X5_isNoPlace ⟨Nat.le_of_ble_eq_true rfl, Nat.le_of_ble_eq_true rfl⟩) (z_preV hK hP hS (ci := 5) (q0 := 0) rfl rfl rfl) rfl rfl hl.1 rfl (lv_room (Nat.le_of_ble_eq_true rfl)) dX5_legTold_10 ⟨Nat.le_of_ble_eq_true rfl, Nat.le_of_ble_eq_true rfl⟩)) (fun r_6 σ_5 H locs hP hS hE => ?_)
  refine z_if_eq (tgt := 22) hx hb dX5_legTold_13 (by decide) hE (fun hE => ?_) (fun hE => ?_)
  · refine lv_iload_n hx hb dX5_legTold_22 rfl (lv_at hl 3 rfl) ?_
    refine z_if_eq (tgt := 38) hx hb dX5_legTold_23 (by decide) hE (fun hE => ?_) (fun hE => ?_)
    · exact wX5_legTold_J38 C  x1 x2 x3 x4 σ_5 _ _ _ (lv_sub hl [0, 1, 2, 3, 4] rfl) hP hS hE
    refine lv_iload_n hx hb dX5_legTold_26 rfl (lv_at hl 3 rfl) ?_
    refine lv_iconst (v := 1) hx hb dX5_legTold_27 (by decide) ?_
    refine z_icmp_eq (tgt := 38) hx hb dX5_legTold_28 (by decide) hE (fun hE => ?_) (fun hE => ?_)
    · exact wX5_legTold_J38 C  x1 x2 x3 x4 σ_5 _ _ _ (lv_sub hl [0, 1, 2, 3, 4] rfl) hP hS hE
    refine lv_aload_n hx hb dX5_legTold_31 rfl (lv_at hl 0 rfl) ?_
    refine lv_bipush (v := -2) hx hb dX5_legTold_32 (by decide) ?_
    refine z_goi (wf := mW) hS hE (fun F1 h1 => (va_runV (As := [.int (-2)]) (rest := []) ⟨hx, hb, hml, hown, hts⟩ (kX5_no l E hD (-2) σ_5 F1 h1) (cwV 1 hts (gU_V u_131 u_132 u_133 u_5 u_134) rfl rfl rfl q_X5_no ⟨Nat.le_of_ble_eq_true rfl, Nat.le_of_ble_eq_true rfl⟩) (z_preV hK hP hS (ci := 5) (q0 := 0) rfl rfl rfl) rfl rfl hl.1 rfl (lv_room (Nat.le_of_ble_eq_true rfl)) dX5_legTold_34 ⟨Nat.le_of_ble_eq_true rfl, Nat.le_of_ble_eq_true rfl⟩)) (fun r_15 σ_14 H locs hP hS hE => ?_)
    exact z_iret hx hb hr hlk hP hS dX5_legTold_37 hE
  refine lv_aload_n hx hb dX5_legTold_16 rfl (lv_at hl 0 rfl) ?_
  refine lv_iconst (v := -1) hx hb dX5_legTold_17 (by decide) ?_
  refine z_goi (wf := mW) hS hE (fun F1 h1 => (va_runV (As := [.int (-1)]) (rest := []) ⟨hx, hb, hml, hown, hts⟩ (kX5_no l E hD (-1) σ_5 F1 h1) (cwV 1 hts (gU_V u_131 u_132 u_133 u_5 u_134) rfl rfl rfl q_X5_no ⟨Nat.le_of_ble_eq_true rfl, Nat.le_of_ble_eq_true rfl⟩) (z_preV hK hP hS (ci := 5) (q0 := 0) rfl rfl rfl) rfl rfl hl.1 rfl (lv_room (Nat.le_of_ble_eq_true rfl)) dX5_legTold_18 ⟨Nat.le_of_ble_eq_true rfl, Nat.le_of_ble_eq_true rfl⟩)) (fun r_17 σ_16 H locs hP hS hE => ?_)
  exact z_iret hx hb hr hlk hP hS dX5_legTold_21 hE
theorem kX5_legTold (l : Launch) (E : EN) (hD : ∀ σ, va_D (eA E) (mW E σ)) (x1 : Int32) (x2 : Int32) (x3 : Int32) (x4 : Int32) (σ : ST) (F : Int32 × ST) (hE : fX5_legTold x1 x2 x3 x4 σ = some F) : Met l yX5_legTold wu_X5_legTold r_X5_legTold (zPc E mW [.ref (ea E 0), .int x1, .int x2, .int x3, .int x4] σ) (zQi E mW F) 0 0 (eA E) := by
  refine Met.ofW (cc := cX5_legTold) (maxL := 6) (ret := (some .int)) (by decide) rfl ?_
  intro p e s m args below meth c s₁ B hml hv
  obtain ⟨rfl, hP, hK⟩ := hv
  have hl := lv_entry ([.ref (ea E 0), .int x1, .int x2, .int x3, .int x4]) (n := 6) (Nat.le_of_ble_eq_true rfl)
  rw [lg_entry_eq]
  generalize (lg_sl ([.ref (ea E 0), .int x1, .int x2, .int x3, .int x4]) ++ List.replicate (6 - (lg_sl ([.ref (ea E 0), .int x1, .int x2, .int x3, .int x4])).length) Slot.unset).toArray = ls at hl ⊢
  exact wX5_legTold ⟨B.exec, B.bytes, hml, findClass_of_methodNamed B.named, fun w h => atoms_spec (ws := wu_X5_legTold) B.pre w (List.mem_cons_of_mem _ h), B.returns, B.notSynchronized, hK, hD⟩ x1 x2 x3 x4 σ s.heap [] ls hl hP va_S.rf hE
def fX5_leg  (x1 : Int32) (x2 : Int32) (x3 : Int32) (σ : ST) : Option (Int32 × ST) :=
  cali (fX5_legTold x1 x2 x3 0 σ) (fun r_2 σ_1 => some (r_2, σ_1))
set_option maxHeartbeats 4000000 in
set_option maxRecDepth 100000 in
theorem wX5_leg {p : Program} {l : Launch} {e : Env} {s : State} {m : MethodId} {args : Array Value} {below : List Frame} {meth : Method} {c : Code} {E : EN} (C : zC E mW p s m args meth c cX5_leg 4 RX5 (some .int) wsL_law) {F : Int32 × ST}   (x1 : Int32) (x2 : Int32) (x3 : Int32) (σ : ST) (H : Heap) (locs : List Loc) (ls : Array Slot) (hl : lv_has ls 4 [(0, .ref (ea E 0)), (1, .int x1), (2, .int x2), (3, .int x3)]) (hP : va_P (eD E) vwCl (mW E σ) H) (hS : va_S (eA E) s.heap H locs) (hE : fX5_leg  x1 x2 x3 σ = some F) : zWi E mW p l e r_X5_leg s m args below meth c F H locs (F0 m 0 ls []) := by
  obtain ⟨hx, hb, hml, hown, hts, hr, hlk, hK, hD⟩ := id C
  unfold fX5_leg at hE
  refine lv_aload_n hx hb dX5_leg_0 rfl (lv_at hl 0 rfl) ?_
  refine lv_iload_n hx hb dX5_leg_1 rfl (lv_at hl 1 rfl) ?_
  refine lv_iload_n hx hb dX5_leg_2 rfl (lv_at hl 2 rfl) ?_
  refine lv_iload_n hx hb dX5_leg_3 rfl (lv_at hl 3 rfl) ?_
  refine lv_iconst (v := 0) hx hb dX5_leg_4 (by decide) ?_
  refine z_goi (wf := mW) hS hE (fun F1 h1 => (va_runV (As := [.int x1, .int x2, .int x3, .int 0]) (rest := []) ⟨hx, hb, hml, hown, hts⟩ (kX5_legTold l E hD x1 x2 x3 0 σ F1 h1) (cwV 4 hts (gU_V u_493 u_494 u_495 u_5 u_496) rfl rfl rfl q_X5_legTold ⟨Nat.le_of_ble_eq_true rfl, Nat.le_of_ble_eq_true rfl⟩) (z_preV hK hP hS (ci := 5) (q0 := 0) rfl rfl rfl) rfl rfl hl.1 rfl (lv_room (Nat.le_of_ble_eq_true rfl)) dX5_leg_5 ⟨Nat.le_of_ble_eq_true rfl, Nat.le_of_ble_eq_true rfl⟩)) (fun r_2 σ_1 H locs hP hS hE => ?_)
  exact z_iret hx hb hr hlk hP hS dX5_leg_8 hE
theorem kX5_leg (l : Launch) (E : EN) (hD : ∀ σ, va_D (eA E) (mW E σ)) (x1 : Int32) (x2 : Int32) (x3 : Int32) (σ : ST) (F : Int32 × ST) (hE : fX5_leg x1 x2 x3 σ = some F) : Met l yX5_leg wu_X5_leg r_X5_leg (zPc E mW [.ref (ea E 0), .int x1, .int x2, .int x3] σ) (zQi E mW F) 0 0 (eA E) := by
  refine Met.ofW (cc := cX5_leg) (maxL := 4) (ret := (some .int)) (by decide) rfl ?_
  intro p e s m args below meth c s₁ B hml hv
  obtain ⟨rfl, hP, hK⟩ := hv
  have hl := lv_entry ([.ref (ea E 0), .int x1, .int x2, .int x3]) (n := 4) (Nat.le_of_ble_eq_true rfl)
  rw [lg_entry_eq]
  generalize (lg_sl ([.ref (ea E 0), .int x1, .int x2, .int x3]) ++ List.replicate (4 - (lg_sl ([.ref (ea E 0), .int x1, .int x2, .int x3])).length) Slot.unset).toArray = ls at hl ⊢
  exact wX5_leg ⟨B.exec, B.bytes, hml, findClass_of_methodNamed B.named, fun w h => atoms_spec (ws := wu_X5_leg) B.pre w (List.mem_cons_of_mem _ h), B.returns, B.notSynchronized, hK, hD⟩ x1 x2 x3 σ s.heap [] ls hl hP va_S.rf hE
def fX5_safe  (x1 : Int32) (x2 : Int32) (x3 : Int32) (σ : ST) : Option (Int32 × ST) :=
  cali (fX5_legTold x1 x2 x3 1 σ) (fun r_2 σ_1 => some (r_2, σ_1))
set_option maxHeartbeats 4000000 in
set_option maxRecDepth 100000 in
theorem wX5_safe {p : Program} {l : Launch} {e : Env} {s : State} {m : MethodId} {args : Array Value} {below : List Frame} {meth : Method} {c : Code} {E : EN} (C : zC E mW p s m args meth c cX5_safe 4 RX5 (some .int) wsL_law) {F : Int32 × ST}   (x1 : Int32) (x2 : Int32) (x3 : Int32) (σ : ST) (H : Heap) (locs : List Loc) (ls : Array Slot) (hl : lv_has ls 4 [(0, .ref (ea E 0)), (1, .int x1), (2, .int x2), (3, .int x3)]) (hP : va_P (eD E) vwCl (mW E σ) H) (hS : va_S (eA E) s.heap H locs) (hE : fX5_safe  x1 x2 x3 σ = some F) : zWi E mW p l e r_X5_safe s m args below meth c F H locs (F0 m 0 ls []) := by
  obtain ⟨hx, hb, hml, hown, hts, hr, hlk, hK, hD⟩ := id C
  unfold fX5_safe at hE
  refine lv_aload_n hx hb dX5_safe_0 rfl (lv_at hl 0 rfl) ?_
  refine lv_iload_n hx hb dX5_safe_1 rfl (lv_at hl 1 rfl) ?_
  refine lv_iload_n hx hb dX5_safe_2 rfl (lv_at hl 2 rfl) ?_
  refine lv_iload_n hx hb dX5_safe_3 rfl (lv_at hl 3 rfl) ?_
  refine lv_iconst (v := 1) hx hb dX5_safe_4 (by decide) ?_
  refine z_goi (wf := mW) hS hE (fun F1 h1 => (va_runV (As := [.int x1, .int x2, .int x3, .int 1]) (rest := []) ⟨hx, hb, hml, hown, hts⟩ (kX5_legTold l E hD x1 x2 x3 1 σ F1 h1) (cwV 4 hts (gU_V u_493 u_494 u_495 u_5 u_496) rfl rfl rfl q_X5_legTold ⟨Nat.le_of_ble_eq_true rfl, Nat.le_of_ble_eq_true rfl⟩) (z_preV hK hP hS (ci := 5) (q0 := 0) rfl rfl rfl) rfl rfl hl.1 rfl (lv_room (Nat.le_of_ble_eq_true rfl)) dX5_safe_5 ⟨Nat.le_of_ble_eq_true rfl, Nat.le_of_ble_eq_true rfl⟩)) (fun r_2 σ_1 H locs hP hS hE => ?_)
  exact z_iret hx hb hr hlk hP hS dX5_safe_8 hE
theorem kX5_safe (l : Launch) (E : EN) (hD : ∀ σ, va_D (eA E) (mW E σ)) (x1 : Int32) (x2 : Int32) (x3 : Int32) (σ : ST) (F : Int32 × ST) (hE : fX5_safe x1 x2 x3 σ = some F) : Met l yX5_safe wu_X5_safe r_X5_safe (zPc E mW [.ref (ea E 0), .int x1, .int x2, .int x3] σ) (zQi E mW F) 0 0 (eA E) := by
  refine Met.ofW (cc := cX5_safe) (maxL := 4) (ret := (some .int)) (by decide) rfl ?_
  intro p e s m args below meth c s₁ B hml hv
  obtain ⟨rfl, hP, hK⟩ := hv
  have hl := lv_entry ([.ref (ea E 0), .int x1, .int x2, .int x3]) (n := 4) (Nat.le_of_ble_eq_true rfl)
  rw [lg_entry_eq]
  generalize (lg_sl ([.ref (ea E 0), .int x1, .int x2, .int x3]) ++ List.replicate (4 - (lg_sl ([.ref (ea E 0), .int x1, .int x2, .int x3])).length) Slot.unset).toArray = ls at hl ⊢
  exact wX5_safe ⟨B.exec, B.bytes, hml, findClass_of_methodNamed B.named, fun w h => atoms_spec (ws := wu_X5_safe) B.pre w (List.mem_cons_of_mem _ h), B.returns, B.notSynchronized, hK, hD⟩ x1 x2 x3 σ s.heap [] ls hl hP va_S.rf hE
def fX5_isNoTown   (σ : ST) : Option (Int32 × ST) :=
  ald (gA σ 1) 200 0 (fun v_1 => (if v_1 = 0 then some (1, σ) else some (0, σ)))
set_option maxHeartbeats 4000000 in
set_option maxRecDepth 100000 in
theorem wX5_isNoTown {p : Program} {l : Launch} {e : Env} {s : State} {m : MethodId} {args : Array Value} {below : List Frame} {meth : Method} {c : Code} {E : EN} (C : zC E mW p s m args meth c cX5_isNoTown 1 RX5 (some .boolean) wsL_law) {F : Int32 × ST}    (σ : ST) (H : Heap) (locs : List Loc) (ls : Array Slot) (hl : lv_has ls 1 [(0, .ref (ea E 0))]) (hP : va_P (eD E) vwCl (mW E σ) H) (hS : va_S (eA E) s.heap H locs) (hE : fX5_isNoTown   σ = some F) : zWi E mW p l e r_X5_isNoTown s m args below meth c F H locs (F0 m 0 ls []) := by
  obtain ⟨hx, hb, hml, hown, hts, hr, hlk, hK, hD⟩ := id C
  have hwX5 : ∀ w ∈ wsX50, w.before args s = true := fun w h => hts w (inlX5 w h)
  unfold fX5_isNoTown at hE
  refine lv_aload_n hx hb dX5_isNoTown_0 rfl (lv_at hl 0 rfl) ?_
  refine mg_0_1 hx hb hown hwX5 (hts _ u_97) hK hP dX5_isNoTown_1 ?_
  refine lv_iconst (v := 0) hx hb dX5_isNoTown_4 (by decide) ?_
  refine ma_2 hx hb hK hP dX5_isNoTown_5 hE (fun v_1 hE => ?_)
  refine z_if_ne (tgt := 13) hx hb dX5_isNoTown_6 (by decide) hE (fun hE => ?_) (fun hE => ?_)
  · refine lv_iconst (v := 0) hx hb dX5_isNoTown_13 (by decide) ?_
    exact z_zret hx hb hr hlk rfl hP hS dX5_isNoTown_14 hE
  refine lv_iconst (v := 1) hx hb dX5_isNoTown_9 (by decide) ?_
  refine lv_goto (tgt := 14) hx hb dX5_isNoTown_10 (by decide) ?_
  exact z_zret hx hb hr hlk rfl hP hS dX5_isNoTown_14 hE
theorem kX5_isNoTown (l : Launch) (E : EN) (hD : ∀ σ, va_D (eA E) (mW E σ))  (σ : ST) (F : Int32 × ST) (hE : fX5_isNoTown  σ = some F) : Met l yX5_isNoTown wu_X5_isNoTown r_X5_isNoTown (zPc E mW [.ref (ea E 0)] σ) (zQi E mW F) 0 0 (eA E) := by
  refine Met.ofW (cc := cX5_isNoTown) (maxL := 1) (ret := (some .boolean)) (by decide) rfl ?_
  intro p e s m args below meth c s₁ B hml hv
  obtain ⟨rfl, hP, hK⟩ := hv
  have hl := lv_entry ([.ref (ea E 0)]) (n := 1) (Nat.le_of_ble_eq_true rfl)
  rw [lg_entry_eq]
  generalize (lg_sl ([.ref (ea E 0)]) ++ List.replicate (1 - (lg_sl ([.ref (ea E 0)])).length) Slot.unset).toArray = ls at hl ⊢
  exact wX5_isNoTown ⟨B.exec, B.bytes, hml, findClass_of_methodNamed B.named, fun w h => atoms_spec (ws := wu_X5_isNoTown) B.pre w (List.mem_cons_of_mem _ h), B.returns, B.notSynchronized, hK, hD⟩  σ s.heap [] ls hl hP va_S.rf hE
