def fX3_timesHome_J100 (kb : Int32 → Int32 → Int32 → Int32 → Int32 → Int32 → ST → Option (Int32 × ST)) (x1 : Int32) (x3 : Int32) (x4 : Int32) (x5 : Int32) (x7 : Int32) (x9 : Int32) (σ : ST) : Option (Int32 × ST) :=
  ald (gA σ 42) 12 x7 (fun v_9 => (if x9 = v_9 then bnd (0 : Int32) (fun x6_10 => bnd (x7 + 1) (fun x7_11 => kb x1 x3 x4 x5 x6_10 x7_11 σ)) else bnd (1 : Int32) (fun x6_12 => bnd (x7 + 1) (fun x7_13 => kb x1 x3 x4 x5 x6_12 x7_13 σ))))
set_option maxHeartbeats 4000000 in
set_option maxRecDepth 100000 in
theorem wX3_timesHome_J100 {p : Program} {l : Launch} {e : Env} {s : State} {m : MethodId} {args : Array Value} {below : List Frame} {meth : Method} {c : Code} {E : EN} (C : zC E xW p s m args meth c cX3_timesHome 10 RX3 (some .int) wsX3_timesHome) {F : Int32 × ST} {kb : Int32 → Int32 → Int32 → Int32 → Int32 → Int32 → ST → Option (Int32 × ST)} (hkb : ∀ (x1 : Int32) (x3 : Int32) (x4 : Int32) (x5 : Int32) (x6 : Int32) (x7 : Int32) (σ : ST) (H : Heap) (locs : List Loc) (ls : Array Slot), lv_has ls 10 [(0, .ref (ea E 1)), (1, .int x1), (3, .int x3), (4, .int x4), (5, .int x5), (6, .int x6), (7, .int x7)] → va_P (eD E) vwCl (xW E σ) H → va_S (eA E) s.heap H locs → kb x1 x3 x4 x5 x6 x7 σ = some F → zWi E xW p l e r_X3_timesHome s m args below meth c F H locs (F0 m 20 ls [])) (x1 : Int32) (x3 : Int32) (x4 : Int32) (x5 : Int32) (x7 : Int32) (x9 : Int32) (σ : ST) (H : Heap) (locs : List Loc) (ls : Array Slot) (hl : lv_has ls 10 [(0, .ref (ea E 1)), (1, .int x1), (3, .int x3), (4, .int x4), (5, .int x5), (7, .int x7), (9, .int x9)]) (hP : va_P (eD E) vwCl (xW E σ) H) (hS : va_S (eA E) s.heap H locs) (hE : fX3_timesHome_J100 kb x1 x3 x4 x5 x7 x9 σ = some F) : zWi E xW p l e r_X3_timesHome s m args below meth c F H locs (F0 m 100 ls []) := by
  obtain ⟨hx, hb, hml, hown, hts, hr, hlk, hK, hD⟩ := id C
  have hwX3 : ∀ w ∈ wsX30, w.before args s = true := fun w h => hts w (List.mem_cons_of_mem _ (List.mem_append_right _ h))
  unfold fX3_timesHome_J100 at hE
  refine lv_iload hx hb dX3_timesHome_100 (lv_at hl 6 rfl) ?_
  refine lv_aload_n hx hb dX3_timesHome_102 rfl (lv_at hl 0 rfl) ?_
  refine xg_1_5 hx hb hown hwX3 (hts _ (List.mem_of_getElem? (i := 6) rfl)) hK hP dX3_timesHome_103 ?_
  refine lv_iload hx hb dX3_timesHome_106 (lv_at hl 5 rfl) ?_
  refine xa_49 hx hb hK hP dX3_timesHome_108 hE (fun v_9 hE => ?_)
  refine z_icmp_eq (tgt := 116) hx hb dX3_timesHome_109 (by decide) hE (fun hE => ?_) (fun hE => ?_)
  · refine lv_iconst (v := 0) hx hb dX3_timesHome_116 (by decide) ?_
    refine z_istore hx hb (fun x6_10 => [(6, .int x6_10), (0, .ref (ea E 1)), (1, .int x1), (3, .int x3), (4, .int x4), (5, .int x5), (7, .int x7), (9, .int x9)]) dX3_timesHome_117 hl (by decide) rfl hE (fun x6_10 ls hl hE => ?_)
    refine z_iinc hx hb (v := (x7 + 1)) (k := 6) (fun x7_11 => [(7, .int x7_11), (6, .int x6_10), (0, .ref (ea E 1)), (1, .int x1), (3, .int x3), (4, .int x4), (5, .int x5), (9, .int x9)]) dX3_timesHome_119 hl rfl (by rfl) (by decide) rfl hE (fun x7_11 ls hl hE => ?_)
    refine lv_goto (tgt := 20) hx hb dX3_timesHome_122 (by decide) ?_
    exact hkb x1 x3 x4 x5 x6_10 x7_11 σ _ _ _ (lv_sub hl [2, 3, 4, 5, 6, 1, 0] rfl) hP hS hE
  refine lv_iconst (v := 1) hx hb dX3_timesHome_112 (by decide) ?_
  refine lv_goto (tgt := 117) hx hb dX3_timesHome_113 (by decide) ?_
  refine z_istore hx hb (fun x6_12 => [(6, .int x6_12), (0, .ref (ea E 1)), (1, .int x1), (3, .int x3), (4, .int x4), (5, .int x5), (7, .int x7), (9, .int x9)]) dX3_timesHome_117 hl (by decide) rfl hE (fun x6_12 ls hl hE => ?_)
  refine z_iinc hx hb (v := (x7 + 1)) (k := 6) (fun x7_13 => [(7, .int x7_13), (6, .int x6_12), (0, .ref (ea E 1)), (1, .int x1), (3, .int x3), (4, .int x4), (5, .int x5), (9, .int x9)]) dX3_timesHome_119 hl rfl (by rfl) (by decide) rfl hE (fun x7_13 ls hl hE => ?_)
  refine lv_goto (tgt := 20) hx hb dX3_timesHome_122 (by decide) ?_
  exact hkb x1 x3 x4 x5 x6_12 x7_13 σ _ _ _ (lv_sub hl [2, 3, 4, 5, 6, 1, 0] rfl) hP hS hE
def fX3_timesHome_J98 (kb : Int32 → Int32 → Int32 → Int32 → Int32 → Int32 → ST → Option (Int32 × ST)) (x1 : Int32) (x3 : Int32) (x4 : Int32) (x5 : Int32) (x7 : Int32) (t0 : Int32) (σ : ST) : Option (Int32 × ST) :=
  bnd (t0 : Int32) (fun x9_17 => fX3_timesHome_J100 kb x1 x3 x4 x5 x7 x9_17 σ)
set_option maxHeartbeats 4000000 in
set_option maxRecDepth 100000 in
theorem wX3_timesHome_J98 {p : Program} {l : Launch} {e : Env} {s : State} {m : MethodId} {args : Array Value} {below : List Frame} {meth : Method} {c : Code} {E : EN} (C : zC E xW p s m args meth c cX3_timesHome 10 RX3 (some .int) wsX3_timesHome) {F : Int32 × ST} {kb : Int32 → Int32 → Int32 → Int32 → Int32 → Int32 → ST → Option (Int32 × ST)} (hkb : ∀ (x1 : Int32) (x3 : Int32) (x4 : Int32) (x5 : Int32) (x6 : Int32) (x7 : Int32) (σ : ST) (H : Heap) (locs : List Loc) (ls : Array Slot), lv_has ls 10 [(0, .ref (ea E 1)), (1, .int x1), (3, .int x3), (4, .int x4), (5, .int x5), (6, .int x6), (7, .int x7)] → va_P (eD E) vwCl (xW E σ) H → va_S (eA E) s.heap H locs → kb x1 x3 x4 x5 x6 x7 σ = some F → zWi E xW p l e r_X3_timesHome s m args below meth c F H locs (F0 m 20 ls [])) (x1 : Int32) (x3 : Int32) (x4 : Int32) (x5 : Int32) (x7 : Int32) (t0 : Int32) (σ : ST) (H : Heap) (locs : List Loc) (ls : Array Slot) (hl : lv_has ls 10 [(0, .ref (ea E 1)), (1, .int x1), (3, .int x3), (4, .int x4), (5, .int x5), (7, .int x7)]) (hP : va_P (eD E) vwCl (xW E σ) H) (hS : va_S (eA E) s.heap H locs) (hE : fX3_timesHome_J98 kb x1 x3 x4 x5 x7 t0 σ = some F) : zWi E xW p l e r_X3_timesHome s m args below meth c F H locs (F0 m 98 ls [.int t0]) := by
  obtain ⟨hx, hb, hml, hown, hts, hr, hlk, hK, hD⟩ := id C
  unfold fX3_timesHome_J98 at hE
  refine z_istore hx hb (fun x9_17 => [(9, .int x9_17), (0, .ref (ea E 1)), (1, .int x1), (3, .int x3), (4, .int x4), (5, .int x5), (7, .int x7)]) dX3_timesHome_98 hl (by decide) rfl hE (fun x9_17 ls hl hE => ?_)
  exact wX3_timesHome_J100 C hkb x1 x3 x4 x5 x7 x9_17 σ _ _ _ (lv_sub hl [1, 2, 3, 4, 5, 6, 0] rfl) hP hS hE
def fX3_timesHome_J55 (kb : Int32 → Int32 → Int32 → Int32 → Int32 → Int32 → ST → Option (Int32 × ST)) (x1 : Int32) (x3 : Int32) (x4 : Int32) (x5 : Int32) (x7 : Int32) (x8 : Int32) (t0 : Int32) (σ : ST) : Option (Int32 × ST) :=
  bnd (t0 : Int32) (fun x9_8 => (if x8 ≤ 0 then fX3_timesHome_J100 kb x1 x3 x4 x5 x7 x9_8 σ else (if 10 ≤ x8 then fX3_timesHome_J100 kb x1 x3 x4 x5 x7 x9_8 σ else bnd (((x3 * 1664525) + 1013904223) : Int32) (fun x3_14 => dvi (x3_14 &&& 2147483647) 256 (fun v_15 => rmi v_15 10 (fun v_16 => (if x8 ≤ v_16 then fX3_timesHome_J98 kb x1 x3_14 x4 x5 x7 0 σ else fX3_timesHome_J98 kb x1 x3_14 x4 x5 x7 1 σ)))))))
set_option maxHeartbeats 4000000 in
set_option maxRecDepth 100000 in
theorem wX3_timesHome_J55 {p : Program} {l : Launch} {e : Env} {s : State} {m : MethodId} {args : Array Value} {below : List Frame} {meth : Method} {c : Code} {E : EN} (C : zC E xW p s m args meth c cX3_timesHome 10 RX3 (some .int) wsX3_timesHome) {F : Int32 × ST} {kb : Int32 → Int32 → Int32 → Int32 → Int32 → Int32 → ST → Option (Int32 × ST)} (hkb : ∀ (x1 : Int32) (x3 : Int32) (x4 : Int32) (x5 : Int32) (x6 : Int32) (x7 : Int32) (σ : ST) (H : Heap) (locs : List Loc) (ls : Array Slot), lv_has ls 10 [(0, .ref (ea E 1)), (1, .int x1), (3, .int x3), (4, .int x4), (5, .int x5), (6, .int x6), (7, .int x7)] → va_P (eD E) vwCl (xW E σ) H → va_S (eA E) s.heap H locs → kb x1 x3 x4 x5 x6 x7 σ = some F → zWi E xW p l e r_X3_timesHome s m args below meth c F H locs (F0 m 20 ls [])) (x1 : Int32) (x3 : Int32) (x4 : Int32) (x5 : Int32) (x7 : Int32) (x8 : Int32) (t0 : Int32) (σ : ST) (H : Heap) (locs : List Loc) (ls : Array Slot) (hl : lv_has ls 10 [(0, .ref (ea E 1)), (1, .int x1), (3, .int x3), (4, .int x4), (5, .int x5), (7, .int x7), (8, .int x8)]) (hP : va_P (eD E) vwCl (xW E σ) H) (hS : va_S (eA E) s.heap H locs) (hE : fX3_timesHome_J55 kb x1 x3 x4 x5 x7 x8 t0 σ = some F) : zWi E xW p l e r_X3_timesHome s m args below meth c F H locs (F0 m 55 ls [.int t0]) := by
  obtain ⟨hx, hb, hml, hown, hts, hr, hlk, hK, hD⟩ := id C
  unfold fX3_timesHome_J55 at hE
  refine z_istore hx hb (fun x9_8 => [(9, .int x9_8), (0, .ref (ea E 1)), (1, .int x1), (3, .int x3), (4, .int x4), (5, .int x5), (7, .int x7), (8, .int x8)]) dX3_timesHome_55 hl (by decide) rfl hE (fun x9_8 ls hl hE => ?_)
  refine lv_iload hx hb dX3_timesHome_57 (lv_at hl 7 rfl) ?_
  refine z_if_le (tgt := 100) hx hb dX3_timesHome_59 (by decide) hE (fun hE => ?_) (fun hE => ?_)
  · exact wX3_timesHome_J100 C hkb x1 x3 x4 x5 x7 x9_8 σ _ _ _ (lv_sub hl [1, 2, 3, 4, 5, 6, 0] rfl) hP hS hE
  refine lv_iload hx hb dX3_timesHome_62 (lv_at hl 7 rfl) ?_
  refine lv_bipush (v := 10) hx hb dX3_timesHome_64 (by decide) ?_
  refine z_icmp_ge (tgt := 100) hx hb dX3_timesHome_66 (by decide) hE (fun hE => ?_) (fun hE => ?_)
  · exact wX3_timesHome_J100 C hkb x1 x3 x4 x5 x7 x9_8 σ _ _ _ (lv_sub hl [1, 2, 3, 4, 5, 6, 0] rfl) hP hS hE
  refine lv_iload_n hx hb dX3_timesHome_69 rfl (lv_at hl 3 rfl) ?_
  refine lv_ldc (v := 1664525) hx hb hown (hts _ (List.mem_of_getElem? (i := 3) rfl)) dX3_timesHome_70 ?_
  refine lv_imul hx hb dX3_timesHome_72 ?_
  refine lv_ldc (v := 1013904223) hx hb hown (hts _ (List.mem_of_getElem? (i := 4) rfl)) dX3_timesHome_73 ?_
  refine lv_iadd hx hb dX3_timesHome_75 ?_
  refine z_istore_n hx hb (fun x3_14 => [(3, .int x3_14), (9, .int x9_8), (0, .ref (ea E 1)), (1, .int x1), (4, .int x4), (5, .int x5), (7, .int x7), (8, .int x8)]) dX3_timesHome_76 rfl hl (by decide) rfl hE (fun x3_14 ls hl hE => ?_)
  refine lv_iload_n hx hb dX3_timesHome_77 rfl (lv_at hl 0 rfl) ?_
  refine lv_ldc (v := 2147483647) hx hb hown (hts _ (List.mem_of_getElem? (i := 5) rfl)) dX3_timesHome_78 ?_
  refine lv_iand hx hb dX3_timesHome_80 ?_
  refine lv_sipush (v := 256) hx hb dX3_timesHome_81 (by decide) ?_
  refine z_idiv hx hb dX3_timesHome_84 hE (fun v_15 hE => ?_)
  refine lv_bipush (v := 10) hx hb dX3_timesHome_85 (by decide) ?_
  refine z_irem hx hb dX3_timesHome_87 hE (fun v_16 hE => ?_)
  refine lv_iload hx hb dX3_timesHome_88 (lv_at hl 7 rfl) ?_
  refine z_icmp_ge (tgt := 97) hx hb dX3_timesHome_90 (by decide) hE (fun hE => ?_) (fun hE => ?_)
  · refine lv_iconst (v := 0) hx hb dX3_timesHome_97 (by decide) ?_
    exact wX3_timesHome_J98 C hkb x1 x3_14 x4 x5 x7 0 σ _ _ _ (lv_sub hl [2, 3, 0, 4, 5, 6] rfl) hP hS hE
  refine lv_iconst (v := 1) hx hb dX3_timesHome_93 (by decide) ?_
  refine lv_goto (tgt := 98) hx hb dX3_timesHome_94 (by decide) ?_
  exact wX3_timesHome_J98 C hkb x1 x3_14 x4 x5 x7 1 σ _ _ _ (lv_sub hl [2, 3, 0, 4, 5, 6] rfl) hP hS hE
def fX3_timesHome_L20 (ke : Int32 → Int32 → Int32 → Int32 → Int32 → ST → Option (Int32 × ST)) : Nat → Int32 → Int32 → Int32 → Int32 → Int32 → Int32 → ST → Option (Int32 × ST)
  | 0, _, _, _, _, _, _, _ => none
  | n + 1, x1, x3, x4, x5, x6, x7, σ => (if (gI σ 21) ≤ x7 then ke x1 x3 x4 x5 x6 σ else (if x6 = 0 then ke x1 x3 x4 x5 x6 σ else ald (gA σ 41) 12 x7 (fun v_6 => bnd (v_6 : Int32) (fun x8_7 => (if x8_7 < 10 then fX3_timesHome_J55 (fX3_timesHome_L20 ke n) x1 x3 x4 x5 x7 x8_7 0 σ else fX3_timesHome_J55 (fX3_timesHome_L20 ke n) x1 x3 x4 x5 x7 x8_7 1 σ)))))
set_option maxHeartbeats 4000000 in
set_option maxRecDepth 100000 in
theorem wX3_timesHome_L20 {p : Program} {l : Launch} {e : Env} {s : State} {m : MethodId} {args : Array Value} {below : List Frame} {meth : Method} {c : Code} {E : EN} (C : zC E xW p s m args meth c cX3_timesHome 10 RX3 (some .int) wsX3_timesHome) {F : Int32 × ST} {ke : Int32 → Int32 → Int32 → Int32 → Int32 → ST → Option (Int32 × ST)} (hke : ∀ (x1 : Int32) (x3 : Int32) (x4 : Int32) (x5 : Int32) (x6 : Int32) (σ : ST) (H : Heap) (locs : List Loc) (ls : Array Slot), lv_has ls 10 [(0, .ref (ea E 1)), (1, .int x1), (3, .int x3), (4, .int x4), (5, .int x5), (6, .int x6)] → va_P (eD E) vwCl (xW E σ) H → va_S (eA E) s.heap H locs → ke x1 x3 x4 x5 x6 σ = some F → zWi E xW p l e r_X3_timesHome s m args below meth c F H locs (F0 m 125 ls [])) : ∀ (n : Nat) (x1 : Int32) (x3 : Int32) (x4 : Int32) (x5 : Int32) (x6 : Int32) (x7 : Int32) (σ : ST) (H : Heap) (locs : List Loc) (ls : Array Slot), lv_has ls 10 [(0, .ref (ea E 1)), (1, .int x1), (3, .int x3), (4, .int x4), (5, .int x5), (6, .int x6), (7, .int x7)] → va_P (eD E) vwCl (xW E σ) H → va_S (eA E) s.heap H locs → fX3_timesHome_L20 ke n x1 x3 x4 x5 x6 x7 σ = some F → zWi E xW p l e r_X3_timesHome s m args below meth c F H locs (F0 m 20 ls []) := by
  obtain ⟨hx, hb, hml, hown, hts, hr, hlk, hK, hD⟩ := id C
  have hwX3 : ∀ w ∈ wsX30, w.before args s = true := fun w h => hts w (List.mem_cons_of_mem _ (List.mem_append_right _ h))
  intro n
  induction n with
  | zero => intro x1 x3 x4 x5 x6 x7 σ H locs ls hl hP hS hE; rw [fX3_timesHome_L20] at hE; cases hE
  | succ n ih =>
    intro x1 x3 x4 x5 x6 x7 σ H locs ls hl hP hS hE
    rw [fX3_timesHome_L20] at hE
    refine lv_iload hx hb dX3_timesHome_20 (lv_at hl 6 rfl) ?_
    refine lv_aload_n hx hb dX3_timesHome_22 rfl (lv_at hl 0 rfl) ?_
    refine xg_1_6 hx hb hown hwX3 (hts _ (List.mem_of_getElem? (i := 1) rfl)) hK hP dX3_timesHome_23 ?_
    refine z_icmp_ge (tgt := 125) hx hb dX3_timesHome_26 (by decide) hE (fun hE => ?_) (fun hE => ?_)
    · exact hke x1 x3 x4 x5 x6 σ _ _ _ (lv_sub hl [0, 1, 2, 3, 4, 5] rfl) hP hS hE
    refine lv_iload hx hb dX3_timesHome_29 (lv_at hl 5 rfl) ?_
    refine z_if_eq (tgt := 125) hx hb dX3_timesHome_31 (by decide) hE (fun hE => ?_) (fun hE => ?_)
    · exact hke x1 x3 x4 x5 x6 σ _ _ _ (lv_sub hl [0, 1, 2, 3, 4, 5] rfl) hP hS hE
    refine lv_aload_n hx hb dX3_timesHome_34 rfl (lv_at hl 0 rfl) ?_
    refine xg_1_4 hx hb hown hwX3 (hts _ (List.mem_of_getElem? (i := 2) rfl)) hK hP dX3_timesHome_35 ?_
    refine lv_iload hx hb dX3_timesHome_38 (lv_at hl 6 rfl) ?_
    refine xa_48 hx hb hK hP dX3_timesHome_40 hE (fun v_6 hE => ?_)
    refine z_istore hx hb (fun x8_7 => [(8, .int x8_7), (0, .ref (ea E 1)), (1, .int x1), (3, .int x3), (4, .int x4), (5, .int x5), (6, .int x6), (7, .int x7)]) dX3_timesHome_41 hl (by decide) rfl hE (fun x8_7 ls hl hE => ?_)
    refine lv_iload hx hb dX3_timesHome_43 (lv_at hl 0 rfl) ?_
    refine lv_bipush (v := 10) hx hb dX3_timesHome_45 (by decide) ?_
    refine z_icmp_lt (tgt := 54) hx hb dX3_timesHome_47 (by decide) hE (fun hE => ?_) (fun hE => ?_)
    · refine lv_iconst (v := 0) hx hb dX3_timesHome_54 (by decide) ?_
      exact wX3_timesHome_J55 C ih x1 x3 x4 x5 x7 x8_7 0 σ _ _ _ (lv_sub hl [1, 2, 3, 4, 5, 7, 0] rfl) hP hS hE
    refine lv_iconst (v := 1) hx hb dX3_timesHome_50 (by decide) ?_
    refine lv_goto (tgt := 55) hx hb dX3_timesHome_51 (by decide) ?_
    exact wX3_timesHome_J55 C ih x1 x3 x4 x5 x7 x8_7 1 σ _ _ _ (lv_sub hl [1, 2, 3, 4, 5, 7, 0] rfl) hP hS hE
def fX3_timesHome_L8 (ke : Int32 → ST → Option (Int32 × ST)) : Nat → Int32 → Int32 → Int32 → Int32 → ST → Option (Int32 × ST)
  | 0, _, _, _, _, _ => none
  | n + 1, x1, x3, x4, x5, σ => (if x1 ≤ x5 then ke x4 σ else bnd (1 : Int32) (fun x6_4 => bnd (0 : Int32) (fun x7_5 => fX3_timesHome_L20 (fun x1_18 x3_19 x4_20 x5_21 x6_22 σ_23 => (if x6_22 = 0 then bnd (x5_21 + 1) (fun x5_24 => fX3_timesHome_L8 ke n x1_18 x3_19 x4_20 x5_24 σ_23) else bnd (x4_20 + 1) (fun x4_25 => bnd (x5_21 + 1) (fun x5_26 => fX3_timesHome_L8 ke n x1_18 x3_19 x4_25 x5_26 σ_23)))) FU x1 x3 x4 x5 x6_4 x7_5 σ)))
set_option maxHeartbeats 4000000 in
set_option maxRecDepth 100000 in
theorem wX3_timesHome_L8 {p : Program} {l : Launch} {e : Env} {s : State} {m : MethodId} {args : Array Value} {below : List Frame} {meth : Method} {c : Code} {E : EN} (C : zC E xW p s m args meth c cX3_timesHome 10 RX3 (some .int) wsX3_timesHome) {F : Int32 × ST} {ke : Int32 → ST → Option (Int32 × ST)} (hke : ∀ (x4 : Int32) (σ : ST) (H : Heap) (locs : List Loc) (ls : Array Slot), lv_has ls 10 [(4, .int x4)] → va_P (eD E) vwCl (xW E σ) H → va_S (eA E) s.heap H locs → ke x4 σ = some F → zWi E xW p l e r_X3_timesHome s m args below meth c F H locs (F0 m 139 ls [])) : ∀ (n : Nat) (x1 : Int32) (x3 : Int32) (x4 : Int32) (x5 : Int32) (σ : ST) (H : Heap) (locs : List Loc) (ls : Array Slot), lv_has ls 10 [(0, .ref (ea E 1)), (1, .int x1), (3, .int x3), (4, .int x4), (5, .int x5)] → va_P (eD E) vwCl (xW E σ) H → va_S (eA E) s.heap H locs → fX3_timesHome_L8 ke n x1 x3 x4 x5 σ = some F → zWi E xW p l e r_X3_timesHome s m args below meth c F H locs (F0 m 8 ls []) := by
  obtain ⟨hx, hb, hml, hown, hts, hr, hlk, hK, hD⟩ := id C
  intro n
  induction n with
  | zero => intro x1 x3 x4 x5 σ H locs ls hl hP hS hE; rw [fX3_timesHome_L8] at hE; cases hE
  | succ n ih =>
    intro x1 x3 x4 x5 σ H locs ls hl hP hS hE
    rw [fX3_timesHome_L8] at hE
    refine lv_iload hx hb dX3_timesHome_8 (lv_at hl 4 rfl) ?_
    refine lv_iload_n hx hb dX3_timesHome_10 rfl (lv_at hl 1 rfl) ?_
    refine z_icmp_ge (tgt := 139) hx hb dX3_timesHome_11 (by decide) hE (fun hE => ?_) (fun hE => ?_)
    · exact hke x4 σ _ _ _ (lv_sub hl [3] rfl) hP hS hE
    refine lv_iconst (v := 1) hx hb dX3_timesHome_14 (by decide) ?_
    refine z_istore hx hb (fun x6_4 => [(6, .int x6_4), (0, .ref (ea E 1)), (1, .int x1), (3, .int x3), (4, .int x4), (5, .int x5)]) dX3_timesHome_15 hl (by decide) rfl hE (fun x6_4 ls hl hE => ?_)
    refine lv_iconst (v := 0) hx hb dX3_timesHome_17 (by decide) ?_
    refine z_istore hx hb (fun x7_5 => [(7, .int x7_5), (6, .int x6_4), (0, .ref (ea E 1)), (1, .int x1), (3, .int x3), (4, .int x4), (5, .int x5)]) dX3_timesHome_18 hl (by decide) rfl hE (fun x7_5 ls hl hE => ?_)
    refine wX3_timesHome_L20 C ?_ FU x1 x3 x4 x5 x6_4 x7_5 σ _ _ _ (lv_sub hl [2, 3, 4, 5, 6, 1, 0] rfl) hP hS hE
    intro x1_18 x3_19 x4_20 x5_21 x6_22 σ_23 H locs ls hl hP hS hE
    refine lv_iload hx hb dX3_timesHome_125 (lv_at hl 5 rfl) ?_
    refine z_if_eq (tgt := 133) hx hb dX3_timesHome_127 (by decide) hE (fun hE => ?_) (fun hE => ?_)
    · refine z_iinc hx hb (v := (x5_21 + 1)) (k := 4) (fun x5_24 => [(5, .int x5_24), (0, .ref (ea E 1)), (1, .int x1_18), (3, .int x3_19), (4, .int x4_20), (6, .int x6_22)]) dX3_timesHome_133 hl rfl (by rfl) (by decide) rfl hE (fun x5_24 ls hl hE => ?_)
      refine lv_goto (tgt := 8) hx hb dX3_timesHome_136 (by decide) ?_
      exact ih x1_18 x3_19 x4_20 x5_24 σ_23 _ _ _ (lv_sub hl [1, 2, 3, 4, 0] rfl) hP hS hE
    refine z_iinc hx hb (v := (x4_20 + 1)) (k := 3) (fun x4_25 => [(4, .int x4_25), (0, .ref (ea E 1)), (1, .int x1_18), (3, .int x3_19), (5, .int x5_21), (6, .int x6_22)]) dX3_timesHome_130 hl rfl (by rfl) (by decide) rfl hE (fun x4_25 ls hl hE => ?_)
    refine z_iinc hx hb (v := (x5_21 + 1)) (k := 4) (fun x5_26 => [(5, .int x5_26), (4, .int x4_25), (0, .ref (ea E 1)), (1, .int x1_18), (3, .int x3_19), (6, .int x6_22)]) dX3_timesHome_133 hl rfl (by rfl) (by decide) rfl hE (fun x5_26 ls hl hE => ?_)
    refine lv_goto (tgt := 8) hx hb dX3_timesHome_136 (by decide) ?_
    exact ih x1_18 x3_19 x4_25 x5_26 σ_23 _ _ _ (lv_sub hl [2, 3, 4, 1, 0] rfl) hP hS hE
def fX3_timesHome  (x1 : Int32) (x2 : Int32) (σ : ST) : Option (Int32 × ST) :=
  bnd (x2 : Int32) (fun x3_1 => bnd (0 : Int32) (fun x4_2 => bnd (0 : Int32) (fun x5_3 => fX3_timesHome_L8 (fun x4_27 σ_28 => some (x4_27, σ_28)) FU x1 x3_1 x4_2 x5_3 σ)))
set_option maxHeartbeats 4000000 in
set_option maxRecDepth 100000 in
theorem wX3_timesHome {p : Program} {l : Launch} {e : Env} {s : State} {m : MethodId} {args : Array Value} {below : List Frame} {meth : Method} {c : Code} {E : EN} (C : zC E xW p s m args meth c cX3_timesHome 10 RX3 (some .int) wsX3_timesHome) {F : Int32 × ST}   (x1 : Int32) (x2 : Int32) (σ : ST) (H : Heap) (locs : List Loc) (ls : Array Slot) (hl : lv_has ls 10 [(0, .ref (ea E 1)), (1, .int x1), (2, .int x2)]) (hP : va_P (eD E) vwCl (xW E σ) H) (hS : va_S (eA E) s.heap H locs) (hE : fX3_timesHome  x1 x2 σ = some F) : zWi E xW p l e r_X3_timesHome s m args below meth c F H locs (F0 m 0 ls []) := by
  obtain ⟨hx, hb, hml, hown, hts, hr, hlk, hK, hD⟩ := id C
  unfold fX3_timesHome at hE
  refine lv_iload_n hx hb dX3_timesHome_0 rfl (lv_at hl 2 rfl) ?_
  refine z_istore_n hx hb (fun x3_1 => [(3, .int x3_1), (0, .ref (ea E 1)), (1, .int x1), (2, .int x2)]) dX3_timesHome_1 rfl hl (by decide) rfl hE (fun x3_1 ls hl hE => ?_)
  refine lv_iconst (v := 0) hx hb dX3_timesHome_2 (by decide) ?_
  refine z_istore hx hb (fun x4_2 => [(4, .int x4_2), (3, .int x3_1), (0, .ref (ea E 1)), (1, .int x1), (2, .int x2)]) dX3_timesHome_3 hl (by decide) rfl hE (fun x4_2 ls hl hE => ?_)
  refine lv_iconst (v := 0) hx hb dX3_timesHome_5 (by decide) ?_
  refine z_istore hx hb (fun x5_3 => [(5, .int x5_3), (4, .int x4_2), (3, .int x3_1), (0, .ref (ea E 1)), (1, .int x1), (2, .int x2)]) dX3_timesHome_6 hl (by decide) rfl hE (fun x5_3 ls hl hE => ?_)
  refine wX3_timesHome_L8 C ?_ FU x1 x3_1 x4_2 x5_3 σ _ _ _ (lv_sub hl [3, 4, 2, 1, 0] rfl) hP hS hE
  intro x4_27 σ_28 H locs ls hl hP hS hE
  refine lv_iload hx hb dX3_timesHome_139 (lv_at hl 0 rfl) ?_
  exact z_iret hx hb hr hlk hP hS dX3_timesHome_141 hE
theorem kX3_timesHome (l : Launch) (E : EN) (hD : ∀ σ, va_D (eA E) (xW E σ)) (x1 : Int32) (x2 : Int32) (σ : ST) (F : Int32 × ST) (hE : fX3_timesHome x1 x2 σ = some F) : Met l yX3_timesHome wsX3_timesHome r_X3_timesHome (zPc E xW [.ref (ea E 1), .int x1, .int x2] σ) (zQi E xW F) 0 0 (eA E) := by
  refine Met.ofW (cc := cX3_timesHome) (maxL := 10) (ret := (some .int)) (by decide) rfl ?_
  intro p e s m args below meth c s₁ B hml hv
  obtain ⟨rfl, hP, hK⟩ := hv
  have hl := lv_entry ([.ref (ea E 1), .int x1, .int x2]) (n := 10) (Nat.le_of_ble_eq_true rfl)
  rw [lg_entry_eq]
  generalize (lg_sl ([.ref (ea E 1), .int x1, .int x2]) ++ List.replicate (10 - (lg_sl ([.ref (ea E 1), .int x1, .int x2])).length) Slot.unset).toArray = ls at hl ⊢
  exact wX3_timesHome ⟨B.exec, B.bytes, hml, findClass_of_methodNamed B.named, atoms_spec (ws := wsX3_timesHome) B.pre, B.returns, B.notSynchronized, hK, hD⟩ x1 x2 σ s.heap [] ls hl hP va_S.rf hE
def fX4_lots  (x1 : Int32) (x2 : Int32) (σ : ST) : Option (Int32 × ST) :=
  (if 1 ≤ x1 then (if x1 ≤ 20 then (if (gI σ 3) = 0 then cali (fX4_refuse (-3) σ) (fun r_5 σ_4 => some (r_5, σ_4)) else calv (fX4_goByRow σ) (fun σ_1 => cali (fX3_timesHome x1 x2 σ_1) (fun r_3 σ_2 => some (r_3, σ_2)))) else cali (fX4_refuse (-6) σ) (fun r_7 σ_6 => some (r_7, σ_6))) else cali (fX4_refuse (-4) σ) (fun r_9 σ_8 => some (r_9, σ_8)))
set_option maxHeartbeats 4000000 in
set_option maxRecDepth 100000 in
theorem wX4_lots {p : Program} {l : Launch} {e : Env} {s : State} {m : MethodId} {args : Array Value} {below : List Frame} {meth : Method} {c : Code} {E : EN} (C : zC E xW p s m args meth c cX4_lots 3 RX4 (some .int) wsX4_lots) {F : Int32 × ST}   (x1 : Int32) (x2 : Int32) (σ : ST) (H : Heap) (locs : List Loc) (ls : Array Slot) (hl : lv_has ls 3 [(0, .ref (ea E 0)), (1, .int x1), (2, .int x2)]) (hP : va_P (eD E) vwCl (xW E σ) H) (hS : va_S (eA E) s.heap H locs) (hE : fX4_lots  x1 x2 σ = some F) : zWi E xW p l e r_X4_lots s m args below meth c F H locs (F0 m 0 ls []) := by
  obtain ⟨hx, hb, hml, hown, hts, hr, hlk, hK, hD⟩ := id C
  have hwX2 : ∀ w ∈ wsX20, w.before args s = true := fun w h => hts w (List.mem_cons_of_mem _ (List.mem_append_left _ (List.mem_append_left _ (List.mem_append_right _ h))))
  have hwX4 : ∀ w ∈ wsX40, w.before args s = true := fun w h => hts w (List.mem_cons_of_mem _ (List.mem_append_left _ (List.mem_append_left _ (List.mem_append_left _ (List.mem_append_right _ h)))))
  unfold fX4_lots at hE
  refine lv_iload_n hx hb dX4_lots_0 rfl (lv_at hl 1 rfl) ?_
  refine lv_iconst (v := 1) hx hb dX4_lots_1 (by decide) ?_
  refine z_icmp_ge (tgt := 12) hx hb dX4_lots_2 (by decide) hE (fun hE => ?_) (fun hE => ?_)
  · refine lv_iload_n hx hb dX4_lots_12 rfl (lv_at hl 1 rfl) ?_
    refine lv_bipush (v := 20) hx hb dX4_lots_13 (by decide) ?_
    refine z_icmp_le (tgt := 25) hx hb dX4_lots_15 (by decide) hE (fun hE => ?_) (fun hE => ?_)
    · refine lv_aload_n hx hb dX4_lots_25 rfl (lv_at hl 0 rfl) ?_
      refine xg_0_1 hx hb hown hwX4 (hts _ (List.mem_of_getElem? (i := 1) rfl)) hK hP dX4_lots_26 ?_
      refine xg_4_11 hx hb hown hwX2 (hts _ (List.mem_of_getElem? (i := 2) rfl)) hK hP dX4_lots_29 ?_
      refine z_if_ne (tgt := 42) hx hb dX4_lots_32 (by decide) hE (fun hE => ?_) (fun hE => ?_)
      · refine lv_aload_n hx hb dX4_lots_42 rfl (lv_at hl 0 rfl) ?_
        refine z_gov (wf := xW) hS hE (fun F1 h1 => (va_runV (As := []) (rest := []) ⟨hx, hb, hml, hown, hts⟩ (kX4_goByRow l E hD  σ F1 h1) (cwV 0 hts gX4_lots_X4_goByRow rfl rfl rfl q_X4_goByRow ⟨Nat.le_of_ble_eq_true rfl, Nat.le_of_ble_eq_true rfl⟩) (z_preV hK hP hS (ci := 4) (q0 := 0) rfl rfl rfl) rfl rfl hl.1 rfl (lv_room (Nat.le_of_ble_eq_true rfl)) dX4_lots_43 ⟨Nat.le_of_ble_eq_true rfl, Nat.le_of_ble_eq_true rfl⟩)) (fun σ_1 H locs hP hS hE => ?_)
        refine lv_aload_n hx hb dX4_lots_46 rfl (lv_at hl 0 rfl) ?_
        refine xg_0_0 hx hb hown hwX4 (hts _ (List.mem_of_getElem? (i := 3) rfl)) hK hP dX4_lots_47 ?_
        refine lv_iload_n hx hb dX4_lots_50 rfl (lv_at hl 1 rfl) ?_
        refine lv_iload_n hx hb dX4_lots_51 rfl (lv_at hl 2 rfl) ?_
        refine z_goi (wf := xW) hS hE (fun F1 h1 => (va_runV (As := [.int x1, .int x2]) (rest := []) ⟨hx, hb, hml, hown, hts⟩ (kX3_timesHome l E hD x1 x2 σ_1 F1 h1) (cwV 2 hts gX4_lots_X3_timesHome rfl rfl rfl q_X3_timesHome ⟨Nat.le_of_ble_eq_true rfl, Nat.le_of_ble_eq_true rfl⟩) (z_preV hK hP hS (ci := 3) (q0 := 1) rfl rfl rfl) rfl rfl hl.1 rfl (lv_room (Nat.le_of_ble_eq_true rfl)) dX4_lots_52 ⟨Nat.le_of_ble_eq_true rfl, Nat.le_of_ble_eq_true rfl⟩)) (fun r_3 σ_2 H locs hP hS hE => ?_)
        exact z_iret hx hb hr hlk hP hS dX4_lots_55 hE
      refine lv_aload_n hx hb dX4_lots_35 rfl (lv_at hl 0 rfl) ?_
      refine lv_bipush (v := -3) hx hb dX4_lots_36 (by decide) ?_
      refine z_goi (wf := xW) hS hE (fun F1 h1 => (va_runV (As := [.int (-3)]) (rest := []) ⟨hx, hb, hml, hown, hts⟩ (kX4_refuse l E hD (-3) σ F1 h1) (cwV 1 hts gX4_lots_X4_refuse rfl rfl rfl q_X4_refuse ⟨Nat.le_of_ble_eq_true rfl, Nat.le_of_ble_eq_true rfl⟩) (z_preV hK hP hS (ci := 4) (q0 := 0) rfl rfl rfl) rfl rfl hl.1 rfl (lv_room (Nat.le_of_ble_eq_true rfl)) dX4_lots_38 ⟨Nat.le_of_ble_eq_true rfl, Nat.le_of_ble_eq_true rfl⟩)) (fun r_5 σ_4 H locs hP hS hE => ?_)
      exact z_iret hx hb hr hlk hP hS dX4_lots_41 hE
    refine lv_aload_n hx hb dX4_lots_18 rfl (lv_at hl 0 rfl) ?_
    refine lv_bipush (v := -6) hx hb dX4_lots_19 (by decide) ?_
    refine z_goi (wf := xW) hS hE (fun F1 h1 => (va_runV (As := [.int (-6)]) (rest := []) ⟨hx, hb, hml, hown, hts⟩ (kX4_refuse l E hD (-6) σ F1 h1) (cwV 1 hts gX4_lots_X4_refuse rfl rfl rfl q_X4_refuse ⟨Nat.le_of_ble_eq_true rfl, Nat.le_of_ble_eq_true rfl⟩) (z_preV hK hP hS (ci := 4) (q0 := 0) rfl rfl rfl) rfl rfl hl.1 rfl (lv_room (Nat.le_of_ble_eq_true rfl)) dX4_lots_21 ⟨Nat.le_of_ble_eq_true rfl, Nat.le_of_ble_eq_true rfl⟩)) (fun r_7 σ_6 H locs hP hS hE => ?_)
    exact z_iret hx hb hr hlk hP hS dX4_lots_24 hE
  refine lv_aload_n hx hb dX4_lots_5 rfl (lv_at hl 0 rfl) ?_
  refine lv_bipush (v := -4) hx hb dX4_lots_6 (by decide) ?_
  refine z_goi (wf := xW) hS hE (fun F1 h1 => (va_runV (As := [.int (-4)]) (rest := []) ⟨hx, hb, hml, hown, hts⟩ (kX4_refuse l E hD (-4) σ F1 h1) (cwV 1 hts gX4_lots_X4_refuse rfl rfl rfl q_X4_refuse ⟨Nat.le_of_ble_eq_true rfl, Nat.le_of_ble_eq_true rfl⟩) (z_preV hK hP hS (ci := 4) (q0 := 0) rfl rfl rfl) rfl rfl hl.1 rfl (lv_room (Nat.le_of_ble_eq_true rfl)) dX4_lots_8 ⟨Nat.le_of_ble_eq_true rfl, Nat.le_of_ble_eq_true rfl⟩)) (fun r_9 σ_8 H locs hP hS hE => ?_)
  exact z_iret hx hb hr hlk hP hS dX4_lots_11 hE
theorem kX4_lots (l : Launch) (E : EN) (hD : ∀ σ, va_D (eA E) (xW E σ)) (x1 : Int32) (x2 : Int32) (σ : ST) (F : Int32 × ST) (hE : fX4_lots x1 x2 σ = some F) : Met l yX4_lots wsX4_lots r_X4_lots (zPc E xW [.ref (ea E 0), .int x1, .int x2] σ) (zQi E xW F) 0 0 (eA E) := by
  refine Met.ofW (cc := cX4_lots) (maxL := 3) (ret := (some .int)) (by decide) rfl ?_
  intro p e s m args below meth c s₁ B hml hv
  obtain ⟨rfl, hP, hK⟩ := hv
  have hl := lv_entry ([.ref (ea E 0), .int x1, .int x2]) (n := 3) (Nat.le_of_ble_eq_true rfl)
  rw [lg_entry_eq]
  generalize (lg_sl ([.ref (ea E 0), .int x1, .int x2]) ++ List.replicate (3 - (lg_sl ([.ref (ea E 0), .int x1, .int x2])).length) Slot.unset).toArray = ls at hl ⊢
  exact wX4_lots ⟨B.exec, B.bytes, hml, findClass_of_methodNamed B.named, atoms_spec (ws := wsX4_lots) B.pre, B.returns, B.notSynchronized, hK, hD⟩ x1 x2 σ s.heap [] ls hl hP va_S.rf hE
def fX2_allWorth_4_L4 (ke : Int32 → ST → Option (Int32 × ST)) : Nat → Int32 → Int32 → ST → Option (Int32 × ST)
  | 0, _, _, _ => none
  | n + 1, x1, x2, σ => (if (gI σ 5) ≤ x2 then ke x1 σ else ald (gA σ 15) 5 x2 (fun v_3 => bnd ((x1 + v_3) : Int32) (fun x1_4 => bnd (x2 + 1) (fun x2_5 => fX2_allWorth_4_L4 ke n x1_4 x2_5 σ))))
set_option maxHeartbeats 4000000 in
set_option maxRecDepth 100000 in
theorem wX2_allWorth_4_L4 {p : Program} {l : Launch} {e : Env} {s : State} {m : MethodId} {args : Array Value} {below : List Frame} {meth : Method} {c : Code} {E : EN} (C : zC E xW p s m args meth c cX2_allWorth 3 RX2 (some .int) wsX2_allWorth) {F : Int32 × ST} {ke : Int32 → ST → Option (Int32 × ST)} (hke : ∀ (x1 : Int32) (σ : ST) (H : Heap) (locs : List Loc) (ls : Array Slot), lv_has ls 3 [(1, .int x1)] → va_P (eD E) vwCl (xW E σ) H → va_S (eA E) s.heap H locs → ke x1 σ = some F → zWi E xW p l e r_X2_allWorth s m args below meth c F H locs (F0 m 27 ls [])) : ∀ (n : Nat) (x1 : Int32) (x2 : Int32) (σ : ST) (H : Heap) (locs : List Loc) (ls : Array Slot), lv_has ls 3 [(0, .ref (ea E 4)), (1, .int x1), (2, .int x2)] → va_P (eD E) vwCl (xW E σ) H → va_S (eA E) s.heap H locs → fX2_allWorth_4_L4 ke n x1 x2 σ = some F → zWi E xW p l e r_X2_allWorth s m args below meth c F H locs (F0 m 4 ls []) := by
  obtain ⟨hx, hb, hml, hown, hts, hr, hlk, hK, hD⟩ := id C
  have hwX2 : ∀ w ∈ wsX20, w.before args s = true := fun w h => hts w (List.mem_cons_of_mem _ (List.mem_append_right _ h))
  intro n
  induction n with
  | zero => intro x1 x2 σ H locs ls hl hP hS hE; rw [fX2_allWorth_4_L4] at hE; cases hE
  | succ n ih =>
    intro x1 x2 σ H locs ls hl hP hS hE
    rw [fX2_allWorth_4_L4] at hE
    refine lv_iload_n hx hb dX2_allWorth_4 rfl (lv_at hl 2 rfl) ?_
    refine lv_aload_n hx hb dX2_allWorth_5 rfl (lv_at hl 0 rfl) ?_
    refine xg_4_13 hx hb hown hwX2 (hts _ (List.mem_of_getElem? (i := 1) rfl)) hK hP dX2_allWorth_6 ?_
    refine z_icmp_ge (tgt := 27) hx hb dX2_allWorth_9 (by decide) hE (fun hE => ?_) (fun hE => ?_)
    · exact hke x1 σ _ _ _ (lv_sub hl [1] rfl) hP hS hE
    refine lv_iload_n hx hb dX2_allWorth_12 rfl (lv_at hl 1 rfl) ?_
    refine lv_aload_n hx hb dX2_allWorth_13 rfl (lv_at hl 0 rfl) ?_
    refine xg_4_9 hx hb hown hwX2 (hts _ (List.mem_of_getElem? (i := 2) rfl)) hK hP dX2_allWorth_14 ?_
    refine lv_iload_n hx hb dX2_allWorth_17 rfl (lv_at hl 2 rfl) ?_
    refine xa_22 hx hb hK hP dX2_allWorth_18 hE (fun v_3 hE => ?_)
    refine lv_iadd hx hb dX2_allWorth_19 ?_
    refine z_istore_n hx hb (fun x1_4 => [(1, .int x1_4), (0, .ref (ea E 4)), (2, .int x2)]) dX2_allWorth_20 rfl hl (by decide) rfl hE (fun x1_4 ls hl hE => ?_)
    refine z_iinc hx hb (v := (x2 + 1)) (k := 2) (fun x2_5 => [(2, .int x2_5), (1, .int x1_4), (0, .ref (ea E 4))]) dX2_allWorth_21 hl rfl (by rfl) (by decide) rfl hE (fun x2_5 ls hl hE => ?_)
    refine lv_goto (tgt := 4) hx hb dX2_allWorth_24 (by decide) ?_
    exact ih x1_4 x2_5 σ _ _ _ (lv_sub hl [2, 1, 0] rfl) hP hS hE
def fX2_allWorth_4   (σ : ST) : Option (Int32 × ST) :=
  bnd (0 : Int32) (fun x1_1 => bnd (0 : Int32) (fun x2_2 => fX2_allWorth_4_L4 (fun x1_6 σ_7 => some (x1_6, σ_7)) FU x1_1 x2_2 σ))
set_option maxHeartbeats 4000000 in
set_option maxRecDepth 100000 in
theorem wX2_allWorth_4 {p : Program} {l : Launch} {e : Env} {s : State} {m : MethodId} {args : Array Value} {below : List Frame} {meth : Method} {c : Code} {E : EN} (C : zC E xW p s m args meth c cX2_allWorth 3 RX2 (some .int) wsX2_allWorth) {F : Int32 × ST}    (σ : ST) (H : Heap) (locs : List Loc) (ls : Array Slot) (hl : lv_has ls 3 [(0, .ref (ea E 4))]) (hP : va_P (eD E) vwCl (xW E σ) H) (hS : va_S (eA E) s.heap H locs) (hE : fX2_allWorth_4   σ = some F) : zWi E xW p l e r_X2_allWorth s m args below meth c F H locs (F0 m 0 ls []) := by
  obtain ⟨hx, hb, hml, hown, hts, hr, hlk, hK, hD⟩ := id C
  unfold fX2_allWorth_4 at hE
  refine lv_iconst (v := 0) hx hb dX2_allWorth_0 (by decide) ?_
  refine z_istore_n hx hb (fun x1_1 => [(1, .int x1_1), (0, .ref (ea E 4))]) dX2_allWorth_1 rfl hl (by decide) rfl hE (fun x1_1 ls hl hE => ?_)
  refine lv_iconst (v := 0) hx hb dX2_allWorth_2 (by decide) ?_
  refine z_istore_n hx hb (fun x2_2 => [(2, .int x2_2), (1, .int x1_1), (0, .ref (ea E 4))]) dX2_allWorth_3 rfl hl (by decide) rfl hE (fun x2_2 ls hl hE => ?_)
  refine wX2_allWorth_4_L4 C ?_ FU x1_1 x2_2 σ _ _ _ (lv_sub hl [2, 1, 0] rfl) hP hS hE
  intro x1_6 σ_7 H locs ls hl hP hS hE
  refine lv_iload_n hx hb dX2_allWorth_27 rfl (lv_at hl 0 rfl) ?_
  exact z_iret hx hb hr hlk hP hS dX2_allWorth_28 hE
theorem kX2_allWorth_4 (l : Launch) (E : EN) (hD : ∀ σ, va_D (eA E) (xW E σ))  (σ : ST) (F : Int32 × ST) (hE : fX2_allWorth_4  σ = some F) : Met l yX2_allWorth wsX2_allWorth r_X2_allWorth (zPc E xW [.ref (ea E 4)] σ) (zQi E xW F) 0 0 (eA E) := by
  refine Met.ofW (cc := cX2_allWorth) (maxL := 3) (ret := (some .int)) (by decide) rfl ?_
  intro p e s m args below meth c s₁ B hml hv
  obtain ⟨rfl, hP, hK⟩ := hv
  have hl := lv_entry ([.ref (ea E 4)]) (n := 3) (Nat.le_of_ble_eq_true rfl)
  rw [lg_entry_eq]
  generalize (lg_sl ([.ref (ea E 4)]) ++ List.replicate (3 - (lg_sl ([.ref (ea E 4)])).length) Slot.unset).toArray = ls at hl ⊢
  exact wX2_allWorth_4 ⟨B.exec, B.bytes, hml, findClass_of_methodNamed B.named, atoms_spec (ws := wsX2_allWorth) B.pre, B.returns, B.notSynchronized, hK, hD⟩  σ s.heap [] ls hl hP va_S.rf hE
def fX4_count_J22  (x1 : Int32) (σ : ST) : Option (Int32 × ST) :=
  (if x1 = 0 then some ((gI σ 3), σ) else (if x1 = 1 then some ((gI σ 4), σ) else (if x1 = 2 then some ((gI σ 5), σ) else (if x1 = 3 then cali (fX4_settingOf (x1 - 3) σ) (fun r_2 σ_1 => some (r_2, σ_1)) else (if x1 = 4 then cali (fX4_settingOf (x1 - 3) σ) (fun r_4 σ_3 => some (r_4, σ_3)) else (if x1 = 5 then cali (fX4_settingOf (x1 - 3) σ) (fun r_6 σ_5 => some (r_6, σ_5)) else (if x1 = 6 then cali (fX2_allWorth_4 σ) (fun r_8 σ_7 => some (r_8, σ_7)) else (if x1 = 7 then some ((gI σ 0), σ) else (if x1 = 8 then some ((gI σ 2), σ) else some ((-9), σ))))))))))
set_option maxHeartbeats 4000000 in
set_option maxRecDepth 100000 in
theorem wX4_count_J22 {p : Program} {l : Launch} {e : Env} {s : State} {m : MethodId} {args : Array Value} {below : List Frame} {meth : Method} {c : Code} {E : EN} (C : zC E xW p s m args meth c cX4_count 2 RX4 (some .int) wsX4_count) {F : Int32 × ST}   (x1 : Int32) (σ : ST) (H : Heap) (locs : List Loc) (ls : Array Slot) (hl : lv_has ls 2 [(0, .ref (ea E 0)), (1, .int x1)]) (hP : va_P (eD E) vwCl (xW E σ) H) (hS : va_S (eA E) s.heap H locs) (hE : fX4_count_J22  x1 σ = some F) : zWi E xW p l e r_X4_count s m args below meth c F H locs (F0 m 22 ls []) := by
  obtain ⟨hx, hb, hml, hown, hts, hr, hlk, hK, hD⟩ := id C
  have hwX1 : ∀ w ∈ wsX10, w.before args s = true := fun w h => hts w (List.mem_cons_of_mem _ (List.mem_append_right _ h))
  have hwX2 : ∀ w ∈ wsX20, w.before args s = true := fun w h => hts w (List.mem_cons_of_mem _ (List.mem_append_left _ (List.mem_append_right _ h)))
  have hwX4 : ∀ w ∈ wsX40, w.before args s = true := fun w h => hts w (List.mem_cons_of_mem _ (List.mem_append_left _ (List.mem_append_left _ (List.mem_append_right _ h))))
  unfold fX4_count_J22 at hE
  refine lv_iload_n hx hb dX4_count_22 rfl (lv_at hl 1 rfl) ?_
  by_cases q0 : x1 = 0
  · have hE := (if_pos q0).symm.trans hE
    refine z_tabIn (tgt := 72) hx hb q0 dX4_count_23 (by decide) (by decide) rfl (by decide) ?_
    refine lv_aload_n hx hb dX4_count_72 rfl (lv_at hl 0 rfl) ?_
    refine xg_0_1 hx hb hown hwX4 (hts _ (List.mem_of_getElem? (i := 2) rfl)) hK hP dX4_count_73 ?_
    refine xg_4_11 hx hb hown hwX2 (hts _ (List.mem_of_getElem? (i := 3) rfl)) hK hP dX4_count_76 ?_
    exact z_iret hx hb hr hlk hP hS dX4_count_79 hE
  replace hE := (if_neg q0).symm.trans hE
  by_cases q1 : x1 = 1
  · have hE := (if_pos q1).symm.trans hE
    refine z_tabIn (tgt := 80) hx hb q1 dX4_count_23 (by decide) (by decide) rfl (by decide) ?_
    refine lv_aload_n hx hb dX4_count_80 rfl (lv_at hl 0 rfl) ?_
    refine xg_0_1 hx hb hown hwX4 (hts _ (List.mem_of_getElem? (i := 2) rfl)) hK hP dX4_count_81 ?_
    refine xg_4_12 hx hb hown hwX2 (hts _ (List.mem_of_getElem? (i := 4) rfl)) hK hP dX4_count_84 ?_
    exact z_iret hx hb hr hlk hP hS dX4_count_87 hE
  replace hE := (if_neg q1).symm.trans hE
  by_cases q2 : x1 = 2
  · have hE := (if_pos q2).symm.trans hE
    refine z_tabIn (tgt := 88) hx hb q2 dX4_count_23 (by decide) (by decide) rfl (by decide) ?_
    refine lv_aload_n hx hb dX4_count_88 rfl (lv_at hl 0 rfl) ?_
    refine xg_0_1 hx hb hown hwX4 (hts _ (List.mem_of_getElem? (i := 2) rfl)) hK hP dX4_count_89 ?_
    refine xg_4_13 hx hb hown hwX2 (hts _ (List.mem_of_getElem? (i := 5) rfl)) hK hP dX4_count_92 ?_
    exact z_iret hx hb hr hlk hP hS dX4_count_95 hE
  replace hE := (if_neg q2).symm.trans hE
  by_cases q3 : x1 = 3
  · have hE := (if_pos q3).symm.trans hE
    refine z_tabIn (tgt := 96) hx hb q3 dX4_count_23 (by decide) (by decide) rfl (by decide) ?_
    refine lv_aload_n hx hb dX4_count_96 rfl (lv_at hl 0 rfl) ?_
    refine lv_iload_n hx hb dX4_count_97 rfl (lv_at hl 1 rfl) ?_
    refine lv_iconst (v := 3) hx hb dX4_count_98 (by decide) ?_
    refine lv_isub hx hb dX4_count_99 ?_
    refine z_goi (wf := xW) hS hE (fun F1 h1 => (va_runV (As := [.int (x1 - 3)]) (rest := []) ⟨hx, hb, hml, hown, hts⟩ (kX4_settingOf l E hD (x1 - 3) σ F1 h1) (cwV 1 hts gX4_count_X4_settingOf rfl rfl rfl q_X4_settingOf ⟨Nat.le_of_ble_eq_true rfl, Nat.le_of_ble_eq_true rfl⟩) (z_preV hK hP hS (ci := 4) (q0 := 0) rfl rfl rfl) rfl rfl hl.1 rfl (lv_room (Nat.le_of_ble_eq_true rfl)) dX4_count_100 ⟨Nat.le_of_ble_eq_true rfl, Nat.le_of_ble_eq_true rfl⟩)) (fun r_2 σ_1 H locs hP hS hE => ?_)
    exact z_iret hx hb hr hlk hP hS dX4_count_103 hE
  replace hE := (if_neg q3).symm.trans hE
  by_cases q4 : x1 = 4
  · have hE := (if_pos q4).symm.trans hE
    refine z_tabIn (tgt := 96) hx hb q4 dX4_count_23 (by decide) (by decide) rfl (by decide) ?_
    refine lv_aload_n hx hb dX4_count_96 rfl (lv_at hl 0 rfl) ?_
    refine lv_iload_n hx hb dX4_count_97 rfl (lv_at hl 1 rfl) ?_
    refine lv_iconst (v := 3) hx hb dX4_count_98 (by decide) ?_
    refine lv_isub hx hb dX4_count_99 ?_
    refine z_goi (wf := xW) hS hE (fun F1 h1 => (va_runV (As := [.int (x1 - 3)]) (rest := []) ⟨hx, hb, hml, hown, hts⟩ (kX4_settingOf l E hD (x1 - 3) σ F1 h1) (cwV 1 hts gX4_count_X4_settingOf rfl rfl rfl q_X4_settingOf ⟨Nat.le_of_ble_eq_true rfl, Nat.le_of_ble_eq_true rfl⟩) (z_preV hK hP hS (ci := 4) (q0 := 0) rfl rfl rfl) rfl rfl hl.1 rfl (lv_room (Nat.le_of_ble_eq_true rfl)) dX4_count_100 ⟨Nat.le_of_ble_eq_true rfl, Nat.le_of_ble_eq_true rfl⟩)) (fun r_4 σ_3 H locs hP hS hE => ?_)
    exact z_iret hx hb hr hlk hP hS dX4_count_103 hE
  replace hE := (if_neg q4).symm.trans hE
  by_cases q5 : x1 = 5
  · have hE := (if_pos q5).symm.trans hE
    refine z_tabIn (tgt := 96) hx hb q5 dX4_count_23 (by decide) (by decide) rfl (by decide) ?_
    refine lv_aload_n hx hb dX4_count_96 rfl (lv_at hl 0 rfl) ?_
    refine lv_iload_n hx hb dX4_count_97 rfl (lv_at hl 1 rfl) ?_
    refine lv_iconst (v := 3) hx hb dX4_count_98 (by decide) ?_
    refine lv_isub hx hb dX4_count_99 ?_
    refine z_goi (wf := xW) hS hE (fun F1 h1 => (va_runV (As := [.int (x1 - 3)]) (rest := []) ⟨hx, hb, hml, hown, hts⟩ (kX4_settingOf l E hD (x1 - 3) σ F1 h1) (cwV 1 hts gX4_count_X4_settingOf rfl rfl rfl q_X4_settingOf ⟨Nat.le_of_ble_eq_true rfl, Nat.le_of_ble_eq_true rfl⟩) (z_preV hK hP hS (ci := 4) (q0 := 0) rfl rfl rfl) rfl rfl hl.1 rfl (lv_room (Nat.le_of_ble_eq_true rfl)) dX4_count_100 ⟨Nat.le_of_ble_eq_true rfl, Nat.le_of_ble_eq_true rfl⟩)) (fun r_6 σ_5 H locs hP hS hE => ?_)
    exact z_iret hx hb hr hlk hP hS dX4_count_103 hE
  replace hE := (if_neg q5).symm.trans hE
  by_cases q6 : x1 = 6
  · have hE := (if_pos q6).symm.trans hE
    refine z_tabIn (tgt := 104) hx hb q6 dX4_count_23 (by decide) (by decide) rfl (by decide) ?_
    refine lv_aload_n hx hb dX4_count_104 rfl (lv_at hl 0 rfl) ?_
    refine xg_0_1 hx hb hown hwX4 (hts _ (List.mem_of_getElem? (i := 2) rfl)) hK hP dX4_count_105 ?_
    refine z_goi (wf := xW) hS hE (fun F1 h1 => (va_runV (As := []) (rest := []) ⟨hx, hb, hml, hown, hts⟩ (kX2_allWorth_4 l E hD  σ F1 h1) (cwV 0 hts gX4_count_X2_allWorth rfl rfl rfl q_X2_allWorth ⟨Nat.le_of_ble_eq_true rfl, Nat.le_of_ble_eq_true rfl⟩) (z_preV hK hP hS (ci := 2) (q0 := 4) rfl rfl rfl) rfl rfl hl.1 rfl (lv_room (Nat.le_of_ble_eq_true rfl)) dX4_count_108 ⟨Nat.le_of_ble_eq_true rfl, Nat.le_of_ble_eq_true rfl⟩)) (fun r_8 σ_7 H locs hP hS hE => ?_)
    exact z_iret hx hb hr hlk hP hS dX4_count_111 hE
  replace hE := (if_neg q6).symm.trans hE
  by_cases q7 : x1 = 7
  · have hE := (if_pos q7).symm.trans hE
    refine z_tabIn (tgt := 112) hx hb q7 dX4_count_23 (by decide) (by decide) rfl (by decide) ?_
    refine lv_aload_n hx hb dX4_count_112 rfl (lv_at hl 0 rfl) ?_
    refine xg_0_10 hx hb hown hwX4 (hts _ (List.mem_of_getElem? (i := 6) rfl)) hK hP dX4_count_113 ?_
    exact z_iret hx hb hr hlk hP hS dX4_count_116 hE
  replace hE := (if_neg q7).symm.trans hE
  by_cases q8 : x1 = 8
  · have hE := (if_pos q8).symm.trans hE
    refine z_tabIn (tgt := 117) hx hb q8 dX4_count_23 (by decide) (by decide) rfl (by decide) ?_
    refine lv_aload_n hx hb dX4_count_117 rfl (lv_at hl 0 rfl) ?_
    refine xg_0_5 hx hb hown hwX4 (hts _ (List.mem_of_getElem? (i := 7) rfl)) hK hP dX4_count_118 ?_
    refine xg_3_1 hx hb hown hwX1 (hts _ (List.mem_of_getElem? (i := 8) rfl)) hK hP dX4_count_121 ?_
    exact z_iret hx hb hr hlk hP hS dX4_count_124 hE
  replace hE := (if_neg q8).symm.trans hE
  refine lv_tableOut (tgt := 125) hx hb dX4_count_23 (z_out (fun k h1 h2 h3 => by
      rcases (show k = 0 ∨ k = 1 ∨ k = 2 ∨ k = 3 ∨ k = 4 ∨ k = 5 ∨ k = 6 ∨ k = 7 ∨ k = 8 by omega) with rfl | rfl | rfl | rfl | rfl | rfl | rfl | rfl | rfl
      · exact z_ne q0 (h3.trans (by decide))
      · exact z_ne q1 (h3.trans (by decide))
      · exact z_ne q2 (h3.trans (by decide))
      · exact z_ne q3 (h3.trans (by decide))
      · exact z_ne q4 (h3.trans (by decide))
      · exact z_ne q5 (h3.trans (by decide))
      · exact z_ne q6 (h3.trans (by decide))
      · exact z_ne q7 (h3.trans (by decide))
      · exact z_ne q8 (h3.trans (by decide)))) (by decide) ?_
  refine lv_bipush (v := -9) hx hb dX4_count_125 (by decide) ?_
  exact z_iret hx hb hr hlk hP hS dX4_count_127 hE
def fX4_count  (x1 : Int32) (σ : ST) : Option (Int32 × ST) :=
  (if x1 < 11 then fX4_count_J22  x1 σ else (if 16 < x1 then fX4_count_J22  x1 σ else ald (gA σ 46) 7 (x1 - 10) (fun v_9 => some (v_9, σ))))
set_option maxHeartbeats 4000000 in
set_option maxRecDepth 100000 in
theorem wX4_count {p : Program} {l : Launch} {e : Env} {s : State} {m : MethodId} {args : Array Value} {below : List Frame} {meth : Method} {c : Code} {E : EN} (C : zC E xW p s m args meth c cX4_count 2 RX4 (some .int) wsX4_count) {F : Int32 × ST}   (x1 : Int32) (σ : ST) (H : Heap) (locs : List Loc) (ls : Array Slot) (hl : lv_has ls 2 [(0, .ref (ea E 0)), (1, .int x1)]) (hP : va_P (eD E) vwCl (xW E σ) H) (hS : va_S (eA E) s.heap H locs) (hE : fX4_count  x1 σ = some F) : zWi E xW p l e r_X4_count s m args below meth c F H locs (F0 m 0 ls []) := by
  obtain ⟨hx, hb, hml, hown, hts, hr, hlk, hK, hD⟩ := id C
  have hwX4 : ∀ w ∈ wsX40, w.before args s = true := fun w h => hts w (List.mem_cons_of_mem _ (List.mem_append_left _ (List.mem_append_left _ (List.mem_append_right _ h))))
  unfold fX4_count at hE
  refine lv_iload_n hx hb dX4_count_0 rfl (lv_at hl 1 rfl) ?_
  refine lv_bipush (v := 11) hx hb dX4_count_1 (by decide) ?_
  refine z_icmp_lt (tgt := 22) hx hb dX4_count_3 (by decide) hE (fun hE => ?_) (fun hE => ?_)
  · exact wX4_count_J22 C  x1 σ _ _ _ (lv_sub hl [0, 1] rfl) hP hS hE
  refine lv_iload_n hx hb dX4_count_6 rfl (lv_at hl 1 rfl) ?_
  refine lv_bipush (v := 16) hx hb dX4_count_7 (by decide) ?_
  refine z_icmp_gt (tgt := 22) hx hb dX4_count_9 (by decide) hE (fun hE => ?_) (fun hE => ?_)
  · exact wX4_count_J22 C  x1 σ _ _ _ (lv_sub hl [0, 1] rfl) hP hS hE
  refine lv_aload_n hx hb dX4_count_12 rfl (lv_at hl 0 rfl) ?_
  refine xg_0_9 hx hb hown hwX4 (hts _ (List.mem_of_getElem? (i := 1) rfl)) hK hP dX4_count_13 ?_
  refine lv_iload_n hx hb dX4_count_16 rfl (lv_at hl 1 rfl) ?_
  refine lv_bipush (v := 10) hx hb dX4_count_17 (by decide) ?_
  refine lv_isub hx hb dX4_count_19 ?_
  refine xa_53 hx hb hK hP dX4_count_20 hE (fun v_9 hE => ?_)
  exact z_iret hx hb hr hlk hP hS dX4_count_21 hE
theorem kX4_count (l : Launch) (E : EN) (hD : ∀ σ, va_D (eA E) (xW E σ)) (x1 : Int32) (σ : ST) (F : Int32 × ST) (hE : fX4_count x1 σ = some F) : Met l yX4_count wsX4_count r_X4_count (zPc E xW [.ref (ea E 0), .int x1] σ) (zQi E xW F) 0 0 (eA E) := by
  refine Met.ofW (cc := cX4_count) (maxL := 2) (ret := (some .int)) (by decide) rfl ?_
  intro p e s m args below meth c s₁ B hml hv
  obtain ⟨rfl, hP, hK⟩ := hv
  have hl := lv_entry ([.ref (ea E 0), .int x1]) (n := 2) (Nat.le_of_ble_eq_true rfl)
  rw [lg_entry_eq]
  generalize (lg_sl ([.ref (ea E 0), .int x1]) ++ List.replicate (2 - (lg_sl ([.ref (ea E 0), .int x1])).length) Slot.unset).toArray = ls at hl ⊢
  exact wX4_count ⟨B.exec, B.bytes, hml, findClass_of_methodNamed B.named, atoms_spec (ws := wsX4_count) B.pre, B.returns, B.notSynchronized, hK, hD⟩ x1 σ s.heap [] ls hl hP va_S.rf hE
