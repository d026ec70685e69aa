def fX5_byRow_L9 (ke : ST → Option (ST)) : Nat → Int32 → Int32 → Int32 → ST → Option (ST)
  | 0, _, _, _, _ => none
  | n + 1, x1, x2, x3, σ => (if (gI σ 17) ≤ x3 then ke  σ else ald (gA σ 13) 10 x3 (fun v_4 => bnd (v_4 : Int32) (fun x4_5 => ald (gA σ 1) 200 2 (fun v_6 => (if v_6 ≤ x4_5 then bnd ((x2 ||| (1 <<< (x4_5 &&& 31))) : Int32) (fun x2_7 => bnd (x3 + 1) (fun x3_8 => fX5_byRow_L9 ke n x1 x2_7 x3_8 σ)) else (if ((x2 >>> (x4_5 &&& 31)) &&& 1) = 0 then (if x4_5 = x1 then bnd ((x2 ||| (1 <<< (x4_5 &&& 31))) : Int32) (fun x2_11 => bnd (x3 + 1) (fun x3_12 => fX5_byRow_L9 ke n x1 x2_11 x3_12 σ)) else ast σ 12 10 (gI σ 8) x4_5 (fun σ_13 => bnd (sI σ_13 8 ((gI σ_13 8) + 1)) (fun σ_14 => bnd ((x2 ||| (1 <<< (x4_5 &&& 31))) : Int32) (fun x2_15 => bnd (x3 + 1) (fun x3_16 => fX5_byRow_L9 ke n x1 x2_15 x3_16 σ_14))))) else bnd ((x2 ||| (1 <<< (x4_5 &&& 31))) : Int32) (fun x2_9 => bnd (x3 + 1) (fun x3_10 => fX5_byRow_L9 ke n x1 x2_9 x3_10 σ))))))))
set_option maxHeartbeats 4000000 in
set_option maxRecDepth 100000 in
theorem wX5_byRow_L9 {p : Program} {l : Launch} {e : Env} {s : State} {m : MethodId} {args : Array Value} {below : List Frame} {meth : Method} {c : Code} {E : EN} (C : zC E mW p s m args meth c cX5_byRow 5 RX5 none wsL_law) {F : ST} {ke : ST → Option (ST)} (hke : ∀  (σ : ST) (H : Heap) (locs : List Loc) (ls : Array Slot), lv_has ls 5 [] → va_P (eD E) vwCl (mW E σ) H → va_S (eA E) s.heap H locs → ke  σ = some F → zWv E mW p l e r_X5_byRow s m args below meth c F H locs (F0 m 85 ls [])) : ∀ (n : Nat) (x1 : Int32) (x2 : Int32) (x3 : Int32) (σ : ST) (H : Heap) (locs : List Loc) (ls : Array Slot), lv_has ls 5 [(0, .ref (ea E 0)), (1, .int x1), (2, .int x2), (3, .int x3)] → va_P (eD E) vwCl (mW E σ) H → va_S (eA E) s.heap H locs → fX5_byRow_L9 ke n x1 x2 x3 σ = some F → zWv E mW p l e r_X5_byRow s m args below meth c F H locs (F0 m 9 ls []) := by
  obtain ⟨hx, hb, hml, hown, hts, hr, hlk, hK, hD⟩ := id C
  have hwX5 : ∀ w ∈ wsX50, w.before args s = true := fun w h => hts w (inlX5 w h)
  intro n
  induction n with
  | zero => intro x1 x2 x3 σ H locs ls hl hP hS hE; rw [fX5_byRow_L9] at hE; cases hE
  | succ n ih =>
    intro x1 x2 x3 σ H locs ls hl hP hS hE
    rw [fX5_byRow_L9] at hE
    refine lv_iload_n hx hb dX5_byRow_9 rfl (lv_at hl 3 rfl) ?_
    refine lv_aload_n hx hb dX5_byRow_10 rfl (lv_at hl 0 rfl) ?_
    refine mg_0_33 hx hb hown hwX5 (hts _ u_601) hK hP dX5_byRow_11 ?_
    refine z_icmp_ge (tgt := 85) hx hb dX5_byRow_14 (by decide) hE (fun hE => ?_) (fun hE => ?_)
    · exact hke  σ _ _ _ (lv_sub hl [] rfl) hP hS hE
    refine lv_aload_n hx hb dX5_byRow_17 rfl (lv_at hl 0 rfl) ?_
    refine mg_0_32 hx hb hown hwX5 (hts _ u_111) hK hP dX5_byRow_18 ?_
    refine lv_iload_n hx hb dX5_byRow_21 rfl (lv_at hl 3 rfl) ?_
    refine ma_14 hx hb hK hP dX5_byRow_22 hE (fun v_4 hE => ?_)
    refine z_istore hx hb (fun x4_5 => [(4, .int x4_5), (0, .ref (ea E 0)), (1, .int x1), (2, .int x2), (3, .int x3)]) dX5_byRow_23 hl (by decide) rfl hE (fun x4_5 ls hl hE => ?_)
    refine lv_iload hx hb dX5_byRow_25 (lv_at hl 0 rfl) ?_
    refine lv_aload_n hx hb dX5_byRow_27 rfl (lv_at hl 1 rfl) ?_
    refine mg_0_1 hx hb hown hwX5 (hts _ u_97) hK hP dX5_byRow_28 ?_
    refine lv_iconst (v := 2) hx hb dX5_byRow_31 (by decide) ?_
    refine ma_2 hx hb hK hP dX5_byRow_32 hE (fun v_6 hE => ?_)
    refine z_icmp_ge (tgt := 72) hx hb dX5_byRow_33 (by decide) hE (fun hE => ?_) (fun hE => ?_)
    · refine lv_iload_n hx hb dX5_byRow_72 rfl (lv_at hl 3 rfl) ?_
      refine lv_iconst (v := 1) hx hb dX5_byRow_73 (by decide) ?_
      refine lv_iload hx hb dX5_byRow_74 (lv_at hl 0 rfl) ?_
      refine lv_ishl hx hb dX5_byRow_76 ?_
      refine lv_ior hx hb dX5_byRow_77 ?_
      refine z_istore_n hx hb (fun x2_7 => [(2, .int x2_7), (4, .int x4_5), (0, .ref (ea E 0)), (1, .int x1), (3, .int x3)]) dX5_byRow_78 rfl hl (by decide) rfl hE (fun x2_7 ls hl hE => ?_)
      refine z_iinc hx hb (v := (x3 + 1)) (k := 4) (fun x3_8 => [(3, .int x3_8), (2, .int x2_7), (4, .int x4_5), (0, .ref (ea E 0)), (1, .int x1)]) dX5_byRow_79 hl rfl (by rfl) (by decide) rfl hE (fun x3_8 ls hl hE => ?_)
      refine lv_goto (tgt := 9) hx hb dX5_byRow_82 (by decide) ?_
      exact ih x1 x2_7 x3_8 σ _ _ _ (lv_sub hl [3, 4, 1, 0] rfl) hP hS hE
    refine lv_iload_n hx hb dX5_byRow_36 rfl (lv_at hl 3 rfl) ?_
    refine lv_iload hx hb dX5_byRow_37 (lv_at hl 0 rfl) ?_
    refine lv_ishr hx hb dX5_byRow_39 ?_
    refine lv_iconst (v := 1) hx hb dX5_byRow_40 (by decide) ?_
    refine lv_iand hx hb dX5_byRow_41 ?_
    refine z_if_ne (tgt := 72) hx hb dX5_byRow_42 (by decide) hE (fun hE => ?_) (fun hE => ?_)
    · refine lv_iload_n hx hb dX5_byRow_72 rfl (lv_at hl 3 rfl) ?_
      refine lv_iconst (v := 1) hx hb dX5_byRow_73 (by decide) ?_
      refine lv_iload hx hb dX5_byRow_74 (lv_at hl 0 rfl) ?_
      refine lv_ishl hx hb dX5_byRow_76 ?_
      refine lv_ior hx hb dX5_byRow_77 ?_
      refine z_istore_n hx hb (fun x2_9 => [(2, .int x2_9), (4, .int x4_5), (0, .ref (ea E 0)), (1, .int x1), (3, .int x3)]) dX5_byRow_78 rfl hl (by decide) rfl hE (fun x2_9 ls hl hE => ?_)
      refine z_iinc hx hb (v := (x3 + 1)) (k := 4) (fun x3_10 => [(3, .int x3_10), (2, .int x2_9), (4, .int x4_5), (0, .ref (ea E 0)), (1, .int x1)]) dX5_byRow_79 hl rfl (by rfl) (by decide) rfl hE (fun x3_10 ls hl hE => ?_)
      refine lv_goto (tgt := 9) hx hb dX5_byRow_82 (by decide) ?_
      exact ih x1 x2_9 x3_10 σ _ _ _ (lv_sub hl [3, 4, 1, 0] rfl) hP hS hE
    refine lv_iload hx hb dX5_byRow_45 (lv_at hl 0 rfl) ?_
    refine lv_iload_n hx hb dX5_byRow_47 rfl (lv_at hl 2 rfl) ?_
    refine z_icmp_eq (tgt := 72) hx hb dX5_byRow_48 (by decide) hE (fun hE => ?_) (fun hE => ?_)
    · refine lv_iload_n hx hb dX5_byRow_72 rfl (lv_at hl 3 rfl) ?_
      refine lv_iconst (v := 1) hx hb dX5_byRow_73 (by decide) ?_
      refine lv_iload hx hb dX5_byRow_74 (lv_at hl 0 rfl) ?_
      refine lv_ishl hx hb dX5_byRow_76 ?_
      refine lv_ior hx hb dX5_byRow_77 ?_
      refine z_istore_n hx hb (fun x2_11 => [(2, .int x2_11), (4, .int x4_5), (0, .ref (ea E 0)), (1, .int x1), (3, .int x3)]) dX5_byRow_78 rfl hl (by decide) rfl hE (fun x2_11 ls hl hE => ?_)
      refine z_iinc hx hb (v := (x3 + 1)) (k := 4) (fun x3_12 => [(3, .int x3_12), (2, .int x2_11), (4, .int x4_5), (0, .ref (ea E 0)), (1, .int x1)]) dX5_byRow_79 hl rfl (by rfl) (by decide) rfl hE (fun x3_12 ls hl hE => ?_)
      refine lv_goto (tgt := 9) hx hb dX5_byRow_82 (by decide) ?_
      exact ih x1 x2_11 x3_12 σ _ _ _ (lv_sub hl [3, 4, 1, 0] rfl) hP hS hE
    refine lv_aload_n hx hb dX5_byRow_51 rfl (lv_at hl 1 rfl) ?_
    refine mg_0_20 hx hb hown hwX5 (hts _ u_110) hK hP dX5_byRow_52 ?_
    refine lv_aload_n hx hb dX5_byRow_55 rfl (lv_at hl 1 rfl) ?_
    refine mg_0_21 hx hb hown hwX5 (hts _ u_600) hK hP dX5_byRow_56 ?_
    refine lv_iload hx hb dX5_byRow_59 (lv_at hl 0 rfl) ?_
    refine ms_13 hx hb hK hD hP hS dX5_byRow_61 hE (fun σ_13 H locs hP hS hE => ?_)
    refine lv_aload_n hx hb dX5_byRow_62 rfl (lv_at hl 1 rfl) ?_
    refine lv_dup hx hb dX5_byRow_63 rfl ?_
    refine mg_0_21 hx hb hown hwX5 (hts _ u_600) hK hP dX5_byRow_64 ?_
    refine lv_iconst (v := 1) hx hb dX5_byRow_67 (by decide) ?_
    refine lv_iadd hx hb dX5_byRow_68 ?_
    refine mp_0_21 hx hb hown hwX5 (hts _ u_600) hK hD hP hS dX5_byRow_69 hE (fun σ_14 H locs hP hS hE => ?_)
    refine lv_iload_n hx hb dX5_byRow_72 rfl (lv_at hl 3 rfl) ?_
    refine lv_iconst (v := 1) hx hb dX5_byRow_73 (by decide) ?_
    refine lv_iload hx hb dX5_byRow_74 (lv_at hl 0 rfl) ?_
    refine lv_ishl hx hb dX5_byRow_76 ?_
    refine lv_ior hx hb dX5_byRow_77 ?_
    refine z_istore_n hx hb (fun x2_15 => [(2, .int x2_15), (4, .int x4_5), (0, .ref (ea E 0)), (1, .int x1), (3, .int x3)]) dX5_byRow_78 rfl hl (by decide) rfl hE (fun x2_15 ls hl hE => ?_)
    refine z_iinc hx hb (v := (x3 + 1)) (k := 4) (fun x3_16 => [(3, .int x3_16), (2, .int x2_15), (4, .int x4_5), (0, .ref (ea E 0)), (1, .int x1)]) dX5_byRow_79 hl rfl (by rfl) (by decide) rfl hE (fun x3_16 ls hl hE => ?_)
    refine lv_goto (tgt := 9) hx hb dX5_byRow_82 (by decide) ?_
    exact ih x1 x2_15 x3_16 σ_14 _ _ _ (lv_sub hl [3, 4, 1, 0] rfl) hP hS hE
def fX5_byRow  (x1 : Int32) (σ : ST) : Option (ST) :=
  bnd (0 : Int32) (fun x2_1 => bnd (sI σ 8 0) (fun σ_2 => bnd (0 : Int32) (fun x3_3 => fX5_byRow_L9 (fun σ_17 => some σ_17) FU x1 x2_1 x3_3 σ_2)))
set_option maxHeartbeats 4000000 in
set_option maxRecDepth 100000 in
theorem wX5_byRow {p : Program} {l : Launch} {e : Env} {s : State} {m : MethodId} {args : Array Value} {below : List Frame} {meth : Method} {c : Code} {E : EN} (C : zC E mW p s m args meth c cX5_byRow 5 RX5 none wsL_law) {F : ST}   (x1 : Int32) (σ : ST) (H : Heap) (locs : List Loc) (ls : Array Slot) (hl : lv_has ls 5 [(0, .ref (ea E 0)), (1, .int x1)]) (hP : va_P (eD E) vwCl (mW E σ) H) (hS : va_S (eA E) s.heap H locs) (hE : fX5_byRow  x1 σ = some F) : zWv E mW p l e r_X5_byRow s m args below meth c F H locs (F0 m 0 ls []) := by
  obtain ⟨hx, hb, hml, hown, hts, hr, hlk, hK, hD⟩ := id C
  have hwX5 : ∀ w ∈ wsX50, w.before args s = true := fun w h => hts w (inlX5 w h)
  unfold fX5_byRow at hE
  refine lv_iconst (v := 0) hx hb dX5_byRow_0 (by decide) ?_
  refine z_istore_n hx hb (fun x2_1 => [(2, .int x2_1), (0, .ref (ea E 0)), (1, .int x1)]) dX5_byRow_1 rfl hl (by decide) rfl hE (fun x2_1 ls hl hE => ?_)
  refine lv_aload_n hx hb dX5_byRow_2 rfl (lv_at hl 1 rfl) ?_
  refine lv_iconst (v := 0) hx hb dX5_byRow_3 (by decide) ?_
  refine mp_0_21 hx hb hown hwX5 (hts _ u_600) hK hD hP hS dX5_byRow_4 hE (fun σ_2 H locs hP hS hE => ?_)
  refine lv_iconst (v := 0) hx hb dX5_byRow_7 (by decide) ?_
  refine z_istore_n hx hb (fun x3_3 => [(3, .int x3_3), (2, .int x2_1), (0, .ref (ea E 0)), (1, .int x1)]) dX5_byRow_8 rfl hl (by decide) rfl hE (fun x3_3 ls hl hE => ?_)
  refine wX5_byRow_L9 C ?_ FU x1 x2_1 x3_3 σ_2 _ _ _ (lv_sub hl [2, 3, 1, 0] rfl) hP hS hE
  intro σ_17 H locs ls hl hP hS hE
  exact z_vret hx hb hr hlk hP hS dX5_byRow_85 hE
theorem kX5_byRow (l : Launch) (E : EN) (hD : ∀ σ, va_D (eA E) (mW E σ)) (x1 : Int32) (σ : ST) (F : ST) (hE : fX5_byRow x1 σ = some F) : Met l yX5_byRow wu_X5_byRow r_X5_byRow (zPc E mW [.ref (ea E 0), .int x1] σ) (zQv E mW F) 0 0 (eA E) := by
  refine Met.ofW (cc := cX5_byRow) (maxL := 5) (ret := none) (by decide) rfl ?_
  intro p e s m args below meth c s₁ B hml hv
  obtain ⟨rfl, hP, hK⟩ := hv
  have hl := lv_entry ([.ref (ea E 0), .int x1]) (n := 5) (Nat.le_of_ble_eq_true rfl)
  rw [lg_entry_eq]
  generalize (lg_sl ([.ref (ea E 0), .int x1]) ++ List.replicate (5 - (lg_sl ([.ref (ea E 0), .int x1])).length) Slot.unset).toArray = ls at hl ⊢
  exact wX5_byRow ⟨B.exec, B.bytes, hml, findClass_of_methodNamed B.named, fun w h => atoms_spec (ws := wu_X5_byRow) B.pre w (List.mem_cons_of_mem _ h), B.returns, B.notSynchronized, hK, hD⟩ x1 σ s.heap [] ls hl hP va_S.rf hE
def fX5_draw  (x1 : Int32) (σ : ST) : Option (Int32 × ST) :=
  bnd (sI σ 16 (((gI σ 16) * 1664525) + 1013904223)) (fun σ_1 => dvi ((gI σ_1 16) &&& 2147483647) 256 (fun v_2 => rmi v_2 x1 (fun v_3 => some (v_3, σ_1))))
set_option maxHeartbeats 4000000 in
set_option maxRecDepth 100000 in
theorem wX5_draw {p : Program} {l : Launch} {e : Env} {s : State} {m : MethodId} {args : Array Value} {below : List Frame} {meth : Method} {c : Code} {E : EN} (C : zC E mW p s m args meth c cX5_draw 2 RX5 (some .int) wsL_law) {F : Int32 × ST}   (x1 : Int32) (σ : ST) (H : Heap) (locs : List Loc) (ls : Array Slot) (hl : lv_has ls 2 [(0, .ref (ea E 0)), (1, .int x1)]) (hP : va_P (eD E) vwCl (mW E σ) H) (hS : va_S (eA E) s.heap H locs) (hE : fX5_draw  x1 σ = some F) : zWi E mW p l e r_X5_draw s m args below meth c F H locs (F0 m 0 ls []) := by
  obtain ⟨hx, hb, hml, hown, hts, hr, hlk, hK, hD⟩ := id C
  have hwX5 : ∀ w ∈ wsX50, w.before args s = true := fun w h => hts w (inlX5 w h)
  unfold fX5_draw at hE
  refine lv_aload_n hx hb dX5_draw_0 rfl (lv_at hl 0 rfl) ?_
  refine lv_aload_n hx hb dX5_draw_1 rfl (lv_at hl 0 rfl) ?_
  refine mg_0_31 hx hb hown hwX5 (hts _ u_626) hK hP dX5_draw_2 ?_
  refine lv_ldc (v := 1664525) hx hb hown (hts _ u_627) dX5_draw_5 ?_
  refine lv_imul hx hb dX5_draw_7 ?_
  refine lv_ldc (v := 1013904223) hx hb hown (hts _ u_628) dX5_draw_8 ?_
  refine lv_iadd hx hb dX5_draw_10 ?_
  refine mp_0_31 hx hb hown hwX5 (hts _ u_626) hK hD hP hS dX5_draw_11 hE (fun σ_1 H locs hP hS hE => ?_)
  refine lv_aload_n hx hb dX5_draw_14 rfl (lv_at hl 0 rfl) ?_
  refine mg_0_31 hx hb hown hwX5 (hts _ u_626) hK hP dX5_draw_15 ?_
  refine lv_ldc (v := 2147483647) hx hb hown (hts _ u_629) dX5_draw_18 ?_
  refine lv_iand hx hb dX5_draw_20 ?_
  refine lv_sipush (v := 256) hx hb dX5_draw_21 (by decide) ?_
  refine z_idiv hx hb dX5_draw_24 hE (fun v_2 hE => ?_)
  refine lv_iload_n hx hb dX5_draw_25 rfl (lv_at hl 1 rfl) ?_
  refine z_irem hx hb dX5_draw_26 hE (fun v_3 hE => ?_)
  exact z_iret hx hb hr hlk hP hS dX5_draw_27 hE
theorem kX5_draw (l : Launch) (E : EN) (hD : ∀ σ, va_D (eA E) (mW E σ)) (x1 : Int32) (σ : ST) (F : Int32 × ST) (hE : fX5_draw x1 σ = some F) : Met l yX5_draw wu_X5_draw r_X5_draw (zPc E mW [.ref (ea E 0), .int x1] σ) (zQi E mW F) 0 0 (eA E) := by
  refine Met.ofW (cc := cX5_draw) (maxL := 2) (ret := (some .int)) (by decide) rfl ?_
  intro p e s m args below meth c s₁ B hml hv
  obtain ⟨rfl, hP, hK⟩ := hv
  have hl := lv_entry ([.ref (ea E 0), .int x1]) (n := 2) (Nat.le_of_ble_eq_true rfl)
  rw [lg_entry_eq]
  generalize (lg_sl ([.ref (ea E 0), .int x1]) ++ List.replicate (2 - (lg_sl ([.ref (ea E 0), .int x1])).length) Slot.unset).toArray = ls at hl ⊢
  exact wX5_draw ⟨B.exec, B.bytes, hml, findClass_of_methodNamed B.named, fun w h => atoms_spec (ws := wu_X5_draw) B.pre w (List.mem_cons_of_mem _ h), B.returns, B.notSynchronized, hK, hD⟩ x1 σ s.heap [] ls hl hP va_S.rf hE
def fX5_happens_J60  (x2 : Int32) (σ : ST) : Option (ST) :=
  bnd (1 : Int32) (fun x3_3 => (if x3_3 = x2 then bnd (sI σ 15 1) (fun σ_5 => some σ_5) else bnd (sI σ 15 0) (fun σ_4 => some σ_4)))
set_option maxHeartbeats 4000000 in
set_option maxRecDepth 100000 in
theorem wX5_happens_J60 {p : Program} {l : Launch} {e : Env} {s : State} {m : MethodId} {args : Array Value} {below : List Frame} {meth : Method} {c : Code} {E : EN} (C : zC E mW p s m args meth c cX5_happens 4 RX5 none wsL_law) {F : ST}   (x2 : Int32) (σ : ST) (H : Heap) (locs : List Loc) (ls : Array Slot) (hl : lv_has ls 4 [(0, .ref (ea E 0)), (2, .int x2)]) (hP : va_P (eD E) vwCl (mW E σ) H) (hS : va_S (eA E) s.heap H locs) (hE : fX5_happens_J60  x2 σ = some F) : zWv E mW p l e r_X5_happens s m args below meth c F H locs (F0 m 60 ls []) := by
  obtain ⟨hx, hb, hml, hown, hts, hr, hlk, hK, hD⟩ := id C
  have hwX5 : ∀ w ∈ wsX50, w.before args s = true := fun w h => hts w (inlX5 w h)
  unfold fX5_happens_J60 at hE
  refine lv_iconst (v := 1) hx hb dX5_happens_60 (by decide) ?_
  refine lv_goto (tgt := 65) hx hb dX5_happens_61 (by decide) ?_
  refine z_istore_n hx hb (fun x3_3 => [(3, .int x3_3), (0, .ref (ea E 0)), (2, .int x2)]) dX5_happens_65 rfl hl (by decide) rfl hE (fun x3_3 ls hl hE => ?_)
  refine lv_aload_n hx hb dX5_happens_66 rfl (lv_at hl 1 rfl) ?_
  refine lv_iload_n hx hb dX5_happens_67 rfl (lv_at hl 0 rfl) ?_
  refine lv_iload_n hx hb dX5_happens_68 rfl (lv_at hl 2 rfl) ?_
  refine z_icmp_ne (tgt := 76) hx hb dX5_happens_69 (by decide) hE (fun hE => ?_) (fun hE => ?_)
  · refine lv_iconst (v := 0) hx hb dX5_happens_76 (by decide) ?_
    refine mp_0_30 hx hb hown hwX5 (hts _ u_621) hK hD hP hS rfl dX5_happens_77 hE (fun σ_4 H locs hP hS hE => ?_)
    exact z_vret hx hb hr hlk hP hS dX5_happens_80 hE
  refine lv_iconst (v := 1) hx hb dX5_happens_72 (by decide) ?_
  refine lv_goto (tgt := 77) hx hb dX5_happens_73 (by decide) ?_
  refine mp_0_30 hx hb hown hwX5 (hts _ u_621) hK hD hP hS rfl dX5_happens_77 hE (fun σ_5 H locs hP hS hE => ?_)
  exact z_vret hx hb hr hlk hP hS dX5_happens_80 hE
def fX5_happens_J64  (x2 : Int32) (σ : ST) : Option (ST) :=
  bnd (0 : Int32) (fun x3_6 => (if x3_6 = x2 then bnd (sI σ 15 1) (fun σ_8 => some σ_8) else bnd (sI σ 15 0) (fun σ_7 => some σ_7)))
set_option maxHeartbeats 4000000 in
set_option maxRecDepth 100000 in
theorem wX5_happens_J64 {p : Program} {l : Launch} {e : Env} {s : State} {m : MethodId} {args : Array Value} {below : List Frame} {meth : Method} {c : Code} {E : EN} (C : zC E mW p s m args meth c cX5_happens 4 RX5 none wsL_law) {F : ST}   (x2 : Int32) (σ : ST) (H : Heap) (locs : List Loc) (ls : Array Slot) (hl : lv_has ls 4 [(0, .ref (ea E 0)), (2, .int x2)]) (hP : va_P (eD E) vwCl (mW E σ) H) (hS : va_S (eA E) s.heap H locs) (hE : fX5_happens_J64  x2 σ = some F) : zWv E mW p l e r_X5_happens s m args below meth c F H locs (F0 m 64 ls []) := by
  obtain ⟨hx, hb, hml, hown, hts, hr, hlk, hK, hD⟩ := id C
  have hwX5 : ∀ w ∈ wsX50, w.before args s = true := fun w h => hts w (inlX5 w h)
  unfold fX5_happens_J64 at hE
  refine lv_iconst (v := 0) hx hb dX5_happens_64 (by decide) ?_
  refine z_istore_n hx hb (fun x3_6 => [(3, .int x3_6), (0, .ref (ea E 0)), (2, .int x2)]) dX5_happens_65 rfl hl (by decide) rfl hE (fun x3_6 ls hl hE => ?_)
  refine lv_aload_n hx hb dX5_happens_66 rfl (lv_at hl 1 rfl) ?_
  refine lv_iload_n hx hb dX5_happens_67 rfl (lv_at hl 0 rfl) ?_
  refine lv_iload_n hx hb dX5_happens_68 rfl (lv_at hl 2 rfl) ?_
  refine z_icmp_ne (tgt := 76) hx hb dX5_happens_69 (by decide) hE (fun hE => ?_) (fun hE => ?_)
  · refine lv_iconst (v := 0) hx hb dX5_happens_76 (by decide) ?_
    refine mp_0_30 hx hb hown hwX5 (hts _ u_621) hK hD hP hS rfl dX5_happens_77 hE (fun σ_7 H locs hP hS hE => ?_)
    exact z_vret hx hb hr hlk hP hS dX5_happens_80 hE
  refine lv_iconst (v := 1) hx hb dX5_happens_72 (by decide) ?_
  refine lv_goto (tgt := 77) hx hb dX5_happens_73 (by decide) ?_
  refine mp_0_30 hx hb hown hwX5 (hts _ u_621) hK hD hP hS rfl dX5_happens_77 hE (fun σ_8 H locs hP hS hE => ?_)
  exact z_vret hx hb hr hlk hP hS dX5_happens_80 hE
def fX5_happens_J17  (x1 : Int32) (x2 : Int32) (t0 : Int32) (t1 : Int64) (σ : ST) : Option (ST) :=
  dvl (t1 * (Int32.toInt64 t0)) 10 (fun v_1 => bnd (sL σ 0 v_1) (fun σ_2 => (if (gI σ_2 14) = 0 then some σ_2 else (if (gI σ_2 15) = 0 then some σ_2 else (if x1 = 10 then fX5_happens_J60  x2 σ_2 else (if x1 ≤ 0 then fX5_happens_J64  x2 σ_2 else cali (fX5_draw 10 σ_2) (fun r_10 σ_9 => (if x1 ≤ r_10 then fX5_happens_J64  x2 σ_9 else fX5_happens_J60  x2 σ_9))))))))
set_option maxHeartbeats 4000000 in
set_option maxRecDepth 100000 in
theorem wX5_happens_J17 {p : Program} {l : Launch} {e : Env} {s : State} {m : MethodId} {args : Array Value} {below : List Frame} {meth : Method} {c : Code} {E : EN} (C : zC E mW p s m args meth c cX5_happens 4 RX5 none wsL_law) {F : ST}   (x1 : Int32) (x2 : Int32) (t0 : Int32) (t1 : Int64) (σ : ST) (H : Heap) (locs : List Loc) (ls : Array Slot) (hl : lv_has ls 4 [(0, .ref (ea E 0)), (1, .int x1), (2, .int x2)]) (hP : va_P (eD E) vwCl (mW E σ) H) (hS : va_S (eA E) s.heap H locs) (hE : fX5_happens_J17  x1 x2 t0 t1 σ = some F) : zWv E mW p l e r_X5_happens s m args below meth c F H locs (F0 m 17 ls [.int t0, .long t1, .ref (ea E 0)]) := by
  obtain ⟨hx, hb, hml, hown, hts, hr, hlk, hK, hD⟩ := id C
  have hwX5 : ∀ w ∈ wsX50, w.before args s = true := fun w h => hts w (inlX5 w h)
  unfold fX5_happens_J17 at hE
  refine lv_i2l (v := (Int32.toInt64 t0)) hx hb dX5_happens_17 rfl ?_
  refine lv_lmul hx hb dX5_happens_18 ?_
  refine lv_ldc2 (v := 10) hx hb hown (hts _ u_619) dX5_happens_19 ?_
  refine z_ldiv hx hb dX5_happens_22 hE (fun v_1 hE => ?_)
  refine mp_0_27 hx hb hown hwX5 (hts _ u_609) hK hD hP hS dX5_happens_23 hE (fun σ_2 H locs hP hS hE => ?_)
  refine lv_aload_n hx hb dX5_happens_26 rfl (lv_at hl 0 rfl) ?_
  refine mg_0_29 hx hb hown hwX5 (hts _ u_620) hK hP dX5_happens_27 ?_
  refine z_if_eq (tgt := 80) hx hb dX5_happens_30 (by decide) hE (fun hE => ?_) (fun hE => ?_)
  · exact z_vret hx hb hr hlk hP hS dX5_happens_80 hE
  refine lv_aload_n hx hb dX5_happens_33 rfl (lv_at hl 0 rfl) ?_
  refine mg_0_30 hx hb hown hwX5 (hts _ u_621) hK hP dX5_happens_34 ?_
  refine z_if_eq (tgt := 80) hx hb dX5_happens_37 (by decide) hE (fun hE => ?_) (fun hE => ?_)
  · exact z_vret hx hb hr hlk hP hS dX5_happens_80 hE
  refine lv_iload_n hx hb dX5_happens_40 rfl (lv_at hl 1 rfl) ?_
  refine lv_bipush (v := 10) hx hb dX5_happens_41 (by decide) ?_
  refine z_icmp_eq (tgt := 60) hx hb dX5_happens_43 (by decide) hE (fun hE => ?_) (fun hE => ?_)
  · exact wX5_happens_J60 C  x2 σ_2 _ _ _ (lv_sub hl [0, 2] rfl) hP hS hE
  refine lv_iload_n hx hb dX5_happens_46 rfl (lv_at hl 1 rfl) ?_
  refine z_if_le (tgt := 64) hx hb dX5_happens_47 (by decide) hE (fun hE => ?_) (fun hE => ?_)
  · exact wX5_happens_J64 C  x2 σ_2 _ _ _ (lv_sub hl [0, 2] rfl) hP hS hE
  refine lv_aload_n hx hb dX5_happens_50 rfl (lv_at hl 0 rfl) ?_
  refine lv_bipush (v := 10) hx hb dX5_happens_51 (by decide) ?_
  refine z_goi (wf := mW) hS hE (fun F1 h1 => (va_runV (As := [.int 10]) (rest := []) ⟨hx, hb, hml, hown, hts⟩ (kX5_draw l E hD 10 σ_2 F1 h1) (cwV 1 hts (gU_V u_622 u_623 u_624 u_5 u_625) rfl rfl rfl q_X5_draw ⟨Nat.le_of_ble_eq_true rfl, Nat.le_of_ble_eq_true rfl⟩) (z_preV hK hP hS (ci := 5) (q0 := 0) rfl rfl rfl) rfl rfl hl.1 rfl (lv_room (Nat.le_of_ble_eq_true rfl)) dX5_happens_53 ⟨Nat.le_of_ble_eq_true rfl, Nat.le_of_ble_eq_true rfl⟩)) (fun r_10 σ_9 H locs hP hS hE => ?_)
  refine lv_iload_n hx hb dX5_happens_56 rfl (lv_at hl 1 rfl) ?_
  refine z_icmp_ge (tgt := 64) hx hb dX5_happens_57 (by decide) hE (fun hE => ?_) (fun hE => ?_)
  · exact wX5_happens_J64 C  x2 σ_9 _ _ _ (lv_sub hl [0, 2] rfl) hP hS hE
  exact wX5_happens_J60 C  x2 σ_9 _ _ _ (lv_sub hl [0, 2] rfl) hP hS hE
def fX5_happens  (x1 : Int32) (x2 : Int32) (σ : ST) : Option (ST) :=
  (if x2 = 0 then fX5_happens_J17  x1 x2 (10 - x1) (gL σ 0) σ else fX5_happens_J17  x1 x2 x1 (gL σ 0) σ)
set_option maxHeartbeats 4000000 in
set_option maxRecDepth 100000 in
theorem wX5_happens {p : Program} {l : Launch} {e : Env} {s : State} {m : MethodId} {args : Array Value} {below : List Frame} {meth : Method} {c : Code} {E : EN} (C : zC E mW p s m args meth c cX5_happens 4 RX5 none wsL_law) {F : ST}   (x1 : Int32) (x2 : Int32) (σ : ST) (H : Heap) (locs : List Loc) (ls : Array Slot) (hl : lv_has ls 4 [(0, .ref (ea E 0)), (1, .int x1), (2, .int x2)]) (hP : va_P (eD E) vwCl (mW E σ) H) (hS : va_S (eA E) s.heap H locs) (hE : fX5_happens  x1 x2 σ = some F) : zWv E mW p l e r_X5_happens s m args below meth c F H locs (F0 m 0 ls []) := by
  obtain ⟨hx, hb, hml, hown, hts, hr, hlk, hK, hD⟩ := id C
  have hwX5 : ∀ w ∈ wsX50, w.before args s = true := fun w h => hts w (inlX5 w h)
  unfold fX5_happens at hE
  refine lv_aload_n hx hb dX5_happens_0 rfl (lv_at hl 0 rfl) ?_
  refine lv_aload_n hx hb dX5_happens_1 rfl (lv_at hl 0 rfl) ?_
  refine mg_0_27 hx hb hown hwX5 (hts _ u_609) hK hP dX5_happens_2 ?_
  refine lv_iload_n hx hb dX5_happens_5 rfl (lv_at hl 2 rfl) ?_
  refine z_if_eq (tgt := 13) hx hb dX5_happens_6 (by decide) hE (fun hE => ?_) (fun hE => ?_)
  · refine lv_bipush (v := 10) hx hb dX5_happens_13 (by decide) ?_
    refine lv_iload_n hx hb dX5_happens_15 rfl (lv_at hl 1 rfl) ?_
    refine lv_isub hx hb dX5_happens_16 ?_
    exact wX5_happens_J17 C  x1 x2 (10 - x1) (gL σ 0) σ _ _ _ (lv_sub hl [0, 1, 2] rfl) hP hS hE
  refine lv_iload_n hx hb dX5_happens_9 rfl (lv_at hl 1 rfl) ?_
  refine lv_goto (tgt := 17) hx hb dX5_happens_10 (by decide) ?_
  exact wX5_happens_J17 C  x1 x2 x1 (gL σ 0) σ _ _ _ (lv_sub hl [0, 1, 2] rfl) hP hS hE
theorem kX5_happens (l : Launch) (E : EN) (hD : ∀ σ, va_D (eA E) (mW E σ)) (x1 : Int32) (x2 : Int32) (σ : ST) (F : ST) (hE : fX5_happens x1 x2 σ = some F) : Met l yX5_happens wu_X5_happens r_X5_happens (zPc E mW [.ref (ea E 0), .int x1, .int x2] σ) (zQv E mW F) 0 0 (eA E) := by
  refine Met.ofW (cc := cX5_happens) (maxL := 4) (ret := none) (by decide) rfl ?_
  intro p e s m args below meth c s₁ B hml hv
  obtain ⟨rfl, hP, hK⟩ := hv
  have hl := lv_entry ([.ref (ea E 0), .int x1, .int x2]) (n := 4) (Nat.le_of_ble_eq_true rfl)
  rw [lg_entry_eq]
  generalize (lg_sl ([.ref (ea E 0), .int x1, .int x2]) ++ List.replicate (4 - (lg_sl ([.ref (ea E 0), .int x1, .int x2])).length) Slot.unset).toArray = ls at hl ⊢
  exact wX5_happens ⟨B.exec, B.bytes, hml, findClass_of_methodNamed B.named, fun w h => atoms_spec (ws := wu_X5_happens) B.pre w (List.mem_cons_of_mem _ h), B.returns, B.notSynchronized, hK, hD⟩ x1 x2 σ s.heap [] ls hl hP va_S.rf hE
def fX5_start  (x1 : Int32) (σ : ST) : Option (ST) :=
  (if (gI σ 9) = 3 then cali (fX5_pushed x1 σ) (fun r_5 σ_4 => calv (fX5_happens r_5 1 σ_4) (fun σ_6 => some σ_6)) else cali (fX5_starts x1 σ) (fun r_2 σ_1 => calv (fX5_happens r_2 1 σ_1) (fun σ_3 => some σ_3)))
set_option maxHeartbeats 4000000 in
set_option maxRecDepth 100000 in
theorem wX5_start {p : Program} {l : Launch} {e : Env} {s : State} {m : MethodId} {args : Array Value} {below : List Frame} {meth : Method} {c : Code} {E : EN} (C : zC E mW p s m args meth c cX5_start 2 RX5 none wsL_law) {F : ST}   (x1 : Int32) (σ : ST) (H : Heap) (locs : List Loc) (ls : Array Slot) (hl : lv_has ls 2 [(0, .ref (ea E 0)), (1, .int x1)]) (hP : va_P (eD E) vwCl (mW E σ) H) (hS : va_S (eA E) s.heap H locs) (hE : fX5_start  x1 σ = some F) : zWv E mW p l e r_X5_start s m args below meth c F H locs (F0 m 0 ls []) := by
  obtain ⟨hx, hb, hml, hown, hts, hr, hlk, hK, hD⟩ := id C
  have hwX5 : ∀ w ∈ wsX50, w.before args s = true := fun w h => hts w (inlX5 w h)
  unfold fX5_start at hE
  refine lv_aload_n hx hb dX5_start_0 rfl (lv_at hl 0 rfl) ?_
  refine lv_aload_n hx hb dX5_start_1 rfl (lv_at hl 0 rfl) ?_
  refine mg_0_22 hx hb hown hwX5 (hts _ u_606) hK hP dX5_start_2 ?_
  refine lv_iconst (v := 3) hx hb dX5_start_5 (by decide) ?_
  refine z_icmp_ne (tgt := 17) hx hb dX5_start_6 (by decide) hE (fun hE => ?_) (fun hE => ?_)
  · refine lv_aload_n hx hb dX5_start_17 rfl (lv_at hl 0 rfl) ?_
    refine lv_iload_n hx hb dX5_start_18 rfl (lv_at hl 1 rfl) ?_
    refine z_goi (wf := mW) hS hE (fun F1 h1 => (va_runV (As := [.int x1]) (rest := [.ref (ea E 0)]) ⟨hx, hb, hml, hown, hts⟩ (kX5_starts l E hD x1 σ F1 h1) (cwV 1 hts (gU_V u_414 u_415 u_416 u_5 u_417) rfl rfl rfl q_X5_starts ⟨Nat.le_of_ble_eq_true rfl, Nat.le_of_ble_eq_true rfl⟩) (z_preV hK hP hS (ci := 5) (q0 := 0) rfl rfl rfl) rfl rfl hl.1 rfl (lv_room (Nat.le_of_ble_eq_true rfl)) dX5_start_19 ⟨Nat.le_of_ble_eq_true rfl, Nat.le_of_ble_eq_true rfl⟩)) (fun r_2 σ_1 H locs hP hS hE => ?_)
    refine lv_iconst (v := 1) hx hb dX5_start_22 (by decide) ?_
    refine z_gov (wf := mW) hS hE (fun F1 h1 => (va_runV (As := [.int r_2, .int 1]) (rest := []) ⟨hx, hb, hml, hown, hts⟩ (kX5_happens l E hD r_2 1 σ_1 F1 h1) (cwV 2 hts (gU_V u_615 u_616 u_617 u_5 u_618) rfl rfl rfl q_X5_happens ⟨Nat.le_of_ble_eq_true rfl, Nat.le_of_ble_eq_true rfl⟩) (z_preV hK hP hS (ci := 5) (q0 := 0) rfl rfl rfl) rfl rfl hl.1 rfl (lv_room (Nat.le_of_ble_eq_true rfl)) dX5_start_23 ⟨Nat.le_of_ble_eq_true rfl, Nat.le_of_ble_eq_true rfl⟩)) (fun σ_3 H locs hP hS hE => ?_)
    exact z_vret hx hb hr hlk hP hS dX5_start_26 hE
  refine lv_aload_n hx hb dX5_start_9 rfl (lv_at hl 0 rfl) ?_
  refine lv_iload_n hx hb dX5_start_10 rfl (lv_at hl 1 rfl) ?_
  refine z_goi (wf := mW) hS hE (fun F1 h1 => (va_runV (As := [.int x1]) (rest := [.ref (ea E 0)]) ⟨hx, hb, hml, hown, hts⟩ (kX5_pushed l E hD x1 σ F1 h1) (cwV 1 hts (gU_V u_426 u_427 u_428 u_5 u_429) rfl rfl rfl q_X5_pushed ⟨Nat.le_of_ble_eq_true rfl, Nat.le_of_ble_eq_true rfl⟩) (z_preV hK hP hS (ci := 5) (q0 := 0) rfl rfl rfl) rfl rfl hl.1 rfl (lv_room (Nat.le_of_ble_eq_true rfl)) dX5_start_11 ⟨Nat.le_of_ble_eq_true rfl, Nat.le_of_ble_eq_true rfl⟩)) (fun r_5 σ_4 H locs hP hS hE => ?_)
  refine lv_goto (tgt := 22) hx hb dX5_start_14 (by decide) ?_
  refine lv_iconst (v := 1) hx hb dX5_start_22 (by decide) ?_
  refine z_gov (wf := mW) hS hE (fun F1 h1 => (va_runV (As := [.int r_5, .int 1]) (rest := []) ⟨hx, hb, hml, hown, hts⟩ (kX5_happens l E hD r_5 1 σ_4 F1 h1) (cwV 2 hts (gU_V u_615 u_616 u_617 u_5 u_618) rfl rfl rfl q_X5_happens ⟨Nat.le_of_ble_eq_true rfl, Nat.le_of_ble_eq_true rfl⟩) (z_preV hK hP hS (ci := 5) (q0 := 0) rfl rfl rfl) rfl rfl hl.1 rfl (lv_room (Nat.le_of_ble_eq_true rfl)) dX5_start_23 ⟨Nat.le_of_ble_eq_true rfl, Nat.le_of_ble_eq_true rfl⟩)) (fun σ_6 H locs hP hS hE => ?_)
  exact z_vret hx hb hr hlk hP hS dX5_start_26 hE
theorem kX5_start (l : Launch) (E : EN) (hD : ∀ σ, va_D (eA E) (mW E σ)) (x1 : Int32) (σ : ST) (F : ST) (hE : fX5_start x1 σ = some F) : Met l yX5_start wu_X5_start r_X5_start (zPc E mW [.ref (ea E 0), .int x1] σ) (zQv E mW F) 0 0 (eA E) := by
  refine Met.ofW (cc := cX5_start) (maxL := 2) (ret := none) (by decide) rfl ?_
  intro p e s m args below meth c s₁ B hml hv
  obtain ⟨rfl, hP, hK⟩ := hv
  have hl := lv_entry ([.ref (ea E 0), .int x1]) (n := 2) (Nat.le_of_ble_eq_true rfl)
  rw [lg_entry_eq]
  generalize (lg_sl ([.ref (ea E 0), .int x1]) ++ List.replicate (2 - (lg_sl ([.ref (ea E 0), .int x1])).length) Slot.unset).toArray = ls at hl ⊢
  exact wX5_start ⟨B.exec, B.bytes, hml, findClass_of_methodNamed B.named, fun w h => atoms_spec (ws := wu_X5_start) B.pre w (List.mem_cons_of_mem _ h), B.returns, B.notSynchronized, hK, hD⟩ x1 σ s.heap [] ls hl hP va_S.rf hE
def fX5_goesIn_J31  (x3 : Int32) (t0 : Int32) (σ : ST) : Option (Int32 × ST) :=
  calv (fX5_happens t0 0 σ) (fun σ_3 => (if (gI σ_3 9) = 5 then ald (gA σ_3 10) 64 x3 (fun v_5 => some (v_5, σ_3)) else ald (gA σ_3 8) 64 x3 (fun v_4 => some (v_4, σ_3))))
set_option maxHeartbeats 4000000 in
set_option maxRecDepth 100000 in
theorem wX5_goesIn_J31 {p : Program} {l : Launch} {e : Env} {s : State} {m : MethodId} {args : Array Value} {below : List Frame} {meth : Method} {c : Code} {E : EN} (C : zC E mW p s m args meth c cX5_goesIn 4 RX5 (some .int) wsL_law) {F : Int32 × ST}   (x3 : Int32) (t0 : Int32) (σ : ST) (H : Heap) (locs : List Loc) (ls : Array Slot) (hl : lv_has ls 4 [(0, .ref (ea E 0)), (3, .int x3)]) (hP : va_P (eD E) vwCl (mW E σ) H) (hS : va_S (eA E) s.heap H locs) (hE : fX5_goesIn_J31  x3 t0 σ = some F) : zWi E mW p l e r_X5_goesIn s m args below meth c F H locs (F0 m 31 ls [.int t0, .ref (ea E 0)]) := by
  obtain ⟨hx, hb, hml, hown, hts, hr, hlk, hK, hD⟩ := id C
  have hwX5 : ∀ w ∈ wsX50, w.before args s = true := fun w h => hts w (inlX5 w h)
  unfold fX5_goesIn_J31 at hE
  refine lv_iconst (v := 0) hx hb dX5_goesIn_31 (by decide) ?_
  refine z_gov (wf := mW) hS hE (fun F1 h1 => (va_runV (As := [.int t0, .int 0]) (rest := []) ⟨hx, hb, hml, hown, hts⟩ (kX5_happens l E hD t0 0 σ F1 h1) (cwV 2 hts (gU_V u_615 u_616 u_617 u_5 u_618) rfl rfl rfl q_X5_happens ⟨Nat.le_of_ble_eq_true rfl, Nat.le_of_ble_eq_true rfl⟩) (z_preV hK hP hS (ci := 5) (q0 := 0) rfl rfl rfl) rfl rfl hl.1 rfl (lv_room (Nat.le_of_ble_eq_true rfl)) dX5_goesIn_32 ⟨Nat.le_of_ble_eq_true rfl, Nat.le_of_ble_eq_true rfl⟩)) (fun σ_3 H locs hP hS hE => ?_)
  refine lv_aload_n hx hb dX5_goesIn_35 rfl (lv_at hl 0 rfl) ?_
  refine mg_0_22 hx hb hown hwX5 (hts _ u_606) hK hP dX5_goesIn_36 ?_
  refine lv_iconst (v := 5) hx hb dX5_goesIn_39 (by decide) ?_
  refine z_icmp_ne (tgt := 52) hx hb dX5_goesIn_40 (by decide) hE (fun hE => ?_) (fun hE => ?_)
  · refine lv_aload_n hx hb dX5_goesIn_52 rfl (lv_at hl 0 rfl) ?_
    refine mg_0_16 hx hb hown hwX5 (hts _ u_106) hK hP dX5_goesIn_53 ?_
    refine lv_iload_n hx hb dX5_goesIn_56 rfl (lv_at hl 1 rfl) ?_
    refine ma_9 hx hb hK hP dX5_goesIn_57 hE (fun v_4 hE => ?_)
    exact z_iret hx hb hr hlk hP hS dX5_goesIn_58 hE
  refine lv_aload_n hx hb dX5_goesIn_43 rfl (lv_at hl 0 rfl) ?_
  refine mg_0_18 hx hb hown hwX5 (hts _ u_108) hK hP dX5_goesIn_44 ?_
  refine lv_iload_n hx hb dX5_goesIn_47 rfl (lv_at hl 1 rfl) ?_
  refine ma_11 hx hb hK hP dX5_goesIn_48 hE (fun v_5 hE => ?_)
  refine lv_goto (tgt := 58) hx hb dX5_goesIn_49 (by decide) ?_
  exact z_iret hx hb hr hlk hP hS dX5_goesIn_58 hE
def fX5_goesIn  (x1 : Int32) (x2 : Int32) (σ : ST) : Option (Int32 × ST) :=
  bnd (((8 * x1) + x2) : Int32) (fun x3_1 => (if (gI σ 9) = 5 then ald (gA σ 11) 64 x3_1 (fun v_6 => fX5_goesIn_J31  x3_1 v_6 σ) else ald (gA σ 9) 64 x3_1 (fun v_2 => fX5_goesIn_J31  x3_1 v_2 σ)))
set_option maxHeartbeats 4000000 in
set_option maxRecDepth 100000 in
theorem wX5_goesIn {p : Program} {l : Launch} {e : Env} {s : State} {m : MethodId} {args : Array Value} {below : List Frame} {meth : Method} {c : Code} {E : EN} (C : zC E mW p s m args meth c cX5_goesIn 4 RX5 (some .int) wsL_law) {F : Int32 × ST}   (x1 : Int32) (x2 : Int32) (σ : ST) (H : Heap) (locs : List Loc) (ls : Array Slot) (hl : lv_has ls 4 [(0, .ref (ea E 0)), (1, .int x1), (2, .int x2)]) (hP : va_P (eD E) vwCl (mW E σ) H) (hS : va_S (eA E) s.heap H locs) (hE : fX5_goesIn  x1 x2 σ = some F) : zWi E mW p l e r_X5_goesIn s m args below meth c F H locs (F0 m 0 ls []) := by
  obtain ⟨hx, hb, hml, hown, hts, hr, hlk, hK, hD⟩ := id C
  have hwX5 : ∀ w ∈ wsX50, w.before args s = true := fun w h => hts w (inlX5 w h)
  unfold fX5_goesIn at hE
  refine lv_bipush (v := 8) hx hb dX5_goesIn_0 (by decide) ?_
  refine lv_iload_n hx hb dX5_goesIn_2 rfl (lv_at hl 1 rfl) ?_
  refine lv_imul hx hb dX5_goesIn_3 ?_
  refine lv_iload_n hx hb dX5_goesIn_4 rfl (lv_at hl 2 rfl) ?_
  refine lv_iadd hx hb dX5_goesIn_5 ?_
  refine z_istore_n hx hb (fun x3_1 => [(3, .int x3_1), (0, .ref (ea E 0)), (1, .int x1), (2, .int x2)]) dX5_goesIn_6 rfl hl (by decide) rfl hE (fun x3_1 ls hl hE => ?_)
  refine lv_aload_n hx hb dX5_goesIn_7 rfl (lv_at hl 1 rfl) ?_
  refine lv_aload_n hx hb dX5_goesIn_8 rfl (lv_at hl 1 rfl) ?_
  refine mg_0_22 hx hb hown hwX5 (hts _ u_606) hK hP dX5_goesIn_9 ?_
  refine lv_iconst (v := 5) hx hb dX5_goesIn_12 (by decide) ?_
  refine z_icmp_ne (tgt := 25) hx hb dX5_goesIn_13 (by decide) hE (fun hE => ?_) (fun hE => ?_)
  · refine lv_aload_n hx hb dX5_goesIn_25 rfl (lv_at hl 1 rfl) ?_
    refine mg_0_17 hx hb hown hwX5 (hts _ u_107) hK hP dX5_goesIn_26 ?_
    refine lv_iload_n hx hb dX5_goesIn_29 rfl (lv_at hl 0 rfl) ?_
    refine ma_10 hx hb hK hP dX5_goesIn_30 hE (fun v_2 hE => ?_)
    exact wX5_goesIn_J31 C  x3_1 v_2 σ _ _ _ (lv_sub hl [1, 0] rfl) hP hS hE
  refine lv_aload_n hx hb dX5_goesIn_16 rfl (lv_at hl 1 rfl) ?_
  refine mg_0_19 hx hb hown hwX5 (hts _ u_109) hK hP dX5_goesIn_17 ?_
  refine lv_iload_n hx hb dX5_goesIn_20 rfl (lv_at hl 0 rfl) ?_
  refine ma_12 hx hb hK hP dX5_goesIn_21 hE (fun v_6 hE => ?_)
  refine lv_goto (tgt := 31) hx hb dX5_goesIn_22 (by decide) ?_
  exact wX5_goesIn_J31 C  x3_1 v_6 σ _ _ _ (lv_sub hl [1, 0] rfl) hP hS hE
theorem kX5_goesIn (l : Launch) (E : EN) (hD : ∀ σ, va_D (eA E) (mW E σ)) (x1 : Int32) (x2 : Int32) (σ : ST) (F : Int32 × ST) (hE : fX5_goesIn x1 x2 σ = some F) : Met l yX5_goesIn wu_X5_goesIn r_X5_goesIn (zPc E mW [.ref (ea E 0), .int x1, .int x2] σ) (zQi E mW F) 0 0 (eA E) := by
  refine Met.ofW (cc := cX5_goesIn) (maxL := 4) (ret := (some .int)) (by decide) rfl ?_
  intro p e s m args below meth c s₁ B hml hv
  obtain ⟨rfl, hP, hK⟩ := hv
  have hl := lv_entry ([.ref (ea E 0), .int x1, .int x2]) (n := 4) (Nat.le_of_ble_eq_true rfl)
  rw [lg_entry_eq]
  generalize (lg_sl ([.ref (ea E 0), .int x1, .int x2]) ++ List.replicate (4 - (lg_sl ([.ref (ea E 0), .int x1, .int x2])).length) Slot.unset).toArray = ls at hl ⊢
  exact wX5_goesIn ⟨B.exec, B.bytes, hml, findClass_of_methodNamed B.named, fun w h => atoms_spec (ws := wu_X5_goesIn) B.pre w (List.mem_cons_of_mem _ h), B.returns, B.notSynchronized, hK, hD⟩ x1 x2 σ s.heap [] ls hl hP va_S.rf hE
def fX5_runsOn  (x1 : Int32) (x2 : Int32) (σ : ST) : Option (Int32 × ST) :=
  (if (gI σ 9) = 1 then (if (gI σ 10) < x2 then some (0, σ) else some (1, σ)) else (if (gI σ 9) = 2 then cali (fX5_starts x1 σ) (fun r_2 σ_1 => (if 10 ≤ r_2 then some (0, σ_1) else (if (gI σ_1 10) < x2 then some (0, σ_1) else some (1, σ_1)))) else some (0, σ)))
set_option maxHeartbeats 4000000 in
set_option maxRecDepth 100000 in
theorem wX5_runsOn {p : Program} {l : Launch} {e : Env} {s : State} {m : MethodId} {args : Array Value} {below : List Frame} {meth : Method} {c : Code} {E : EN} (C : zC E mW p s m args meth c cX5_runsOn 3 RX5 (some .boolean) wsL_law) {F : Int32 × ST}   (x1 : Int32) (x2 : Int32) (σ : ST) (H : Heap) (locs : List Loc) (ls : Array Slot) (hl : lv_has ls 3 [(0, .ref (ea E 0)), (1, .int x1), (2, .int x2)]) (hP : va_P (eD E) vwCl (mW E σ) H) (hS : va_S (eA E) s.heap H locs) (hE : fX5_runsOn  x1 x2 σ = some F) : zWi E mW p l e r_X5_runsOn s m args below meth c F H locs (F0 m 0 ls []) := by
  obtain ⟨hx, hb, hml, hown, hts, hr, hlk, hK, hD⟩ := id C
  have hwX5 : ∀ w ∈ wsX50, w.before args s = true := fun w h => hts w (inlX5 w h)
  unfold fX5_runsOn at hE
  refine lv_aload_n hx hb dX5_runsOn_0 rfl (lv_at hl 0 rfl) ?_
  refine mg_0_22 hx hb hown hwX5 (hts _ u_606) hK hP dX5_runsOn_1 ?_
  refine lv_iconst (v := 1) hx hb dX5_runsOn_4 (by decide) ?_
  refine z_icmp_eq (tgt := 26) hx hb dX5_runsOn_5 (by decide) hE (fun hE => ?_) (fun hE => ?_)
  · refine lv_iload_n hx hb dX5_runsOn_26 rfl (lv_at hl 2 rfl) ?_
    refine lv_aload_n hx hb dX5_runsOn_27 rfl (lv_at hl 0 rfl) ?_
    refine mg_0_23 hx hb hown hwX5 (hts _ u_607) hK hP dX5_runsOn_28 ?_
    refine z_icmp_gt (tgt := 38) hx hb dX5_runsOn_31 (by decide) hE (fun hE => ?_) (fun hE => ?_)
    · refine lv_iconst (v := 0) hx hb dX5_runsOn_38 (by decide) ?_
      exact z_zret hx hb hr hlk rfl hP hS dX5_runsOn_39 hE
    refine lv_iconst (v := 1) hx hb dX5_runsOn_34 (by decide) ?_
    refine lv_goto (tgt := 39) hx hb dX5_runsOn_35 (by decide) ?_
    exact z_zret hx hb hr hlk rfl hP hS dX5_runsOn_39 hE
  refine lv_aload_n hx hb dX5_runsOn_8 rfl (lv_at hl 0 rfl) ?_
  refine mg_0_22 hx hb hown hwX5 (hts _ u_606) hK hP dX5_runsOn_9 ?_
  refine lv_iconst (v := 2) hx hb dX5_runsOn_12 (by decide) ?_
  refine z_icmp_ne (tgt := 38) hx hb dX5_runsOn_13 (by decide) hE (fun hE => ?_) (fun hE => ?_)
  · refine lv_iconst (v := 0) hx hb dX5_runsOn_38 (by decide) ?_
    exact z_zret hx hb hr hlk rfl hP hS dX5_runsOn_39 hE
  refine lv_aload_n hx hb dX5_runsOn_16 rfl (lv_at hl 0 rfl) ?_
  refine lv_iload_n hx hb dX5_runsOn_17 rfl (lv_at hl 1 rfl) ?_
  refine z_goi (wf := mW) hS hE (fun F1 h1 => (va_runV (As := [.int x1]) (rest := []) ⟨hx, hb, hml, hown, hts⟩ (kX5_starts l E hD x1 σ F1 h1) (cwV 1 hts (gU_V u_414 u_415 u_416 u_5 u_417) rfl rfl rfl q_X5_starts ⟨Nat.le_of_ble_eq_true rfl, Nat.le_of_ble_eq_true rfl⟩) (z_preV hK hP hS (ci := 5) (q0 := 0) rfl rfl rfl) rfl rfl hl.1 rfl (lv_room (Nat.le_of_ble_eq_true rfl)) dX5_runsOn_18 ⟨Nat.le_of_ble_eq_true rfl, Nat.le_of_ble_eq_true rfl⟩)) (fun r_2 σ_1 H locs hP hS hE => ?_)
  refine lv_bipush (v := 10) hx hb dX5_runsOn_21 (by decide) ?_
  refine z_icmp_ge (tgt := 38) hx hb dX5_runsOn_23 (by decide) hE (fun hE => ?_) (fun hE => ?_)
  · refine lv_iconst (v := 0) hx hb dX5_runsOn_38 (by decide) ?_
    exact z_zret hx hb hr hlk rfl hP hS dX5_runsOn_39 hE
  refine lv_iload_n hx hb dX5_runsOn_26 rfl (lv_at hl 2 rfl) ?_
  refine lv_aload_n hx hb dX5_runsOn_27 rfl (lv_at hl 0 rfl) ?_
  refine mg_0_23 hx hb hown hwX5 (hts _ u_607) hK hP dX5_runsOn_28 ?_
  refine z_icmp_gt (tgt := 38) hx hb dX5_runsOn_31 (by decide) hE (fun hE => ?_) (fun hE => ?_)
  · refine lv_iconst (v := 0) hx hb dX5_runsOn_38 (by decide) ?_
    exact z_zret hx hb hr hlk rfl hP hS dX5_runsOn_39 hE
  refine lv_iconst (v := 1) hx hb dX5_runsOn_34 (by decide) ?_
  refine lv_goto (tgt := 39) hx hb dX5_runsOn_35 (by decide) ?_
  exact z_zret hx hb hr hlk rfl hP hS dX5_runsOn_39 hE
theorem kX5_runsOn (l : Launch) (E : EN) (hD : ∀ σ, va_D (eA E) (mW E σ)) (x1 : Int32) (x2 : Int32) (σ : ST) (F : Int32 × ST) (hE : fX5_runsOn x1 x2 σ = some F) : Met l yX5_runsOn wu_X5_runsOn r_X5_runsOn (zPc E mW [.ref (ea E 0), .int x1, .int x2] σ) (zQi E mW F) 0 0 (eA E) := by
  refine Met.ofW (cc := cX5_runsOn) (maxL := 3) (ret := (some .boolean)) (by decide) rfl ?_
  intro p e s m args below meth c s₁ B hml hv
  obtain ⟨rfl, hP, hK⟩ := hv
  have hl := lv_entry ([.ref (ea E 0), .int x1, .int x2]) (n := 3) (Nat.le_of_ble_eq_true rfl)
  rw [lg_entry_eq]
  generalize (lg_sl ([.ref (ea E 0), .int x1, .int x2]) ++ List.replicate (3 - (lg_sl ([.ref (ea E 0), .int x1, .int x2])).length) Slot.unset).toArray = ls at hl ⊢
  exact wX5_runsOn ⟨B.exec, B.bytes, hml, findClass_of_methodNamed B.named, fun w h => atoms_spec (ws := wu_X5_runsOn) B.pre w (List.mem_cons_of_mem _ h), B.returns, B.notSynchronized, hK, hD⟩ x1 x2 σ s.heap [] ls hl hP va_S.rf hE
def fX5_go_J203 (kb : Int32 → Int32 → ST → Option (ST)) (x2 : Int32) (x3 : Int32) (x4 : Int32) (x5 : Int32) (x7 : Int32) (x8 : Int32) (t0 : Int32) (σ : ST) : Option (ST) :=
  bnd (t0 : Int32) (fun x9_30 => ald (gA σ 12) 10 x3 (fun v_31 => bnd (sI σ 12 ((gI σ 12) ||| (1 <<< (v_31 &&& 31)))) (fun σ_32 => bnd (sI σ_32 13 ((gI σ_32 13) + x9_30)) (fun σ_33 => ald (gA σ_33 1) 200 (x4 + 2) (fun v_34 => bnd (sL σ_33 1 ((gL σ_33 1) + ((gL σ_33 0) * (Int32.toInt64 (v_34 - x9_30))))) (fun σ_35 => bnd (sI σ_35 11 ((gI σ_35 11) + x7)) (fun σ_36 => (if x8 = 0 then calv (fX5_start x5 σ_36) (fun σ_38 => bnd (x3 + 1) (fun x3_39 => kb x2 x3_39 σ_38)) else bnd (x3 + 1) (fun x3_37 => kb x2 x3_37 σ_36)))))))))
set_option maxHeartbeats 4000000 in
set_option maxRecDepth 100000 in
theorem wX5_go_J203 {p : Program} {l : Launch} {e : Env} {s : State} {m : MethodId} {args : Array Value} {below : List Frame} {meth : Method} {c : Code} {E : EN} (C : zC E mW p s m args meth c cX5_go 10 RX5 none wsL_law) {F : ST} {kb : Int32 → Int32 → ST → Option (ST)} (hkb : ∀ (x2 : Int32) (x3 : Int32) (σ : ST) (H : Heap) (locs : List Loc) (ls : Array Slot), lv_has ls 10 [(0, .ref (ea E 0)), (2, .int x2), (3, .int x3)] → va_P (eD E) vwCl (mW E σ) H → va_S (eA E) s.heap H locs → kb x2 x3 σ = some F → zWv E mW p l e r_X5_go s m args below meth c F H locs (F0 m 51 ls [])) (x2 : Int32) (x3 : Int32) (x4 : Int32) (x5 : Int32) (x7 : Int32) (x8 : Int32) (t0 : Int32) (σ : ST) (H : Heap) (locs : List Loc) (ls : Array Slot) (hl : lv_has ls 10 [(0, .ref (ea E 0)), (2, .int x2), (3, .int x3), (4, .int x4), (5, .int x5), (7, .int x7), (8, .int x8)]) (hP : va_P (eD E) vwCl (mW E σ) H) (hS : va_S (eA E) s.heap H locs) (hE : fX5_go_J203 kb x2 x3 x4 x5 x7 x8 t0 σ = some F) : zWv E mW p l e r_X5_go s m args below meth c F H locs (F0 m 203 ls [.int t0]) := by
  obtain ⟨hx, hb, hml, hown, hts, hr, hlk, hK, hD⟩ := id C
  have hwX5 : ∀ w ∈ wsX50, w.before args s = true := fun w h => hts w (inlX5 w h)
  unfold fX5_go_J203 at hE
  refine z_istore hx hb (fun x9_30 => [(9, .int x9_30), (0, .ref (ea E 0)), (2, .int x2), (3, .int x3), (4, .int x4), (5, .int x5), (7, .int x7), (8, .int x8)]) dX5_go_203 hl (by decide) rfl hE (fun x9_30 ls hl hE => ?_)
  refine lv_aload_n hx hb dX5_go_205 rfl (lv_at hl 1 rfl) ?_
  refine lv_dup hx hb dX5_go_206 rfl ?_
  refine mg_0_25 hx hb hown hwX5 (hts _ u_586) hK hP dX5_go_207 ?_
  refine lv_iconst (v := 1) hx hb dX5_go_210 (by decide) ?_
  refine lv_aload_n hx hb dX5_go_211 rfl (lv_at hl 1 rfl) ?_
  refine mg_0_20 hx hb hown hwX5 (hts _ u_110) hK hP dX5_go_212 ?_
  refine lv_iload_n hx hb dX5_go_215 rfl (lv_at hl 3 rfl) ?_
  refine ma_13 hx hb hK hP dX5_go_216 hE (fun v_31 hE => ?_)
  refine lv_ishl hx hb dX5_go_217 ?_
  refine lv_ior hx hb dX5_go_218 ?_
  refine mp_0_25 hx hb hown hwX5 (hts _ u_586) hK hD hP hS dX5_go_219 hE (fun σ_32 H locs hP hS hE => ?_)
  refine lv_aload_n hx hb dX5_go_222 rfl (lv_at hl 1 rfl) ?_
  refine lv_dup hx hb dX5_go_223 rfl ?_
  refine mg_0_26 hx hb hown hwX5 (hts _ u_587) hK hP dX5_go_224 ?_
  refine lv_iload hx hb dX5_go_227 (lv_at hl 0 rfl) ?_
  refine lv_iadd hx hb dX5_go_229 ?_
  refine mp_0_26 hx hb hown hwX5 (hts _ u_587) hK hD hP hS dX5_go_230 hE (fun σ_33 H locs hP hS hE => ?_)
  refine lv_aload_n hx hb dX5_go_233 rfl (lv_at hl 1 rfl) ?_
  refine lv_dup hx hb dX5_go_234 rfl ?_
  refine mg_0_28 hx hb hown hwX5 (hts _ u_610) hK hP dX5_go_235 ?_
  refine lv_aload_n hx hb dX5_go_238 rfl (lv_at hl 1 rfl) ?_
  refine mg_0_27 hx hb hown hwX5 (hts _ u_609) hK hP dX5_go_239 ?_
  refine lv_aload_n hx hb dX5_go_242 rfl (lv_at hl 1 rfl) ?_
  refine mg_0_1 hx hb hown hwX5 (hts _ u_97) hK hP dX5_go_243 ?_
  refine lv_iload hx hb dX5_go_246 (lv_at hl 4 rfl) ?_
  refine lv_iconst (v := 2) hx hb dX5_go_248 (by decide) ?_
  refine lv_iadd hx hb dX5_go_249 ?_
  refine ma_2 hx hb hK hP dX5_go_250 hE (fun v_34 hE => ?_)
  refine lv_iload hx hb dX5_go_251 (lv_at hl 0 rfl) ?_
  refine lv_isub hx hb dX5_go_253 ?_
  refine lv_i2l (v := (Int32.toInt64 (v_34 - x9_30))) hx hb dX5_go_254 rfl ?_
  refine lv_lmul hx hb dX5_go_255 ?_
  refine lv_ladd hx hb dX5_go_256 ?_
  refine mp_0_28 hx hb hown hwX5 (hts _ u_610) hK hD hP hS dX5_go_257 hE (fun σ_35 H locs hP hS hE => ?_)
  refine lv_aload_n hx hb dX5_go_260 rfl (lv_at hl 1 rfl) ?_
  refine lv_dup hx hb dX5_go_261 rfl ?_
  refine mg_0_24 hx hb hown hwX5 (hts _ u_585) hK hP dX5_go_262 ?_
  refine lv_iload hx hb dX5_go_265 (lv_at hl 6 rfl) ?_
  refine lv_iadd hx hb dX5_go_267 ?_
  refine mp_0_24 hx hb hown hwX5 (hts _ u_585) hK hD hP hS dX5_go_268 hE (fun σ_36 H locs hP hS hE => ?_)
  refine lv_iload hx hb dX5_go_271 (lv_at hl 7 rfl) ?_
  refine z_if_ne (tgt := 282) hx hb dX5_go_273 (by decide) hE (fun hE => ?_) (fun hE => ?_)
  · refine z_iinc hx hb (v := (x3 + 1)) (k := 3) (fun x3_37 => [(3, .int x3_37), (9, .int x9_30), (0, .ref (ea E 0)), (2, .int x2), (4, .int x4), (5, .int x5), (7, .int x7), (8, .int x8)]) dX5_go_282 hl rfl (by rfl) (by decide) rfl hE (fun x3_37 ls hl hE => ?_)
    refine lv_goto (tgt := 51) hx hb dX5_go_285 (by decide) ?_
    exact hkb x2 x3_37 σ_36 _ _ _ (lv_sub hl [2, 3, 0] rfl) hP hS hE
  refine lv_aload_n hx hb dX5_go_276 rfl (lv_at hl 1 rfl) ?_
  refine lv_iload hx hb dX5_go_277 (lv_at hl 5 rfl) ?_
  refine z_gov (wf := mW) hS hE (fun F1 h1 => (va_runV (As := [.int x5]) (rest := []) ⟨hx, hb, hml, hown, hts⟩ (kX5_start l E hD x5 σ_36 F1 h1) (cwV 1 hts (gU_V u_611 u_612 u_613 u_5 u_614) rfl rfl rfl q_X5_start ⟨Nat.le_of_ble_eq_true rfl, Nat.le_of_ble_eq_true rfl⟩) (z_preV hK hP hS (ci := 5) (q0 := 0) rfl rfl rfl) rfl rfl hl.1 rfl (lv_room (Nat.le_of_ble_eq_true rfl)) dX5_go_279 ⟨Nat.le_of_ble_eq_true rfl, Nat.le_of_ble_eq_true rfl⟩)) (fun σ_38 H locs hP hS hE => ?_)
  refine z_iinc hx hb (v := (x3 + 1)) (k := 3) (fun x3_39 => [(3, .int x3_39), (9, .int x9_30), (0, .ref (ea E 0)), (2, .int x2), (4, .int x4), (5, .int x5), (7, .int x7), (8, .int x8)]) dX5_go_282 hl rfl (by rfl) (by decide) rfl hE (fun x3_39 ls hl hE => ?_)
  refine lv_goto (tgt := 51) hx hb dX5_go_285 (by decide) ?_
  exact hkb x2 x3_39 σ_38 _ _ _ (lv_sub hl [2, 3, 0] rfl) hP hS hE
def fX5_go_J122 (kb : Int32 → Int32 → ST → Option (ST)) (x2 : Int32) (x3 : Int32) (x4 : Int32) (x5 : Int32) (t0 : Int32) (σ : ST) : Option (ST) :=
  bnd (t0 : Int32) (fun x6_17 => (if x6_17 = 0 then cali (fX5_goesIn x2 x5 σ) (fun r_20 σ_19 => bnd (sI σ_19 11 ((gI σ 11) + r_20)) (fun σ_21 => bnd (x5 : Int32) (fun x2_22 => ald (gA σ_21 1) 200 (x4 + 3) (fun v_23 => (if v_23 < (gI σ_21 11) then bnd (x3 + 1) (fun x3_24 => kb x2_22 x3_24 σ_21) else ald (gA σ_21 1) 200 (x4 + 1) (fun v_25 => bnd (v_25 : Int32) (fun x7_26 => cali (fX5_runsOn x5 x7_26 σ_21) (fun r_28 σ_27 => bnd (r_28 : Int32) (fun x8_29 => (if x8_29 = 0 then fX5_go_J203 kb x2_22 x3 x4 x5 x7_26 x8_29 0 σ_27 else ald (gA σ_27 1) 200 3 (fun v_40 => fX5_go_J203 kb x2_22 x3 x4 x5 x7_26 x8_29 (v_40 * x7_26) σ_27))))))))))) else bnd (x3 + 1) (fun x3_18 => kb x2 x3_18 σ)))
set_option maxHeartbeats 4000000 in
set_option maxRecDepth 100000 in
theorem wX5_go_J122 {p : Program} {l : Launch} {e : Env} {s : State} {m : MethodId} {args : Array Value} {below : List Frame} {meth : Method} {c : Code} {E : EN} (C : zC E mW p s m args meth c cX5_go 10 RX5 none wsL_law) {F : ST} {kb : Int32 → Int32 → ST → Option (ST)} (hkb : ∀ (x2 : Int32) (x3 : Int32) (σ : ST) (H : Heap) (locs : List Loc) (ls : Array Slot), lv_has ls 10 [(0, .ref (ea E 0)), (2, .int x2), (3, .int x3)] → va_P (eD E) vwCl (mW E σ) H → va_S (eA E) s.heap H locs → kb x2 x3 σ = some F → zWv E mW p l e r_X5_go s m args below meth c F H locs (F0 m 51 ls [])) (x2 : Int32) (x3 : Int32) (x4 : Int32) (x5 : Int32) (t0 : Int32) (σ : ST) (H : Heap) (locs : List Loc) (ls : Array Slot) (hl : lv_has ls 10 [(0, .ref (ea E 0)), (2, .int x2), (3, .int x3), (4, .int x4), (5, .int x5)]) (hP : va_P (eD E) vwCl (mW E σ) H) (hS : va_S (eA E) s.heap H locs) (hE : fX5_go_J122 kb x2 x3 x4 x5 t0 σ = some F) : zWv E mW p l e r_X5_go s m args below meth c F H locs (F0 m 122 ls [.int t0]) := by
  obtain ⟨hx, hb, hml, hown, hts, hr, hlk, hK, hD⟩ := id C
  have hwX5 : ∀ w ∈ wsX50, w.before args s = true := fun w h => hts w (inlX5 w h)
  unfold fX5_go_J122 at hE
  refine z_istore hx hb (fun x6_17 => [(6, .int x6_17), (0, .ref (ea E 0)), (2, .int x2), (3, .int x3), (4, .int x4), (5, .int x5)]) dX5_go_122 hl (by decide) rfl hE (fun x6_17 ls hl hE => ?_)
  refine lv_iload hx hb dX5_go_124 (lv_at hl 0 rfl) ?_
  refine z_if_ne (tgt := 282) hx hb dX5_go_126 (by decide) hE (fun hE => ?_) (fun hE => ?_)
  · refine z_iinc hx hb (v := (x3 + 1)) (k := 3) (fun x3_18 => [(3, .int x3_18), (6, .int x6_17), (0, .ref (ea E 0)), (2, .int x2), (4, .int x4), (5, .int x5)]) dX5_go_282 hl rfl (by rfl) (by decide) rfl hE (fun x3_18 ls hl hE => ?_)
    refine lv_goto (tgt := 51) hx hb dX5_go_285 (by decide) ?_
    exact hkb x2 x3_18 σ _ _ _ (lv_sub hl [2, 3, 0] rfl) hP hS hE
  refine lv_aload_n hx hb dX5_go_129 rfl (lv_at hl 1 rfl) ?_
  refine lv_dup hx hb dX5_go_130 rfl ?_
  refine mg_0_24 hx hb hown hwX5 (hts _ u_585) hK hP dX5_go_131 ?_
  refine lv_aload_n hx hb dX5_go_134 rfl (lv_at hl 1 rfl) ?_
  refine lv_iload_n hx hb dX5_go_135 rfl (lv_at hl 2 rfl) ?_
  refine lv_iload hx hb dX5_go_136 (lv_at hl 5 rfl) ?_
  refine z_goi (wf := mW) hS hE (fun F1 h1 => (va_runV (As := [.int x2, .int x5]) (rest := [.int (gI σ 11), .ref (ea E 0)]) ⟨hx, hb, hml, hown, hts⟩ (kX5_goesIn l E hD x2 x5 σ F1 h1) (cwV 2 hts (gU_V u_630 u_631 u_632 u_5 u_633) rfl rfl rfl q_X5_goesIn ⟨Nat.le_of_ble_eq_true rfl, Nat.le_of_ble_eq_true rfl⟩) (z_preV hK hP hS (ci := 5) (q0 := 0) rfl rfl rfl) rfl rfl hl.1 rfl (lv_room (Nat.le_of_ble_eq_true rfl)) dX5_go_138 ⟨Nat.le_of_ble_eq_true rfl, Nat.le_of_ble_eq_true rfl⟩)) (fun r_20 σ_19 H locs hP hS hE => ?_)
  refine lv_iadd hx hb dX5_go_141 ?_
  refine mp_0_24 hx hb hown hwX5 (hts _ u_585) hK hD hP hS dX5_go_142 hE (fun σ_21 H locs hP hS hE => ?_)
  refine lv_iload hx hb dX5_go_145 (lv_at hl 5 rfl) ?_
  refine z_istore_n hx hb (fun x2_22 => [(2, .int x2_22), (6, .int x6_17), (0, .ref (ea E 0)), (3, .int x3), (4, .int x4), (5, .int x5)]) dX5_go_147 rfl hl (by decide) rfl hE (fun x2_22 ls hl hE => ?_)
  refine lv_aload_n hx hb dX5_go_148 rfl (lv_at hl 2 rfl) ?_
  refine mg_0_24 hx hb hown hwX5 (hts _ u_585) hK hP dX5_go_149 ?_
  refine lv_aload_n hx hb dX5_go_152 rfl (lv_at hl 2 rfl) ?_
  refine mg_0_1 hx hb hown hwX5 (hts _ u_97) hK hP dX5_go_153 ?_
  refine lv_iload hx hb dX5_go_156 (lv_at hl 4 rfl) ?_
  refine lv_iconst (v := 3) hx hb dX5_go_158 (by decide) ?_
  refine lv_iadd hx hb dX5_go_159 ?_
  refine ma_2 hx hb hK hP dX5_go_160 hE (fun v_23 hE => ?_)
  refine z_icmp_gt (tgt := 282) hx hb dX5_go_161 (by decide) hE (fun hE => ?_) (fun hE => ?_)
  · refine z_iinc hx hb (v := (x3 + 1)) (k := 3) (fun x3_24 => [(3, .int x3_24), (2, .int x2_22), (6, .int x6_17), (0, .ref (ea E 0)), (4, .int x4), (5, .int x5)]) dX5_go_282 hl rfl (by rfl) (by decide) rfl hE (fun x3_24 ls hl hE => ?_)
    refine lv_goto (tgt := 51) hx hb dX5_go_285 (by decide) ?_
    exact hkb x2_22 x3_24 σ_21 _ _ _ (lv_sub hl [3, 1, 0] rfl) hP hS hE
  refine lv_aload_n hx hb dX5_go_164 rfl (lv_at hl 2 rfl) ?_
  refine mg_0_1 hx hb hown hwX5 (hts _ u_97) hK hP dX5_go_165 ?_
  refine lv_iload hx hb dX5_go_168 (lv_at hl 4 rfl) ?_
  refine lv_iconst (v := 1) hx hb dX5_go_170 (by decide) ?_
  refine lv_iadd hx hb dX5_go_171 ?_
  refine ma_2 hx hb hK hP dX5_go_172 hE (fun v_25 hE => ?_)
  refine z_istore hx hb (fun x7_26 => [(7, .int x7_26), (2, .int x2_22), (6, .int x6_17), (0, .ref (ea E 0)), (3, .int x3), (4, .int x4), (5, .int x5)]) dX5_go_173 hl (by decide) rfl hE (fun x7_26 ls hl hE => ?_)
  refine lv_aload_n hx hb dX5_go_175 rfl (lv_at hl 3 rfl) ?_
  refine lv_iload hx hb dX5_go_176 (lv_at hl 6 rfl) ?_
  refine lv_iload hx hb dX5_go_178 (lv_at hl 0 rfl) ?_
  refine z_goi (wf := mW) hS hE (fun F1 h1 => (va_runV (As := [.int x5, .int x7_26]) (rest := []) ⟨hx, hb, hml, hown, hts⟩ (kX5_runsOn l E hD x5 x7_26 σ_21 F1 h1) (cwV 2 hts (gU_V u_634 u_635 u_636 u_5 u_637) rfl rfl rfl q_X5_runsOn ⟨Nat.le_of_ble_eq_true rfl, Nat.le_of_ble_eq_true rfl⟩) (z_preV hK hP hS (ci := 5) (q0 := 0) rfl rfl rfl) rfl rfl hl.1 rfl (lv_room (Nat.le_of_ble_eq_true rfl)) dX5_go_180 ⟨Nat.le_of_ble_eq_true rfl, Nat.le_of_ble_eq_true rfl⟩)) (fun r_28 σ_27 H locs hP hS hE => ?_)
  refine z_istore hx hb (fun x8_29 => [(8, .int x8_29), (7, .int x7_26), (2, .int x2_22), (6, .int x6_17), (0, .ref (ea E 0)), (3, .int x3), (4, .int x4), (5, .int x5)]) dX5_go_183 hl (by decide) rfl hE (fun x8_29 ls hl hE => ?_)
  refine lv_iload hx hb dX5_go_185 (lv_at hl 0 rfl) ?_
  refine z_if_eq (tgt := 202) hx hb dX5_go_187 (by decide) hE (fun hE => ?_) (fun hE => ?_)
  · refine lv_iconst (v := 0) hx hb dX5_go_202 (by decide) ?_
    exact wX5_go_J203 C hkb x2_22 x3 x4 x5 x7_26 x8_29 0 σ_27 _ _ _ (lv_sub hl [4, 2, 5, 6, 7, 1, 0] rfl) hP hS hE
  refine lv_aload_n hx hb dX5_go_190 rfl (lv_at hl 4 rfl) ?_
  refine mg_0_1 hx hb hown hwX5 (hts _ u_97) hK hP dX5_go_191 ?_
  refine lv_iconst (v := 3) hx hb dX5_go_194 (by decide) ?_
  refine ma_2 hx hb hK hP dX5_go_195 hE (fun v_40 hE => ?_)
  refine lv_iload hx hb dX5_go_196 (lv_at hl 1 rfl) ?_
  refine lv_imul hx hb dX5_go_198 ?_
  refine lv_goto (tgt := 203) hx hb dX5_go_199 (by decide) ?_
  exact wX5_go_J203 C hkb x2_22 x3 x4 x5 x7_26 x8_29 (v_40 * x7_26) σ_27 _ _ _ (lv_sub hl [4, 2, 5, 6, 7, 1, 0] rfl) hP hS hE
def fX5_go_J117 (kb : Int32 → Int32 → ST → Option (ST)) (x2 : Int32) (x3 : Int32) (x4 : Int32) (x5 : Int32) (σ : ST) : Option (ST) :=
  fX5_go_J122 kb x2 x3 x4 x5 1 σ
set_option maxHeartbeats 4000000 in
set_option maxRecDepth 100000 in
theorem wX5_go_J117 {p : Program} {l : Launch} {e : Env} {s : State} {m : MethodId} {args : Array Value} {below : List Frame} {meth : Method} {c : Code} {E : EN} (C : zC E mW p s m args meth c cX5_go 10 RX5 none wsL_law) {F : ST} {kb : Int32 → Int32 → ST → Option (ST)} (hkb : ∀ (x2 : Int32) (x3 : Int32) (σ : ST) (H : Heap) (locs : List Loc) (ls : Array Slot), lv_has ls 10 [(0, .ref (ea E 0)), (2, .int x2), (3, .int x3)] → va_P (eD E) vwCl (mW E σ) H → va_S (eA E) s.heap H locs → kb x2 x3 σ = some F → zWv E mW p l e r_X5_go s m args below meth c F H locs (F0 m 51 ls [])) (x2 : Int32) (x3 : Int32) (x4 : Int32) (x5 : Int32) (σ : ST) (H : Heap) (locs : List Loc) (ls : Array Slot) (hl : lv_has ls 10 [(0, .ref (ea E 0)), (2, .int x2), (3, .int x3), (4, .int x4), (5, .int x5)]) (hP : va_P (eD E) vwCl (mW E σ) H) (hS : va_S (eA E) s.heap H locs) (hE : fX5_go_J117 kb x2 x3 x4 x5 σ = some F) : zWv E mW p l e r_X5_go s m args below meth c F H locs (F0 m 117 ls []) := by
  obtain ⟨hx, hb, hml, hown, hts, hr, hlk, hK, hD⟩ := id C
  unfold fX5_go_J117 at hE
  refine lv_iconst (v := 1) hx hb dX5_go_117 (by decide) ?_
  refine lv_goto (tgt := 122) hx hb dX5_go_118 (by decide) ?_
  exact wX5_go_J122 C hkb x2 x3 x4 x5 1 σ _ _ _ (lv_sub hl [0, 1, 2, 3, 4] rfl) hP hS hE
def fX5_go_J100 (kb : Int32 → Int32 → ST → Option (ST)) (x2 : Int32) (x3 : Int32) (x4 : Int32) (x5 : Int32) (σ : ST) : Option (ST) :=
  ald (gA σ 8) 64 ((8 * x2) + x5) (fun v_16 => (if v_16 = 100000 then fX5_go_J117 kb x2 x3 x4 x5 σ else fX5_go_J122 kb x2 x3 x4 x5 0 σ))
set_option maxHeartbeats 4000000 in
set_option maxRecDepth 100000 in
theorem wX5_go_J100 {p : Program} {l : Launch} {e : Env} {s : State} {m : MethodId} {args : Array Value} {below : List Frame} {meth : Method} {c : Code} {E : EN} (C : zC E mW p s m args meth c cX5_go 10 RX5 none wsL_law) {F : ST} {kb : Int32 → Int32 → ST → Option (ST)} (hkb : ∀ (x2 : Int32) (x3 : Int32) (σ : ST) (H : Heap) (locs : List Loc) (ls : Array Slot), lv_has ls 10 [(0, .ref (ea E 0)), (2, .int x2), (3, .int x3)] → va_P (eD E) vwCl (mW E σ) H → va_S (eA E) s.heap H locs → kb x2 x3 σ = some F → zWv E mW p l e r_X5_go s m args below meth c F H locs (F0 m 51 ls [])) (x2 : Int32) (x3 : Int32) (x4 : Int32) (x5 : Int32) (σ : ST) (H : Heap) (locs : List Loc) (ls : Array Slot) (hl : lv_has ls 10 [(0, .ref (ea E 0)), (2, .int x2), (3, .int x3), (4, .int x4), (5, .int x5)]) (hP : va_P (eD E) vwCl (mW E σ) H) (hS : va_S (eA E) s.heap H locs) (hE : fX5_go_J100 kb x2 x3 x4 x5 σ = some F) : zWv E mW p l e r_X5_go s m args below meth c F H locs (F0 m 100 ls []) := by
  obtain ⟨hx, hb, hml, hown, hts, hr, hlk, hK, hD⟩ := id C
  have hwX5 : ∀ w ∈ wsX50, w.before args s = true := fun w h => hts w (inlX5 w h)
  unfold fX5_go_J100 at hE
  refine lv_aload_n hx hb dX5_go_100 rfl (lv_at hl 0 rfl) ?_
  refine mg_0_16 hx hb hown hwX5 (hts _ u_106) hK hP dX5_go_101 ?_
  refine lv_bipush (v := 8) hx hb dX5_go_104 (by decide) ?_
  refine lv_iload_n hx hb dX5_go_106 rfl (lv_at hl 1 rfl) ?_
  refine lv_imul hx hb dX5_go_107 ?_
  refine lv_iload hx hb dX5_go_108 (lv_at hl 4 rfl) ?_
  refine lv_iadd hx hb dX5_go_110 ?_
  refine ma_9 hx hb hK hP dX5_go_111 hE (fun v_16 hE => ?_)
  refine lv_ldc (v := 100000) hx hb hown (hts _ u_497) dX5_go_112 ?_
  refine z_icmp_ne (tgt := 121) hx hb dX5_go_114 (by decide) hE (fun hE => ?_) (fun hE => ?_)
  · refine lv_iconst (v := 0) hx hb dX5_go_121 (by decide) ?_
    exact wX5_go_J122 C hkb x2 x3 x4 x5 0 σ _ _ _ (lv_sub hl [0, 1, 2, 3, 4] rfl) hP hS hE
  exact wX5_go_J117 C hkb x2 x3 x4 x5 σ _ _ _ (lv_sub hl [0, 1, 2, 3, 4] rfl) hP hS hE
def fX5_go_L51 (ke : Int32 → ST → Option (ST)) : Nat → Int32 → Int32 → ST → Option (ST)
  | 0, _, _, _ => none
  | n + 1, x2, x3, σ => (if (gI σ 8) ≤ x3 then ke x2 σ else ald (gA σ 12) 10 x3 (fun v_12 => bnd ((40 + (4 * v_12)) : Int32) (fun x4_13 => ald (gA σ 1) 200 x4_13 (fun v_14 => bnd (v_14 : Int32) (fun x5_15 => (if (gI σ 9) ≤ 3 then fX5_go_J100 (fX5_go_L51 ke n) x2 x3 x4_13 x5_15 σ else cali (fX5_starts x5_15 σ) (fun r_42 σ_41 => (if r_42 < 10 then fX5_go_J117 (fX5_go_L51 ke n) x2 x3 x4_13 x5_15 σ_41 else fX5_go_J100 (fX5_go_L51 ke n) x2 x3 x4_13 x5_15 σ_41))))))))
set_option maxHeartbeats 4000000 in
set_option maxRecDepth 100000 in
theorem wX5_go_L51 {p : Program} {l : Launch} {e : Env} {s : State} {m : MethodId} {args : Array Value} {below : List Frame} {meth : Method} {c : Code} {E : EN} (C : zC E mW p s m args meth c cX5_go 10 RX5 none wsL_law) {F : ST} {ke : Int32 → ST → Option (ST)} (hke : ∀ (x2 : Int32) (σ : ST) (H : Heap) (locs : List Loc) (ls : Array Slot), lv_has ls 10 [(0, .ref (ea E 0)), (2, .int x2)] → va_P (eD E) vwCl (mW E σ) H → va_S (eA E) s.heap H locs → ke x2 σ = some F → zWv E mW p l e r_X5_go s m args below meth c F H locs (F0 m 288 ls [])) : ∀ (n : Nat) (x2 : Int32) (x3 : Int32) (σ : ST) (H : Heap) (locs : List Loc) (ls : Array Slot), lv_has ls 10 [(0, .ref (ea E 0)), (2, .int x2), (3, .int x3)] → va_P (eD E) vwCl (mW E σ) H → va_S (eA E) s.heap H locs → fX5_go_L51 ke n x2 x3 σ = some F → zWv E mW p l e r_X5_go s m args below meth c F H locs (F0 m 51 ls []) := by
  obtain ⟨hx, hb, hml, hown, hts, hr, hlk, hK, hD⟩ := id C
  have hwX5 : ∀ w ∈ wsX50, w.before args s = true := fun w h => hts w (inlX5 w h)
  intro n
  induction n with
  | zero => intro x2 x3 σ H locs ls hl hP hS hE; rw [fX5_go_L51] at hE; cases hE
  | succ n ih =>
    intro x2 x3 σ H locs ls hl hP hS hE
    rw [fX5_go_L51] at hE
    refine lv_iload_n hx hb dX5_go_51 rfl (lv_at hl 2 rfl) ?_
    refine lv_aload_n hx hb dX5_go_52 rfl (lv_at hl 0 rfl) ?_
    refine mg_0_21 hx hb hown hwX5 (hts _ u_600) hK hP dX5_go_53 ?_
    refine z_icmp_ge (tgt := 288) hx hb dX5_go_56 (by decide) hE (fun hE => ?_) (fun hE => ?_)
    · exact hke x2 σ _ _ _ (lv_sub hl [0, 1] rfl) hP hS hE
    refine lv_bipush (v := 40) hx hb dX5_go_59 (by decide) ?_
    refine lv_iconst (v := 4) hx hb dX5_go_61 (by decide) ?_
    refine lv_aload_n hx hb dX5_go_62 rfl (lv_at hl 0 rfl) ?_
    refine mg_0_20 hx hb hown hwX5 (hts _ u_110) hK hP dX5_go_63 ?_
    refine lv_iload_n hx hb dX5_go_66 rfl (lv_at hl 2 rfl) ?_
    refine ma_13 hx hb hK hP dX5_go_67 hE (fun v_12 hE => ?_)
    refine lv_imul hx hb dX5_go_68 ?_
    refine lv_iadd hx hb dX5_go_69 ?_
    refine z_istore hx hb (fun x4_13 => [(4, .int x4_13), (0, .ref (ea E 0)), (2, .int x2), (3, .int x3)]) dX5_go_70 hl (by decide) rfl hE (fun x4_13 ls hl hE => ?_)
    refine lv_aload_n hx hb dX5_go_72 rfl (lv_at hl 1 rfl) ?_
    refine mg_0_1 hx hb hown hwX5 (hts _ u_97) hK hP dX5_go_73 ?_
    refine lv_iload hx hb dX5_go_76 (lv_at hl 0 rfl) ?_
    refine ma_2 hx hb hK hP dX5_go_78 hE (fun v_14 hE => ?_)
    refine z_istore hx hb (fun x5_15 => [(5, .int x5_15), (4, .int x4_13), (0, .ref (ea E 0)), (2, .int x2), (3, .int x3)]) dX5_go_79 hl (by decide) rfl hE (fun x5_15 ls hl hE => ?_)
    refine lv_aload_n hx hb dX5_go_81 rfl (lv_at hl 2 rfl) ?_
    refine mg_0_22 hx hb hown hwX5 (hts _ u_606) hK hP dX5_go_82 ?_
    refine lv_iconst (v := 3) hx hb dX5_go_85 (by decide) ?_
    refine z_icmp_le (tgt := 100) hx hb dX5_go_86 (by decide) hE (fun hE => ?_) (fun hE => ?_)
    · exact wX5_go_J100 C ih x2 x3 x4_13 x5_15 σ _ _ _ (lv_sub hl [2, 3, 4, 1, 0] rfl) hP hS hE
    refine lv_aload_n hx hb dX5_go_89 rfl (lv_at hl 2 rfl) ?_
    refine lv_iload hx hb dX5_go_90 (lv_at hl 0 rfl) ?_
    refine z_goi (wf := mW) hS hE (fun F1 h1 => (va_runV (As := [.int x5_15]) (rest := []) ⟨hx, hb, hml, hown, hts⟩ (kX5_starts l E hD x5_15 σ F1 h1) (cwV 1 hts (gU_V u_414 u_415 u_416 u_5 u_417) rfl rfl rfl q_X5_starts ⟨Nat.le_of_ble_eq_true rfl, Nat.le_of_ble_eq_true rfl⟩) (z_preV hK hP hS (ci := 5) (q0 := 0) rfl rfl rfl) rfl rfl hl.1 rfl (lv_room (Nat.le_of_ble_eq_true rfl)) dX5_go_92 ⟨Nat.le_of_ble_eq_true rfl, Nat.le_of_ble_eq_true rfl⟩)) (fun r_42 σ_41 H locs hP hS hE => ?_)
    refine lv_bipush (v := 10) hx hb dX5_go_95 (by decide) ?_
    refine z_icmp_lt (tgt := 117) hx hb dX5_go_97 (by decide) hE (fun hE => ?_) (fun hE => ?_)
    · exact wX5_go_J117 C ih x2 x3 x4_13 x5_15 σ_41 _ _ _ (lv_sub hl [2, 3, 4, 1, 0] rfl) hP hS hE
    exact wX5_go_J100 C ih x2 x3 x4_13 x5_15 σ_41 _ _ _ (lv_sub hl [2, 3, 4, 1, 0] rfl) hP hS hE
def fX5_go  (x1 : Int32) (σ : ST) : Option (ST) :=
  bnd (sI σ 9 x1) (fun σ_1 => ald (gA σ_1 1) 200 4 (fun v_2 => bnd (sI σ_1 10 v_2) (fun σ_3 => bnd (sI σ_3 11 0) (fun σ_4 => bnd (sI σ_4 12 0) (fun σ_5 => bnd (sI σ_5 13 0) (fun σ_6 => bnd (sL σ_6 0 1000000000000) (fun σ_7 => bnd (sL σ_7 1 0) (fun σ_8 => calv (fX5_start 0 σ_8) (fun σ_9 => bnd (0 : Int32) (fun x2_10 => bnd (0 : Int32) (fun x3_11 => fX5_go_L51 (fun x2_43 σ_44 => cali (fX5_goesIn x2_43 0 σ_44) (fun r_46 σ_45 => bnd (sI σ_45 11 ((gI σ_44 11) + r_46)) (fun σ_47 => some σ_47))) FU x2_10 x3_11 σ_9)))))))))))
set_option maxHeartbeats 4000000 in
set_option maxRecDepth 100000 in
theorem wX5_go {p : Program} {l : Launch} {e : Env} {s : State} {m : MethodId} {args : Array Value} {below : List Frame} {meth : Method} {c : Code} {E : EN} (C : zC E mW p s m args meth c cX5_go 10 RX5 none wsL_law) {F : ST}   (x1 : Int32) (σ : ST) (H : Heap) (locs : List Loc) (ls : Array Slot) (hl : lv_has ls 10 [(0, .ref (ea E 0)), (1, .int x1)]) (hP : va_P (eD E) vwCl (mW E σ) H) (hS : va_S (eA E) s.heap H locs) (hE : fX5_go  x1 σ = some F) : zWv E mW p l e r_X5_go s m args below meth c F H locs (F0 m 0 ls []) := by
  obtain ⟨hx, hb, hml, hown, hts, hr, hlk, hK, hD⟩ := id C
  have hwX5 : ∀ w ∈ wsX50, w.before args s = true := fun w h => hts w (inlX5 w h)
  unfold fX5_go at hE
  refine lv_aload_n hx hb dX5_go_0 rfl (lv_at hl 0 rfl) ?_
  refine lv_iload_n hx hb dX5_go_1 rfl (lv_at hl 1 rfl) ?_
  refine mp_0_22 hx hb hown hwX5 (hts _ u_606) hK hD hP hS dX5_go_2 hE (fun σ_1 H locs hP hS hE => ?_)
  refine lv_aload_n hx hb dX5_go_5 rfl (lv_at hl 0 rfl) ?_
  refine lv_aload_n hx hb dX5_go_6 rfl (lv_at hl 0 rfl) ?_
  refine mg_0_1 hx hb hown hwX5 (hts _ u_97) hK hP dX5_go_7 ?_
  refine lv_iconst (v := 4) hx hb dX5_go_10 (by decide) ?_
  refine ma_2 hx hb hK hP dX5_go_11 hE (fun v_2 hE => ?_)
  refine mp_0_23 hx hb hown hwX5 (hts _ u_607) hK hD hP hS dX5_go_12 hE (fun σ_3 H locs hP hS hE => ?_)
  refine lv_aload_n hx hb dX5_go_15 rfl (lv_at hl 0 rfl) ?_
  refine lv_iconst (v := 0) hx hb dX5_go_16 (by decide) ?_
  refine mp_0_24 hx hb hown hwX5 (hts _ u_585) hK hD hP hS dX5_go_17 hE (fun σ_4 H locs hP hS hE => ?_)
  refine lv_aload_n hx hb dX5_go_20 rfl (lv_at hl 0 rfl) ?_
  refine lv_iconst (v := 0) hx hb dX5_go_21 (by decide) ?_
  refine mp_0_25 hx hb hown hwX5 (hts _ u_586) hK hD hP hS dX5_go_22 hE (fun σ_5 H locs hP hS hE => ?_)
  refine lv_aload_n hx hb dX5_go_25 rfl (lv_at hl 0 rfl) ?_
  refine lv_iconst (v := 0) hx hb dX5_go_26 (by decide) ?_
  refine mp_0_26 hx hb hown hwX5 (hts _ u_587) hK hD hP hS dX5_go_27 hE (fun σ_6 H locs hP hS hE => ?_)
  refine lv_aload_n hx hb dX5_go_30 rfl (lv_at hl 0 rfl) ?_
  refine lv_ldc2 (v := 1000000000000) hx hb hown (hts _ u_608) dX5_go_31 ?_
  refine mp_0_27 hx hb hown hwX5 (hts _ u_609) hK hD hP hS dX5_go_34 hE (fun σ_7 H locs hP hS hE => ?_)
  refine lv_aload_n hx hb dX5_go_37 rfl (lv_at hl 0 rfl) ?_
  refine lv_lconst (v := 0) hx hb dX5_go_38 (by decide) ?_
  refine mp_0_28 hx hb hown hwX5 (hts _ u_610) hK hD hP hS dX5_go_39 hE (fun σ_8 H locs hP hS hE => ?_)
  refine lv_aload_n hx hb dX5_go_42 rfl (lv_at hl 0 rfl) ?_
  refine lv_iconst (v := 0) hx hb dX5_go_43 (by decide) ?_
  refine z_gov (wf := mW) hS hE (fun F1 h1 => (va_runV (As := [.int 0]) (rest := []) ⟨hx, hb, hml, hown, hts⟩ (kX5_start l E hD 0 σ_8 F1 h1) (cwV 1 hts (gU_V u_611 u_612 u_613 u_5 u_614) rfl rfl rfl q_X5_start ⟨Nat.le_of_ble_eq_true rfl, Nat.le_of_ble_eq_true rfl⟩) (z_preV hK hP hS (ci := 5) (q0 := 0) rfl rfl rfl) rfl rfl hl.1 rfl (lv_room (Nat.le_of_ble_eq_true rfl)) dX5_go_44 ⟨Nat.le_of_ble_eq_true rfl, Nat.le_of_ble_eq_true rfl⟩)) (fun σ_9 H locs hP hS hE => ?_)
  refine lv_iconst (v := 0) hx hb dX5_go_47 (by decide) ?_
  refine z_istore_n hx hb (fun x2_10 => [(2, .int x2_10), (0, .ref (ea E 0)), (1, .int x1)]) dX5_go_48 rfl hl (by decide) rfl hE (fun x2_10 ls hl hE => ?_)
  refine lv_iconst (v := 0) hx hb dX5_go_49 (by decide) ?_
  refine z_istore_n hx hb (fun x3_11 => [(3, .int x3_11), (2, .int x2_10), (0, .ref (ea E 0)), (1, .int x1)]) dX5_go_50 rfl hl (by decide) rfl hE (fun x3_11 ls hl hE => ?_)
  refine wX5_go_L51 C ?_ FU x2_10 x3_11 σ_9 _ _ _ (lv_sub hl [2, 1, 0] rfl) hP hS hE
  intro x2_43 σ_44 H locs ls hl hP hS hE
  refine lv_aload_n hx hb dX5_go_288 rfl (lv_at hl 0 rfl) ?_
  refine lv_dup hx hb dX5_go_289 rfl ?_
  refine mg_0_24 hx hb hown hwX5 (hts _ u_585) hK hP dX5_go_290 ?_
  refine lv_aload_n hx hb dX5_go_293 rfl (lv_at hl 0 rfl) ?_
  refine lv_iload_n hx hb dX5_go_294 rfl (lv_at hl 1 rfl) ?_
  refine lv_iconst (v := 0) hx hb dX5_go_295 (by decide) ?_
  refine z_goi (wf := mW) hS hE (fun F1 h1 => (va_runV (As := [.int x2_43, .int 0]) (rest := [.int (gI σ_44 11), .ref (ea E 0)]) ⟨hx, hb, hml, hown, hts⟩ (kX5_goesIn l E hD x2_43 0 σ_44 F1 h1) (cwV 2 hts (gU_V u_630 u_631 u_632 u_5 u_633) rfl rfl rfl q_X5_goesIn ⟨Nat.le_of_ble_eq_true rfl, Nat.le_of_ble_eq_true rfl⟩) (z_preV hK hP hS (ci := 5) (q0 := 0) rfl rfl rfl) rfl rfl hl.1 rfl (lv_room (Nat.le_of_ble_eq_true rfl)) dX5_go_296 ⟨Nat.le_of_ble_eq_true rfl, Nat.le_of_ble_eq_true rfl⟩)) (fun r_46 σ_45 H locs hP hS hE => ?_)
  refine lv_iadd hx hb dX5_go_299 ?_
  refine mp_0_24 hx hb hown hwX5 (hts _ u_585) hK hD hP hS dX5_go_300 hE (fun σ_47 H locs hP hS hE => ?_)
  exact z_vret hx hb hr hlk hP hS dX5_go_303 hE
theorem kX5_go (l : Launch) (E : EN) (hD : ∀ σ, va_D (eA E) (mW E σ)) (x1 : Int32) (σ : ST) (F : ST) (hE : fX5_go x1 σ = some F) : Met l yX5_go wu_X5_go r_X5_go (zPc E mW [.ref (ea E 0), .int x1] σ) (zQv E mW F) 0 0 (eA E) := by
  refine Met.ofW (cc := cX5_go) (maxL := 10) (ret := none) (by decide) rfl ?_
  intro p e s m args below meth c s₁ B hml hv
  obtain ⟨rfl, hP, hK⟩ := hv
  have hl := lv_entry ([.ref (ea E 0), .int x1]) (n := 10) (Nat.le_of_ble_eq_true rfl)
  rw [lg_entry_eq]
  generalize (lg_sl ([.ref (ea E 0), .int x1]) ++ List.replicate (10 - (lg_sl ([.ref (ea E 0), .int x1])).length) Slot.unset).toArray = ls at hl ⊢
  exact wX5_go ⟨B.exec, B.bytes, hml, findClass_of_methodNamed B.named, fun w h => atoms_spec (ws := wu_X5_go) B.pre w (List.mem_cons_of_mem _ h), B.returns, B.notSynchronized, hK, hD⟩ x1 σ s.heap [] ls hl hP va_S.rf hE
