def fX5_count_L26 (ke : Int32 → ST → Option (Int32 × ST)) : Nat → Int32 → Int32 → ST → Option (Int32 × ST)
  | 0, _, _, _ => none
  | n + 1, x2, x3, σ => ald (gA σ 1) 200 2 (fun v_4 => (if v_4 ≤ x3 then ke x2 σ else ald (gA σ 1) 200 ((40 + (4 * x3)) + 2) (fun v_5 => bnd ((x2 + v_5) : Int32) (fun x2_6 => bnd (x3 + 1) (fun x3_7 => fX5_count_L26 ke n x2_6 x3_7 σ)))))
set_option maxHeartbeats 4000000 in
set_option maxRecDepth 100000 in
theorem wX5_count_L26 {p : Program} {l : Launch} {e : Env} {s : State} {m : MethodId} {args : Array Value} {below : List Frame} {meth : Method} {c : Code} {E : EN} (C : zC E mW p s m args meth c cX5_count 4 RX5 (some .int) wsL_law) {F : Int32 × ST} {ke : Int32 → ST → Option (Int32 × ST)} (hke : ∀ (x2 : Int32) (σ : ST) (H : Heap) (locs : List Loc) (ls : Array Slot), lv_has ls 4 [(2, .int x2)] → va_P (eD E) vwCl (mW E σ) H → va_S (eA E) s.heap H locs → ke x2 σ = some F → zWi E mW p l e r_X5_count s m args below meth c F H locs (F0 m 58 ls [])) : ∀ (n : Nat) (x2 : Int32) (x3 : Int32) (σ : ST) (H : Heap) (locs : List Loc) (ls : Array Slot), lv_has ls 4 [(0, .ref (ea E 0)), (2, .int x2), (3, .int x3)] → va_P (eD E) vwCl (mW E σ) H → va_S (eA E) s.heap H locs → fX5_count_L26 ke n x2 x3 σ = some F → zWi E mW p l e r_X5_count s m args below meth c F H locs (F0 m 26 ls []) := by
  obtain ⟨hx, hb, hml, hown, hts, hr, hlk, hK, hD⟩ := id C
  have hwX5 : ∀ w ∈ wsX50, w.before args s = true := fun w h => hts w (inlX5 w h)
  intro n
  induction n with
  | zero => intro x2 x3 σ H locs ls hl hP hS hE; rw [fX5_count_L26] at hE; cases hE
  | succ n ih =>
    intro x2 x3 σ H locs ls hl hP hS hE
    rw [fX5_count_L26] at hE
    refine lv_iload_n hx hb dX5_count_26 rfl (lv_at hl 2 rfl) ?_
    refine lv_aload_n hx hb dX5_count_27 rfl (lv_at hl 0 rfl) ?_
    refine mg_0_1 hx hb hown hwX5 (hts _ u_97) hK hP dX5_count_28 ?_
    refine lv_iconst (v := 2) hx hb dX5_count_31 (by decide) ?_
    refine ma_2 hx hb hK hP dX5_count_32 hE (fun v_4 hE => ?_)
    refine z_icmp_ge (tgt := 58) hx hb dX5_count_33 (by decide) hE (fun hE => ?_) (fun hE => ?_)
    · exact hke x2 σ _ _ _ (lv_sub hl [1] rfl) hP hS hE
    refine lv_iload_n hx hb dX5_count_36 rfl (lv_at hl 1 rfl) ?_
    refine lv_aload_n hx hb dX5_count_37 rfl (lv_at hl 0 rfl) ?_
    refine mg_0_1 hx hb hown hwX5 (hts _ u_97) hK hP dX5_count_38 ?_
    refine lv_bipush (v := 40) hx hb dX5_count_41 (by decide) ?_
    refine lv_iconst (v := 4) hx hb dX5_count_43 (by decide) ?_
    refine lv_iload_n hx hb dX5_count_44 rfl (lv_at hl 2 rfl) ?_
    refine lv_imul hx hb dX5_count_45 ?_
    refine lv_iadd hx hb dX5_count_46 ?_
    refine lv_iconst (v := 2) hx hb dX5_count_47 (by decide) ?_
    refine lv_iadd hx hb dX5_count_48 ?_
    refine ma_2 hx hb hK hP dX5_count_49 hE (fun v_5 hE => ?_)
    refine lv_iadd hx hb dX5_count_50 ?_
    refine z_istore_n hx hb (fun x2_6 => [(2, .int x2_6), (0, .ref (ea E 0)), (3, .int x3)]) dX5_count_51 rfl hl (by decide) rfl hE (fun x2_6 ls hl hE => ?_)
    refine z_iinc hx hb (v := (x3 + 1)) (k := 2) (fun x3_7 => [(3, .int x3_7), (2, .int x2_6), (0, .ref (ea E 0))]) dX5_count_52 hl rfl (by rfl) (by decide) rfl hE (fun x3_7 ls hl hE => ?_)
    refine lv_goto (tgt := 26) hx hb dX5_count_55 (by decide) ?_
    exact ih x2_6 x3_7 σ _ _ _ (lv_sub hl [2, 1, 0] rfl) hP hS hE
def fX5_count_J16  (x1 : Int32) (σ : ST) : Option (Int32 × ST) :=
  (if x1 = 6 then bnd (0 : Int32) (fun x2_2 => bnd (0 : Int32) (fun x3_3 => fX5_count_L26 (fun x2_8 σ_9 => some (x2_8, σ_9)) FU x2_2 x3_3 σ)) else (if x1 = 7 then (if x1 = 7 then some ((gI σ 17), σ) else some ((gI σ 1), σ)) else (if x1 = 8 then (if x1 = 7 then some ((gI σ 17), σ) else some ((gI σ 1), σ)) else (if x1 < 11 then some ((-9), σ) else (if 16 < x1 then some ((-9), σ) else ald (gA σ 0) 7 (x1 - 10) (fun v_1 => some (v_1, σ)))))))
set_option maxHeartbeats 4000000 in
set_option maxRecDepth 100000 in
theorem wX5_count_J16 {p : Program} {l : Launch} {e : Env} {s : State} {m : MethodId} {args : Array Value} {below : List Frame} {meth : Method} {c : Code} {E : EN} (C : zC E mW p s m args meth c cX5_count 4 RX5 (some .int) wsL_law) {F : Int32 × ST}   (x1 : Int32) (σ : ST) (H : Heap) (locs : List Loc) (ls : Array Slot) (hl : lv_has ls 4 [(0, .ref (ea E 0)), (1, .int x1)]) (hP : va_P (eD E) vwCl (mW E σ) H) (hS : va_S (eA E) s.heap H locs) (hE : fX5_count_J16  x1 σ = some F) : zWi E mW p l e r_X5_count s m args below meth c F H locs (F0 m 16 ls []) := by
  obtain ⟨hx, hb, hml, hown, hts, hr, hlk, hK, hD⟩ := id C
  have hwX5 : ∀ w ∈ wsX50, w.before args s = true := fun w h => hts w (inlX5 w h)
  unfold fX5_count_J16 at hE
  refine lv_iload_n hx hb dX5_count_16 rfl (lv_at hl 1 rfl) ?_
  refine lv_bipush (v := 6) hx hb dX5_count_17 (by decide) ?_
  refine z_icmp_ne (tgt := 60) hx hb dX5_count_19 (by decide) hE (fun hE => ?_) (fun hE => ?_)
  · refine lv_iload_n hx hb dX5_count_60 rfl (lv_at hl 1 rfl) ?_
    refine lv_bipush (v := 7) hx hb dX5_count_61 (by decide) ?_
    refine z_icmp_eq (tgt := 72) hx hb dX5_count_63 (by decide) hE (fun hE => ?_) (fun hE => ?_)
    · refine lv_iload_n hx hb dX5_count_72 rfl (lv_at hl 1 rfl) ?_
      refine lv_bipush (v := 7) hx hb dX5_count_73 (by decide) ?_
      refine z_icmp_ne (tgt := 85) hx hb dX5_count_75 (by decide) hE (fun hE => ?_) (fun hE => ?_)
      · refine lv_aload_n hx hb dX5_count_85 rfl (lv_at hl 0 rfl) ?_
        refine mg_0_5 hx hb hown hwX5 (hts _ u_130) hK hP dX5_count_86 ?_
        exact z_iret hx hb hr hlk hP hS dX5_count_89 hE
      refine lv_aload_n hx hb dX5_count_78 rfl (lv_at hl 0 rfl) ?_
      refine mg_0_33 hx hb hown hwX5 (hts _ u_601) hK hP dX5_count_79 ?_
      refine lv_goto (tgt := 89) hx hb dX5_count_82 (by decide) ?_
      exact z_iret hx hb hr hlk hP hS dX5_count_89 hE
    refine lv_iload_n hx hb dX5_count_66 rfl (lv_at hl 1 rfl) ?_
    refine lv_bipush (v := 8) hx hb dX5_count_67 (by decide) ?_
    refine z_icmp_ne (tgt := 90) hx hb dX5_count_69 (by decide) hE (fun hE => ?_) (fun hE => ?_)
    · refine lv_iload_n hx hb dX5_count_90 rfl (lv_at hl 1 rfl) ?_
      refine lv_bipush (v := 11) hx hb dX5_count_91 (by decide) ?_
      refine z_icmp_lt (tgt := 114) hx hb dX5_count_93 (by decide) hE (fun hE => ?_) (fun hE => ?_)
      · refine lv_bipush (v := -9) hx hb dX5_count_114 (by decide) ?_
        exact z_iret hx hb hr hlk hP hS dX5_count_116 hE
      refine lv_iload_n hx hb dX5_count_96 rfl (lv_at hl 1 rfl) ?_
      refine lv_bipush (v := 16) hx hb dX5_count_97 (by decide) ?_
      refine z_icmp_gt (tgt := 114) hx hb dX5_count_99 (by decide) hE (fun hE => ?_) (fun hE => ?_)
      · refine lv_bipush (v := -9) hx hb dX5_count_114 (by decide) ?_
        exact z_iret hx hb hr hlk hP hS dX5_count_116 hE
      refine lv_aload_n hx hb dX5_count_102 rfl (lv_at hl 0 rfl) ?_
      refine mg_0_0 hx hb hown hwX5 (hts _ u_96) hK hP dX5_count_103 ?_
      refine lv_iload_n hx hb dX5_count_106 rfl (lv_at hl 1 rfl) ?_
      refine lv_bipush (v := 10) hx hb dX5_count_107 (by decide) ?_
      refine lv_isub hx hb dX5_count_109 ?_
      refine ma_1 hx hb hK hP dX5_count_110 hE (fun v_1 hE => ?_)
      refine lv_goto (tgt := 116) hx hb dX5_count_111 (by decide) ?_
      exact z_iret hx hb hr hlk hP hS dX5_count_116 hE
    refine lv_iload_n hx hb dX5_count_72 rfl (lv_at hl 1 rfl) ?_
    refine lv_bipush (v := 7) hx hb dX5_count_73 (by decide) ?_
    refine z_icmp_ne (tgt := 85) hx hb dX5_count_75 (by decide) hE (fun hE => ?_) (fun hE => ?_)
    · refine lv_aload_n hx hb dX5_count_85 rfl (lv_at hl 0 rfl) ?_
      refine mg_0_5 hx hb hown hwX5 (hts _ u_130) hK hP dX5_count_86 ?_
      exact z_iret hx hb hr hlk hP hS dX5_count_89 hE
    refine lv_aload_n hx hb dX5_count_78 rfl (lv_at hl 0 rfl) ?_
    refine mg_0_33 hx hb hown hwX5 (hts _ u_601) hK hP dX5_count_79 ?_
    refine lv_goto (tgt := 89) hx hb dX5_count_82 (by decide) ?_
    exact z_iret hx hb hr hlk hP hS dX5_count_89 hE
  refine lv_iconst (v := 0) hx hb dX5_count_22 (by decide) ?_
  refine z_istore_n hx hb (fun x2_2 => [(2, .int x2_2), (0, .ref (ea E 0)), (1, .int x1)]) dX5_count_23 rfl hl (by decide) rfl hE (fun x2_2 ls hl hE => ?_)
  refine lv_iconst (v := 0) hx hb dX5_count_24 (by decide) ?_
  refine z_istore_n hx hb (fun x3_3 => [(3, .int x3_3), (2, .int x2_2), (0, .ref (ea E 0)), (1, .int x1)]) dX5_count_25 rfl hl (by decide) rfl hE (fun x3_3 ls hl hE => ?_)
  refine wX5_count_L26 C ?_ FU x2_2 x3_3 σ _ _ _ (lv_sub hl [2, 1, 0] rfl) hP hS hE
  intro x2_8 σ_9 H locs ls hl hP hS hE
  refine lv_iload_n hx hb dX5_count_58 rfl (lv_at hl 0 rfl) ?_
  exact z_iret hx hb hr hlk hP hS dX5_count_59 hE
def fX5_count  (x1 : Int32) (σ : ST) : Option (Int32 × ST) :=
  (if x1 < 0 then fX5_count_J16  x1 σ else (if 5 < x1 then fX5_count_J16  x1 σ else ald (gA σ 1) 200 x1 (fun v_10 => some (v_10, σ))))
set_option maxHeartbeats 4000000 in
set_option maxRecDepth 100000 in
theorem wX5_count {p : Program} {l : Launch} {e : Env} {s : State} {m : MethodId} {args : Array Value} {below : List Frame} {meth : Method} {c : Code} {E : EN} (C : zC E mW p s m args meth c cX5_count 4 RX5 (some .int) wsL_law) {F : Int32 × ST}   (x1 : Int32) (σ : ST) (H : Heap) (locs : List Loc) (ls : Array Slot) (hl : lv_has ls 4 [(0, .ref (ea E 0)), (1, .int x1)]) (hP : va_P (eD E) vwCl (mW E σ) H) (hS : va_S (eA E) s.heap H locs) (hE : fX5_count  x1 σ = some F) : zWi E mW p l e r_X5_count s m args below meth c F H locs (F0 m 0 ls []) := by
  obtain ⟨hx, hb, hml, hown, hts, hr, hlk, hK, hD⟩ := id C
  have hwX5 : ∀ w ∈ wsX50, w.before args s = true := fun w h => hts w (inlX5 w h)
  unfold fX5_count at hE
  refine lv_iload_n hx hb dX5_count_0 rfl (lv_at hl 1 rfl) ?_
  refine z_if_lt (tgt := 16) hx hb dX5_count_1 (by decide) hE (fun hE => ?_) (fun hE => ?_)
  · exact wX5_count_J16 C  x1 σ _ _ _ (lv_sub hl [0, 1] rfl) hP hS hE
  refine lv_iload_n hx hb dX5_count_4 rfl (lv_at hl 1 rfl) ?_
  refine lv_iconst (v := 5) hx hb dX5_count_5 (by decide) ?_
  refine z_icmp_gt (tgt := 16) hx hb dX5_count_6 (by decide) hE (fun hE => ?_) (fun hE => ?_)
  · exact wX5_count_J16 C  x1 σ _ _ _ (lv_sub hl [0, 1] rfl) hP hS hE
  refine lv_aload_n hx hb dX5_count_9 rfl (lv_at hl 0 rfl) ?_
  refine mg_0_1 hx hb hown hwX5 (hts _ u_97) hK hP dX5_count_10 ?_
  refine lv_iload_n hx hb dX5_count_13 rfl (lv_at hl 1 rfl) ?_
  refine ma_2 hx hb hK hP dX5_count_14 hE (fun v_10 hE => ?_)
  exact z_iret hx hb hr hlk hP hS dX5_count_15 hE
theorem kX5_count (l : Launch) (E : EN) (hD : ∀ σ, va_D (eA E) (mW E σ)) (x1 : Int32) (σ : ST) (F : Int32 × ST) (hE : fX5_count x1 σ = some F) : Met l yX5_count wu_X5_count r_X5_count (zPc E mW [.ref (ea E 0), .int x1] σ) (zQi E mW F) 0 0 (eA E) := by
  refine Met.ofW (cc := cX5_count) (maxL := 4) (ret := (some .int)) (by decide) rfl ?_
  intro p e s m args below meth c s₁ B hml hv
  obtain ⟨rfl, hP, hK⟩ := hv
  have hl := lv_entry ([.ref (ea E 0), .int x1]) (n := 4) (Nat.le_of_ble_eq_true rfl)
  rw [lg_entry_eq]
  generalize (lg_sl ([.ref (ea E 0), .int x1]) ++ List.replicate (4 - (lg_sl ([.ref (ea E 0), .int x1])).length) Slot.unset).toArray = ls at hl ⊢
  exact wX5_count ⟨B.exec, B.bytes, hml, findClass_of_methodNamed B.named, fun w h => atoms_spec (ws := wu_X5_count) B.pre w (List.mem_cons_of_mem _ h), B.returns, B.notSynchronized, hK, hD⟩ x1 σ s.heap [] ls hl hP va_S.rf hE
