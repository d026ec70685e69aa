def fJ0_indexOf_0f7a4  (x0 : Nat) (x1 : Int32) (σ : ST) : Option (Int32 × ST) :=
  sg x0 (cali (fJ0_indexOf_7cf53 x0 x1 0 σ) (fun r_2 σ_1 => some (r_2, σ_1)))
set_option maxHeartbeats 4000000 in
set_option maxRecDepth 100000 in
theorem wJ0_indexOf_0f7a4 {p : Program} {l : Launch} {e : Env} {s : State} {m : MethodId} {args : Array Value} {below : List Frame} {meth : Method} {c : Code} {E : EN} (C : zC E xW p s m args meth c cJ0_indexOf_0f7a4 2 RJ0 (some .int) wsL_law) {F : Int32 × ST}   (x0 : Nat) (x1 : Int32) (σ : ST) (H : Heap) (locs : List Loc) (ls : Array Slot) (hl : lv_has ls 2 [(0, .ref (eK E x0)), (1, .int x1)]) (hP : va_P (eD E) vwCl (xW E σ) H) (hS : va_S (eA E) s.heap H locs) (hE : fJ0_indexOf_0f7a4  x0 x1 σ = some F) : zWi E xW p l e r_J0_indexOf_0f7a4 s m args below meth c F H locs (F0 m 0 ls []) := by
  obtain ⟨hx, hb, hml, hown, hts, hr, hlk, hK, hD⟩ := id C
  unfold fJ0_indexOf_0f7a4 at hE
  refine lv_aload_n hx hb dJ0_indexOf_0f7a4_0 rfl (lv_at hl 0 rfl) ?_
  refine lv_iload_n hx hb dJ0_indexOf_0f7a4_1 rfl (lv_at hl 1 rfl) ?_
  refine lv_iconst (v := 0) hx hb dJ0_indexOf_0f7a4_2 (by decide) ?_
  obtain ⟨hj, hE⟩ := z_sg hE
  refine z_goi (wf := xW) hS hE (fun F1 h1 => (va_runV (As := [.int x1, .int 0]) (rest := []) ⟨hx, hb, hml, hown, hts⟩ (kJ0_indexOf_7cf53 l E hD x0 x1 0 σ F1 h1) (cwV 2 hts (gU_V u_210 u_211 u_212 u_150 u_213) rfl rfl rfl q_J0_indexOf_7cf53 ⟨Nat.le_of_ble_eq_true rfl, Nat.le_of_ble_eq_true rfl⟩) (z_preVs hK hP hS hj) rfl rfl hl.1 rfl (lv_room (Nat.le_of_ble_eq_true rfl)) dJ0_indexOf_0f7a4_3 ⟨Nat.le_of_ble_eq_true rfl, Nat.le_of_ble_eq_true rfl⟩)) (fun r_2 σ_1 H locs hP hS hE => ?_)
  exact z_iret hx hb hr hlk hP hS dJ0_indexOf_0f7a4_6 hE
theorem kJ0_indexOf_0f7a4 (l : Launch) (E : EN) (hD : ∀ σ, va_D (eA E) (xW E σ)) (x0 : Nat) (x1 : Int32) (σ : ST) (F : Int32 × ST) (hE : fJ0_indexOf_0f7a4 x0 x1 σ = some F) : Met l yJ0_indexOf_0f7a4 wu_J0_indexOf_0f7a4 r_J0_indexOf_0f7a4 (zPc E xW [.ref (eK E x0), .int x1] σ) (zQi E xW F) 0 0 (eA E) := by
  refine Met.ofW (cc := cJ0_indexOf_0f7a4) (maxL := 2) (ret := (some .int)) (by decide) rfl ?_
  intro p e s m args below meth c s₁ B hml hv
  obtain ⟨rfl, hP, hK⟩ := hv
  have hl := lv_entry ([.ref (eK E x0), .int x1]) (n := 2) (Nat.le_of_ble_eq_true rfl)
  rw [lg_entry_eq]
  generalize (lg_sl ([.ref (eK E x0), .int x1]) ++ List.replicate (2 - (lg_sl ([.ref (eK E x0), .int x1])).length) Slot.unset).toArray = ls at hl ⊢
  exact wJ0_indexOf_0f7a4 ⟨B.exec, B.bytes, hml, findClass_of_methodNamed B.named, fun w h => atoms_spec (ws := wu_J0_indexOf_0f7a4) B.pre w (List.mem_cons_of_mem _ h), B.returns, B.notSynchronized, hK, hD⟩ x0 x1 σ s.heap [] ls hl hP va_S.rf hE
def fX1_fits  (x0 : Int32) (x1 : Int32) (σ : ST) : Option (Int32 × ST) :=
  (if x0 = 107 then sg 6 (cali (fJ0_indexOf_0f7a4 6 (((Int32.toUInt32 x1) % 65536).toInt32) σ) (fun r_2 σ_1 => (if r_2 < 0 then some (0, σ_1) else some (1, σ_1)))) else (if x0 = 48 then (if x1 < 48 then some (0, σ) else (if 57 < x1 then some (0, σ) else some (1, σ))) else (if x1 = x0 then some (1, σ) else some (0, σ))))
set_option maxHeartbeats 4000000 in
set_option maxRecDepth 100000 in
theorem wX1_fits {p : Program} {l : Launch} {e : Env} {s : State} {m : MethodId} {args : Array Value} {below : List Frame} {meth : Method} {c : Code} {E : EN} (C : zC E xW p s m args meth c cX1_fits 2 RX1 (some .boolean) wsL_law) {F : Int32 × ST}   (x0 : Int32) (x1 : Int32) (σ : ST) (H : Heap) (locs : List Loc) (ls : Array Slot) (hl : lv_has ls 2 [(0, .int x0), (1, .int x1)]) (hP : va_P (eD E) vwCl (xW E σ) H) (hS : va_S (eA E) s.heap H locs) (hE : fX1_fits  x0 x1 σ = some F) : zWi E xW p l e r_X1_fits s m args below meth c F H locs (F0 m 0 ls []) := by
  obtain ⟨hx, hb, hml, hown, hts, hr, hlk, hK, hD⟩ := id C
  unfold fX1_fits at hE
  refine lv_iload_n hx hb dX1_fits_0 rfl (lv_at hl 0 rfl) ?_
  refine lv_bipush (v := 107) hx hb dX1_fits_1 (by decide) ?_
  refine z_icmp_ne (tgt := 22) hx hb dX1_fits_3 (by decide) hE (fun hE => ?_) (fun hE => ?_)
  · refine lv_iload_n hx hb dX1_fits_22 rfl (lv_at hl 0 rfl) ?_
    refine lv_bipush (v := 48) hx hb dX1_fits_23 (by decide) ?_
    refine z_icmp_ne (tgt := 46) hx hb dX1_fits_25 (by decide) hE (fun hE => ?_) (fun hE => ?_)
    · refine lv_iload_n hx hb dX1_fits_46 rfl (lv_at hl 1 rfl) ?_
      refine lv_iload_n hx hb dX1_fits_47 rfl (lv_at hl 0 rfl) ?_
      refine z_icmp_ne (tgt := 55) hx hb dX1_fits_48 (by decide) hE (fun hE => ?_) (fun hE => ?_)
      · refine lv_iconst (v := 0) hx hb dX1_fits_55 (by decide) ?_
        exact z_zret hx hb hr hlk rfl hP hS dX1_fits_56 hE
      refine lv_iconst (v := 1) hx hb dX1_fits_51 (by decide) ?_
      refine lv_goto (tgt := 56) hx hb dX1_fits_52 (by decide) ?_
      exact z_zret hx hb hr hlk rfl hP hS dX1_fits_56 hE
    refine lv_iload_n hx hb dX1_fits_28 rfl (lv_at hl 1 rfl) ?_
    refine lv_bipush (v := 48) hx hb dX1_fits_29 (by decide) ?_
    refine z_icmp_lt (tgt := 44) hx hb dX1_fits_31 (by decide) hE (fun hE => ?_) (fun hE => ?_)
    · refine lv_iconst (v := 0) hx hb dX1_fits_44 (by decide) ?_
      exact z_zret hx hb hr hlk rfl hP hS dX1_fits_45 hE
    refine lv_iload_n hx hb dX1_fits_34 rfl (lv_at hl 1 rfl) ?_
    refine lv_bipush (v := 57) hx hb dX1_fits_35 (by decide) ?_
    refine z_icmp_gt (tgt := 44) hx hb dX1_fits_37 (by decide) hE (fun hE => ?_) (fun hE => ?_)
    · refine lv_iconst (v := 0) hx hb dX1_fits_44 (by decide) ?_
      exact z_zret hx hb hr hlk rfl hP hS dX1_fits_45 hE
    refine lv_iconst (v := 1) hx hb dX1_fits_40 (by decide) ?_
    refine lv_goto (tgt := 45) hx hb dX1_fits_41 (by decide) ?_
    exact z_zret hx hb hr hlk rfl hP hS dX1_fits_45 hE
  refine va_ldcS hx hb hown (hK.2.2.1 6 (by decide)) dX1_fits_6 ?_
  refine lv_iload_n hx hb dX1_fits_8 rfl (lv_at hl 1 rfl) ?_
  refine lv_i2c (v := ((Int32.toUInt32 x1) % 65536).toInt32) hx hb dX1_fits_9 rfl ?_
  obtain ⟨hj, hE⟩ := z_sg hE
  refine z_goi (wf := xW) hS hE (fun F1 h1 => (va_runV (As := [.int (((Int32.toUInt32 x1) % 65536).toInt32)]) (rest := []) ⟨hx, hb, hml, hown, hts⟩ (kJ0_indexOf_0f7a4 l E hD 6 (((Int32.toUInt32 x1) % 65536).toInt32) σ F1 h1) (cwV 1 hts (gU_V u_206 u_207 u_208 u_150 u_209) rfl rfl rfl q_J0_indexOf_0f7a4 ⟨Nat.le_of_ble_eq_true rfl, Nat.le_of_ble_eq_true rfl⟩) (z_preVs hK hP hS hj) rfl rfl hl.1 rfl (lv_room (Nat.le_of_ble_eq_true rfl)) dX1_fits_10 ⟨Nat.le_of_ble_eq_true rfl, Nat.le_of_ble_eq_true rfl⟩)) (fun r_2 σ_1 H locs hP hS hE => ?_)
  refine z_if_lt (tgt := 20) hx hb dX1_fits_13 (by decide) hE (fun hE => ?_) (fun hE => ?_)
  · refine lv_iconst (v := 0) hx hb dX1_fits_20 (by decide) ?_
    exact z_zret hx hb hr hlk rfl hP hS dX1_fits_21 hE
  refine lv_iconst (v := 1) hx hb dX1_fits_16 (by decide) ?_
  refine lv_goto (tgt := 21) hx hb dX1_fits_17 (by decide) ?_
  exact z_zret hx hb hr hlk rfl hP hS dX1_fits_21 hE
theorem kX1_fits (l : Launch) (E : EN) (hD : ∀ σ, va_D (eA E) (xW E σ)) (x0 : Int32) (x1 : Int32) (σ : ST) (F : Int32 × ST) (hE : fX1_fits x0 x1 σ = some F) : Met l yX1_fits wu_X1_fits r_X1_fits (zPc E xW [.int x0, .int x1] σ) (zQi E xW F) 0 0 (eA E) := by
  refine Met.ofW (cc := cX1_fits) (maxL := 2) (ret := (some .boolean)) (by decide) rfl ?_
  intro p e s m args below meth c s₁ B hml hv
  obtain ⟨rfl, hP, hK⟩ := hv
  have hl := lv_entry ([.int x0, .int x1]) (n := 2) (Nat.le_of_ble_eq_true rfl)
  rw [lg_entry_eq]
  generalize (lg_sl ([.int x0, .int x1]) ++ List.replicate (2 - (lg_sl ([.int x0, .int x1])).length) Slot.unset).toArray = ls at hl ⊢
  exact wX1_fits ⟨B.exec, B.bytes, hml, findClass_of_methodNamed B.named, fun w h => atoms_spec (ws := wu_X1_fits) B.pre w (List.mem_cons_of_mem _ h), B.returns, B.notSynchronized, hK, hD⟩ x0 x1 σ s.heap [] ls hl hP va_S.rf hE
def fX1_shapeBehind  (x0 : Int32) (σ : ST) : Option (Nat × ST) :=
  (if x0 = 100 then some (4, σ) else (if x0 = 101 then some (2, σ) else (if x0 = 102 then some (3, σ) else (if x0 = 112 then some (0, σ) else (if x0 = 119 then some (1, σ) else some (5, σ))))))
set_option maxHeartbeats 4000000 in
set_option maxRecDepth 100000 in
theorem wX1_shapeBehind {p : Program} {l : Launch} {e : Env} {s : State} {m : MethodId} {args : Array Value} {below : List Frame} {meth : Method} {c : Code} {E : EN} (C : zC E xW p s m args meth c cX1_shapeBehind 1 RX1 (some (.object "java/lang/String")) wsL_law) {F : Nat × ST}   (x0 : Int32) (σ : ST) (H : Heap) (locs : List Loc) (ls : Array Slot) (hl : lv_has ls 1 [(0, .int x0)]) (hP : va_P (eD E) vwCl (xW E σ) H) (hS : va_S (eA E) s.heap H locs) (hE : fX1_shapeBehind  x0 σ = some F) : zWs E xW p l e r_X1_shapeBehind s m args below meth c F H locs (F0 m 0 ls []) := by
  obtain ⟨hx, hb, hml, hown, hts, hr, hlk, hK, hD⟩ := id C
  unfold fX1_shapeBehind at hE
  refine lv_iload_n hx hb dX1_shapeBehind_0 rfl (lv_at hl 0 rfl) ?_
  by_cases q100 : x0 = 100
  · have hE := (if_pos q100).symm.trans hE
    refine z_lookIn (tgt := 64) (off := 63) hx hb q100 dX1_shapeBehind_1 (by decide) (by decide) (by decide) ?_
    refine va_ldcS hx hb hown (hK.2.2.1 4 (by decide)) dX1_shapeBehind_64 ?_
    exact z_sret hx hb hr hlk hP hS dX1_shapeBehind_66 hE
  replace hE := (if_neg q100).symm.trans hE
  by_cases q101 : x0 = 101
  · have hE := (if_pos q101).symm.trans hE
    refine z_lookIn (tgt := 58) (off := 57) hx hb q101 dX1_shapeBehind_1 (by decide) (by decide) (by decide) ?_
    refine va_ldcS hx hb hown (hK.2.2.1 2 (by decide)) dX1_shapeBehind_58 ?_
    exact z_sret hx hb hr hlk hP hS dX1_shapeBehind_60 hE
  replace hE := (if_neg q101).symm.trans hE
  by_cases q102 : x0 = 102
  · have hE := (if_pos q102).symm.trans hE
    refine z_lookIn (tgt := 61) (off := 60) hx hb q102 dX1_shapeBehind_1 (by decide) (by decide) (by decide) ?_
    refine va_ldcS hx hb hown (hK.2.2.1 3 (by decide)) dX1_shapeBehind_61 ?_
    exact z_sret hx hb hr hlk hP hS dX1_shapeBehind_63 hE
  replace hE := (if_neg q102).symm.trans hE
  by_cases q112 : x0 = 112
  · have hE := (if_pos q112).symm.trans hE
    refine z_lookIn (tgt := 52) (off := 51) hx hb q112 dX1_shapeBehind_1 (by decide) (by decide) (by decide) ?_
    refine va_ldcS hx hb hown (hK.2.2.1 0 (by decide)) dX1_shapeBehind_52 ?_
    exact z_sret hx hb hr hlk hP hS dX1_shapeBehind_54 hE
  replace hE := (if_neg q112).symm.trans hE
  by_cases q119 : x0 = 119
  · have hE := (if_pos q119).symm.trans hE
    refine z_lookIn (tgt := 55) (off := 54) hx hb q119 dX1_shapeBehind_1 (by decide) (by decide) (by decide) ?_
    refine va_ldcS hx hb hown (hK.2.2.1 1 (by decide)) dX1_shapeBehind_55 ?_
    exact z_sret hx hb hr hlk hP hS dX1_shapeBehind_57 hE
  replace hE := (if_neg q119).symm.trans hE
  refine lv_lookup (tgt := 67) hx hb dX1_shapeBehind_1 (by decide) (off := 66) (by first | (simp [Op.lookupswitch.offset, show ¬ Int32.toInt x0 = 100 from z_ne q100, show ¬ Int32.toInt x0 = 101 from z_ne q101, show ¬ Int32.toInt x0 = 102 from z_ne q102, show ¬ Int32.toInt x0 = 112 from z_ne q112, show ¬ Int32.toInt x0 = 119 from z_ne q119]; done) | (simp [Op.lookupswitch.offset, show ¬ 100 = Int32.toInt x0 from fun z => z_ne q100 z.symm, show ¬ 101 = Int32.toInt x0 from fun z => z_ne q101 z.symm, show ¬ 102 = Int32.toInt x0 from fun z => z_ne q102 z.symm, show ¬ 112 = Int32.toInt x0 from fun z => z_ne q112 z.symm, show ¬ 119 = Int32.toInt x0 from fun z => z_ne q119 z.symm, show ¬ Int32.toInt x0 = 100 from z_ne q100, show ¬ Int32.toInt x0 = 101 from z_ne q101, show ¬ Int32.toInt x0 = 102 from z_ne q102, show ¬ Int32.toInt x0 = 112 from z_ne q112, show ¬ Int32.toInt x0 = 119 from z_ne q119]; done)) (by decide) ?_
  refine va_ldcS hx hb hown (hK.2.2.1 5 (by decide)) dX1_shapeBehind_67 ?_
  exact z_sret hx hb hr hlk hP hS dX1_shapeBehind_69 hE
theorem kX1_shapeBehind (l : Launch) (E : EN) (hD : ∀ σ, va_D (eA E) (xW E σ)) (x0 : Int32) (σ : ST) (F : Nat × ST) (hE : fX1_shapeBehind x0 σ = some F) : Met l yX1_shapeBehind wu_X1_shapeBehind r_X1_shapeBehind (zPc E xW [.int x0] σ) (zQs E xW F) 0 0 (eA E) := by
  refine Met.ofW (cc := cX1_shapeBehind) (maxL := 1) (ret := (some (.object "java/lang/String"))) (by decide) rfl ?_
  intro p e s m args below meth c s₁ B hml hv
  obtain ⟨rfl, hP, hK⟩ := hv
  have hl := lv_entry ([.int x0]) (n := 1) (Nat.le_of_ble_eq_true rfl)
  rw [lg_entry_eq]
  generalize (lg_sl ([.int x0]) ++ List.replicate (1 - (lg_sl ([.int x0])).length) Slot.unset).toArray = ls at hl ⊢
  exact wX1_shapeBehind ⟨B.exec, B.bytes, hml, findClass_of_methodNamed B.named, fun w h => atoms_spec (ws := wu_X1_shapeBehind) B.pre w (List.mem_cons_of_mem _ h), B.returns, B.notSynchronized, hK, hD⟩ x0 σ s.heap [] ls hl hP va_S.rf hE
def fJ0_isEmpty_aae02  (x0 : Nat) (σ : ST) : Option (Int32 × ST) :=
  sg x0 (sg x0 ((if (strLen x0) = 0 then some (1, σ) else some (0, σ))))
set_option maxHeartbeats 4000000 in
set_option maxRecDepth 100000 in
theorem wJ0_isEmpty_aae02 {p : Program} {l : Launch} {e : Env} {s : State} {m : MethodId} {args : Array Value} {below : List Frame} {meth : Method} {c : Code} {E : EN} (C : zC E xW p s m args meth c cJ0_isEmpty_aae02 1 RJ0 (some .boolean) wsL_law) {F : Int32 × ST}   (x0 : Nat) (σ : ST) (H : Heap) (locs : List Loc) (ls : Array Slot) (hl : lv_has ls 1 [(0, .ref (eK E x0))]) (hP : va_P (eD E) vwCl (xW E σ) H) (hS : va_S (eA E) s.heap H locs) (hE : fJ0_isEmpty_aae02  x0 σ = some F) : zWi E xW p l e r_J0_isEmpty_aae02 s m args below meth c F H locs (F0 m 0 ls []) := by
  obtain ⟨hx, hb, hml, hown, hts, hr, hlk, hK, hD⟩ := id C
  unfold fJ0_isEmpty_aae02 at hE
  refine lv_aload_n hx hb dJ0_isEmpty_aae02_0 rfl (lv_at hl 0 rfl) ?_
  obtain ⟨hj, hE⟩ := z_sg hE
  refine vk_getf hx hb (hK.2.1.1 _ hj).2.2.1 hS hown (hts _ u_152) (fun _ h9 => h9) dJ0_isEmpty_aae02_1 ?_
  obtain ⟨hj, hE⟩ := z_sg hE
  refine va_tlen hx hb (hK.2.1.1 _ hj).2.2.2 hS (v := strLen x0) rfl dJ0_isEmpty_aae02_4 ?_
  refine z_if_ne (tgt := 12) hx hb dJ0_isEmpty_aae02_5 (by decide) hE (fun hE => ?_) (fun hE => ?_)
  · refine lv_iconst (v := 0) hx hb dJ0_isEmpty_aae02_12 (by decide) ?_
    exact z_zret hx hb hr hlk rfl hP hS dJ0_isEmpty_aae02_13 hE
  refine lv_iconst (v := 1) hx hb dJ0_isEmpty_aae02_8 (by decide) ?_
  refine lv_goto (tgt := 13) hx hb dJ0_isEmpty_aae02_9 (by decide) ?_
  exact z_zret hx hb hr hlk rfl hP hS dJ0_isEmpty_aae02_13 hE
theorem kJ0_isEmpty_aae02 (l : Launch) (E : EN) (hD : ∀ σ, va_D (eA E) (xW E σ)) (x0 : Nat) (σ : ST) (F : Int32 × ST) (hE : fJ0_isEmpty_aae02 x0 σ = some F) : Met l yJ0_isEmpty_aae02 wu_J0_isEmpty_aae02 r_J0_isEmpty_aae02 (zPc E xW [.ref (eK E x0)] σ) (zQi E xW F) 0 0 (eA E) := by
  refine Met.ofW (cc := cJ0_isEmpty_aae02) (maxL := 1) (ret := (some .boolean)) (by decide) rfl ?_
  intro p e s m args below meth c s₁ B hml hv
  obtain ⟨rfl, hP, hK⟩ := hv
  have hl := lv_entry ([.ref (eK E x0)]) (n := 1) (Nat.le_of_ble_eq_true rfl)
  rw [lg_entry_eq]
  generalize (lg_sl ([.ref (eK E x0)]) ++ List.replicate (1 - (lg_sl ([.ref (eK E x0)])).length) Slot.unset).toArray = ls at hl ⊢
  exact wJ0_isEmpty_aae02 ⟨B.exec, B.bytes, hml, findClass_of_methodNamed B.named, fun w h => atoms_spec (ws := wu_J0_isEmpty_aae02) B.pre w (List.mem_cons_of_mem _ h), B.returns, B.notSynchronized, hK, hD⟩ x0 σ s.heap [] ls hl hP va_S.rf hE
def fX1_firstMisfit_L7 (ke : Nat → Int32 → ST → Option (Int32 × ST)) : Nat → Nat → Int32 → Int32 → ST → Option (Int32 × ST)
  | 0, _, _, _, _ => none
  | n + 1, x1, x2, x3, σ => (if (gI σ 2) ≤ x3 then ke x1 x2 σ else sg x1 (cali (fJ0_length_8abf5 x1 σ) (fun r_4 σ_3 => (if x2 < r_4 then sg x1 (cali (fJ0_charAt_5068e x1 x2 σ_3) (fun r_6 σ_5 => ald (gA σ_5 5) 96 x3 (fun v_7 => cali (fX1_fits r_6 v_7 σ_5) (fun r_9 σ_8 => (if r_9 = 0 then some (x3, σ_8) else bnd (x2 + 1) (fun x2_10 => bnd (x3 + 1) (fun x3_11 => fX1_firstMisfit_L7 ke n x1 x2_10 x3_11 σ_8))))))) else ald (gA σ_3 5) 96 x3 (fun v_12 => cals (fX1_shapeBehind v_12 σ_3) (fun r_14 σ_13 => bnd (0 : Int32) (fun x2_15 => sg r_14 (cali (fJ0_isEmpty_aae02 r_14 σ_13) (fun r_17 σ_16 => (if r_17 = 0 then bnd (x3 + 1) (fun x3_18 => fX1_firstMisfit_L7 ke n r_14 x2_15 x3_18 σ_16) else some (x3, σ_16)))))))))))
set_option maxHeartbeats 4000000 in
set_option maxRecDepth 100000 in
theorem wX1_firstMisfit_L7 {p : Program} {l : Launch} {e : Env} {s : State} {m : MethodId} {args : Array Value} {below : List Frame} {meth : Method} {c : Code} {E : EN} (C : zC E xW p s m args meth c cX1_firstMisfit 4 RX1 (some .int) wsL_law) {F : Int32 × ST} {ke : Nat → Int32 → ST → Option (Int32 × ST)} (hke : ∀ (x1 : Nat) (x2 : Int32) (σ : ST) (H : Heap) (locs : List Loc) (ls : Array Slot), lv_has ls 4 [(0, .ref (ea E 3)), (1, .ref (eK E x1)), (2, .int x2)] → va_P (eD E) vwCl (xW E σ) H → va_S (eA E) s.heap H locs → ke x1 x2 σ = some F → zWi E xW p l e r_X1_firstMisfit s m args below meth c F H locs (F0 m 75 ls [])) : ∀ (n : Nat) (x1 : Nat) (x2 : Int32) (x3 : Int32) (σ : ST) (H : Heap) (locs : List Loc) (ls : Array Slot), lv_has ls 4 [(0, .ref (ea E 3)), (1, .ref (eK E x1)), (2, .int x2), (3, .int x3)] → va_P (eD E) vwCl (xW E σ) H → va_S (eA E) s.heap H locs → fX1_firstMisfit_L7 ke n x1 x2 x3 σ = some F → zWi E xW p l e r_X1_firstMisfit s m args below meth c F H locs (F0 m 7 ls []) := by
  obtain ⟨hx, hb, hml, hown, hts, hr, hlk, hK, hD⟩ := id C
  have hwX1 : ∀ w ∈ wsX10, w.before args s = true := fun w h => hts w (inlX1 w h)
  intro n
  induction n with
  | zero => intro x1 x2 x3 σ H locs ls hl hP hS hE; rw [fX1_firstMisfit_L7] at hE; cases hE
  | succ n ih =>
    intro x1 x2 x3 σ H locs ls hl hP hS hE
    rw [fX1_firstMisfit_L7] at hE
    refine lv_iload_n hx hb dX1_firstMisfit_7 rfl (lv_at hl 3 rfl) ?_
    refine lv_aload_n hx hb dX1_firstMisfit_8 rfl (lv_at hl 0 rfl) ?_
    refine xg_3_1 hx hb hown hwX1 (hts _ u_91) hK hP dX1_firstMisfit_9 ?_
    refine z_icmp_ge (tgt := 75) hx hb dX1_firstMisfit_12 (by decide) hE (fun hE => ?_) (fun hE => ?_)
    · exact hke x1 x2 σ _ _ _ (lv_sub hl [0, 1, 2] rfl) hP hS hE
    refine lv_iload_n hx hb dX1_firstMisfit_15 rfl (lv_at hl 2 rfl) ?_
    refine lv_aload_n hx hb dX1_firstMisfit_16 rfl (lv_at hl 1 rfl) ?_
    obtain ⟨hj, hE⟩ := z_sg hE
    refine z_goi (wf := xW) hS hE (fun F1 h1 => (va_runV (As := []) (rest := [.int x2]) ⟨hx, hb, hml, hown, hts⟩ (kJ0_length_8abf5 l E hD x1 σ F1 h1) (cwV 0 hts (gU_V u_147 u_148 u_149 u_150 u_151) rfl rfl rfl q_J0_length_8abf5 ⟨Nat.le_of_ble_eq_true rfl, Nat.le_of_ble_eq_true rfl⟩) (z_preVs hK hP hS hj) rfl rfl hl.1 rfl (lv_room (Nat.le_of_ble_eq_true rfl)) dX1_firstMisfit_17 ⟨Nat.le_of_ble_eq_true rfl, Nat.le_of_ble_eq_true rfl⟩)) (fun r_4 σ_3 H locs hP hS hE => ?_)
    refine z_icmp_lt (tgt := 44) hx hb dX1_firstMisfit_20 (by decide) hE (fun hE => ?_) (fun hE => ?_)
    · refine lv_aload_n hx hb dX1_firstMisfit_44 rfl (lv_at hl 1 rfl) ?_
      refine lv_iload_n hx hb dX1_firstMisfit_45 rfl (lv_at hl 2 rfl) ?_
      obtain ⟨hj, hE⟩ := z_sg hE
      refine z_goi (wf := xW) hS hE (fun F1 h1 => (va_runV (As := [.int x2]) (rest := []) ⟨hx, hb, hml, hown, hts⟩ (kJ0_charAt_5068e l E hD x1 x2 σ_3 F1 h1) (cwV 1 hts (gU_V u_166 u_167 u_168 u_150 u_169) rfl rfl rfl q_J0_charAt_5068e ⟨Nat.le_of_ble_eq_true rfl, Nat.le_of_ble_eq_true rfl⟩) (z_preVs hK hP hS hj) rfl rfl hl.1 rfl (lv_room (Nat.le_of_ble_eq_true rfl)) dX1_firstMisfit_46 ⟨Nat.le_of_ble_eq_true rfl, Nat.le_of_ble_eq_true rfl⟩)) (fun r_6 σ_5 H locs hP hS hE => ?_)
      refine lv_aload_n hx hb dX1_firstMisfit_49 rfl (lv_at hl 0 rfl) ?_
      refine xg_3_0 hx hb hown hwX1 (hts _ u_90) hK hP dX1_firstMisfit_50 ?_
      refine lv_iload_n hx hb dX1_firstMisfit_53 rfl (lv_at hl 3 rfl) ?_
      refine xa_12 hx hb hK hP dX1_firstMisfit_54 hE (fun v_7 hE => ?_)
      refine z_goi (wf := xW) hS hE (fun F1 h1 => (va_runS (As := [.int r_6, .int v_7]) (rest := []) ⟨hx, hb, hml, hown, hts⟩ (kX1_fits l E hD r_6 v_7 σ_5 F1 h1) (va_cwS 2 hts (gU_S u_203 u_204 u_27 u_205) rfl rfl rfl q_X1_fits ⟨Nat.le_of_ble_eq_true rfl, Nat.le_of_ble_eq_true rfl⟩) (z_preS hK hP hS) rfl rfl hl.1 rfl (lv_room (Nat.le_of_ble_eq_true rfl)) dX1_firstMisfit_55 ⟨Nat.le_of_ble_eq_true rfl, Nat.le_of_ble_eq_true rfl⟩)) (fun r_9 σ_8 H locs hP hS hE => ?_)
      refine z_if_eq (tgt := 67) hx hb dX1_firstMisfit_58 (by decide) hE (fun hE => ?_) (fun hE => ?_)
      · refine lv_iload_n hx hb dX1_firstMisfit_67 rfl (lv_at hl 3 rfl) ?_
        exact z_iret hx hb hr hlk hP hS dX1_firstMisfit_68 hE
      refine z_iinc hx hb (v := (x2 + 1)) (k := 2) (fun x2_10 => [(2, .int x2_10), (0, .ref (ea E 3)), (1, .ref (eK E x1)), (3, .int x3)]) dX1_firstMisfit_61 hl rfl (by rfl) (by decide) rfl hE (fun x2_10 ls hl hE => ?_)
      refine lv_goto (tgt := 69) hx hb dX1_firstMisfit_64 (by decide) ?_
      refine z_iinc hx hb (v := (x3 + 1)) (k := 3) (fun x3_11 => [(3, .int x3_11), (2, .int x2_10), (0, .ref (ea E 3)), (1, .ref (eK E x1))]) dX1_firstMisfit_69 hl rfl (by rfl) (by decide) rfl hE (fun x3_11 ls hl hE => ?_)
      refine lv_goto (tgt := 7) hx hb dX1_firstMisfit_72 (by decide) ?_
      exact ih x1 x2_10 x3_11 σ_8 _ _ _ (lv_sub hl [2, 3, 1, 0] rfl) hP hS hE
    refine lv_aload_n hx hb dX1_firstMisfit_23 rfl (lv_at hl 0 rfl) ?_
    refine xg_3_0 hx hb hown hwX1 (hts _ u_90) hK hP dX1_firstMisfit_24 ?_
    refine lv_iload_n hx hb dX1_firstMisfit_27 rfl (lv_at hl 3 rfl) ?_
    refine xa_12 hx hb hK hP dX1_firstMisfit_28 hE (fun v_12 hE => ?_)
    refine z_gos (wf := xW) hS hE (fun F1 h1 => (va_runS (As := [.int v_12]) (rest := []) ⟨hx, hb, hml, hown, hts⟩ (kX1_shapeBehind l E hD v_12 σ_3 F1 h1) (va_cwS 1 hts (gU_S u_159 u_160 u_27 u_161) rfl rfl rfl q_X1_shapeBehind ⟨Nat.le_of_ble_eq_true rfl, Nat.le_of_ble_eq_true rfl⟩) (z_preS hK hP hS) rfl rfl hl.1 rfl (lv_room (Nat.le_of_ble_eq_true rfl)) dX1_firstMisfit_29 ⟨Nat.le_of_ble_eq_true rfl, Nat.le_of_ble_eq_true rfl⟩)) (fun r_14 σ_13 H locs hP hS hE => ?_)
    refine lv_astore_n (lv' := [(1, .ref (eK E r_14)), (0, .ref (ea E 3)), (2, .int x2), (3, .int x3)]) hx hb dX1_firstMisfit_32 rfl hl (by decide) rfl (fun ls hl => ?_)
    refine lv_iconst (v := 0) hx hb dX1_firstMisfit_33 (by decide) ?_
    refine z_istore_n hx hb (fun x2_15 => [(2, .int x2_15), (1, .ref (eK E r_14)), (0, .ref (ea E 3)), (3, .int x3)]) dX1_firstMisfit_34 rfl hl (by decide) rfl hE (fun x2_15 ls hl hE => ?_)
    refine lv_aload_n hx hb dX1_firstMisfit_35 rfl (lv_at hl 1 rfl) ?_
    obtain ⟨hj, hE⟩ := z_sg hE
    refine z_goi (wf := xW) hS hE (fun F1 h1 => (va_runV (As := []) (rest := []) ⟨hx, hb, hml, hown, hts⟩ (kJ0_isEmpty_aae02 l E hD r_14 σ_13 F1 h1) (cwV 0 hts (gU_V u_162 u_163 u_164 u_150 u_165) rfl rfl rfl q_J0_isEmpty_aae02 ⟨Nat.le_of_ble_eq_true rfl, Nat.le_of_ble_eq_true rfl⟩) (z_preVs hK hP hS hj) rfl rfl hl.1 rfl (lv_room (Nat.le_of_ble_eq_true rfl)) dX1_firstMisfit_36 ⟨Nat.le_of_ble_eq_true rfl, Nat.le_of_ble_eq_true rfl⟩)) (fun r_17 σ_16 H locs hP hS hE => ?_)
    refine z_if_eq (tgt := 69) hx hb dX1_firstMisfit_39 (by decide) hE (fun hE => ?_) (fun hE => ?_)
    · refine z_iinc hx hb (v := (x3 + 1)) (k := 3) (fun x3_18 => [(3, .int x3_18), (2, .int x2_15), (1, .ref (eK E r_14)), (0, .ref (ea E 3))]) dX1_firstMisfit_69 hl rfl (by rfl) (by decide) rfl hE (fun x3_18 ls hl hE => ?_)
      refine lv_goto (tgt := 7) hx hb dX1_firstMisfit_72 (by decide) ?_
      exact ih r_14 x2_15 x3_18 σ_16 _ _ _ (lv_sub hl [3, 2, 1, 0] rfl) hP hS hE
    refine lv_iload_n hx hb dX1_firstMisfit_42 rfl (lv_at hl 3 rfl) ?_
    exact z_iret hx hb hr hlk hP hS dX1_firstMisfit_43 hE
def fX1_firstMisfit   (σ : ST) : Option (Int32 × ST) :=
  bnd (0 : Int32) (fun x2_1 => bnd (0 : Int32) (fun x3_2 => fX1_firstMisfit_L7 (fun x1_19 x2_20 σ_21 => (if (gI σ_21 2) ≤ 0 then some ((gI σ_21 2), σ_21) else sg x1_19 (cali (fJ0_length_8abf5 x1_19 σ_21) (fun r_23 σ_22 => (if x2_20 < r_23 then some ((gI σ_22 2), σ_22) else some ((-1), σ_22)))))) FU 5 x2_1 x3_2 σ))
set_option maxHeartbeats 4000000 in
set_option maxRecDepth 100000 in
theorem wX1_firstMisfit {p : Program} {l : Launch} {e : Env} {s : State} {m : MethodId} {args : Array Value} {below : List Frame} {meth : Method} {c : Code} {E : EN} (C : zC E xW p s m args meth c cX1_firstMisfit 4 RX1 (some .int) wsL_law) {F : Int32 × ST}    (σ : ST) (H : Heap) (locs : List Loc) (ls : Array Slot) (hl : lv_has ls 4 [(0, .ref (ea E 3))]) (hP : va_P (eD E) vwCl (xW E σ) H) (hS : va_S (eA E) s.heap H locs) (hE : fX1_firstMisfit   σ = some F) : zWi E xW p l e r_X1_firstMisfit s m args below meth c F H locs (F0 m 0 ls []) := by
  obtain ⟨hx, hb, hml, hown, hts, hr, hlk, hK, hD⟩ := id C
  have hwX1 : ∀ w ∈ wsX10, w.before args s = true := fun w h => hts w (inlX1 w h)
  unfold fX1_firstMisfit at hE
  refine va_ldcS hx hb hown (hK.2.2.1 5 (by decide)) dX1_firstMisfit_0 ?_
  refine lv_astore_n (lv' := [(1, .ref (eK E 5)), (0, .ref (ea E 3))]) hx hb dX1_firstMisfit_2 rfl hl (by decide) rfl (fun ls hl => ?_)
  refine lv_iconst (v := 0) hx hb dX1_firstMisfit_3 (by decide) ?_
  refine z_istore_n hx hb (fun x2_1 => [(2, .int x2_1), (1, .ref (eK E 5)), (0, .ref (ea E 3))]) dX1_firstMisfit_4 rfl hl (by decide) rfl hE (fun x2_1 ls hl hE => ?_)
  refine lv_iconst (v := 0) hx hb dX1_firstMisfit_5 (by decide) ?_
  refine z_istore_n hx hb (fun x3_2 => [(3, .int x3_2), (2, .int x2_1), (1, .ref (eK E 5)), (0, .ref (ea E 3))]) dX1_firstMisfit_6 rfl hl (by decide) rfl hE (fun x3_2 ls hl hE => ?_)
  refine wX1_firstMisfit_L7 C ?_ FU 5 x2_1 x3_2 σ _ _ _ (lv_sub hl [3, 2, 1, 0] rfl) hP hS hE
  intro x1_19 x2_20 σ_21 H locs ls hl hP hS hE
  refine lv_aload_n hx hb dX1_firstMisfit_75 rfl (lv_at hl 0 rfl) ?_
  refine xg_3_1 hx hb hown hwX1 (hts _ u_91) hK hP dX1_firstMisfit_76 ?_
  refine z_if_le (tgt := 94) hx hb dX1_firstMisfit_79 (by decide) hE (fun hE => ?_) (fun hE => ?_)
  · refine lv_aload_n hx hb dX1_firstMisfit_94 rfl (lv_at hl 0 rfl) ?_
    refine xg_3_1 hx hb hown hwX1 (hts _ u_91) hK hP dX1_firstMisfit_95 ?_
    exact z_iret hx hb hr hlk hP hS dX1_firstMisfit_98 hE
  refine lv_iload_n hx hb dX1_firstMisfit_82 rfl (lv_at hl 2 rfl) ?_
  refine lv_aload_n hx hb dX1_firstMisfit_83 rfl (lv_at hl 1 rfl) ?_
  obtain ⟨hj, hE⟩ := z_sg hE
  refine z_goi (wf := xW) hS hE (fun F1 h1 => (va_runV (As := []) (rest := [.int x2_20]) ⟨hx, hb, hml, hown, hts⟩ (kJ0_length_8abf5 l E hD x1_19 σ_21 F1 h1) (cwV 0 hts (gU_V u_147 u_148 u_149 u_150 u_151) rfl rfl rfl q_J0_length_8abf5 ⟨Nat.le_of_ble_eq_true rfl, Nat.le_of_ble_eq_true rfl⟩) (z_preVs hK hP hS hj) rfl rfl hl.1 rfl (lv_room (Nat.le_of_ble_eq_true rfl)) dX1_firstMisfit_84 ⟨Nat.le_of_ble_eq_true rfl, Nat.le_of_ble_eq_true rfl⟩)) (fun r_23 σ_22 H locs hP hS hE => ?_)
  refine z_icmp_lt (tgt := 94) hx hb dX1_firstMisfit_87 (by decide) hE (fun hE => ?_) (fun hE => ?_)
  · refine lv_aload_n hx hb dX1_firstMisfit_94 rfl (lv_at hl 0 rfl) ?_
    refine xg_3_1 hx hb hown hwX1 (hts _ u_91) hK hP dX1_firstMisfit_95 ?_
    exact z_iret hx hb hr hlk hP hS dX1_firstMisfit_98 hE
  refine lv_iconst (v := -1) hx hb dX1_firstMisfit_90 (by decide) ?_
  refine lv_goto (tgt := 98) hx hb dX1_firstMisfit_91 (by decide) ?_
  exact z_iret hx hb hr hlk hP hS dX1_firstMisfit_98 hE
theorem kX1_firstMisfit (l : Launch) (E : EN) (hD : ∀ σ, va_D (eA E) (xW E σ))  (σ : ST) (F : Int32 × ST) (hE : fX1_firstMisfit  σ = some F) : Met l yX1_firstMisfit wu_X1_firstMisfit r_X1_firstMisfit (zPc E xW [.ref (ea E 3)] σ) (zQi E xW F) 0 0 (eA E) := by
  refine Met.ofW (cc := cX1_firstMisfit) (maxL := 4) (ret := (some .int)) (by decide) rfl ?_
  intro p e s m args below meth c s₁ B hml hv
  obtain ⟨rfl, hP, hK⟩ := hv
  have hl := lv_entry ([.ref (ea E 3)]) (n := 4) (Nat.le_of_ble_eq_true rfl)
  rw [lg_entry_eq]
  generalize (lg_sl ([.ref (ea E 3)]) ++ List.replicate (4 - (lg_sl ([.ref (ea E 3)])).length) Slot.unset).toArray = ls at hl ⊢
  exact wX1_firstMisfit ⟨B.exec, B.bytes, hml, findClass_of_methodNamed B.named, fun w h => atoms_spec (ws := wu_X1_firstMisfit) B.pre w (List.mem_cons_of_mem _ h), B.returns, B.notSynchronized, hK, hD⟩  σ s.heap [] ls hl hP va_S.rf hE
def fX2_becomeLike_6_4   (σ : ST) : Option (ST) :=
  cpy σ 6 8 0 28 8 0 8 (fun σ_1 => cpy σ_1 7 8 0 29 8 0 8 (fun σ_2 => cpy σ_2 8 8 0 30 8 0 8 (fun σ_3 => cpy σ_3 9 14 0 31 14 0 14 (fun σ_4 => cpy σ_4 10 14 0 32 14 0 14 (fun σ_5 => cpy σ_5 11 14 0 33 14 0 14 (fun σ_6 => cpy σ_6 12 14 0 34 14 0 14 (fun σ_7 => cpy σ_7 13 5 0 35 5 0 5 (fun σ_8 => cpy σ_8 14 5 0 36 5 0 5 (fun σ_9 => cpy σ_9 15 5 0 37 5 0 5 (fun σ_10 => cpy σ_10 16 5 0 38 5 0 5 (fun σ_11 => bnd (sI σ_11 15 (gI σ_11 3)) (fun σ_12 => bnd (sI σ_12 16 (gI σ_12 4)) (fun σ_13 => bnd (sI σ_13 17 (gI σ_13 5)) (fun σ_14 => bnd (sI σ_14 18 (gI σ_14 6)) (fun σ_15 => bnd (sI σ_15 19 (gI σ_15 7)) (fun σ_16 => bnd (sI σ_16 20 (gI σ_16 8)) (fun σ_17 => some σ_17)))))))))))))))))
set_option maxHeartbeats 4000000 in
set_option maxRecDepth 100000 in
theorem wX2_becomeLike_6_4 {p : Program} {l : Launch} {e : Env} {s : State} {m : MethodId} {args : Array Value} {below : List Frame} {meth : Method} {c : Code} {E : EN} (C : zC E xW p s m args meth c cX2_becomeLike 2 RX2 none wsL_law) {F : ST}    (σ : ST) (H : Heap) (locs : List Loc) (ls : Array Slot) (hl : lv_has ls 2 [(0, .ref (ea E 6)), (1, .ref (ea E 4))]) (hP : va_P (eD E) vwCl (xW E σ) H) (hS : va_S (eA E) s.heap H locs) (hE : fX2_becomeLike_6_4   σ = some F) : zWv E xW p l e r_X2_becomeLike s m args below meth c F H locs (F0 m 0 ls []) := by
  obtain ⟨hx, hb, hml, hown, hts, hr, hlk, hK, hD⟩ := id C
  have hwX2 : ∀ w ∈ wsX20, w.before args s = true := fun w h => hts w (inlX2 w h)
  unfold fX2_becomeLike_6_4 at hE
  refine lv_aload_n hx hb dX2_becomeLike_0 rfl (lv_at hl 1 rfl) ?_
  refine xg_4_0 hx hb hown hwX2 (hts _ u_62) hK hP dX2_becomeLike_1 ?_
  refine lv_iconst (v := 0) hx hb dX2_becomeLike_4 (by decide) ?_
  refine lv_aload_n hx hb dX2_becomeLike_5 rfl (lv_at hl 0 rfl) ?_
  refine xg_6_0 hx hb hown hwX2 (hts _ u_62) hK hP dX2_becomeLike_6 ?_
  refine lv_iconst (v := 0) hx hb dX2_becomeLike_9 (by decide) ?_
  refine lv_bipush (v := 8) hx hb dX2_becomeLike_10 (by decide) ?_
  refine xc_13_35 hx hb (hml.trans hl.1.symm) hown (hts _ u_271) (hts _ u_272) (hts _ u_273) (hts _ u_274) hK hD hP hS (Nat.le_of_ble_eq_true rfl) (Nat.le_of_ble_eq_true rfl) dX2_becomeLike_12 hE (fun σ_1 H locs hP hS hE => ?_)
  refine lv_aload_n hx hb dX2_becomeLike_15 rfl (lv_at hl 1 rfl) ?_
  refine xg_4_1 hx hb hown hwX2 (hts _ u_63) hK hP dX2_becomeLike_16 ?_
  refine lv_iconst (v := 0) hx hb dX2_becomeLike_19 (by decide) ?_
  refine lv_aload_n hx hb dX2_becomeLike_20 rfl (lv_at hl 0 rfl) ?_
  refine xg_6_1 hx hb hown hwX2 (hts _ u_63) hK hP dX2_becomeLike_21 ?_
  refine lv_iconst (v := 0) hx hb dX2_becomeLike_24 (by decide) ?_
  refine lv_bipush (v := 8) hx hb dX2_becomeLike_25 (by decide) ?_
  refine xc_14_36 hx hb (hml.trans hl.1.symm) hown (hts _ u_271) (hts _ u_272) (hts _ u_273) (hts _ u_274) hK hD hP hS (Nat.le_of_ble_eq_true rfl) (Nat.le_of_ble_eq_true rfl) dX2_becomeLike_27 hE (fun σ_2 H locs hP hS hE => ?_)
  refine lv_aload_n hx hb dX2_becomeLike_30 rfl (lv_at hl 1 rfl) ?_
  refine xg_4_2 hx hb hown hwX2 (hts _ u_64) hK hP dX2_becomeLike_31 ?_
  refine lv_iconst (v := 0) hx hb dX2_becomeLike_34 (by decide) ?_
  refine lv_aload_n hx hb dX2_becomeLike_35 rfl (lv_at hl 0 rfl) ?_
  refine xg_6_2 hx hb hown hwX2 (hts _ u_64) hK hP dX2_becomeLike_36 ?_
  refine lv_iconst (v := 0) hx hb dX2_becomeLike_39 (by decide) ?_
  refine lv_bipush (v := 8) hx hb dX2_becomeLike_40 (by decide) ?_
  refine xc_15_37 hx hb (hml.trans hl.1.symm) hown (hts _ u_271) (hts _ u_272) (hts _ u_273) (hts _ u_274) hK hD hP hS (Nat.le_of_ble_eq_true rfl) (Nat.le_of_ble_eq_true rfl) dX2_becomeLike_42 hE (fun σ_3 H locs hP hS hE => ?_)
  refine lv_aload_n hx hb dX2_becomeLike_45 rfl (lv_at hl 1 rfl) ?_
  refine xg_4_3 hx hb hown hwX2 (hts _ u_65) hK hP dX2_becomeLike_46 ?_
  refine lv_iconst (v := 0) hx hb dX2_becomeLike_49 (by decide) ?_
  refine lv_aload_n hx hb dX2_becomeLike_50 rfl (lv_at hl 0 rfl) ?_
  refine xg_6_3 hx hb hown hwX2 (hts _ u_65) hK hP dX2_becomeLike_51 ?_
  refine lv_iconst (v := 0) hx hb dX2_becomeLike_54 (by decide) ?_
  refine lv_bipush (v := 14) hx hb dX2_becomeLike_55 (by decide) ?_
  refine xc_16_38 hx hb (hml.trans hl.1.symm) hown (hts _ u_271) (hts _ u_272) (hts _ u_273) (hts _ u_274) hK hD hP hS (Nat.le_of_ble_eq_true rfl) (Nat.le_of_ble_eq_true rfl) dX2_becomeLike_57 hE (fun σ_4 H locs hP hS hE => ?_)
  refine lv_aload_n hx hb dX2_becomeLike_60 rfl (lv_at hl 1 rfl) ?_
  refine xg_4_4 hx hb hown hwX2 (hts _ u_66) hK hP dX2_becomeLike_61 ?_
  refine lv_iconst (v := 0) hx hb dX2_becomeLike_64 (by decide) ?_
  refine lv_aload_n hx hb dX2_becomeLike_65 rfl (lv_at hl 0 rfl) ?_
  refine xg_6_4 hx hb hown hwX2 (hts _ u_66) hK hP dX2_becomeLike_66 ?_
  refine lv_iconst (v := 0) hx hb dX2_becomeLike_69 (by decide) ?_
  refine lv_bipush (v := 14) hx hb dX2_becomeLike_70 (by decide) ?_
  refine xc_17_39 hx hb (hml.trans hl.1.symm) hown (hts _ u_271) (hts _ u_272) (hts _ u_273) (hts _ u_274) hK hD hP hS (Nat.le_of_ble_eq_true rfl) (Nat.le_of_ble_eq_true rfl) dX2_becomeLike_72 hE (fun σ_5 H locs hP hS hE => ?_)
  refine lv_aload_n hx hb dX2_becomeLike_75 rfl (lv_at hl 1 rfl) ?_
  refine xg_4_5 hx hb hown hwX2 (hts _ u_67) hK hP dX2_becomeLike_76 ?_
  refine lv_iconst (v := 0) hx hb dX2_becomeLike_79 (by decide) ?_
  refine lv_aload_n hx hb dX2_becomeLike_80 rfl (lv_at hl 0 rfl) ?_
  refine xg_6_5 hx hb hown hwX2 (hts _ u_67) hK hP dX2_becomeLike_81 ?_
  refine lv_iconst (v := 0) hx hb dX2_becomeLike_84 (by decide) ?_
  refine lv_bipush (v := 14) hx hb dX2_becomeLike_85 (by decide) ?_
  refine xc_18_40 hx hb (hml.trans hl.1.symm) hown (hts _ u_271) (hts _ u_272) (hts _ u_273) (hts _ u_274) hK hD hP hS (Nat.le_of_ble_eq_true rfl) (Nat.le_of_ble_eq_true rfl) dX2_becomeLike_87 hE (fun σ_6 H locs hP hS hE => ?_)
  refine lv_aload_n hx hb dX2_becomeLike_90 rfl (lv_at hl 1 rfl) ?_
  refine xg_4_6 hx hb hown hwX2 (hts _ u_68) hK hP dX2_becomeLike_91 ?_
  refine lv_iconst (v := 0) hx hb dX2_becomeLike_94 (by decide) ?_
  refine lv_aload_n hx hb dX2_becomeLike_95 rfl (lv_at hl 0 rfl) ?_
  refine xg_6_6 hx hb hown hwX2 (hts _ u_68) hK hP dX2_becomeLike_96 ?_
  refine lv_iconst (v := 0) hx hb dX2_becomeLike_99 (by decide) ?_
  refine lv_bipush (v := 14) hx hb dX2_becomeLike_100 (by decide) ?_
  refine xc_19_41 hx hb (hml.trans hl.1.symm) hown (hts _ u_271) (hts _ u_272) (hts _ u_273) (hts _ u_274) hK hD hP hS (Nat.le_of_ble_eq_true rfl) (Nat.le_of_ble_eq_true rfl) dX2_becomeLike_102 hE (fun σ_7 H locs hP hS hE => ?_)
  refine lv_aload_n hx hb dX2_becomeLike_105 rfl (lv_at hl 1 rfl) ?_
  refine xg_4_7 hx hb hown hwX2 (hts _ u_69) hK hP dX2_becomeLike_106 ?_
  refine lv_iconst (v := 0) hx hb dX2_becomeLike_109 (by decide) ?_
  refine lv_aload_n hx hb dX2_becomeLike_110 rfl (lv_at hl 0 rfl) ?_
  refine xg_6_7 hx hb hown hwX2 (hts _ u_69) hK hP dX2_becomeLike_111 ?_
  refine lv_iconst (v := 0) hx hb dX2_becomeLike_114 (by decide) ?_
  refine lv_iconst (v := 5) hx hb dX2_becomeLike_115 (by decide) ?_
  refine xc_20_42 hx hb (hml.trans hl.1.symm) hown (hts _ u_271) (hts _ u_272) (hts _ u_273) (hts _ u_274) hK hD hP hS (Nat.le_of_ble_eq_true rfl) (Nat.le_of_ble_eq_true rfl) dX2_becomeLike_116 hE (fun σ_8 H locs hP hS hE => ?_)
  refine lv_aload_n hx hb dX2_becomeLike_119 rfl (lv_at hl 1 rfl) ?_
  refine xg_4_8 hx hb hown hwX2 (hts _ u_70) hK hP dX2_becomeLike_120 ?_
  refine lv_iconst (v := 0) hx hb dX2_becomeLike_123 (by decide) ?_
  refine lv_aload_n hx hb dX2_becomeLike_124 rfl (lv_at hl 0 rfl) ?_
  refine xg_6_8 hx hb hown hwX2 (hts _ u_70) hK hP dX2_becomeLike_125 ?_
  refine lv_iconst (v := 0) hx hb dX2_becomeLike_128 (by decide) ?_
  refine lv_iconst (v := 5) hx hb dX2_becomeLike_129 (by decide) ?_
  refine xc_21_43 hx hb (hml.trans hl.1.symm) hown (hts _ u_271) (hts _ u_272) (hts _ u_273) (hts _ u_274) hK hD hP hS (Nat.le_of_ble_eq_true rfl) (Nat.le_of_ble_eq_true rfl) dX2_becomeLike_130 hE (fun σ_9 H locs hP hS hE => ?_)
  refine lv_aload_n hx hb dX2_becomeLike_133 rfl (lv_at hl 1 rfl) ?_
  refine xg_4_9 hx hb hown hwX2 (hts _ u_71) hK hP dX2_becomeLike_134 ?_
  refine lv_iconst (v := 0) hx hb dX2_becomeLike_137 (by decide) ?_
  refine lv_aload_n hx hb dX2_becomeLike_138 rfl (lv_at hl 0 rfl) ?_
  refine xg_6_9 hx hb hown hwX2 (hts _ u_71) hK hP dX2_becomeLike_139 ?_
  refine lv_iconst (v := 0) hx hb dX2_becomeLike_142 (by decide) ?_
  refine lv_iconst (v := 5) hx hb dX2_becomeLike_143 (by decide) ?_
  refine xc_22_44 hx hb (hml.trans hl.1.symm) hown (hts _ u_271) (hts _ u_272) (hts _ u_273) (hts _ u_274) hK hD hP hS (Nat.le_of_ble_eq_true rfl) (Nat.le_of_ble_eq_true rfl) dX2_becomeLike_144 hE (fun σ_10 H locs hP hS hE => ?_)
  refine lv_aload_n hx hb dX2_becomeLike_147 rfl (lv_at hl 1 rfl) ?_
  refine xg_4_10 hx hb hown hwX2 (hts _ u_72) hK hP dX2_becomeLike_148 ?_
  refine lv_iconst (v := 0) hx hb dX2_becomeLike_151 (by decide) ?_
  refine lv_aload_n hx hb dX2_becomeLike_152 rfl (lv_at hl 0 rfl) ?_
  refine xg_6_10 hx hb hown hwX2 (hts _ u_72) hK hP dX2_becomeLike_153 ?_
  refine lv_iconst (v := 0) hx hb dX2_becomeLike_156 (by decide) ?_
  refine lv_iconst (v := 5) hx hb dX2_becomeLike_157 (by decide) ?_
  refine xc_23_45 hx hb (hml.trans hl.1.symm) hown (hts _ u_271) (hts _ u_272) (hts _ u_273) (hts _ u_274) hK hD hP hS (Nat.le_of_ble_eq_true rfl) (Nat.le_of_ble_eq_true rfl) dX2_becomeLike_158 hE (fun σ_11 H locs hP hS hE => ?_)
  refine lv_aload_n hx hb dX2_becomeLike_161 rfl (lv_at hl 0 rfl) ?_
  refine lv_aload_n hx hb dX2_becomeLike_162 rfl (lv_at hl 1 rfl) ?_
  refine xg_4_11 hx hb hown hwX2 (hts _ u_73) hK hP dX2_becomeLike_163 ?_
  refine xp_6_11 hx hb hown hwX2 (hts _ u_73) hK hD hP hS dX2_becomeLike_166 hE (fun σ_12 H locs hP hS hE => ?_)
  refine lv_aload_n hx hb dX2_becomeLike_169 rfl (lv_at hl 0 rfl) ?_
  refine lv_aload_n hx hb dX2_becomeLike_170 rfl (lv_at hl 1 rfl) ?_
  refine xg_4_12 hx hb hown hwX2 (hts _ u_74) hK hP dX2_becomeLike_171 ?_
  refine xp_6_12 hx hb hown hwX2 (hts _ u_74) hK hD hP hS dX2_becomeLike_174 hE (fun σ_13 H locs hP hS hE => ?_)
  refine lv_aload_n hx hb dX2_becomeLike_177 rfl (lv_at hl 0 rfl) ?_
  refine lv_aload_n hx hb dX2_becomeLike_178 rfl (lv_at hl 1 rfl) ?_
  refine xg_4_13 hx hb hown hwX2 (hts _ u_75) hK hP dX2_becomeLike_179 ?_
  refine xp_6_13 hx hb hown hwX2 (hts _ u_75) hK hD hP hS dX2_becomeLike_182 hE (fun σ_14 H locs hP hS hE => ?_)
  refine lv_aload_n hx hb dX2_becomeLike_185 rfl (lv_at hl 0 rfl) ?_
  refine lv_aload_n hx hb dX2_becomeLike_186 rfl (lv_at hl 1 rfl) ?_
  refine xg_4_14 hx hb hown hwX2 (hts _ u_76) hK hP dX2_becomeLike_187 ?_
  refine xp_6_14 hx hb hown hwX2 (hts _ u_76) hK hD hP hS dX2_becomeLike_190 hE (fun σ_15 H locs hP hS hE => ?_)
  refine lv_aload_n hx hb dX2_becomeLike_193 rfl (lv_at hl 0 rfl) ?_
  refine lv_aload_n hx hb dX2_becomeLike_194 rfl (lv_at hl 1 rfl) ?_
  refine xg_4_15 hx hb hown hwX2 (hts _ u_77) hK hP dX2_becomeLike_195 ?_
  refine xp_6_15 hx hb hown hwX2 (hts _ u_77) hK hD hP hS dX2_becomeLike_198 hE (fun σ_16 H locs hP hS hE => ?_)
  refine lv_aload_n hx hb dX2_becomeLike_201 rfl (lv_at hl 0 rfl) ?_
  refine lv_aload_n hx hb dX2_becomeLike_202 rfl (lv_at hl 1 rfl) ?_
  refine xg_4_16 hx hb hown hwX2 (hts _ u_78) hK hP dX2_becomeLike_203 ?_
  refine xp_6_16 hx hb hown hwX2 (hts _ u_78) hK hD hP hS dX2_becomeLike_206 hE (fun σ_17 H locs hP hS hE => ?_)
  exact z_vret hx hb hr hlk hP hS dX2_becomeLike_209 hE
theorem kX2_becomeLike_6_4 (l : Launch) (E : EN) (hD : ∀ σ, va_D (eA E) (xW E σ))  (σ : ST) (F : ST) (hE : fX2_becomeLike_6_4  σ = some F) : Met l yX2_becomeLike wu_X2_becomeLike r_X2_becomeLike (zPc E xW [.ref (ea E 6), .ref (ea E 4)] σ) (zQv E xW F) 0 0 (eA E) := by
  refine Met.ofW (cc := cX2_becomeLike) (maxL := 2) (ret := none) (by decide) rfl ?_
  intro p e s m args below meth c s₁ B hml hv
  obtain ⟨rfl, hP, hK⟩ := hv
  have hl := lv_entry ([.ref (ea E 6), .ref (ea E 4)]) (n := 2) (Nat.le_of_ble_eq_true rfl)
  rw [lg_entry_eq]
  generalize (lg_sl ([.ref (ea E 6), .ref (ea E 4)]) ++ List.replicate (2 - (lg_sl ([.ref (ea E 6), .ref (ea E 4)])).length) Slot.unset).toArray = ls at hl ⊢
  exact wX2_becomeLike_6_4 ⟨B.exec, B.bytes, hml, findClass_of_methodNamed B.named, fun w h => atoms_spec (ws := wu_X2_becomeLike) B.pre w (List.mem_cons_of_mem _ h), B.returns, B.notSynchronized, hK, hD⟩  σ s.heap [] ls hl hP va_S.rf hE
def fX1_number_L5 (ke : Int32 → ST → Option (Int32 × ST)) : Nat → Int32 → Int32 → Int32 → Int32 → ST → Option (Int32 × ST)
  | 0, _, _, _, _, _ => none
  | n + 1, x1, x2, x3, x4, σ => (if (x1 + x2) ≤ x4 then ke x3 σ else (if (gI σ 2) ≤ x4 then ke x3 σ else ald (gA σ 5) 96 x4 (fun v_3 => bnd ((((10 * x3) + v_3) - 48) : Int32) (fun x3_4 => bnd (x4 + 1) (fun x4_5 => fX1_number_L5 ke n x1 x2 x3_4 x4_5 σ)))))
set_option maxHeartbeats 4000000 in
set_option maxRecDepth 100000 in
theorem wX1_number_L5 {p : Program} {l : Launch} {e : Env} {s : State} {m : MethodId} {args : Array Value} {below : List Frame} {meth : Method} {c : Code} {E : EN} (C : zC E xW p s m args meth c cX1_number 5 RX1 (some .int) wsL_law) {F : Int32 × ST} {ke : Int32 → ST → Option (Int32 × ST)} (hke : ∀ (x3 : Int32) (σ : ST) (H : Heap) (locs : List Loc) (ls : Array Slot), lv_has ls 5 [(3, .int x3)] → va_P (eD E) vwCl (xW E σ) H → va_S (eA E) s.heap H locs → ke x3 σ = some F → zWi E xW p l e r_X1_number s m args below meth c F H locs (F0 m 44 ls [])) : ∀ (n : Nat) (x1 : Int32) (x2 : Int32) (x3 : Int32) (x4 : Int32) (σ : ST) (H : Heap) (locs : List Loc) (ls : Array Slot), lv_has ls 5 [(0, .ref (ea E 3)), (1, .int x1), (2, .int x2), (3, .int x3), (4, .int x4)] → va_P (eD E) vwCl (xW E σ) H → va_S (eA E) s.heap H locs → fX1_number_L5 ke n x1 x2 x3 x4 σ = some F → zWi E xW p l e r_X1_number s m args below meth c F H locs (F0 m 5 ls []) := by
  obtain ⟨hx, hb, hml, hown, hts, hr, hlk, hK, hD⟩ := id C
  have hwX1 : ∀ w ∈ wsX10, w.before args s = true := fun w h => hts w (inlX1 w h)
  intro n
  induction n with
  | zero => intro x1 x2 x3 x4 σ H locs ls hl hP hS hE; rw [fX1_number_L5] at hE; cases hE
  | succ n ih =>
    intro x1 x2 x3 x4 σ H locs ls hl hP hS hE
    rw [fX1_number_L5] at hE
    refine lv_iload hx hb dX1_number_5 (lv_at hl 4 rfl) ?_
    refine lv_iload_n hx hb dX1_number_7 rfl (lv_at hl 1 rfl) ?_
    refine lv_iload_n hx hb dX1_number_8 rfl (lv_at hl 2 rfl) ?_
    refine lv_iadd hx hb dX1_number_9 ?_
    refine z_icmp_ge (tgt := 44) hx hb dX1_number_10 (by decide) hE (fun hE => ?_) (fun hE => ?_)
    · exact hke x3 σ _ _ _ (lv_sub hl [3] rfl) hP hS hE
    refine lv_iload hx hb dX1_number_13 (lv_at hl 4 rfl) ?_
    refine lv_aload_n hx hb dX1_number_15 rfl (lv_at hl 0 rfl) ?_
    refine xg_3_1 hx hb hown hwX1 (hts _ u_91) hK hP dX1_number_16 ?_
    refine z_icmp_ge (tgt := 44) hx hb dX1_number_19 (by decide) hE (fun hE => ?_) (fun hE => ?_)
    · exact hke x3 σ _ _ _ (lv_sub hl [3] rfl) hP hS hE
    refine lv_bipush (v := 10) hx hb dX1_number_22 (by decide) ?_
    refine lv_iload_n hx hb dX1_number_24 rfl (lv_at hl 3 rfl) ?_
    refine lv_imul hx hb dX1_number_25 ?_
    refine lv_aload_n hx hb dX1_number_26 rfl (lv_at hl 0 rfl) ?_
    refine xg_3_0 hx hb hown hwX1 (hts _ u_90) hK hP dX1_number_27 ?_
    refine lv_iload hx hb dX1_number_30 (lv_at hl 4 rfl) ?_
    refine xa_12 hx hb hK hP dX1_number_32 hE (fun v_3 hE => ?_)
    refine lv_iadd hx hb dX1_number_33 ?_
    refine lv_bipush (v := 48) hx hb dX1_number_34 (by decide) ?_
    refine lv_isub hx hb dX1_number_36 ?_
    refine z_istore_n hx hb (fun x3_4 => [(3, .int x3_4), (0, .ref (ea E 3)), (1, .int x1), (2, .int x2), (4, .int x4)]) dX1_number_37 rfl hl (by decide) rfl hE (fun x3_4 ls hl hE => ?_)
    refine z_iinc hx hb (v := (x4 + 1)) (k := 4) (fun x4_5 => [(4, .int x4_5), (3, .int x3_4), (0, .ref (ea E 3)), (1, .int x1), (2, .int x2)]) dX1_number_38 hl rfl (by rfl) (by decide) rfl hE (fun x4_5 ls hl hE => ?_)
    refine lv_goto (tgt := 5) hx hb dX1_number_41 (by decide) ?_
    exact ih x1 x2 x3_4 x4_5 σ _ _ _ (lv_sub hl [2, 3, 4, 1, 0] rfl) hP hS hE
def fX1_number  (x1 : Int32) (x2 : Int32) (σ : ST) : Option (Int32 × ST) :=
  bnd (0 : Int32) (fun x3_1 => bnd (x1 : Int32) (fun x4_2 => fX1_number_L5 (fun x3_6 σ_7 => some (x3_6, σ_7)) FU x1 x2 x3_1 x4_2 σ))
set_option maxHeartbeats 4000000 in
set_option maxRecDepth 100000 in
theorem wX1_number {p : Program} {l : Launch} {e : Env} {s : State} {m : MethodId} {args : Array Value} {below : List Frame} {meth : Method} {c : Code} {E : EN} (C : zC E xW p s m args meth c cX1_number 5 RX1 (some .int) wsL_law) {F : Int32 × ST}   (x1 : Int32) (x2 : Int32) (σ : ST) (H : Heap) (locs : List Loc) (ls : Array Slot) (hl : lv_has ls 5 [(0, .ref (ea E 3)), (1, .int x1), (2, .int x2)]) (hP : va_P (eD E) vwCl (xW E σ) H) (hS : va_S (eA E) s.heap H locs) (hE : fX1_number  x1 x2 σ = some F) : zWi E xW p l e r_X1_number s m args below meth c F H locs (F0 m 0 ls []) := by
  obtain ⟨hx, hb, hml, hown, hts, hr, hlk, hK, hD⟩ := id C
  unfold fX1_number at hE
  refine lv_iconst (v := 0) hx hb dX1_number_0 (by decide) ?_
  refine z_istore_n hx hb (fun x3_1 => [(3, .int x3_1), (0, .ref (ea E 3)), (1, .int x1), (2, .int x2)]) dX1_number_1 rfl hl (by decide) rfl hE (fun x3_1 ls hl hE => ?_)
  refine lv_iload_n hx hb dX1_number_2 rfl (lv_at hl 2 rfl) ?_
  refine z_istore hx hb (fun x4_2 => [(4, .int x4_2), (3, .int x3_1), (0, .ref (ea E 3)), (1, .int x1), (2, .int x2)]) dX1_number_3 hl (by decide) rfl hE (fun x4_2 ls hl hE => ?_)
  refine wX1_number_L5 C ?_ FU x1 x2 x3_1 x4_2 σ _ _ _ (lv_sub hl [2, 3, 4, 1, 0] rfl) hP hS hE
  intro x3_6 σ_7 H locs ls hl hP hS hE
  refine lv_iload_n hx hb dX1_number_44 rfl (lv_at hl 0 rfl) ?_
  exact z_iret hx hb hr hlk hP hS dX1_number_45 hE
theorem kX1_number (l : Launch) (E : EN) (hD : ∀ σ, va_D (eA E) (xW E σ)) (x1 : Int32) (x2 : Int32) (σ : ST) (F : Int32 × ST) (hE : fX1_number x1 x2 σ = some F) : Met l yX1_number wu_X1_number r_X1_number (zPc E xW [.ref (ea E 3), .int x1, .int x2] σ) (zQi E xW F) 0 0 (eA E) := by
  refine Met.ofW (cc := cX1_number) (maxL := 5) (ret := (some .int)) (by decide) rfl ?_
  intro p e s m args below meth c s₁ B hml hv
  obtain ⟨rfl, hP, hK⟩ := hv
  have hl := lv_entry ([.ref (ea E 3), .int x1, .int x2]) (n := 5) (Nat.le_of_ble_eq_true rfl)
  rw [lg_entry_eq]
  generalize (lg_sl ([.ref (ea E 3), .int x1, .int x2]) ++ List.replicate (5 - (lg_sl ([.ref (ea E 3), .int x1, .int x2])).length) Slot.unset).toArray = ls at hl ⊢
  exact wX1_number ⟨B.exec, B.bytes, hml, findClass_of_methodNamed B.named, fun w h => atoms_spec (ws := wu_X1_number) B.pre w (List.mem_cons_of_mem _ h), B.returns, B.notSynchronized, hK, hD⟩ x1 x2 σ s.heap [] ls hl hP va_S.rf hE
def fX2_takeDriver_6  (x1 : Int32) (σ : ST) : Option (Int32 × ST) :=
  (if x1 ≤ 5 then bnd (sI σ 20 x1) (fun σ_1 => some (1, σ_1)) else some (0, σ))
set_option maxHeartbeats 4000000 in
set_option maxRecDepth 100000 in
theorem wX2_takeDriver_6 {p : Program} {l : Launch} {e : Env} {s : State} {m : MethodId} {args : Array Value} {below : List Frame} {meth : Method} {c : Code} {E : EN} (C : zC E xW p s m args meth c cX2_takeDriver 2 RX2 (some .boolean) wsL_law) {F : Int32 × ST}   (x1 : Int32) (σ : ST) (H : Heap) (locs : List Loc) (ls : Array Slot) (hl : lv_has ls 2 [(0, .ref (ea E 6)), (1, .int x1)]) (hP : va_P (eD E) vwCl (xW E σ) H) (hS : va_S (eA E) s.heap H locs) (hE : fX2_takeDriver_6  x1 σ = some F) : zWi E xW p l e r_X2_takeDriver s m args below meth c F H locs (F0 m 0 ls []) := by
  obtain ⟨hx, hb, hml, hown, hts, hr, hlk, hK, hD⟩ := id C
  have hwX2 : ∀ w ∈ wsX20, w.before args s = true := fun w h => hts w (inlX2 w h)
  unfold fX2_takeDriver_6 at hE
  refine lv_iload_n hx hb dX2_takeDriver_0 rfl (lv_at hl 1 rfl) ?_
  refine lv_iconst (v := 5) hx hb dX2_takeDriver_1 (by decide) ?_
  refine z_icmp_le (tgt := 7) hx hb dX2_takeDriver_2 (by decide) hE (fun hE => ?_) (fun hE => ?_)
  · refine lv_aload_n hx hb dX2_takeDriver_7 rfl (lv_at hl 0 rfl) ?_
    refine lv_iload_n hx hb dX2_takeDriver_8 rfl (lv_at hl 1 rfl) ?_
    refine xp_6_16 hx hb hown hwX2 (hts _ u_78) hK hD hP hS dX2_takeDriver_9 hE (fun σ_1 H locs hP hS hE => ?_)
    refine lv_iconst (v := 1) hx hb dX2_takeDriver_12 (by decide) ?_
    exact z_zret hx hb hr hlk rfl hP hS dX2_takeDriver_13 hE
  refine lv_iconst (v := 0) hx hb dX2_takeDriver_5 (by decide) ?_
  exact z_zret hx hb hr hlk rfl hP hS dX2_takeDriver_6 hE
theorem kX2_takeDriver_6 (l : Launch) (E : EN) (hD : ∀ σ, va_D (eA E) (xW E σ)) (x1 : Int32) (σ : ST) (F : Int32 × ST) (hE : fX2_takeDriver_6 x1 σ = some F) : Met l yX2_takeDriver wu_X2_takeDriver r_X2_takeDriver (zPc E xW [.ref (ea E 6), .int x1] σ) (zQi E xW F) 0 0 (eA E) := by
  refine Met.ofW (cc := cX2_takeDriver) (maxL := 2) (ret := (some .boolean)) (by decide) rfl ?_
  intro p e s m args below meth c s₁ B hml hv
  obtain ⟨rfl, hP, hK⟩ := hv
  have hl := lv_entry ([.ref (ea E 6), .int x1]) (n := 2) (Nat.le_of_ble_eq_true rfl)
  rw [lg_entry_eq]
  generalize (lg_sl ([.ref (ea E 6), .int x1]) ++ List.replicate (2 - (lg_sl ([.ref (ea E 6), .int x1])).length) Slot.unset).toArray = ls at hl ⊢
  exact wX2_takeDriver_6 ⟨B.exec, B.bytes, hml, findClass_of_methodNamed B.named, fun w h => atoms_spec (ws := wu_X2_takeDriver) B.pre w (List.mem_cons_of_mem _ h), B.returns, B.notSynchronized, hK, hD⟩ x1 σ s.heap [] ls hl hP va_S.rf hE
def fX2_addErrand_6  (x1 : Int32) (x2 : Int32) (x3 : Int32) (x4 : Int32) (σ : ST) : Option (Int32 × ST) :=
  (if 5 ≤ (gI σ 17) then some (0, σ) else (if (gI σ 15) ≤ x1 then some (0, σ) else (if x2 < 1 then some (0, σ) else (if x2 ≤ 60 then ast σ 35 5 (gI σ 17) x1 (fun σ_1 => ast σ_1 36 5 (gI σ_1 17) x2 (fun σ_2 => ast σ_2 37 5 (gI σ_2 17) x3 (fun σ_3 => ast σ_3 38 5 (gI σ_3 17) x4 (fun σ_4 => bnd (sI σ_4 17 ((gI σ_4 17) + 1)) (fun σ_5 => some (1, σ_5)))))) else some (0, σ)))))
set_option maxHeartbeats 4000000 in
set_option maxRecDepth 100000 in
theorem wX2_addErrand_6 {p : Program} {l : Launch} {e : Env} {s : State} {m : MethodId} {args : Array Value} {below : List Frame} {meth : Method} {c : Code} {E : EN} (C : zC E xW p s m args meth c cX2_addErrand 5 RX2 (some .boolean) wsL_law) {F : Int32 × ST}   (x1 : Int32) (x2 : Int32) (x3 : Int32) (x4 : Int32) (σ : ST) (H : Heap) (locs : List Loc) (ls : Array Slot) (hl : lv_has ls 5 [(0, .ref (ea E 6)), (1, .int x1), (2, .int x2), (3, .int x3), (4, .int x4)]) (hP : va_P (eD E) vwCl (xW E σ) H) (hS : va_S (eA E) s.heap H locs) (hE : fX2_addErrand_6  x1 x2 x3 x4 σ = some F) : zWi E xW p l e r_X2_addErrand s m args below meth c F H locs (F0 m 0 ls []) := by
  obtain ⟨hx, hb, hml, hown, hts, hr, hlk, hK, hD⟩ := id C
  have hwX2 : ∀ w ∈ wsX20, w.before args s = true := fun w h => hts w (inlX2 w h)
  unfold fX2_addErrand_6 at hE
  refine lv_aload_n hx hb dX2_addErrand_0 rfl (lv_at hl 0 rfl) ?_
  refine xg_6_13 hx hb hown hwX2 (hts _ u_75) hK hP dX2_addErrand_1 ?_
  refine lv_iconst (v := 5) hx hb dX2_addErrand_4 (by decide) ?_
  refine z_icmp_ge (tgt := 27) hx hb dX2_addErrand_5 (by decide) hE (fun hE => ?_) (fun hE => ?_)
  · refine lv_iconst (v := 0) hx hb dX2_addErrand_27 (by decide) ?_
    exact z_zret hx hb hr hlk rfl hP hS dX2_addErrand_28 hE
  refine lv_iload_n hx hb dX2_addErrand_8 rfl (lv_at hl 1 rfl) ?_
  refine lv_aload_n hx hb dX2_addErrand_9 rfl (lv_at hl 0 rfl) ?_
  refine xg_6_11 hx hb hown hwX2 (hts _ u_73) hK hP dX2_addErrand_10 ?_
  refine z_icmp_ge (tgt := 27) hx hb dX2_addErrand_13 (by decide) hE (fun hE => ?_) (fun hE => ?_)
  · refine lv_iconst (v := 0) hx hb dX2_addErrand_27 (by decide) ?_
    exact z_zret hx hb hr hlk rfl hP hS dX2_addErrand_28 hE
  refine lv_iload_n hx hb dX2_addErrand_16 rfl (lv_at hl 2 rfl) ?_
  refine lv_iconst (v := 1) hx hb dX2_addErrand_17 (by decide) ?_
  refine z_icmp_lt (tgt := 27) hx hb dX2_addErrand_18 (by decide) hE (fun hE => ?_) (fun hE => ?_)
  · refine lv_iconst (v := 0) hx hb dX2_addErrand_27 (by decide) ?_
    exact z_zret hx hb hr hlk rfl hP hS dX2_addErrand_28 hE
  refine lv_iload_n hx hb dX2_addErrand_21 rfl (lv_at hl 2 rfl) ?_
  refine lv_bipush (v := 60) hx hb dX2_addErrand_22 (by decide) ?_
  refine z_icmp_le (tgt := 29) hx hb dX2_addErrand_24 (by decide) hE (fun hE => ?_) (fun hE => ?_)
  · refine lv_aload_n hx hb dX2_addErrand_29 rfl (lv_at hl 0 rfl) ?_
    refine xg_6_7 hx hb hown hwX2 (hts _ u_69) hK hP dX2_addErrand_30 ?_
    refine lv_aload_n hx hb dX2_addErrand_33 rfl (lv_at hl 0 rfl) ?_
    refine xg_6_13 hx hb hown hwX2 (hts _ u_75) hK hP dX2_addErrand_34 ?_
    refine lv_iload_n hx hb dX2_addErrand_37 rfl (lv_at hl 1 rfl) ?_
    refine xs_42 hx hb hK hD hP hS dX2_addErrand_38 hE (fun σ_1 H locs hP hS hE => ?_)
    refine lv_aload_n hx hb dX2_addErrand_39 rfl (lv_at hl 0 rfl) ?_
    refine xg_6_8 hx hb hown hwX2 (hts _ u_70) hK hP dX2_addErrand_40 ?_
    refine lv_aload_n hx hb dX2_addErrand_43 rfl (lv_at hl 0 rfl) ?_
    refine xg_6_13 hx hb hown hwX2 (hts _ u_75) hK hP dX2_addErrand_44 ?_
    refine lv_iload_n hx hb dX2_addErrand_47 rfl (lv_at hl 2 rfl) ?_
    refine xs_43 hx hb hK hD hP hS dX2_addErrand_48 hE (fun σ_2 H locs hP hS hE => ?_)
    refine lv_aload_n hx hb dX2_addErrand_49 rfl (lv_at hl 0 rfl) ?_
    refine xg_6_9 hx hb hown hwX2 (hts _ u_71) hK hP dX2_addErrand_50 ?_
    refine lv_aload_n hx hb dX2_addErrand_53 rfl (lv_at hl 0 rfl) ?_
    refine xg_6_13 hx hb hown hwX2 (hts _ u_75) hK hP dX2_addErrand_54 ?_
    refine lv_iload_n hx hb dX2_addErrand_57 rfl (lv_at hl 3 rfl) ?_
    refine xs_44 hx hb hK hD hP hS dX2_addErrand_58 hE (fun σ_3 H locs hP hS hE => ?_)
    refine lv_aload_n hx hb dX2_addErrand_59 rfl (lv_at hl 0 rfl) ?_
    refine xg_6_10 hx hb hown hwX2 (hts _ u_72) hK hP dX2_addErrand_60 ?_
    refine lv_aload_n hx hb dX2_addErrand_63 rfl (lv_at hl 0 rfl) ?_
    refine xg_6_13 hx hb hown hwX2 (hts _ u_75) hK hP dX2_addErrand_64 ?_
    refine lv_iload hx hb dX2_addErrand_67 (lv_at hl 4 rfl) ?_
    refine xs_45 hx hb hK hD hP hS dX2_addErrand_69 hE (fun σ_4 H locs hP hS hE => ?_)
    refine lv_aload_n hx hb dX2_addErrand_70 rfl (lv_at hl 0 rfl) ?_
    refine lv_dup hx hb dX2_addErrand_71 rfl ?_
    refine xg_6_13 hx hb hown hwX2 (hts _ u_75) hK hP dX2_addErrand_72 ?_
    refine lv_iconst (v := 1) hx hb dX2_addErrand_75 (by decide) ?_
    refine lv_iadd hx hb dX2_addErrand_76 ?_
    refine xp_6_13 hx hb hown hwX2 (hts _ u_75) hK hD hP hS dX2_addErrand_77 hE (fun σ_5 H locs hP hS hE => ?_)
    refine lv_iconst (v := 1) hx hb dX2_addErrand_80 (by decide) ?_
    exact z_zret hx hb hr hlk rfl hP hS dX2_addErrand_81 hE
  refine lv_iconst (v := 0) hx hb dX2_addErrand_27 (by decide) ?_
  exact z_zret hx hb hr hlk rfl hP hS dX2_addErrand_28 hE
theorem kX2_addErrand_6 (l : Launch) (E : EN) (hD : ∀ σ, va_D (eA E) (xW E σ)) (x1 : Int32) (x2 : Int32) (x3 : Int32) (x4 : Int32) (σ : ST) (F : Int32 × ST) (hE : fX2_addErrand_6 x1 x2 x3 x4 σ = some F) : Met l yX2_addErrand wu_X2_addErrand r_X2_addErrand (zPc E xW [.ref (ea E 6), .int x1, .int x2, .int x3, .int x4] σ) (zQi E xW F) 0 0 (eA E) := by
  refine Met.ofW (cc := cX2_addErrand) (maxL := 5) (ret := (some .boolean)) (by decide) rfl ?_
  intro p e s m args below meth c s₁ B hml hv
  obtain ⟨rfl, hP, hK⟩ := hv
  have hl := lv_entry ([.ref (ea E 6), .int x1, .int x2, .int x3, .int x4]) (n := 5) (Nat.le_of_ble_eq_true rfl)
  rw [lg_entry_eq]
  generalize (lg_sl ([.ref (ea E 6), .int x1, .int x2, .int x3, .int x4]) ++ List.replicate (5 - (lg_sl ([.ref (ea E 6), .int x1, .int x2, .int x3, .int x4])).length) Slot.unset).toArray = ls at hl ⊢
  exact wX2_addErrand_6 ⟨B.exec, B.bytes, hml, findClass_of_methodNamed B.named, fun w h => atoms_spec (ws := wu_X2_addErrand) B.pre w (List.mem_cons_of_mem _ h), B.returns, B.notSynchronized, hK, hD⟩ x1 x2 x3 x4 σ s.heap [] ls hl hP va_S.rf hE
def fX2_useFuel_6  (x1 : Int32) (x2 : Int32) (σ : ST) : Option (Int32 × ST) :=
  (if x2 ≤ 60 then bnd (sI σ 18 x1) (fun σ_1 => bnd (sI σ_1 19 x2) (fun σ_2 => some (1, σ_2))) else some (0, σ))
set_option maxHeartbeats 4000000 in
set_option maxRecDepth 100000 in
theorem wX2_useFuel_6 {p : Program} {l : Launch} {e : Env} {s : State} {m : MethodId} {args : Array Value} {below : List Frame} {meth : Method} {c : Code} {E : EN} (C : zC E xW p s m args meth c cX2_useFuel 3 RX2 (some .boolean) wsL_law) {F : Int32 × ST}   (x1 : Int32) (x2 : Int32) (σ : ST) (H : Heap) (locs : List Loc) (ls : Array Slot) (hl : lv_has ls 3 [(0, .ref (ea E 6)), (1, .int x1), (2, .int x2)]) (hP : va_P (eD E) vwCl (xW E σ) H) (hS : va_S (eA E) s.heap H locs) (hE : fX2_useFuel_6  x1 x2 σ = some F) : zWi E xW p l e r_X2_useFuel s m args below meth c F H locs (F0 m 0 ls []) := by
  obtain ⟨hx, hb, hml, hown, hts, hr, hlk, hK, hD⟩ := id C
  have hwX2 : ∀ w ∈ wsX20, w.before args s = true := fun w h => hts w (inlX2 w h)
  unfold fX2_useFuel_6 at hE
  refine lv_iload_n hx hb dX2_useFuel_0 rfl (lv_at hl 2 rfl) ?_
  refine lv_bipush (v := 60) hx hb dX2_useFuel_1 (by decide) ?_
  refine z_icmp_le (tgt := 8) hx hb dX2_useFuel_3 (by decide) hE (fun hE => ?_) (fun hE => ?_)
  · refine lv_aload_n hx hb dX2_useFuel_8 rfl (lv_at hl 0 rfl) ?_
    refine lv_iload_n hx hb dX2_useFuel_9 rfl (lv_at hl 1 rfl) ?_
    refine xp_6_14 hx hb hown hwX2 (hts _ u_76) hK hD hP hS dX2_useFuel_10 hE (fun σ_1 H locs hP hS hE => ?_)
    refine lv_aload_n hx hb dX2_useFuel_13 rfl (lv_at hl 0 rfl) ?_
    refine lv_iload_n hx hb dX2_useFuel_14 rfl (lv_at hl 2 rfl) ?_
    refine xp_6_15 hx hb hown hwX2 (hts _ u_77) hK hD hP hS dX2_useFuel_15 hE (fun σ_2 H locs hP hS hE => ?_)
    refine lv_iconst (v := 1) hx hb dX2_useFuel_18 (by decide) ?_
    exact z_zret hx hb hr hlk rfl hP hS dX2_useFuel_19 hE
  refine lv_iconst (v := 0) hx hb dX2_useFuel_6 (by decide) ?_
  exact z_zret hx hb hr hlk rfl hP hS dX2_useFuel_7 hE
theorem kX2_useFuel_6 (l : Launch) (E : EN) (hD : ∀ σ, va_D (eA E) (xW E σ)) (x1 : Int32) (x2 : Int32) (σ : ST) (F : Int32 × ST) (hE : fX2_useFuel_6 x1 x2 σ = some F) : Met l yX2_useFuel wu_X2_useFuel r_X2_useFuel (zPc E xW [.ref (ea E 6), .int x1, .int x2] σ) (zQi E xW F) 0 0 (eA E) := by
  refine Met.ofW (cc := cX2_useFuel) (maxL := 3) (ret := (some .boolean)) (by decide) rfl ?_
  intro p e s m args below meth c s₁ B hml hv
  obtain ⟨rfl, hP, hK⟩ := hv
  have hl := lv_entry ([.ref (ea E 6), .int x1, .int x2]) (n := 3) (Nat.le_of_ble_eq_true rfl)
  rw [lg_entry_eq]
  generalize (lg_sl ([.ref (ea E 6), .int x1, .int x2]) ++ List.replicate (3 - (lg_sl ([.ref (ea E 6), .int x1, .int x2])).length) Slot.unset).toArray = ls at hl ⊢
  exact wX2_useFuel_6 ⟨B.exec, B.bytes, hml, findClass_of_methodNamed B.named, fun w h => atoms_spec (ws := wu_X2_useFuel) B.pre w (List.mem_cons_of_mem _ h), B.returns, B.notSynchronized, hK, hD⟩ x1 x2 σ s.heap [] ls hl hP va_S.rf hE
def fX1_kindAt  (x1 : Int32) (σ : ST) : Option (Int32 × ST) :=
  (if (gI σ 2) ≤ x1 then some (0, σ) else ald (gA σ 5) 96 x1 (fun v_1 => sg 6 (cali (fJ0_indexOf_0f7a4 6 (((Int32.toUInt32 v_1) % 65536).toInt32) σ) (fun r_3 σ_2 => some (r_3, σ_2)))))
set_option maxHeartbeats 4000000 in
set_option maxRecDepth 100000 in
theorem wX1_kindAt {p : Program} {l : Launch} {e : Env} {s : State} {m : MethodId} {args : Array Value} {below : List Frame} {meth : Method} {c : Code} {E : EN} (C : zC E xW p s m args meth c cX1_kindAt 2 RX1 (some .int) wsL_law) {F : Int32 × ST}   (x1 : Int32) (σ : ST) (H : Heap) (locs : List Loc) (ls : Array Slot) (hl : lv_has ls 2 [(0, .ref (ea E 3)), (1, .int x1)]) (hP : va_P (eD E) vwCl (xW E σ) H) (hS : va_S (eA E) s.heap H locs) (hE : fX1_kindAt  x1 σ = some F) : zWi E xW p l e r_X1_kindAt s m args below meth c F H locs (F0 m 0 ls []) := by
  obtain ⟨hx, hb, hml, hown, hts, hr, hlk, hK, hD⟩ := id C
  have hwX1 : ∀ w ∈ wsX10, w.before args s = true := fun w h => hts w (inlX1 w h)
  unfold fX1_kindAt at hE
  refine lv_iload_n hx hb dX1_kindAt_0 rfl (lv_at hl 1 rfl) ?_
  refine lv_aload_n hx hb dX1_kindAt_1 rfl (lv_at hl 0 rfl) ?_
  refine xg_3_1 hx hb hown hwX1 (hts _ u_91) hK hP dX1_kindAt_2 ?_
  refine z_icmp_ge (tgt := 23) hx hb dX1_kindAt_5 (by decide) hE (fun hE => ?_) (fun hE => ?_)
  · refine lv_iconst (v := 0) hx hb dX1_kindAt_23 (by decide) ?_
    exact z_iret hx hb hr hlk hP hS dX1_kindAt_24 hE
  refine va_ldcS hx hb hown (hK.2.2.1 6 (by decide)) dX1_kindAt_8 ?_
  refine lv_aload_n hx hb dX1_kindAt_10 rfl (lv_at hl 0 rfl) ?_
  refine xg_3_0 hx hb hown hwX1 (hts _ u_90) hK hP dX1_kindAt_11 ?_
  refine lv_iload_n hx hb dX1_kindAt_14 rfl (lv_at hl 1 rfl) ?_
  refine xa_12 hx hb hK hP dX1_kindAt_15 hE (fun v_1 hE => ?_)
  refine lv_i2c (v := ((Int32.toUInt32 v_1) % 65536).toInt32) hx hb dX1_kindAt_16 rfl ?_
  obtain ⟨hj, hE⟩ := z_sg hE
  refine z_goi (wf := xW) hS hE (fun F1 h1 => (va_runV (As := [.int (((Int32.toUInt32 v_1) % 65536).toInt32)]) (rest := []) ⟨hx, hb, hml, hown, hts⟩ (kJ0_indexOf_0f7a4 l E hD 6 (((Int32.toUInt32 v_1) % 65536).toInt32) σ F1 h1) (cwV 1 hts (gU_V u_206 u_207 u_208 u_150 u_209) rfl rfl rfl q_J0_indexOf_0f7a4 ⟨Nat.le_of_ble_eq_true rfl, Nat.le_of_ble_eq_true rfl⟩) (z_preVs hK hP hS hj) rfl rfl hl.1 rfl (lv_room (Nat.le_of_ble_eq_true rfl)) dX1_kindAt_17 ⟨Nat.le_of_ble_eq_true rfl, Nat.le_of_ble_eq_true rfl⟩)) (fun r_3 σ_2 H locs hP hS hE => ?_)
  refine lv_goto (tgt := 24) hx hb dX1_kindAt_20 (by decide) ?_
  exact z_iret hx hb hr hlk hP hS dX1_kindAt_24 hE
theorem kX1_kindAt (l : Launch) (E : EN) (hD : ∀ σ, va_D (eA E) (xW E σ)) (x1 : Int32) (σ : ST) (F : Int32 × ST) (hE : fX1_kindAt x1 σ = some F) : Met l yX1_kindAt wu_X1_kindAt r_X1_kindAt (zPc E xW [.ref (ea E 3), .int x1] σ) (zQi E xW F) 0 0 (eA E) := by
  refine Met.ofW (cc := cX1_kindAt) (maxL := 2) (ret := (some .int)) (by decide) rfl ?_
  intro p e s m args below meth c s₁ B hml hv
  obtain ⟨rfl, hP, hK⟩ := hv
  have hl := lv_entry ([.ref (ea E 3), .int x1]) (n := 2) (Nat.le_of_ble_eq_true rfl)
  rw [lg_entry_eq]
  generalize (lg_sl ([.ref (ea E 3), .int x1]) ++ List.replicate (2 - (lg_sl ([.ref (ea E 3), .int x1])).length) Slot.unset).toArray = ls at hl ⊢
  exact wX1_kindAt ⟨B.exec, B.bytes, hml, findClass_of_methodNamed B.named, fun w h => atoms_spec (ws := wu_X1_kindAt) B.pre w (List.mem_cons_of_mem _ h), B.returns, B.notSynchronized, hK, hD⟩ x1 σ s.heap [] ls hl hP va_S.rf hE
def fX2_addPlace_6  (x1 : Int32) (x2 : Int32) (x3 : Int32) (σ : ST) : Option (Int32 × ST) :=
  (if 8 ≤ (gI σ 15) then some (0, σ) else (if x3 ≤ 3 then ast σ 28 8 (gI σ 15) x1 (fun σ_1 => ast σ_1 29 8 (gI σ_1 15) x2 (fun σ_2 => ast σ_2 30 8 (gI σ_2 15) x3 (fun σ_3 => bnd (sI σ_3 15 ((gI σ_3 15) + 1)) (fun σ_4 => some (1, σ_4))))) else some (0, σ)))
set_option maxHeartbeats 4000000 in
set_option maxRecDepth 100000 in
theorem wX2_addPlace_6 {p : Program} {l : Launch} {e : Env} {s : State} {m : MethodId} {args : Array Value} {below : List Frame} {meth : Method} {c : Code} {E : EN} (C : zC E xW p s m args meth c cX2_addPlace 4 RX2 (some .boolean) wsL_law) {F : Int32 × ST}   (x1 : Int32) (x2 : Int32) (x3 : Int32) (σ : ST) (H : Heap) (locs : List Loc) (ls : Array Slot) (hl : lv_has ls 4 [(0, .ref (ea E 6)), (1, .int x1), (2, .int x2), (3, .int x3)]) (hP : va_P (eD E) vwCl (xW E σ) H) (hS : va_S (eA E) s.heap H locs) (hE : fX2_addPlace_6  x1 x2 x3 σ = some F) : zWi E xW p l e r_X2_addPlace s m args below meth c F H locs (F0 m 0 ls []) := by
  obtain ⟨hx, hb, hml, hown, hts, hr, hlk, hK, hD⟩ := id C
  have hwX2 : ∀ w ∈ wsX20, w.before args s = true := fun w h => hts w (inlX2 w h)
  unfold fX2_addPlace_6 at hE
  refine lv_aload_n hx hb dX2_addPlace_0 rfl (lv_at hl 0 rfl) ?_
  refine xg_6_11 hx hb hown hwX2 (hts _ u_73) hK hP dX2_addPlace_1 ?_
  refine lv_bipush (v := 8) hx hb dX2_addPlace_4 (by decide) ?_
  refine z_icmp_ge (tgt := 14) hx hb dX2_addPlace_6 (by decide) hE (fun hE => ?_) (fun hE => ?_)
  · refine lv_iconst (v := 0) hx hb dX2_addPlace_14 (by decide) ?_
    exact z_zret hx hb hr hlk rfl hP hS dX2_addPlace_15 hE
  refine lv_iload_n hx hb dX2_addPlace_9 rfl (lv_at hl 3 rfl) ?_
  refine lv_iconst (v := 3) hx hb dX2_addPlace_10 (by decide) ?_
  refine z_icmp_le (tgt := 16) hx hb dX2_addPlace_11 (by decide) hE (fun hE => ?_) (fun hE => ?_)
  · refine lv_aload_n hx hb dX2_addPlace_16 rfl (lv_at hl 0 rfl) ?_
    refine xg_6_0 hx hb hown hwX2 (hts _ u_62) hK hP dX2_addPlace_17 ?_
    refine lv_aload_n hx hb dX2_addPlace_20 rfl (lv_at hl 0 rfl) ?_
    refine xg_6_11 hx hb hown hwX2 (hts _ u_73) hK hP dX2_addPlace_21 ?_
    refine lv_iload_n hx hb dX2_addPlace_24 rfl (lv_at hl 1 rfl) ?_
    refine xs_35 hx hb hK hD hP hS dX2_addPlace_25 hE (fun σ_1 H locs hP hS hE => ?_)
    refine lv_aload_n hx hb dX2_addPlace_26 rfl (lv_at hl 0 rfl) ?_
    refine xg_6_1 hx hb hown hwX2 (hts _ u_63) hK hP dX2_addPlace_27 ?_
    refine lv_aload_n hx hb dX2_addPlace_30 rfl (lv_at hl 0 rfl) ?_
    refine xg_6_11 hx hb hown hwX2 (hts _ u_73) hK hP dX2_addPlace_31 ?_
    refine lv_iload_n hx hb dX2_addPlace_34 rfl (lv_at hl 2 rfl) ?_
    refine xs_36 hx hb hK hD hP hS dX2_addPlace_35 hE (fun σ_2 H locs hP hS hE => ?_)
    refine lv_aload_n hx hb dX2_addPlace_36 rfl (lv_at hl 0 rfl) ?_
    refine xg_6_2 hx hb hown hwX2 (hts _ u_64) hK hP dX2_addPlace_37 ?_
    refine lv_aload_n hx hb dX2_addPlace_40 rfl (lv_at hl 0 rfl) ?_
    refine xg_6_11 hx hb hown hwX2 (hts _ u_73) hK hP dX2_addPlace_41 ?_
    refine lv_iload_n hx hb dX2_addPlace_44 rfl (lv_at hl 3 rfl) ?_
    refine xs_37 hx hb hK hD hP hS dX2_addPlace_45 hE (fun σ_3 H locs hP hS hE => ?_)
    refine lv_aload_n hx hb dX2_addPlace_46 rfl (lv_at hl 0 rfl) ?_
    refine lv_dup hx hb dX2_addPlace_47 rfl ?_
    refine xg_6_11 hx hb hown hwX2 (hts _ u_73) hK hP dX2_addPlace_48 ?_
    refine lv_iconst (v := 1) hx hb dX2_addPlace_51 (by decide) ?_
    refine lv_iadd hx hb dX2_addPlace_52 ?_
    refine xp_6_11 hx hb hown hwX2 (hts _ u_73) hK hD hP hS dX2_addPlace_53 hE (fun σ_4 H locs hP hS hE => ?_)
    refine lv_iconst (v := 1) hx hb dX2_addPlace_56 (by decide) ?_
    exact z_zret hx hb hr hlk rfl hP hS dX2_addPlace_57 hE
  refine lv_iconst (v := 0) hx hb dX2_addPlace_14 (by decide) ?_
  exact z_zret hx hb hr hlk rfl hP hS dX2_addPlace_15 hE
theorem kX2_addPlace_6 (l : Launch) (E : EN) (hD : ∀ σ, va_D (eA E) (xW E σ)) (x1 : Int32) (x2 : Int32) (x3 : Int32) (σ : ST) (F : Int32 × ST) (hE : fX2_addPlace_6 x1 x2 x3 σ = some F) : Met l yX2_addPlace wu_X2_addPlace r_X2_addPlace (zPc E xW [.ref (ea E 6), .int x1, .int x2, .int x3] σ) (zQi E xW F) 0 0 (eA E) := by
  refine Met.ofW (cc := cX2_addPlace) (maxL := 4) (ret := (some .boolean)) (by decide) rfl ?_
  intro p e s m args below meth c s₁ B hml hv
  obtain ⟨rfl, hP, hK⟩ := hv
  have hl := lv_entry ([.ref (ea E 6), .int x1, .int x2, .int x3]) (n := 4) (Nat.le_of_ble_eq_true rfl)
  rw [lg_entry_eq]
  generalize (lg_sl ([.ref (ea E 6), .int x1, .int x2, .int x3]) ++ List.replicate (4 - (lg_sl ([.ref (ea E 6), .int x1, .int x2, .int x3])).length) Slot.unset).toArray = ls at hl ⊢
  exact wX2_addPlace_6 ⟨B.exec, B.bytes, hml, findClass_of_methodNamed B.named, fun w h => atoms_spec (ws := wu_X2_addPlace) B.pre w (List.mem_cons_of_mem _ h), B.returns, B.notSynchronized, hK, hD⟩ x1 x2 x3 σ s.heap [] ls hl hP va_S.rf hE
