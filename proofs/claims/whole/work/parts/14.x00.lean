def fX2_becomeLike_5_4   (σ : ST) : Option (ST) :=
  cpy σ 6 8 0 17 8 0 8 (fun σ_1 => cpy σ_1 7 8 0 18 8 0 8 (fun σ_2 => cpy σ_2 8 8 0 19 8 0 8 (fun σ_3 => cpy σ_3 9 14 0 20 14 0 14 (fun σ_4 => cpy σ_4 10 14 0 21 14 0 14 (fun σ_5 => cpy σ_5 11 14 0 22 14 0 14 (fun σ_6 => cpy σ_6 12 14 0 23 14 0 14 (fun σ_7 => cpy σ_7 13 5 0 24 5 0 5 (fun σ_8 => cpy σ_8 14 5 0 25 5 0 5 (fun σ_9 => cpy σ_9 15 5 0 26 5 0 5 (fun σ_10 => cpy σ_10 16 5 0 27 5 0 5 (fun σ_11 => bnd (sI σ_11 9 (gI σ_11 3)) (fun σ_12 => bnd (sI σ_12 10 (gI σ_12 4)) (fun σ_13 => bnd (sI σ_13 11 (gI σ_13 5)) (fun σ_14 => bnd (sI σ_14 12 (gI σ_14 6)) (fun σ_15 => bnd (sI σ_15 13 (gI σ_15 7)) (fun σ_16 => bnd (sI σ_16 14 (gI σ_16 8)) (fun σ_17 => some σ_17)))))))))))))))))
set_option maxHeartbeats 4000000 in
set_option maxRecDepth 100000 in
theorem wX2_becomeLike_5_4 {p : Program} {l : Launch} {e : Env} {s : State} {m : MethodId} {args : Array Value} {below : List Frame} {meth : Method} {c : Code} {E : EN} (C : zC E xW p s m args meth c cX2_becomeLike 2 RX2 none wsL_law) {F : ST}    (σ : ST) (H : Heap) (locs : List Loc) (ls : Array Slot) (hl : lv_has ls 2 [(0, .ref (ea E 5)), (1, .ref (ea E 4))]) (hP : va_P (eD E) vwCl (xW E σ) H) (hS : va_S (eA E) s.heap H locs) (hE : fX2_becomeLike_5_4   σ = some F) : zWv E xW p l e r_X2_becomeLike s m args below meth c F H locs (F0 m 0 ls []) := by
  obtain ⟨hx, hb, hml, hown, hts, hr, hlk, hK, hD⟩ := id C
  have hwX2 : ∀ w ∈ wsX20, w.before args s = true := fun w h => hts w (inlX2 w h)
  unfold fX2_becomeLike_5_4 at hE
  refine lv_aload_n hx hb dX2_becomeLike_0 rfl (lv_at hl 1 rfl) ?_
  refine xg_4_0 hx hb hown hwX2 (hts _ u_62) hK hP dX2_becomeLike_1 ?_
  refine lv_iconst (v := 0) hx hb dX2_becomeLike_4 (by decide) ?_
  refine lv_aload_n hx hb dX2_becomeLike_5 rfl (lv_at hl 0 rfl) ?_
  refine xg_5_0 hx hb hown hwX2 (hts _ u_62) hK hP dX2_becomeLike_6 ?_
  refine lv_iconst (v := 0) hx hb dX2_becomeLike_9 (by decide) ?_
  refine lv_bipush (v := 8) hx hb dX2_becomeLike_10 (by decide) ?_
  refine xc_13_24 hx hb (hml.trans hl.1.symm) hown (hts _ u_271) (hts _ u_272) (hts _ u_273) (hts _ u_274) hK hD hP hS (Nat.le_of_ble_eq_true rfl) (Nat.le_of_ble_eq_true rfl) dX2_becomeLike_12 hE (fun σ_1 H locs hP hS hE => ?_)
  refine lv_aload_n hx hb dX2_becomeLike_15 rfl (lv_at hl 1 rfl) ?_
  refine xg_4_1 hx hb hown hwX2 (hts _ u_63) hK hP dX2_becomeLike_16 ?_
  refine lv_iconst (v := 0) hx hb dX2_becomeLike_19 (by decide) ?_
  refine lv_aload_n hx hb dX2_becomeLike_20 rfl (lv_at hl 0 rfl) ?_
  refine xg_5_1 hx hb hown hwX2 (hts _ u_63) hK hP dX2_becomeLike_21 ?_
  refine lv_iconst (v := 0) hx hb dX2_becomeLike_24 (by decide) ?_
  refine lv_bipush (v := 8) hx hb dX2_becomeLike_25 (by decide) ?_
  refine xc_14_25 hx hb (hml.trans hl.1.symm) hown (hts _ u_271) (hts _ u_272) (hts _ u_273) (hts _ u_274) hK hD hP hS (Nat.le_of_ble_eq_true rfl) (Nat.le_of_ble_eq_true rfl) dX2_becomeLike_27 hE (fun σ_2 H locs hP hS hE => ?_)
  refine lv_aload_n hx hb dX2_becomeLike_30 rfl (lv_at hl 1 rfl) ?_
  refine xg_4_2 hx hb hown hwX2 (hts _ u_64) hK hP dX2_becomeLike_31 ?_
  refine lv_iconst (v := 0) hx hb dX2_becomeLike_34 (by decide) ?_
  refine lv_aload_n hx hb dX2_becomeLike_35 rfl (lv_at hl 0 rfl) ?_
  refine xg_5_2 hx hb hown hwX2 (hts _ u_64) hK hP dX2_becomeLike_36 ?_
  refine lv_iconst (v := 0) hx hb dX2_becomeLike_39 (by decide) ?_
  refine lv_bipush (v := 8) hx hb dX2_becomeLike_40 (by decide) ?_
  refine xc_15_26 hx hb (hml.trans hl.1.symm) hown (hts _ u_271) (hts _ u_272) (hts _ u_273) (hts _ u_274) hK hD hP hS (Nat.le_of_ble_eq_true rfl) (Nat.le_of_ble_eq_true rfl) dX2_becomeLike_42 hE (fun σ_3 H locs hP hS hE => ?_)
  refine lv_aload_n hx hb dX2_becomeLike_45 rfl (lv_at hl 1 rfl) ?_
  refine xg_4_3 hx hb hown hwX2 (hts _ u_65) hK hP dX2_becomeLike_46 ?_
  refine lv_iconst (v := 0) hx hb dX2_becomeLike_49 (by decide) ?_
  refine lv_aload_n hx hb dX2_becomeLike_50 rfl (lv_at hl 0 rfl) ?_
  refine xg_5_3 hx hb hown hwX2 (hts _ u_65) hK hP dX2_becomeLike_51 ?_
  refine lv_iconst (v := 0) hx hb dX2_becomeLike_54 (by decide) ?_
  refine lv_bipush (v := 14) hx hb dX2_becomeLike_55 (by decide) ?_
  refine xc_16_27 hx hb (hml.trans hl.1.symm) hown (hts _ u_271) (hts _ u_272) (hts _ u_273) (hts _ u_274) hK hD hP hS (Nat.le_of_ble_eq_true rfl) (Nat.le_of_ble_eq_true rfl) dX2_becomeLike_57 hE (fun σ_4 H locs hP hS hE => ?_)
  refine lv_aload_n hx hb dX2_becomeLike_60 rfl (lv_at hl 1 rfl) ?_
  refine xg_4_4 hx hb hown hwX2 (hts _ u_66) hK hP dX2_becomeLike_61 ?_
  refine lv_iconst (v := 0) hx hb dX2_becomeLike_64 (by decide) ?_
  refine lv_aload_n hx hb dX2_becomeLike_65 rfl (lv_at hl 0 rfl) ?_
  refine xg_5_4 hx hb hown hwX2 (hts _ u_66) hK hP dX2_becomeLike_66 ?_
  refine lv_iconst (v := 0) hx hb dX2_becomeLike_69 (by decide) ?_
  refine lv_bipush (v := 14) hx hb dX2_becomeLike_70 (by decide) ?_
  refine xc_17_28 hx hb (hml.trans hl.1.symm) hown (hts _ u_271) (hts _ u_272) (hts _ u_273) (hts _ u_274) hK hD hP hS (Nat.le_of_ble_eq_true rfl) (Nat.le_of_ble_eq_true rfl) dX2_becomeLike_72 hE (fun σ_5 H locs hP hS hE => ?_)
  refine lv_aload_n hx hb dX2_becomeLike_75 rfl (lv_at hl 1 rfl) ?_
  refine xg_4_5 hx hb hown hwX2 (hts _ u_67) hK hP dX2_becomeLike_76 ?_
  refine lv_iconst (v := 0) hx hb dX2_becomeLike_79 (by decide) ?_
  refine lv_aload_n hx hb dX2_becomeLike_80 rfl (lv_at hl 0 rfl) ?_
  refine xg_5_5 hx hb hown hwX2 (hts _ u_67) hK hP dX2_becomeLike_81 ?_
  refine lv_iconst (v := 0) hx hb dX2_becomeLike_84 (by decide) ?_
  refine lv_bipush (v := 14) hx hb dX2_becomeLike_85 (by decide) ?_
  refine xc_18_29 hx hb (hml.trans hl.1.symm) hown (hts _ u_271) (hts _ u_272) (hts _ u_273) (hts _ u_274) hK hD hP hS (Nat.le_of_ble_eq_true rfl) (Nat.le_of_ble_eq_true rfl) dX2_becomeLike_87 hE (fun σ_6 H locs hP hS hE => ?_)
  refine lv_aload_n hx hb dX2_becomeLike_90 rfl (lv_at hl 1 rfl) ?_
  refine xg_4_6 hx hb hown hwX2 (hts _ u_68) hK hP dX2_becomeLike_91 ?_
  refine lv_iconst (v := 0) hx hb dX2_becomeLike_94 (by decide) ?_
  refine lv_aload_n hx hb dX2_becomeLike_95 rfl (lv_at hl 0 rfl) ?_
  refine xg_5_6 hx hb hown hwX2 (hts _ u_68) hK hP dX2_becomeLike_96 ?_
  refine lv_iconst (v := 0) hx hb dX2_becomeLike_99 (by decide) ?_
  refine lv_bipush (v := 14) hx hb dX2_becomeLike_100 (by decide) ?_
  refine xc_19_30 hx hb (hml.trans hl.1.symm) hown (hts _ u_271) (hts _ u_272) (hts _ u_273) (hts _ u_274) hK hD hP hS (Nat.le_of_ble_eq_true rfl) (Nat.le_of_ble_eq_true rfl) dX2_becomeLike_102 hE (fun σ_7 H locs hP hS hE => ?_)
  refine lv_aload_n hx hb dX2_becomeLike_105 rfl (lv_at hl 1 rfl) ?_
  refine xg_4_7 hx hb hown hwX2 (hts _ u_69) hK hP dX2_becomeLike_106 ?_
  refine lv_iconst (v := 0) hx hb dX2_becomeLike_109 (by decide) ?_
  refine lv_aload_n hx hb dX2_becomeLike_110 rfl (lv_at hl 0 rfl) ?_
  refine xg_5_7 hx hb hown hwX2 (hts _ u_69) hK hP dX2_becomeLike_111 ?_
  refine lv_iconst (v := 0) hx hb dX2_becomeLike_114 (by decide) ?_
  refine lv_iconst (v := 5) hx hb dX2_becomeLike_115 (by decide) ?_
  refine xc_20_31 hx hb (hml.trans hl.1.symm) hown (hts _ u_271) (hts _ u_272) (hts _ u_273) (hts _ u_274) hK hD hP hS (Nat.le_of_ble_eq_true rfl) (Nat.le_of_ble_eq_true rfl) dX2_becomeLike_116 hE (fun σ_8 H locs hP hS hE => ?_)
  refine lv_aload_n hx hb dX2_becomeLike_119 rfl (lv_at hl 1 rfl) ?_
  refine xg_4_8 hx hb hown hwX2 (hts _ u_70) hK hP dX2_becomeLike_120 ?_
  refine lv_iconst (v := 0) hx hb dX2_becomeLike_123 (by decide) ?_
  refine lv_aload_n hx hb dX2_becomeLike_124 rfl (lv_at hl 0 rfl) ?_
  refine xg_5_8 hx hb hown hwX2 (hts _ u_70) hK hP dX2_becomeLike_125 ?_
  refine lv_iconst (v := 0) hx hb dX2_becomeLike_128 (by decide) ?_
  refine lv_iconst (v := 5) hx hb dX2_becomeLike_129 (by decide) ?_
  refine xc_21_32 hx hb (hml.trans hl.1.symm) hown (hts _ u_271) (hts _ u_272) (hts _ u_273) (hts _ u_274) hK hD hP hS (Nat.le_of_ble_eq_true rfl) (Nat.le_of_ble_eq_true rfl) dX2_becomeLike_130 hE (fun σ_9 H locs hP hS hE => ?_)
  refine lv_aload_n hx hb dX2_becomeLike_133 rfl (lv_at hl 1 rfl) ?_
  refine xg_4_9 hx hb hown hwX2 (hts _ u_71) hK hP dX2_becomeLike_134 ?_
  refine lv_iconst (v := 0) hx hb dX2_becomeLike_137 (by decide) ?_
  refine lv_aload_n hx hb dX2_becomeLike_138 rfl (lv_at hl 0 rfl) ?_
  refine xg_5_9 hx hb hown hwX2 (hts _ u_71) hK hP dX2_becomeLike_139 ?_
  refine lv_iconst (v := 0) hx hb dX2_becomeLike_142 (by decide) ?_
  refine lv_iconst (v := 5) hx hb dX2_becomeLike_143 (by decide) ?_
  refine xc_22_33 hx hb (hml.trans hl.1.symm) hown (hts _ u_271) (hts _ u_272) (hts _ u_273) (hts _ u_274) hK hD hP hS (Nat.le_of_ble_eq_true rfl) (Nat.le_of_ble_eq_true rfl) dX2_becomeLike_144 hE (fun σ_10 H locs hP hS hE => ?_)
  refine lv_aload_n hx hb dX2_becomeLike_147 rfl (lv_at hl 1 rfl) ?_
  refine xg_4_10 hx hb hown hwX2 (hts _ u_72) hK hP dX2_becomeLike_148 ?_
  refine lv_iconst (v := 0) hx hb dX2_becomeLike_151 (by decide) ?_
  refine lv_aload_n hx hb dX2_becomeLike_152 rfl (lv_at hl 0 rfl) ?_
  refine xg_5_10 hx hb hown hwX2 (hts _ u_72) hK hP dX2_becomeLike_153 ?_
  refine lv_iconst (v := 0) hx hb dX2_becomeLike_156 (by decide) ?_
  refine lv_iconst (v := 5) hx hb dX2_becomeLike_157 (by decide) ?_
  refine xc_23_34 hx hb (hml.trans hl.1.symm) hown (hts _ u_271) (hts _ u_272) (hts _ u_273) (hts _ u_274) hK hD hP hS (Nat.le_of_ble_eq_true rfl) (Nat.le_of_ble_eq_true rfl) dX2_becomeLike_158 hE (fun σ_11 H locs hP hS hE => ?_)
  refine lv_aload_n hx hb dX2_becomeLike_161 rfl (lv_at hl 0 rfl) ?_
  refine lv_aload_n hx hb dX2_becomeLike_162 rfl (lv_at hl 1 rfl) ?_
  refine xg_4_11 hx hb hown hwX2 (hts _ u_73) hK hP dX2_becomeLike_163 ?_
  refine xp_5_11 hx hb hown hwX2 (hts _ u_73) hK hD hP hS dX2_becomeLike_166 hE (fun σ_12 H locs hP hS hE => ?_)
  refine lv_aload_n hx hb dX2_becomeLike_169 rfl (lv_at hl 0 rfl) ?_
  refine lv_aload_n hx hb dX2_becomeLike_170 rfl (lv_at hl 1 rfl) ?_
  refine xg_4_12 hx hb hown hwX2 (hts _ u_74) hK hP dX2_becomeLike_171 ?_
  refine xp_5_12 hx hb hown hwX2 (hts _ u_74) hK hD hP hS dX2_becomeLike_174 hE (fun σ_13 H locs hP hS hE => ?_)
  refine lv_aload_n hx hb dX2_becomeLike_177 rfl (lv_at hl 0 rfl) ?_
  refine lv_aload_n hx hb dX2_becomeLike_178 rfl (lv_at hl 1 rfl) ?_
  refine xg_4_13 hx hb hown hwX2 (hts _ u_75) hK hP dX2_becomeLike_179 ?_
  refine xp_5_13 hx hb hown hwX2 (hts _ u_75) hK hD hP hS dX2_becomeLike_182 hE (fun σ_14 H locs hP hS hE => ?_)
  refine lv_aload_n hx hb dX2_becomeLike_185 rfl (lv_at hl 0 rfl) ?_
  refine lv_aload_n hx hb dX2_becomeLike_186 rfl (lv_at hl 1 rfl) ?_
  refine xg_4_14 hx hb hown hwX2 (hts _ u_76) hK hP dX2_becomeLike_187 ?_
  refine xp_5_14 hx hb hown hwX2 (hts _ u_76) hK hD hP hS dX2_becomeLike_190 hE (fun σ_15 H locs hP hS hE => ?_)
  refine lv_aload_n hx hb dX2_becomeLike_193 rfl (lv_at hl 0 rfl) ?_
  refine lv_aload_n hx hb dX2_becomeLike_194 rfl (lv_at hl 1 rfl) ?_
  refine xg_4_15 hx hb hown hwX2 (hts _ u_77) hK hP dX2_becomeLike_195 ?_
  refine xp_5_15 hx hb hown hwX2 (hts _ u_77) hK hD hP hS dX2_becomeLike_198 hE (fun σ_16 H locs hP hS hE => ?_)
  refine lv_aload_n hx hb dX2_becomeLike_201 rfl (lv_at hl 0 rfl) ?_
  refine lv_aload_n hx hb dX2_becomeLike_202 rfl (lv_at hl 1 rfl) ?_
  refine xg_4_16 hx hb hown hwX2 (hts _ u_78) hK hP dX2_becomeLike_203 ?_
  refine xp_5_16 hx hb hown hwX2 (hts _ u_78) hK hD hP hS dX2_becomeLike_206 hE (fun σ_17 H locs hP hS hE => ?_)
  exact z_vret hx hb hr hlk hP hS dX2_becomeLike_209 hE
theorem kX2_becomeLike_5_4 (l : Launch) (E : EN) (hD : ∀ σ, va_D (eA E) (xW E σ))  (σ : ST) (F : ST) (hE : fX2_becomeLike_5_4  σ = some F) : Met l yX2_becomeLike wu_X2_becomeLike r_X2_becomeLike (zPc E xW [.ref (ea E 5), .ref (ea E 4)] σ) (zQv E xW F) 0 0 (eA E) := by
  refine Met.ofW (cc := cX2_becomeLike) (maxL := 2) (ret := none) (by decide) rfl ?_
  intro p e s m args below meth c s₁ B hml hv
  obtain ⟨rfl, hP, hK⟩ := hv
  have hl := lv_entry ([.ref (ea E 5), .ref (ea E 4)]) (n := 2) (Nat.le_of_ble_eq_true rfl)
  rw [lg_entry_eq]
  generalize (lg_sl ([.ref (ea E 5), .ref (ea E 4)]) ++ List.replicate (2 - (lg_sl ([.ref (ea E 5), .ref (ea E 4)])).length) Slot.unset).toArray = ls at hl ⊢
  exact wX2_becomeLike_5_4 ⟨B.exec, B.bytes, hml, findClass_of_methodNamed B.named, fun w h => atoms_spec (ws := wu_X2_becomeLike) B.pre w (List.mem_cons_of_mem _ h), B.returns, B.notSynchronized, hK, hD⟩  σ s.heap [] ls hl hP va_S.rf hE
def fX4_image   (σ : ST) : Option (Int32 × ST) :=
  calv (fX2_becomeLike_5_4 σ) (fun σ_1 => bnd (sI σ_1 1 1) (fun σ_2 => some ((gI σ_2 3), σ_2)))
set_option maxHeartbeats 4000000 in
set_option maxRecDepth 100000 in
theorem wX4_image {p : Program} {l : Launch} {e : Env} {s : State} {m : MethodId} {args : Array Value} {below : List Frame} {meth : Method} {c : Code} {E : EN} (C : zC E xW p s m args meth c cX4_image 1 RX4 (some .int) wsL_law) {F : Int32 × ST}    (σ : ST) (H : Heap) (locs : List Loc) (ls : Array Slot) (hl : lv_has ls 1 [(0, .ref (ea E 0))]) (hP : va_P (eD E) vwCl (xW E σ) H) (hS : va_S (eA E) s.heap H locs) (hE : fX4_image   σ = some F) : zWi E xW p l e r_X4_image s m args below meth c F H locs (F0 m 0 ls []) := by
  obtain ⟨hx, hb, hml, hown, hts, hr, hlk, hK, hD⟩ := id C
  have hwX2 : ∀ w ∈ wsX20, w.before args s = true := fun w h => hts w (inlX2 w h)
  have hwX4 : ∀ w ∈ wsX40, w.before args s = true := fun w h => hts w (inlX4 w h)
  unfold fX4_image at hE
  refine lv_aload_n hx hb dX4_image_0 rfl (lv_at hl 0 rfl) ?_
  refine xg_0_3 hx hb hown hwX4 (hts _ u_23) hK hP dX4_image_1 ?_
  refine lv_aload_n hx hb dX4_image_4 rfl (lv_at hl 0 rfl) ?_
  refine xg_0_1 hx hb hown hwX4 (hts _ u_17) hK hP dX4_image_5 ?_
  refine z_gov (wf := xW) hS hE (fun F1 h1 => (va_runV (As := [.ref (ea E 4)]) (rest := []) ⟨hx, hb, hml, hown, hts⟩ (kX2_becomeLike_5_4 l E hD  σ F1 h1) (cwV 1 hts (gU_V u_267 u_268 u_269 u_22 u_270) rfl rfl rfl q_X2_becomeLike ⟨Nat.le_of_ble_eq_true rfl, Nat.le_of_ble_eq_true rfl⟩) (z_preV hK hP hS (ci := 2) (q0 := 5) rfl rfl rfl) rfl rfl hl.1 rfl (lv_room (Nat.le_of_ble_eq_true rfl)) dX4_image_8 ⟨Nat.le_of_ble_eq_true rfl, Nat.le_of_ble_eq_true rfl⟩)) (fun σ_1 H locs hP hS hE => ?_)
  refine lv_aload_n hx hb dX4_image_11 rfl (lv_at hl 0 rfl) ?_
  refine lv_iconst (v := 1) hx hb dX4_image_12 (by decide) ?_
  refine xp_0_11 hx hb hown hwX4 (hts _ u_35) hK hD hP hS rfl dX4_image_13 hE (fun σ_2 H locs hP hS hE => ?_)
  refine lv_aload_n hx hb dX4_image_16 rfl (lv_at hl 0 rfl) ?_
  refine xg_0_1 hx hb hown hwX4 (hts _ u_17) hK hP dX4_image_17 ?_
  refine xg_4_11 hx hb hown hwX2 (hts _ u_387) hK hP dX4_image_20 ?_
  exact z_iret hx hb hr hlk hP hS dX4_image_23 hE
theorem kX4_image (l : Launch) (E : EN) (hD : ∀ σ, va_D (eA E) (xW E σ))  (σ : ST) (F : Int32 × ST) (hE : fX4_image  σ = some F) : Met l yX4_image wu_X4_image r_X4_image (zPc E xW [.ref (ea E 0)] σ) (zQi E xW F) 0 0 (eA E) := by
  refine Met.ofW (cc := cX4_image) (maxL := 1) (ret := (some .int)) (by decide) rfl ?_
  intro p e s m args below meth c s₁ B hml hv
  obtain ⟨rfl, hP, hK⟩ := hv
  have hl := lv_entry ([.ref (ea E 0)]) (n := 1) (Nat.le_of_ble_eq_true rfl)
  rw [lg_entry_eq]
  generalize (lg_sl ([.ref (ea E 0)]) ++ List.replicate (1 - (lg_sl ([.ref (ea E 0)])).length) Slot.unset).toArray = ls at hl ⊢
  exact wX4_image ⟨B.exec, B.bytes, hml, findClass_of_methodNamed B.named, fun w h => atoms_spec (ws := wu_X4_image) B.pre w (List.mem_cons_of_mem _ h), B.returns, B.notSynchronized, hK, hD⟩  σ s.heap [] ls hl hP va_S.rf hE
def fX2_becomeLike_4_5   (σ : ST) : Option (ST) :=
  cpy σ 17 8 0 6 8 0 8 (fun σ_1 => cpy σ_1 18 8 0 7 8 0 8 (fun σ_2 => cpy σ_2 19 8 0 8 8 0 8 (fun σ_3 => cpy σ_3 20 14 0 9 14 0 14 (fun σ_4 => cpy σ_4 21 14 0 10 14 0 14 (fun σ_5 => cpy σ_5 22 14 0 11 14 0 14 (fun σ_6 => cpy σ_6 23 14 0 12 14 0 14 (fun σ_7 => cpy σ_7 24 5 0 13 5 0 5 (fun σ_8 => cpy σ_8 25 5 0 14 5 0 5 (fun σ_9 => cpy σ_9 26 5 0 15 5 0 5 (fun σ_10 => cpy σ_10 27 5 0 16 5 0 5 (fun σ_11 => bnd (sI σ_11 3 (gI σ_11 9)) (fun σ_12 => bnd (sI σ_12 4 (gI σ_12 10)) (fun σ_13 => bnd (sI σ_13 5 (gI σ_13 11)) (fun σ_14 => bnd (sI σ_14 6 (gI σ_14 12)) (fun σ_15 => bnd (sI σ_15 7 (gI σ_15 13)) (fun σ_16 => bnd (sI σ_16 8 (gI σ_16 14)) (fun σ_17 => some σ_17)))))))))))))))))
set_option maxHeartbeats 4000000 in
set_option maxRecDepth 100000 in
theorem wX2_becomeLike_4_5 {p : Program} {l : Launch} {e : Env} {s : State} {m : MethodId} {args : Array Value} {below : List Frame} {meth : Method} {c : Code} {E : EN} (C : zC E xW p s m args meth c cX2_becomeLike 2 RX2 none wsL_law) {F : ST}    (σ : ST) (H : Heap) (locs : List Loc) (ls : Array Slot) (hl : lv_has ls 2 [(0, .ref (ea E 4)), (1, .ref (ea E 5))]) (hP : va_P (eD E) vwCl (xW E σ) H) (hS : va_S (eA E) s.heap H locs) (hE : fX2_becomeLike_4_5   σ = some F) : zWv E xW p l e r_X2_becomeLike s m args below meth c F H locs (F0 m 0 ls []) := by
  obtain ⟨hx, hb, hml, hown, hts, hr, hlk, hK, hD⟩ := id C
  have hwX2 : ∀ w ∈ wsX20, w.before args s = true := fun w h => hts w (inlX2 w h)
  unfold fX2_becomeLike_4_5 at hE
  refine lv_aload_n hx hb dX2_becomeLike_0 rfl (lv_at hl 1 rfl) ?_
  refine xg_5_0 hx hb hown hwX2 (hts _ u_62) hK hP dX2_becomeLike_1 ?_
  refine lv_iconst (v := 0) hx hb dX2_becomeLike_4 (by decide) ?_
  refine lv_aload_n hx hb dX2_becomeLike_5 rfl (lv_at hl 0 rfl) ?_
  refine xg_4_0 hx hb hown hwX2 (hts _ u_62) hK hP dX2_becomeLike_6 ?_
  refine lv_iconst (v := 0) hx hb dX2_becomeLike_9 (by decide) ?_
  refine lv_bipush (v := 8) hx hb dX2_becomeLike_10 (by decide) ?_
  refine xc_24_13 hx hb (hml.trans hl.1.symm) hown (hts _ u_271) (hts _ u_272) (hts _ u_273) (hts _ u_274) hK hD hP hS (Nat.le_of_ble_eq_true rfl) (Nat.le_of_ble_eq_true rfl) dX2_becomeLike_12 hE (fun σ_1 H locs hP hS hE => ?_)
  refine lv_aload_n hx hb dX2_becomeLike_15 rfl (lv_at hl 1 rfl) ?_
  refine xg_5_1 hx hb hown hwX2 (hts _ u_63) hK hP dX2_becomeLike_16 ?_
  refine lv_iconst (v := 0) hx hb dX2_becomeLike_19 (by decide) ?_
  refine lv_aload_n hx hb dX2_becomeLike_20 rfl (lv_at hl 0 rfl) ?_
  refine xg_4_1 hx hb hown hwX2 (hts _ u_63) hK hP dX2_becomeLike_21 ?_
  refine lv_iconst (v := 0) hx hb dX2_becomeLike_24 (by decide) ?_
  refine lv_bipush (v := 8) hx hb dX2_becomeLike_25 (by decide) ?_
  refine xc_25_14 hx hb (hml.trans hl.1.symm) hown (hts _ u_271) (hts _ u_272) (hts _ u_273) (hts _ u_274) hK hD hP hS (Nat.le_of_ble_eq_true rfl) (Nat.le_of_ble_eq_true rfl) dX2_becomeLike_27 hE (fun σ_2 H locs hP hS hE => ?_)
  refine lv_aload_n hx hb dX2_becomeLike_30 rfl (lv_at hl 1 rfl) ?_
  refine xg_5_2 hx hb hown hwX2 (hts _ u_64) hK hP dX2_becomeLike_31 ?_
  refine lv_iconst (v := 0) hx hb dX2_becomeLike_34 (by decide) ?_
  refine lv_aload_n hx hb dX2_becomeLike_35 rfl (lv_at hl 0 rfl) ?_
  refine xg_4_2 hx hb hown hwX2 (hts _ u_64) hK hP dX2_becomeLike_36 ?_
  refine lv_iconst (v := 0) hx hb dX2_becomeLike_39 (by decide) ?_
  refine lv_bipush (v := 8) hx hb dX2_becomeLike_40 (by decide) ?_
  refine xc_26_15 hx hb (hml.trans hl.1.symm) hown (hts _ u_271) (hts _ u_272) (hts _ u_273) (hts _ u_274) hK hD hP hS (Nat.le_of_ble_eq_true rfl) (Nat.le_of_ble_eq_true rfl) dX2_becomeLike_42 hE (fun σ_3 H locs hP hS hE => ?_)
  refine lv_aload_n hx hb dX2_becomeLike_45 rfl (lv_at hl 1 rfl) ?_
  refine xg_5_3 hx hb hown hwX2 (hts _ u_65) hK hP dX2_becomeLike_46 ?_
  refine lv_iconst (v := 0) hx hb dX2_becomeLike_49 (by decide) ?_
  refine lv_aload_n hx hb dX2_becomeLike_50 rfl (lv_at hl 0 rfl) ?_
  refine xg_4_3 hx hb hown hwX2 (hts _ u_65) hK hP dX2_becomeLike_51 ?_
  refine lv_iconst (v := 0) hx hb dX2_becomeLike_54 (by decide) ?_
  refine lv_bipush (v := 14) hx hb dX2_becomeLike_55 (by decide) ?_
  refine xc_27_16 hx hb (hml.trans hl.1.symm) hown (hts _ u_271) (hts _ u_272) (hts _ u_273) (hts _ u_274) hK hD hP hS (Nat.le_of_ble_eq_true rfl) (Nat.le_of_ble_eq_true rfl) dX2_becomeLike_57 hE (fun σ_4 H locs hP hS hE => ?_)
  refine lv_aload_n hx hb dX2_becomeLike_60 rfl (lv_at hl 1 rfl) ?_
  refine xg_5_4 hx hb hown hwX2 (hts _ u_66) hK hP dX2_becomeLike_61 ?_
  refine lv_iconst (v := 0) hx hb dX2_becomeLike_64 (by decide) ?_
  refine lv_aload_n hx hb dX2_becomeLike_65 rfl (lv_at hl 0 rfl) ?_
  refine xg_4_4 hx hb hown hwX2 (hts _ u_66) hK hP dX2_becomeLike_66 ?_
  refine lv_iconst (v := 0) hx hb dX2_becomeLike_69 (by decide) ?_
  refine lv_bipush (v := 14) hx hb dX2_becomeLike_70 (by decide) ?_
  refine xc_28_17 hx hb (hml.trans hl.1.symm) hown (hts _ u_271) (hts _ u_272) (hts _ u_273) (hts _ u_274) hK hD hP hS (Nat.le_of_ble_eq_true rfl) (Nat.le_of_ble_eq_true rfl) dX2_becomeLike_72 hE (fun σ_5 H locs hP hS hE => ?_)
  refine lv_aload_n hx hb dX2_becomeLike_75 rfl (lv_at hl 1 rfl) ?_
  refine xg_5_5 hx hb hown hwX2 (hts _ u_67) hK hP dX2_becomeLike_76 ?_
  refine lv_iconst (v := 0) hx hb dX2_becomeLike_79 (by decide) ?_
  refine lv_aload_n hx hb dX2_becomeLike_80 rfl (lv_at hl 0 rfl) ?_
  refine xg_4_5 hx hb hown hwX2 (hts _ u_67) hK hP dX2_becomeLike_81 ?_
  refine lv_iconst (v := 0) hx hb dX2_becomeLike_84 (by decide) ?_
  refine lv_bipush (v := 14) hx hb dX2_becomeLike_85 (by decide) ?_
  refine xc_29_18 hx hb (hml.trans hl.1.symm) hown (hts _ u_271) (hts _ u_272) (hts _ u_273) (hts _ u_274) hK hD hP hS (Nat.le_of_ble_eq_true rfl) (Nat.le_of_ble_eq_true rfl) dX2_becomeLike_87 hE (fun σ_6 H locs hP hS hE => ?_)
  refine lv_aload_n hx hb dX2_becomeLike_90 rfl (lv_at hl 1 rfl) ?_
  refine xg_5_6 hx hb hown hwX2 (hts _ u_68) hK hP dX2_becomeLike_91 ?_
  refine lv_iconst (v := 0) hx hb dX2_becomeLike_94 (by decide) ?_
  refine lv_aload_n hx hb dX2_becomeLike_95 rfl (lv_at hl 0 rfl) ?_
  refine xg_4_6 hx hb hown hwX2 (hts _ u_68) hK hP dX2_becomeLike_96 ?_
  refine lv_iconst (v := 0) hx hb dX2_becomeLike_99 (by decide) ?_
  refine lv_bipush (v := 14) hx hb dX2_becomeLike_100 (by decide) ?_
  refine xc_30_19 hx hb (hml.trans hl.1.symm) hown (hts _ u_271) (hts _ u_272) (hts _ u_273) (hts _ u_274) hK hD hP hS (Nat.le_of_ble_eq_true rfl) (Nat.le_of_ble_eq_true rfl) dX2_becomeLike_102 hE (fun σ_7 H locs hP hS hE => ?_)
  refine lv_aload_n hx hb dX2_becomeLike_105 rfl (lv_at hl 1 rfl) ?_
  refine xg_5_7 hx hb hown hwX2 (hts _ u_69) hK hP dX2_becomeLike_106 ?_
  refine lv_iconst (v := 0) hx hb dX2_becomeLike_109 (by decide) ?_
  refine lv_aload_n hx hb dX2_becomeLike_110 rfl (lv_at hl 0 rfl) ?_
  refine xg_4_7 hx hb hown hwX2 (hts _ u_69) hK hP dX2_becomeLike_111 ?_
  refine lv_iconst (v := 0) hx hb dX2_becomeLike_114 (by decide) ?_
  refine lv_iconst (v := 5) hx hb dX2_becomeLike_115 (by decide) ?_
  refine xc_31_20 hx hb (hml.trans hl.1.symm) hown (hts _ u_271) (hts _ u_272) (hts _ u_273) (hts _ u_274) hK hD hP hS (Nat.le_of_ble_eq_true rfl) (Nat.le_of_ble_eq_true rfl) dX2_becomeLike_116 hE (fun σ_8 H locs hP hS hE => ?_)
  refine lv_aload_n hx hb dX2_becomeLike_119 rfl (lv_at hl 1 rfl) ?_
  refine xg_5_8 hx hb hown hwX2 (hts _ u_70) hK hP dX2_becomeLike_120 ?_
  refine lv_iconst (v := 0) hx hb dX2_becomeLike_123 (by decide) ?_
  refine lv_aload_n hx hb dX2_becomeLike_124 rfl (lv_at hl 0 rfl) ?_
  refine xg_4_8 hx hb hown hwX2 (hts _ u_70) hK hP dX2_becomeLike_125 ?_
  refine lv_iconst (v := 0) hx hb dX2_becomeLike_128 (by decide) ?_
  refine lv_iconst (v := 5) hx hb dX2_becomeLike_129 (by decide) ?_
  refine xc_32_21 hx hb (hml.trans hl.1.symm) hown (hts _ u_271) (hts _ u_272) (hts _ u_273) (hts _ u_274) hK hD hP hS (Nat.le_of_ble_eq_true rfl) (Nat.le_of_ble_eq_true rfl) dX2_becomeLike_130 hE (fun σ_9 H locs hP hS hE => ?_)
  refine lv_aload_n hx hb dX2_becomeLike_133 rfl (lv_at hl 1 rfl) ?_
  refine xg_5_9 hx hb hown hwX2 (hts _ u_71) hK hP dX2_becomeLike_134 ?_
  refine lv_iconst (v := 0) hx hb dX2_becomeLike_137 (by decide) ?_
  refine lv_aload_n hx hb dX2_becomeLike_138 rfl (lv_at hl 0 rfl) ?_
  refine xg_4_9 hx hb hown hwX2 (hts _ u_71) hK hP dX2_becomeLike_139 ?_
  refine lv_iconst (v := 0) hx hb dX2_becomeLike_142 (by decide) ?_
  refine lv_iconst (v := 5) hx hb dX2_becomeLike_143 (by decide) ?_
  refine xc_33_22 hx hb (hml.trans hl.1.symm) hown (hts _ u_271) (hts _ u_272) (hts _ u_273) (hts _ u_274) hK hD hP hS (Nat.le_of_ble_eq_true rfl) (Nat.le_of_ble_eq_true rfl) dX2_becomeLike_144 hE (fun σ_10 H locs hP hS hE => ?_)
  refine lv_aload_n hx hb dX2_becomeLike_147 rfl (lv_at hl 1 rfl) ?_
  refine xg_5_10 hx hb hown hwX2 (hts _ u_72) hK hP dX2_becomeLike_148 ?_
  refine lv_iconst (v := 0) hx hb dX2_becomeLike_151 (by decide) ?_
  refine lv_aload_n hx hb dX2_becomeLike_152 rfl (lv_at hl 0 rfl) ?_
  refine xg_4_10 hx hb hown hwX2 (hts _ u_72) hK hP dX2_becomeLike_153 ?_
  refine lv_iconst (v := 0) hx hb dX2_becomeLike_156 (by decide) ?_
  refine lv_iconst (v := 5) hx hb dX2_becomeLike_157 (by decide) ?_
  refine xc_34_23 hx hb (hml.trans hl.1.symm) hown (hts _ u_271) (hts _ u_272) (hts _ u_273) (hts _ u_274) hK hD hP hS (Nat.le_of_ble_eq_true rfl) (Nat.le_of_ble_eq_true rfl) dX2_becomeLike_158 hE (fun σ_11 H locs hP hS hE => ?_)
  refine lv_aload_n hx hb dX2_becomeLike_161 rfl (lv_at hl 0 rfl) ?_
  refine lv_aload_n hx hb dX2_becomeLike_162 rfl (lv_at hl 1 rfl) ?_
  refine xg_5_11 hx hb hown hwX2 (hts _ u_73) hK hP dX2_becomeLike_163 ?_
  refine xp_4_11 hx hb hown hwX2 (hts _ u_73) hK hD hP hS dX2_becomeLike_166 hE (fun σ_12 H locs hP hS hE => ?_)
  refine lv_aload_n hx hb dX2_becomeLike_169 rfl (lv_at hl 0 rfl) ?_
  refine lv_aload_n hx hb dX2_becomeLike_170 rfl (lv_at hl 1 rfl) ?_
  refine xg_5_12 hx hb hown hwX2 (hts _ u_74) hK hP dX2_becomeLike_171 ?_
  refine xp_4_12 hx hb hown hwX2 (hts _ u_74) hK hD hP hS dX2_becomeLike_174 hE (fun σ_13 H locs hP hS hE => ?_)
  refine lv_aload_n hx hb dX2_becomeLike_177 rfl (lv_at hl 0 rfl) ?_
  refine lv_aload_n hx hb dX2_becomeLike_178 rfl (lv_at hl 1 rfl) ?_
  refine xg_5_13 hx hb hown hwX2 (hts _ u_75) hK hP dX2_becomeLike_179 ?_
  refine xp_4_13 hx hb hown hwX2 (hts _ u_75) hK hD hP hS dX2_becomeLike_182 hE (fun σ_14 H locs hP hS hE => ?_)
  refine lv_aload_n hx hb dX2_becomeLike_185 rfl (lv_at hl 0 rfl) ?_
  refine lv_aload_n hx hb dX2_becomeLike_186 rfl (lv_at hl 1 rfl) ?_
  refine xg_5_14 hx hb hown hwX2 (hts _ u_76) hK hP dX2_becomeLike_187 ?_
  refine xp_4_14 hx hb hown hwX2 (hts _ u_76) hK hD hP hS dX2_becomeLike_190 hE (fun σ_15 H locs hP hS hE => ?_)
  refine lv_aload_n hx hb dX2_becomeLike_193 rfl (lv_at hl 0 rfl) ?_
  refine lv_aload_n hx hb dX2_becomeLike_194 rfl (lv_at hl 1 rfl) ?_
  refine xg_5_15 hx hb hown hwX2 (hts _ u_77) hK hP dX2_becomeLike_195 ?_
  refine xp_4_15 hx hb hown hwX2 (hts _ u_77) hK hD hP hS dX2_becomeLike_198 hE (fun σ_16 H locs hP hS hE => ?_)
  refine lv_aload_n hx hb dX2_becomeLike_201 rfl (lv_at hl 0 rfl) ?_
  refine lv_aload_n hx hb dX2_becomeLike_202 rfl (lv_at hl 1 rfl) ?_
  refine xg_5_16 hx hb hown hwX2 (hts _ u_78) hK hP dX2_becomeLike_203 ?_
  refine xp_4_16 hx hb hown hwX2 (hts _ u_78) hK hD hP hS dX2_becomeLike_206 hE (fun σ_17 H locs hP hS hE => ?_)
  exact z_vret hx hb hr hlk hP hS dX2_becomeLike_209 hE
theorem kX2_becomeLike_4_5 (l : Launch) (E : EN) (hD : ∀ σ, va_D (eA E) (xW E σ))  (σ : ST) (F : ST) (hE : fX2_becomeLike_4_5  σ = some F) : Met l yX2_becomeLike wu_X2_becomeLike r_X2_becomeLike (zPc E xW [.ref (ea E 4), .ref (ea E 5)] σ) (zQv E xW F) 0 0 (eA E) := by
  refine Met.ofW (cc := cX2_becomeLike) (maxL := 2) (ret := none) (by decide) rfl ?_
  intro p e s m args below meth c s₁ B hml hv
  obtain ⟨rfl, hP, hK⟩ := hv
  have hl := lv_entry ([.ref (ea E 4), .ref (ea E 5)]) (n := 2) (Nat.le_of_ble_eq_true rfl)
  rw [lg_entry_eq]
  generalize (lg_sl ([.ref (ea E 4), .ref (ea E 5)]) ++ List.replicate (2 - (lg_sl ([.ref (ea E 4), .ref (ea E 5)])).length) Slot.unset).toArray = ls at hl ⊢
  exact wX2_becomeLike_4_5 ⟨B.exec, B.bytes, hml, findClass_of_methodNamed B.named, fun w h => atoms_spec (ws := wu_X2_becomeLike) B.pre w (List.mem_cons_of_mem _ h), B.returns, B.notSynchronized, hK, hD⟩  σ s.heap [] ls hl hP va_S.rf hE
def fX0_layWays_4_L2 (ke : Int32 → ST → Option (ST)) : Nat → Int32 → Int32 → ST → Option (ST)
  | 0, _, _, _ => none
  | n + 1, x2, x3, σ => (if 64 ≤ x3 then ke x2 σ else dvi x3 8 (fun v_2 => rmi x3 8 (fun v_3 => (if v_2 = v_3 then ast σ 4 64 x3 0 (fun σ_6 => bnd (x3 + 1) (fun x3_7 => fX0_layWays_4_L2 ke n x2 x3_7 σ_6)) else ast σ 4 64 x3 1000000 (fun σ_4 => bnd (x3 + 1) (fun x3_5 => fX0_layWays_4_L2 ke n x2 x3_5 σ_4))))))
set_option maxHeartbeats 4000000 in
set_option maxRecDepth 100000 in
theorem wX0_layWays_4_L2 {p : Program} {l : Launch} {e : Env} {s : State} {m : MethodId} {args : Array Value} {below : List Frame} {meth : Method} {c : Code} {E : EN} (C : zC E xW p s m args meth c cX0_layWays 4 RX0 none wsL_law) {F : ST} {ke : Int32 → ST → Option (ST)} (hke : ∀ (x2 : Int32) (σ : ST) (H : Heap) (locs : List Loc) (ls : Array Slot), lv_has ls 4 [(0, .ref (ea E 2)), (1, .ref (ea E 4)), (2, .int x2)] → va_P (eD E) vwCl (xW E σ) H → va_S (eA E) s.heap H locs → ke x2 σ = some F → zWv E xW p l e r_X0_layWays s m args below meth c F H locs (F0 m 37 ls [])) : ∀ (n : Nat) (x2 : Int32) (x3 : Int32) (σ : ST) (H : Heap) (locs : List Loc) (ls : Array Slot), lv_has ls 4 [(0, .ref (ea E 2)), (1, .ref (ea E 4)), (2, .int x2), (3, .int x3)] → va_P (eD E) vwCl (xW E σ) H → va_S (eA E) s.heap H locs → fX0_layWays_4_L2 ke n x2 x3 σ = some F → zWv E xW p l e r_X0_layWays s m args below meth c F H locs (F0 m 2 ls []) := by
  obtain ⟨hx, hb, hml, hown, hts, hr, hlk, hK, hD⟩ := id C
  have hwX0 : ∀ w ∈ wsX00, w.before args s = true := fun w h => hts w (inlX0 w h)
  intro n
  induction n with
  | zero => intro x2 x3 σ H locs ls hl hP hS hE; rw [fX0_layWays_4_L2] at hE; cases hE
  | succ n ih =>
    intro x2 x3 σ H locs ls hl hP hS hE
    rw [fX0_layWays_4_L2] at hE
    refine lv_iload_n hx hb dX0_layWays_2 rfl (lv_at hl 3 rfl) ?_
    refine lv_bipush (v := 64) hx hb dX0_layWays_3 (by decide) ?_
    refine z_icmp_ge (tgt := 37) hx hb dX0_layWays_5 (by decide) hE (fun hE => ?_) (fun hE => ?_)
    · exact hke x2 σ _ _ _ (lv_sub hl [0, 1, 2] rfl) hP hS hE
    refine lv_aload_n hx hb dX0_layWays_8 rfl (lv_at hl 0 rfl) ?_
    refine xg_2_4 hx hb hown hwX0 (hts _ u_86) hK hP dX0_layWays_9 ?_
    refine lv_iload_n hx hb dX0_layWays_12 rfl (lv_at hl 3 rfl) ?_
    refine lv_iload_n hx hb dX0_layWays_13 rfl (lv_at hl 3 rfl) ?_
    refine lv_bipush (v := 8) hx hb dX0_layWays_14 (by decide) ?_
    refine z_idiv hx hb dX0_layWays_16 hE (fun v_2 hE => ?_)
    refine lv_iload_n hx hb dX0_layWays_17 rfl (lv_at hl 3 rfl) ?_
    refine lv_bipush (v := 8) hx hb dX0_layWays_18 (by decide) ?_
    refine z_irem hx hb dX0_layWays_20 hE (fun v_3 hE => ?_)
    refine z_icmp_ne (tgt := 28) hx hb dX0_layWays_21 (by decide) hE (fun hE => ?_) (fun hE => ?_)
    · refine lv_ldc (v := 1000000) hx hb hown (hts _ u_324) dX0_layWays_28 ?_
      refine xs_11 hx hb hK hD hP hS dX0_layWays_30 hE (fun σ_4 H locs hP hS hE => ?_)
      refine z_iinc hx hb (v := (x3 + 1)) (k := 3) (fun x3_5 => [(3, .int x3_5), (0, .ref (ea E 2)), (1, .ref (ea E 4)), (2, .int x2)]) dX0_layWays_31 hl rfl (by rfl) (by decide) rfl hE (fun x3_5 ls hl hE => ?_)
      refine lv_goto (tgt := 2) hx hb dX0_layWays_34 (by decide) ?_
      exact ih x2 x3_5 σ_4 _ _ _ (lv_sub hl [1, 2, 3, 0] rfl) hP hS hE
    refine lv_iconst (v := 0) hx hb dX0_layWays_24 (by decide) ?_
    refine lv_goto (tgt := 30) hx hb dX0_layWays_25 (by decide) ?_
    refine xs_11 hx hb hK hD hP hS dX0_layWays_30 hE (fun σ_6 H locs hP hS hE => ?_)
    refine z_iinc hx hb (v := (x3 + 1)) (k := 3) (fun x3_7 => [(3, .int x3_7), (0, .ref (ea E 2)), (1, .ref (ea E 4)), (2, .int x2)]) dX0_layWays_31 hl rfl (by rfl) (by decide) rfl hE (fun x3_7 ls hl hE => ?_)
    refine lv_goto (tgt := 2) hx hb dX0_layWays_34 (by decide) ?_
    exact ih x2 x3_7 σ_6 _ _ _ (lv_sub hl [1, 2, 3, 0] rfl) hP hS hE
def fX0_layWays_4_L39 (ke : ST → Option (ST)) : Nat → Int32 → Int32 → ST → Option (ST)
  | 0, _, _, _ => none
  | n + 1, x2, x3, σ => (if (gI σ 4) ≤ x3 then ke  σ else ald (gA σ 12) 14 x3 (fun v_11 => (if x2 < v_11 then bnd (x3 + 1) (fun x3_12 => fX0_layWays_4_L39 ke n x2 x3_12 σ) else ald (gA σ 9) 14 x3 (fun v_13 => ald (gA σ 10) 14 x3 (fun v_14 => ald (gA σ 11) 14 x3 (fun v_15 => ast σ 4 64 ((v_13 * 8) + v_14) v_15 (fun σ_16 => ald (gA σ_16 10) 14 x3 (fun v_17 => ald (gA σ_16 9) 14 x3 (fun v_18 => ald (gA σ_16 11) 14 x3 (fun v_19 => ast σ_16 4 64 ((v_17 * 8) + v_18) v_19 (fun σ_20 => bnd (x3 + 1) (fun x3_21 => fX0_layWays_4_L39 ke n x2 x3_21 σ_20))))))))))))
set_option maxHeartbeats 4000000 in
set_option maxRecDepth 100000 in
theorem wX0_layWays_4_L39 {p : Program} {l : Launch} {e : Env} {s : State} {m : MethodId} {args : Array Value} {below : List Frame} {meth : Method} {c : Code} {E : EN} (C : zC E xW p s m args meth c cX0_layWays 4 RX0 none wsL_law) {F : ST} {ke : ST → Option (ST)} (hke : ∀  (σ : ST) (H : Heap) (locs : List Loc) (ls : Array Slot), lv_has ls 4 [] → va_P (eD E) vwCl (xW E σ) H → va_S (eA E) s.heap H locs → ke  σ = some F → zWv E xW p l e r_X0_layWays s m args below meth c F H locs (F0 m 117 ls [])) : ∀ (n : Nat) (x2 : Int32) (x3 : Int32) (σ : ST) (H : Heap) (locs : List Loc) (ls : Array Slot), lv_has ls 4 [(0, .ref (ea E 2)), (1, .ref (ea E 4)), (2, .int x2), (3, .int x3)] → va_P (eD E) vwCl (xW E σ) H → va_S (eA E) s.heap H locs → fX0_layWays_4_L39 ke n x2 x3 σ = some F → zWv E xW p l e r_X0_layWays s m args below meth c F H locs (F0 m 39 ls []) := by
  obtain ⟨hx, hb, hml, hown, hts, hr, hlk, hK, hD⟩ := id C
  have hwX0 : ∀ w ∈ wsX00, w.before args s = true := fun w h => hts w (inlX0 w h)
  have hwX2 : ∀ w ∈ wsX20, w.before args s = true := fun w h => hts w (inlX2 w h)
  intro n
  induction n with
  | zero => intro x2 x3 σ H locs ls hl hP hS hE; rw [fX0_layWays_4_L39] at hE; cases hE
  | succ n ih =>
    intro x2 x3 σ H locs ls hl hP hS hE
    rw [fX0_layWays_4_L39] at hE
    refine lv_iload_n hx hb dX0_layWays_39 rfl (lv_at hl 3 rfl) ?_
    refine lv_aload_n hx hb dX0_layWays_40 rfl (lv_at hl 1 rfl) ?_
    refine xg_4_12 hx hb hown hwX2 (hts _ u_325) hK hP dX0_layWays_41 ?_
    refine z_icmp_ge (tgt := 117) hx hb dX0_layWays_44 (by decide) hE (fun hE => ?_) (fun hE => ?_)
    · exact hke  σ _ _ _ (lv_sub hl [] rfl) hP hS hE
    refine lv_aload_n hx hb dX0_layWays_47 rfl (lv_at hl 1 rfl) ?_
    refine xg_4_6 hx hb hown hwX2 (hts _ u_326) hK hP dX0_layWays_48 ?_
    refine lv_iload_n hx hb dX0_layWays_51 rfl (lv_at hl 3 rfl) ?_
    refine xa_19 hx hb hK hP dX0_layWays_52 hE (fun v_11 hE => ?_)
    refine lv_iload_n hx hb dX0_layWays_53 rfl (lv_at hl 2 rfl) ?_
    refine z_icmp_gt (tgt := 111) hx hb dX0_layWays_54 (by decide) hE (fun hE => ?_) (fun hE => ?_)
    · refine z_iinc hx hb (v := (x3 + 1)) (k := 3) (fun x3_12 => [(3, .int x3_12), (0, .ref (ea E 2)), (1, .ref (ea E 4)), (2, .int x2)]) dX0_layWays_111 hl rfl (by rfl) (by decide) rfl hE (fun x3_12 ls hl hE => ?_)
      refine lv_goto (tgt := 39) hx hb dX0_layWays_114 (by decide) ?_
      exact ih x2 x3_12 σ _ _ _ (lv_sub hl [1, 2, 3, 0] rfl) hP hS hE
    refine lv_aload_n hx hb dX0_layWays_57 rfl (lv_at hl 0 rfl) ?_
    refine xg_2_4 hx hb hown hwX0 (hts _ u_86) hK hP dX0_layWays_58 ?_
    refine lv_aload_n hx hb dX0_layWays_61 rfl (lv_at hl 1 rfl) ?_
    refine xg_4_3 hx hb hown hwX2 (hts _ u_327) hK hP dX0_layWays_62 ?_
    refine lv_iload_n hx hb dX0_layWays_65 rfl (lv_at hl 3 rfl) ?_
    refine xa_16 hx hb hK hP dX0_layWays_66 hE (fun v_13 hE => ?_)
    refine lv_bipush (v := 8) hx hb dX0_layWays_67 (by decide) ?_
    refine lv_imul hx hb dX0_layWays_69 ?_
    refine lv_aload_n hx hb dX0_layWays_70 rfl (lv_at hl 1 rfl) ?_
    refine xg_4_4 hx hb hown hwX2 (hts _ u_328) hK hP dX0_layWays_71 ?_
    refine lv_iload_n hx hb dX0_layWays_74 rfl (lv_at hl 3 rfl) ?_
    refine xa_17 hx hb hK hP dX0_layWays_75 hE (fun v_14 hE => ?_)
    refine lv_iadd hx hb dX0_layWays_76 ?_
    refine lv_aload_n hx hb dX0_layWays_77 rfl (lv_at hl 1 rfl) ?_
    refine xg_4_5 hx hb hown hwX2 (hts _ u_329) hK hP dX0_layWays_78 ?_
    refine lv_iload_n hx hb dX0_layWays_81 rfl (lv_at hl 3 rfl) ?_
    refine xa_18 hx hb hK hP dX0_layWays_82 hE (fun v_15 hE => ?_)
    refine xs_11 hx hb hK hD hP hS dX0_layWays_83 hE (fun σ_16 H locs hP hS hE => ?_)
    refine lv_aload_n hx hb dX0_layWays_84 rfl (lv_at hl 0 rfl) ?_
    refine xg_2_4 hx hb hown hwX0 (hts _ u_86) hK hP dX0_layWays_85 ?_
    refine lv_aload_n hx hb dX0_layWays_88 rfl (lv_at hl 1 rfl) ?_
    refine xg_4_4 hx hb hown hwX2 (hts _ u_328) hK hP dX0_layWays_89 ?_
    refine lv_iload_n hx hb dX0_layWays_92 rfl (lv_at hl 3 rfl) ?_
    refine xa_17 hx hb hK hP dX0_layWays_93 hE (fun v_17 hE => ?_)
    refine lv_bipush (v := 8) hx hb dX0_layWays_94 (by decide) ?_
    refine lv_imul hx hb dX0_layWays_96 ?_
    refine lv_aload_n hx hb dX0_layWays_97 rfl (lv_at hl 1 rfl) ?_
    refine xg_4_3 hx hb hown hwX2 (hts _ u_327) hK hP dX0_layWays_98 ?_
    refine lv_iload_n hx hb dX0_layWays_101 rfl (lv_at hl 3 rfl) ?_
    refine xa_16 hx hb hK hP dX0_layWays_102 hE (fun v_18 hE => ?_)
    refine lv_iadd hx hb dX0_layWays_103 ?_
    refine lv_aload_n hx hb dX0_layWays_104 rfl (lv_at hl 1 rfl) ?_
    refine xg_4_5 hx hb hown hwX2 (hts _ u_329) hK hP dX0_layWays_105 ?_
    refine lv_iload_n hx hb dX0_layWays_108 rfl (lv_at hl 3 rfl) ?_
    refine xa_18 hx hb hK hP dX0_layWays_109 hE (fun v_19 hE => ?_)
    refine xs_11 hx hb hK hD hP hS dX0_layWays_110 hE (fun σ_20 H locs hP hS hE => ?_)
    refine z_iinc hx hb (v := (x3 + 1)) (k := 3) (fun x3_21 => [(3, .int x3_21), (0, .ref (ea E 2)), (1, .ref (ea E 4)), (2, .int x2)]) dX0_layWays_111 hl rfl (by rfl) (by decide) rfl hE (fun x3_21 ls hl hE => ?_)
    refine lv_goto (tgt := 39) hx hb dX0_layWays_114 (by decide) ?_
    exact ih x2 x3_21 σ_20 _ _ _ (lv_sub hl [1, 2, 3, 0] rfl) hP hS hE
def fX0_layWays_4  (x2 : Int32) (σ : ST) : Option (ST) :=
  bnd (0 : Int32) (fun x3_1 => fX0_layWays_4_L2 (fun x2_8 σ_9 => bnd (0 : Int32) (fun x3_10 => fX0_layWays_4_L39 (fun σ_22 => some σ_22) FU x2_8 x3_10 σ_9)) FU x2 x3_1 σ)
set_option maxHeartbeats 4000000 in
set_option maxRecDepth 100000 in
theorem wX0_layWays_4 {p : Program} {l : Launch} {e : Env} {s : State} {m : MethodId} {args : Array Value} {below : List Frame} {meth : Method} {c : Code} {E : EN} (C : zC E xW p s m args meth c cX0_layWays 4 RX0 none wsL_law) {F : ST}   (x2 : Int32) (σ : ST) (H : Heap) (locs : List Loc) (ls : Array Slot) (hl : lv_has ls 4 [(0, .ref (ea E 2)), (1, .ref (ea E 4)), (2, .int x2)]) (hP : va_P (eD E) vwCl (xW E σ) H) (hS : va_S (eA E) s.heap H locs) (hE : fX0_layWays_4  x2 σ = some F) : zWv E xW p l e r_X0_layWays s m args below meth c F H locs (F0 m 0 ls []) := by
  obtain ⟨hx, hb, hml, hown, hts, hr, hlk, hK, hD⟩ := id C
  unfold fX0_layWays_4 at hE
  refine lv_iconst (v := 0) hx hb dX0_layWays_0 (by decide) ?_
  refine z_istore_n hx hb (fun x3_1 => [(3, .int x3_1), (0, .ref (ea E 2)), (1, .ref (ea E 4)), (2, .int x2)]) dX0_layWays_1 rfl hl (by decide) rfl hE (fun x3_1 ls hl hE => ?_)
  refine wX0_layWays_4_L2 C ?_ FU x2 x3_1 σ _ _ _ (lv_sub hl [1, 2, 3, 0] rfl) hP hS hE
  intro x2_8 σ_9 H locs ls hl hP hS hE
  refine lv_iconst (v := 0) hx hb dX0_layWays_37 (by decide) ?_
  refine z_istore_n hx hb (fun x3_10 => [(3, .int x3_10), (0, .ref (ea E 2)), (1, .ref (ea E 4)), (2, .int x2_8)]) dX0_layWays_38 rfl hl (by decide) rfl hE (fun x3_10 ls hl hE => ?_)
  refine wX0_layWays_4_L39 C ?_ FU x2_8 x3_10 σ_9 _ _ _ (lv_sub hl [1, 2, 3, 0] rfl) hP hS hE
  intro σ_22 H locs ls hl hP hS hE
  exact z_vret hx hb hr hlk hP hS dX0_layWays_117 hE
theorem kX0_layWays_4 (l : Launch) (E : EN) (hD : ∀ σ, va_D (eA E) (xW E σ)) (x2 : Int32) (σ : ST) (F : ST) (hE : fX0_layWays_4 x2 σ = some F) : Met l yX0_layWays wu_X0_layWays r_X0_layWays (zPc E xW [.ref (ea E 2), .ref (ea E 4), .int x2] σ) (zQv E xW F) 0 0 (eA E) := by
  refine Met.ofW (cc := cX0_layWays) (maxL := 4) (ret := none) (by decide) rfl ?_
  intro p e s m args below meth c s₁ B hml hv
  obtain ⟨rfl, hP, hK⟩ := hv
  have hl := lv_entry ([.ref (ea E 2), .ref (ea E 4), .int x2]) (n := 4) (Nat.le_of_ble_eq_true rfl)
  rw [lg_entry_eq]
  generalize (lg_sl ([.ref (ea E 2), .ref (ea E 4), .int x2]) ++ List.replicate (4 - (lg_sl ([.ref (ea E 2), .ref (ea E 4), .int x2])).length) Slot.unset).toArray = ls at hl ⊢
  exact wX0_layWays_4 ⟨B.exec, B.bytes, hml, findClass_of_methodNamed B.named, fun w h => atoms_spec (ws := wu_X0_layWays) B.pre w (List.mem_cons_of_mem _ h), B.returns, B.notSynchronized, hK, hD⟩ x2 σ s.heap [] ls hl hP va_S.rf hE
def fX0_shorten_L17 (ke : Int32 → Int32 → Int32 → ST → Option (ST)) : Nat → Int32 → Int32 → Int32 → Int32 → ST → Option (ST)
  | 0, _, _, _, _, _ => none
  | n + 1, x1, x2, x3, x4, σ => (if x1 ≤ x4 then ke x1 x2 x3 σ else ald (gA σ 4) 64 ((x3 * 8) + x2) (fun v_4 => ald (gA σ 4) 64 ((x2 * 8) + x4) (fun v_5 => bnd ((v_4 + v_5) : Int32) (fun x5_6 => bnd (((x3 * 8) + x4) : Int32) (fun x6_7 => ald (gA σ 4) 64 x6_7 (fun v_8 => (if v_8 ≤ x5_6 then bnd (x4 + 1) (fun x4_9 => fX0_shorten_L17 ke n x1 x2 x3 x4_9 σ) else ast σ 4 64 x6_7 x5_6 (fun σ_10 => bnd (x4 + 1) (fun x4_11 => fX0_shorten_L17 ke n x1 x2 x3 x4_11 σ_10)))))))))
set_option maxHeartbeats 4000000 in
set_option maxRecDepth 100000 in
theorem wX0_shorten_L17 {p : Program} {l : Launch} {e : Env} {s : State} {m : MethodId} {args : Array Value} {below : List Frame} {meth : Method} {c : Code} {E : EN} (C : zC E xW p s m args meth c cX0_shorten 7 RX0 none wsL_law) {F : ST} {ke : Int32 → Int32 → Int32 → ST → Option (ST)} (hke : ∀ (x1 : Int32) (x2 : Int32) (x3 : Int32) (σ : ST) (H : Heap) (locs : List Loc) (ls : Array Slot), lv_has ls 7 [(0, .ref (ea E 2)), (1, .int x1), (2, .int x2), (3, .int x3)] → va_P (eD E) vwCl (xW E σ) H → va_S (eA E) s.heap H locs → ke x1 x2 x3 σ = some F → zWv E xW p l e r_X0_shorten s m args below meth c F H locs (F0 m 85 ls [])) : ∀ (n : Nat) (x1 : Int32) (x2 : Int32) (x3 : Int32) (x4 : Int32) (σ : ST) (H : Heap) (locs : List Loc) (ls : Array Slot), lv_has ls 7 [(0, .ref (ea E 2)), (1, .int x1), (2, .int x2), (3, .int x3), (4, .int x4)] → va_P (eD E) vwCl (xW E σ) H → va_S (eA E) s.heap H locs → fX0_shorten_L17 ke n x1 x2 x3 x4 σ = some F → zWv E xW p l e r_X0_shorten s m args below meth c F H locs (F0 m 17 ls []) := by
  obtain ⟨hx, hb, hml, hown, hts, hr, hlk, hK, hD⟩ := id C
  have hwX0 : ∀ w ∈ wsX00, w.before args s = true := fun w h => hts w (inlX0 w h)
  intro n
  induction n with
  | zero => intro x1 x2 x3 x4 σ H locs ls hl hP hS hE; rw [fX0_shorten_L17] at hE; cases hE
  | succ n ih =>
    intro x1 x2 x3 x4 σ H locs ls hl hP hS hE
    rw [fX0_shorten_L17] at hE
    refine lv_iload hx hb dX0_shorten_17 (lv_at hl 4 rfl) ?_
    refine lv_iload_n hx hb dX0_shorten_19 rfl (lv_at hl 1 rfl) ?_
    refine z_icmp_ge (tgt := 85) hx hb dX0_shorten_20 (by decide) hE (fun hE => ?_) (fun hE => ?_)
    · exact hke x1 x2 x3 σ _ _ _ (lv_sub hl [0, 1, 2, 3] rfl) hP hS hE
    refine lv_aload_n hx hb dX0_shorten_23 rfl (lv_at hl 0 rfl) ?_
    refine xg_2_4 hx hb hown hwX0 (hts _ u_86) hK hP dX0_shorten_24 ?_
    refine lv_iload_n hx hb dX0_shorten_27 rfl (lv_at hl 3 rfl) ?_
    refine lv_bipush (v := 8) hx hb dX0_shorten_28 (by decide) ?_
    refine lv_imul hx hb dX0_shorten_30 ?_
    refine lv_iload_n hx hb dX0_shorten_31 rfl (lv_at hl 2 rfl) ?_
    refine lv_iadd hx hb dX0_shorten_32 ?_
    refine xa_11 hx hb hK hP dX0_shorten_33 hE (fun v_4 hE => ?_)
    refine lv_aload_n hx hb dX0_shorten_34 rfl (lv_at hl 0 rfl) ?_
    refine xg_2_4 hx hb hown hwX0 (hts _ u_86) hK hP dX0_shorten_35 ?_
    refine lv_iload_n hx hb dX0_shorten_38 rfl (lv_at hl 2 rfl) ?_
    refine lv_bipush (v := 8) hx hb dX0_shorten_39 (by decide) ?_
    refine lv_imul hx hb dX0_shorten_41 ?_
    refine lv_iload hx hb dX0_shorten_42 (lv_at hl 4 rfl) ?_
    refine lv_iadd hx hb dX0_shorten_44 ?_
    refine xa_11 hx hb hK hP dX0_shorten_45 hE (fun v_5 hE => ?_)
    refine lv_iadd hx hb dX0_shorten_46 ?_
    refine z_istore hx hb (fun x5_6 => [(5, .int x5_6), (0, .ref (ea E 2)), (1, .int x1), (2, .int x2), (3, .int x3), (4, .int x4)]) dX0_shorten_47 hl (by decide) rfl hE (fun x5_6 ls hl hE => ?_)
    refine lv_iload_n hx hb dX0_shorten_49 rfl (lv_at hl 4 rfl) ?_
    refine lv_bipush (v := 8) hx hb dX0_shorten_50 (by decide) ?_
    refine lv_imul hx hb dX0_shorten_52 ?_
    refine lv_iload hx hb dX0_shorten_53 (lv_at hl 5 rfl) ?_
    refine lv_iadd hx hb dX0_shorten_55 ?_
    refine z_istore hx hb (fun x6_7 => [(6, .int x6_7), (5, .int x5_6), (0, .ref (ea E 2)), (1, .int x1), (2, .int x2), (3, .int x3), (4, .int x4)]) dX0_shorten_56 hl (by decide) rfl hE (fun x6_7 ls hl hE => ?_)
    refine lv_iload hx hb dX0_shorten_58 (lv_at hl 1 rfl) ?_
    refine lv_aload_n hx hb dX0_shorten_60 rfl (lv_at hl 2 rfl) ?_
    refine xg_2_4 hx hb hown hwX0 (hts _ u_86) hK hP dX0_shorten_61 ?_
    refine lv_iload hx hb dX0_shorten_64 (lv_at hl 0 rfl) ?_
    refine xa_11 hx hb hK hP dX0_shorten_66 hE (fun v_8 hE => ?_)
    refine z_icmp_ge (tgt := 79) hx hb dX0_shorten_67 (by decide) hE (fun hE => ?_) (fun hE => ?_)
    · refine z_iinc hx hb (v := (x4 + 1)) (k := 6) (fun x4_9 => [(4, .int x4_9), (6, .int x6_7), (5, .int x5_6), (0, .ref (ea E 2)), (1, .int x1), (2, .int x2), (3, .int x3)]) dX0_shorten_79 hl rfl (by rfl) (by decide) rfl hE (fun x4_9 ls hl hE => ?_)
      refine lv_goto (tgt := 17) hx hb dX0_shorten_82 (by decide) ?_
      exact ih x1 x2 x3 x4_9 σ _ _ _ (lv_sub hl [3, 4, 5, 6, 0] rfl) hP hS hE
    refine lv_aload_n hx hb dX0_shorten_70 rfl (lv_at hl 2 rfl) ?_
    refine xg_2_4 hx hb hown hwX0 (hts _ u_86) hK hP dX0_shorten_71 ?_
    refine lv_iload hx hb dX0_shorten_74 (lv_at hl 0 rfl) ?_
    refine lv_iload hx hb dX0_shorten_76 (lv_at hl 1 rfl) ?_
    refine xs_11 hx hb hK hD hP hS dX0_shorten_78 hE (fun σ_10 H locs hP hS hE => ?_)
    refine z_iinc hx hb (v := (x4 + 1)) (k := 6) (fun x4_11 => [(4, .int x4_11), (6, .int x6_7), (5, .int x5_6), (0, .ref (ea E 2)), (1, .int x1), (2, .int x2), (3, .int x3)]) dX0_shorten_79 hl rfl (by rfl) (by decide) rfl hE (fun x4_11 ls hl hE => ?_)
    refine lv_goto (tgt := 17) hx hb dX0_shorten_82 (by decide) ?_
    exact ih x1 x2 x3 x4_11 σ_10 _ _ _ (lv_sub hl [3, 4, 5, 6, 0] rfl) hP hS hE
def fX0_shorten_L9 (ke : Int32 → Int32 → ST → Option (ST)) : Nat → Int32 → Int32 → Int32 → ST → Option (ST)
  | 0, _, _, _, _ => none
  | n + 1, x1, x2, x3, σ => (if x1 ≤ x3 then ke x1 x2 σ else bnd (0 : Int32) (fun x4_3 => fX0_shorten_L17 (fun x1_12 x2_13 x3_14 σ_15 => bnd (x3_14 + 1) (fun x3_16 => fX0_shorten_L9 ke n x1_12 x2_13 x3_16 σ_15)) FU x1 x2 x3 x4_3 σ))
set_option maxHeartbeats 4000000 in
set_option maxRecDepth 100000 in
theorem wX0_shorten_L9 {p : Program} {l : Launch} {e : Env} {s : State} {m : MethodId} {args : Array Value} {below : List Frame} {meth : Method} {c : Code} {E : EN} (C : zC E xW p s m args meth c cX0_shorten 7 RX0 none wsL_law) {F : ST} {ke : Int32 → Int32 → ST → Option (ST)} (hke : ∀ (x1 : Int32) (x2 : Int32) (σ : ST) (H : Heap) (locs : List Loc) (ls : Array Slot), lv_has ls 7 [(0, .ref (ea E 2)), (1, .int x1), (2, .int x2)] → va_P (eD E) vwCl (xW E σ) H → va_S (eA E) s.heap H locs → ke x1 x2 σ = some F → zWv E xW p l e r_X0_shorten s m args below meth c F H locs (F0 m 91 ls [])) : ∀ (n : Nat) (x1 : Int32) (x2 : Int32) (x3 : Int32) (σ : ST) (H : Heap) (locs : List Loc) (ls : Array Slot), lv_has ls 7 [(0, .ref (ea E 2)), (1, .int x1), (2, .int x2), (3, .int x3)] → va_P (eD E) vwCl (xW E σ) H → va_S (eA E) s.heap H locs → fX0_shorten_L9 ke n x1 x2 x3 σ = some F → zWv E xW p l e r_X0_shorten s m args below meth c F H locs (F0 m 9 ls []) := by
  obtain ⟨hx, hb, hml, hown, hts, hr, hlk, hK, hD⟩ := id C
  intro n
  induction n with
  | zero => intro x1 x2 x3 σ H locs ls hl hP hS hE; rw [fX0_shorten_L9] at hE; cases hE
  | succ n ih =>
    intro x1 x2 x3 σ H locs ls hl hP hS hE
    rw [fX0_shorten_L9] at hE
    refine lv_iload_n hx hb dX0_shorten_9 rfl (lv_at hl 3 rfl) ?_
    refine lv_iload_n hx hb dX0_shorten_10 rfl (lv_at hl 1 rfl) ?_
    refine z_icmp_ge (tgt := 91) hx hb dX0_shorten_11 (by decide) hE (fun hE => ?_) (fun hE => ?_)
    · exact hke x1 x2 σ _ _ _ (lv_sub hl [0, 1, 2] rfl) hP hS hE
    refine lv_iconst (v := 0) hx hb dX0_shorten_14 (by decide) ?_
    refine z_istore hx hb (fun x4_3 => [(4, .int x4_3), (0, .ref (ea E 2)), (1, .int x1), (2, .int x2), (3, .int x3)]) dX0_shorten_15 hl (by decide) rfl hE (fun x4_3 ls hl hE => ?_)
    refine wX0_shorten_L17 C ?_ FU x1 x2 x3 x4_3 σ _ _ _ (lv_sub hl [1, 2, 3, 4, 0] rfl) hP hS hE
    intro x1_12 x2_13 x3_14 σ_15 H locs ls hl hP hS hE
    refine z_iinc hx hb (v := (x3_14 + 1)) (k := 3) (fun x3_16 => [(3, .int x3_16), (0, .ref (ea E 2)), (1, .int x1_12), (2, .int x2_13)]) dX0_shorten_85 hl rfl (by rfl) (by decide) rfl hE (fun x3_16 ls hl hE => ?_)
    refine lv_goto (tgt := 9) hx hb dX0_shorten_88 (by decide) ?_
    exact ih x1_12 x2_13 x3_16 σ_15 _ _ _ (lv_sub hl [1, 2, 3, 0] rfl) hP hS hE
def fX0_shorten_L2 (ke : ST → Option (ST)) : Nat → Int32 → Int32 → ST → Option (ST)
  | 0, _, _, _ => none
  | n + 1, x1, x2, σ => (if x1 ≤ x2 then ke  σ else bnd (0 : Int32) (fun x3_2 => fX0_shorten_L9 (fun x1_17 x2_18 σ_19 => bnd (x2_18 + 1) (fun x2_20 => fX0_shorten_L2 ke n x1_17 x2_20 σ_19)) FU x1 x2 x3_2 σ))
set_option maxHeartbeats 4000000 in
set_option maxRecDepth 100000 in
theorem wX0_shorten_L2 {p : Program} {l : Launch} {e : Env} {s : State} {m : MethodId} {args : Array Value} {below : List Frame} {meth : Method} {c : Code} {E : EN} (C : zC E xW p s m args meth c cX0_shorten 7 RX0 none wsL_law) {F : ST} {ke : ST → Option (ST)} (hke : ∀  (σ : ST) (H : Heap) (locs : List Loc) (ls : Array Slot), lv_has ls 7 [] → va_P (eD E) vwCl (xW E σ) H → va_S (eA E) s.heap H locs → ke  σ = some F → zWv E xW p l e r_X0_shorten s m args below meth c F H locs (F0 m 97 ls [])) : ∀ (n : Nat) (x1 : Int32) (x2 : Int32) (σ : ST) (H : Heap) (locs : List Loc) (ls : Array Slot), lv_has ls 7 [(0, .ref (ea E 2)), (1, .int x1), (2, .int x2)] → va_P (eD E) vwCl (xW E σ) H → va_S (eA E) s.heap H locs → fX0_shorten_L2 ke n x1 x2 σ = some F → zWv E xW p l e r_X0_shorten s m args below meth c F H locs (F0 m 2 ls []) := by
  obtain ⟨hx, hb, hml, hown, hts, hr, hlk, hK, hD⟩ := id C
  intro n
  induction n with
  | zero => intro x1 x2 σ H locs ls hl hP hS hE; rw [fX0_shorten_L2] at hE; cases hE
  | succ n ih =>
    intro x1 x2 σ H locs ls hl hP hS hE
    rw [fX0_shorten_L2] at hE
    refine lv_iload_n hx hb dX0_shorten_2 rfl (lv_at hl 2 rfl) ?_
    refine lv_iload_n hx hb dX0_shorten_3 rfl (lv_at hl 1 rfl) ?_
    refine z_icmp_ge (tgt := 97) hx hb dX0_shorten_4 (by decide) hE (fun hE => ?_) (fun hE => ?_)
    · exact hke  σ _ _ _ (lv_sub hl [] rfl) hP hS hE
    refine lv_iconst (v := 0) hx hb dX0_shorten_7 (by decide) ?_
    refine z_istore_n hx hb (fun x3_2 => [(3, .int x3_2), (0, .ref (ea E 2)), (1, .int x1), (2, .int x2)]) dX0_shorten_8 rfl hl (by decide) rfl hE (fun x3_2 ls hl hE => ?_)
    refine wX0_shorten_L9 C ?_ FU x1 x2 x3_2 σ _ _ _ (lv_sub hl [1, 2, 3, 0] rfl) hP hS hE
    intro x1_17 x2_18 σ_19 H locs ls hl hP hS hE
    refine z_iinc hx hb (v := (x2_18 + 1)) (k := 2) (fun x2_20 => [(2, .int x2_20), (0, .ref (ea E 2)), (1, .int x1_17)]) dX0_shorten_91 hl rfl (by rfl) (by decide) rfl hE (fun x2_20 ls hl hE => ?_)
    refine lv_goto (tgt := 2) hx hb dX0_shorten_94 (by decide) ?_
    exact ih x1_17 x2_20 σ_19 _ _ _ (lv_sub hl [1, 2, 0] rfl) hP hS hE
def fX0_shorten  (x1 : Int32) (σ : ST) : Option (ST) :=
  bnd (0 : Int32) (fun x2_1 => fX0_shorten_L2 (fun σ_21 => some σ_21) FU x1 x2_1 σ)
set_option maxHeartbeats 4000000 in
set_option maxRecDepth 100000 in
theorem wX0_shorten {p : Program} {l : Launch} {e : Env} {s : State} {m : MethodId} {args : Array Value} {below : List Frame} {meth : Method} {c : Code} {E : EN} (C : zC E xW p s m args meth c cX0_shorten 7 RX0 none wsL_law) {F : ST}   (x1 : Int32) (σ : ST) (H : Heap) (locs : List Loc) (ls : Array Slot) (hl : lv_has ls 7 [(0, .ref (ea E 2)), (1, .int x1)]) (hP : va_P (eD E) vwCl (xW E σ) H) (hS : va_S (eA E) s.heap H locs) (hE : fX0_shorten  x1 σ = some F) : zWv E xW p l e r_X0_shorten s m args below meth c F H locs (F0 m 0 ls []) := by
  obtain ⟨hx, hb, hml, hown, hts, hr, hlk, hK, hD⟩ := id C
  unfold fX0_shorten at hE
  refine lv_iconst (v := 0) hx hb dX0_shorten_0 (by decide) ?_
  refine z_istore_n hx hb (fun x2_1 => [(2, .int x2_1), (0, .ref (ea E 2)), (1, .int x1)]) dX0_shorten_1 rfl hl (by decide) rfl hE (fun x2_1 ls hl hE => ?_)
  refine wX0_shorten_L2 C ?_ FU x1 x2_1 σ _ _ _ (lv_sub hl [1, 2, 0] rfl) hP hS hE
  intro σ_21 H locs ls hl hP hS hE
  exact z_vret hx hb hr hlk hP hS dX0_shorten_97 hE
theorem kX0_shorten (l : Launch) (E : EN) (hD : ∀ σ, va_D (eA E) (xW E σ)) (x1 : Int32) (σ : ST) (F : ST) (hE : fX0_shorten x1 σ = some F) : Met l yX0_shorten wu_X0_shorten r_X0_shorten (zPc E xW [.ref (ea E 2), .int x1] σ) (zQv E xW F) 0 0 (eA E) := by
  refine Met.ofW (cc := cX0_shorten) (maxL := 7) (ret := none) (by decide) rfl ?_
  intro p e s m args below meth c s₁ B hml hv
  obtain ⟨rfl, hP, hK⟩ := hv
  have hl := lv_entry ([.ref (ea E 2), .int x1]) (n := 7) (Nat.le_of_ble_eq_true rfl)
  rw [lg_entry_eq]
  generalize (lg_sl ([.ref (ea E 2), .int x1]) ++ List.replicate (7 - (lg_sl ([.ref (ea E 2), .int x1])).length) Slot.unset).toArray = ls at hl ⊢
  exact wX0_shorten ⟨B.exec, B.bytes, hml, findClass_of_methodNamed B.named, fun w h => atoms_spec (ws := wu_X0_shorten) B.pre w (List.mem_cons_of_mem _ h), B.returns, B.notSynchronized, hK, hD⟩ x1 σ s.heap [] ls hl hP va_S.rf hE
def fX0_keepIfNearer_J64  (x1 : Int32) (x2 : Int32) (σ : ST) : Option (ST) :=
  ald (gA σ 4) 64 x1 (fun v_4 => ast σ 0 64 x1 v_4 (fun σ_5 => ast σ_5 1 64 x1 x2 (fun σ_6 => some σ_6)))
set_option maxHeartbeats 4000000 in
set_option maxRecDepth 100000 in
theorem wX0_keepIfNearer_J64 {p : Program} {l : Launch} {e : Env} {s : State} {m : MethodId} {args : Array Value} {below : List Frame} {meth : Method} {c : Code} {E : EN} (C : zC E xW p s m args meth c cX0_keepIfNearer 3 RX0 none wsL_law) {F : ST}   (x1 : Int32) (x2 : Int32) (σ : ST) (H : Heap) (locs : List Loc) (ls : Array Slot) (hl : lv_has ls 3 [(0, .ref (ea E 2)), (1, .int x1), (2, .int x2)]) (hP : va_P (eD E) vwCl (xW E σ) H) (hS : va_S (eA E) s.heap H locs) (hE : fX0_keepIfNearer_J64  x1 x2 σ = some F) : zWv E xW p l e r_X0_keepIfNearer s m args below meth c F H locs (F0 m 64 ls []) := by
  obtain ⟨hx, hb, hml, hown, hts, hr, hlk, hK, hD⟩ := id C
  have hwX0 : ∀ w ∈ wsX00, w.before args s = true := fun w h => hts w (inlX0 w h)
  unfold fX0_keepIfNearer_J64 at hE
  refine lv_aload_n hx hb dX0_keepIfNearer_64 rfl (lv_at hl 0 rfl) ?_
  refine xg_2_0 hx hb hown hwX0 (hts _ u_82) hK hP dX0_keepIfNearer_65 ?_
  refine lv_iload_n hx hb dX0_keepIfNearer_68 rfl (lv_at hl 1 rfl) ?_
  refine lv_aload_n hx hb dX0_keepIfNearer_69 rfl (lv_at hl 0 rfl) ?_
  refine xg_2_4 hx hb hown hwX0 (hts _ u_86) hK hP dX0_keepIfNearer_70 ?_
  refine lv_iload_n hx hb dX0_keepIfNearer_73 rfl (lv_at hl 1 rfl) ?_
  refine xa_11 hx hb hK hP dX0_keepIfNearer_74 hE (fun v_4 hE => ?_)
  refine xs_7 hx hb hK hD hP hS dX0_keepIfNearer_75 hE (fun σ_5 H locs hP hS hE => ?_)
  refine lv_aload_n hx hb dX0_keepIfNearer_76 rfl (lv_at hl 0 rfl) ?_
  refine xg_2_1 hx hb hown hwX0 (hts _ u_83) hK hP dX0_keepIfNearer_77 ?_
  refine lv_iload_n hx hb dX0_keepIfNearer_80 rfl (lv_at hl 1 rfl) ?_
  refine lv_iload_n hx hb dX0_keepIfNearer_81 rfl (lv_at hl 2 rfl) ?_
  refine xs_8 hx hb hK hD hP hS dX0_keepIfNearer_82 hE (fun σ_6 H locs hP hS hE => ?_)
  exact z_vret hx hb hr hlk hP hS dX0_keepIfNearer_83 hE
def fX0_keepIfNearer_J40  (x1 : Int32) (x2 : Int32) (σ : ST) : Option (ST) :=
  ald (gA σ 0) 64 x1 (fun v_3 => (if v_3 < 0 then fX0_keepIfNearer_J64  x1 x2 σ else ald (gA σ 4) 64 x1 (fun v_7 => ald (gA σ 0) 64 x1 (fun v_8 => (if v_8 ≤ v_7 then some σ else fX0_keepIfNearer_J64  x1 x2 σ)))))
set_option maxHeartbeats 4000000 in
set_option maxRecDepth 100000 in
theorem wX0_keepIfNearer_J40 {p : Program} {l : Launch} {e : Env} {s : State} {m : MethodId} {args : Array Value} {below : List Frame} {meth : Method} {c : Code} {E : EN} (C : zC E xW p s m args meth c cX0_keepIfNearer 3 RX0 none wsL_law) {F : ST}   (x1 : Int32) (x2 : Int32) (σ : ST) (H : Heap) (locs : List Loc) (ls : Array Slot) (hl : lv_has ls 3 [(0, .ref (ea E 2)), (1, .int x1), (2, .int x2)]) (hP : va_P (eD E) vwCl (xW E σ) H) (hS : va_S (eA E) s.heap H locs) (hE : fX0_keepIfNearer_J40  x1 x2 σ = some F) : zWv E xW p l e r_X0_keepIfNearer s m args below meth c F H locs (F0 m 40 ls []) := by
  obtain ⟨hx, hb, hml, hown, hts, hr, hlk, hK, hD⟩ := id C
  have hwX0 : ∀ w ∈ wsX00, w.before args s = true := fun w h => hts w (inlX0 w h)
  unfold fX0_keepIfNearer_J40 at hE
  refine lv_aload_n hx hb dX0_keepIfNearer_40 rfl (lv_at hl 0 rfl) ?_
  refine xg_2_0 hx hb hown hwX0 (hts _ u_82) hK hP dX0_keepIfNearer_41 ?_
  refine lv_iload_n hx hb dX0_keepIfNearer_44 rfl (lv_at hl 1 rfl) ?_
  refine xa_7 hx hb hK hP dX0_keepIfNearer_45 hE (fun v_3 hE => ?_)
  refine z_if_lt (tgt := 64) hx hb dX0_keepIfNearer_46 (by decide) hE (fun hE => ?_) (fun hE => ?_)
  · exact wX0_keepIfNearer_J64 C  x1 x2 σ _ _ _ (lv_sub hl [0, 1, 2] rfl) hP hS hE
  refine lv_aload_n hx hb dX0_keepIfNearer_49 rfl (lv_at hl 0 rfl) ?_
  refine xg_2_4 hx hb hown hwX0 (hts _ u_86) hK hP dX0_keepIfNearer_50 ?_
  refine lv_iload_n hx hb dX0_keepIfNearer_53 rfl (lv_at hl 1 rfl) ?_
  refine xa_11 hx hb hK hP dX0_keepIfNearer_54 hE (fun v_7 hE => ?_)
  refine lv_aload_n hx hb dX0_keepIfNearer_55 rfl (lv_at hl 0 rfl) ?_
  refine xg_2_0 hx hb hown hwX0 (hts _ u_82) hK hP dX0_keepIfNearer_56 ?_
  refine lv_iload_n hx hb dX0_keepIfNearer_59 rfl (lv_at hl 1 rfl) ?_
  refine xa_7 hx hb hK hP dX0_keepIfNearer_60 hE (fun v_8 hE => ?_)
  refine z_icmp_ge (tgt := 83) hx hb dX0_keepIfNearer_61 (by decide) hE (fun hE => ?_) (fun hE => ?_)
  · exact z_vret hx hb hr hlk hP hS dX0_keepIfNearer_83 hE
  exact wX0_keepIfNearer_J64 C  x1 x2 σ _ _ _ (lv_sub hl [0, 1, 2] rfl) hP hS hE
def fX0_keepIfNearer  (x1 : Int32) (x2 : Int32) (σ : ST) : Option (ST) :=
  ald (gA σ 4) 64 x1 (fun v_1 => (if v_1 < 1000000 then ald (gA σ 2) 64 x1 (fun v_2 => (if 0 ≤ v_2 then fX0_keepIfNearer_J40  x1 x2 σ else ald (gA σ 4) 64 x1 (fun v_9 => ast σ 2 64 x1 v_9 (fun σ_10 => ast σ_10 3 64 x1 x2 (fun σ_11 => fX0_keepIfNearer_J40  x1 x2 σ_11))))) else some σ))
set_option maxHeartbeats 4000000 in
set_option maxRecDepth 100000 in
theorem wX0_keepIfNearer {p : Program} {l : Launch} {e : Env} {s : State} {m : MethodId} {args : Array Value} {below : List Frame} {meth : Method} {c : Code} {E : EN} (C : zC E xW p s m args meth c cX0_keepIfNearer 3 RX0 none wsL_law) {F : ST}   (x1 : Int32) (x2 : Int32) (σ : ST) (H : Heap) (locs : List Loc) (ls : Array Slot) (hl : lv_has ls 3 [(0, .ref (ea E 2)), (1, .int x1), (2, .int x2)]) (hP : va_P (eD E) vwCl (xW E σ) H) (hS : va_S (eA E) s.heap H locs) (hE : fX0_keepIfNearer  x1 x2 σ = some F) : zWv E xW p l e r_X0_keepIfNearer s m args below meth c F H locs (F0 m 0 ls []) := by
  obtain ⟨hx, hb, hml, hown, hts, hr, hlk, hK, hD⟩ := id C
  have hwX0 : ∀ w ∈ wsX00, w.before args s = true := fun w h => hts w (inlX0 w h)
  unfold fX0_keepIfNearer at hE
  refine lv_aload_n hx hb dX0_keepIfNearer_0 rfl (lv_at hl 0 rfl) ?_
  refine xg_2_4 hx hb hown hwX0 (hts _ u_86) hK hP dX0_keepIfNearer_1 ?_
  refine lv_iload_n hx hb dX0_keepIfNearer_4 rfl (lv_at hl 1 rfl) ?_
  refine xa_11 hx hb hK hP dX0_keepIfNearer_5 hE (fun v_1 hE => ?_)
  refine lv_ldc (v := 1000000) hx hb hown (hts _ u_324) dX0_keepIfNearer_6 ?_
  refine z_icmp_lt (tgt := 12) hx hb dX0_keepIfNearer_8 (by decide) hE (fun hE => ?_) (fun hE => ?_)
  · refine lv_aload_n hx hb dX0_keepIfNearer_12 rfl (lv_at hl 0 rfl) ?_
    refine xg_2_2 hx hb hown hwX0 (hts _ u_84) hK hP dX0_keepIfNearer_13 ?_
    refine lv_iload_n hx hb dX0_keepIfNearer_16 rfl (lv_at hl 1 rfl) ?_
    refine xa_9 hx hb hK hP dX0_keepIfNearer_17 hE (fun v_2 hE => ?_)
    refine z_if_ge (tgt := 40) hx hb dX0_keepIfNearer_18 (by decide) hE (fun hE => ?_) (fun hE => ?_)
    · exact wX0_keepIfNearer_J40 C  x1 x2 σ _ _ _ (lv_sub hl [0, 1, 2] rfl) hP hS hE
    refine lv_aload_n hx hb dX0_keepIfNearer_21 rfl (lv_at hl 0 rfl) ?_
    refine xg_2_2 hx hb hown hwX0 (hts _ u_84) hK hP dX0_keepIfNearer_22 ?_
    refine lv_iload_n hx hb dX0_keepIfNearer_25 rfl (lv_at hl 1 rfl) ?_
    refine lv_aload_n hx hb dX0_keepIfNearer_26 rfl (lv_at hl 0 rfl) ?_
    refine xg_2_4 hx hb hown hwX0 (hts _ u_86) hK hP dX0_keepIfNearer_27 ?_
    refine lv_iload_n hx hb dX0_keepIfNearer_30 rfl (lv_at hl 1 rfl) ?_
    refine xa_11 hx hb hK hP dX0_keepIfNearer_31 hE (fun v_9 hE => ?_)
    refine xs_9 hx hb hK hD hP hS dX0_keepIfNearer_32 hE (fun σ_10 H locs hP hS hE => ?_)
    refine lv_aload_n hx hb dX0_keepIfNearer_33 rfl (lv_at hl 0 rfl) ?_
    refine xg_2_3 hx hb hown hwX0 (hts _ u_85) hK hP dX0_keepIfNearer_34 ?_
    refine lv_iload_n hx hb dX0_keepIfNearer_37 rfl (lv_at hl 1 rfl) ?_
    refine lv_iload_n hx hb dX0_keepIfNearer_38 rfl (lv_at hl 2 rfl) ?_
    refine xs_10 hx hb hK hD hP hS dX0_keepIfNearer_39 hE (fun σ_11 H locs hP hS hE => ?_)
    exact wX0_keepIfNearer_J40 C  x1 x2 σ_11 _ _ _ (lv_sub hl [0, 1, 2] rfl) hP hS hE
  exact z_vret hx hb hr hlk hP hS dX0_keepIfNearer_11 hE
theorem kX0_keepIfNearer (l : Launch) (E : EN) (hD : ∀ σ, va_D (eA E) (xW E σ)) (x1 : Int32) (x2 : Int32) (σ : ST) (F : ST) (hE : fX0_keepIfNearer x1 x2 σ = some F) : Met l yX0_keepIfNearer wu_X0_keepIfNearer r_X0_keepIfNearer (zPc E xW [.ref (ea E 2), .int x1, .int x2] σ) (zQv E xW F) 0 0 (eA E) := by
  refine Met.ofW (cc := cX0_keepIfNearer) (maxL := 3) (ret := none) (by decide) rfl ?_
  intro p e s m args below meth c s₁ B hml hv
  obtain ⟨rfl, hP, hK⟩ := hv
  have hl := lv_entry ([.ref (ea E 2), .int x1, .int x2]) (n := 3) (Nat.le_of_ble_eq_true rfl)
  rw [lg_entry_eq]
  generalize (lg_sl ([.ref (ea E 2), .int x1, .int x2]) ++ List.replicate (3 - (lg_sl ([.ref (ea E 2), .int x1, .int x2])).length) Slot.unset).toArray = ls at hl ⊢
  exact wX0_keepIfNearer ⟨B.exec, B.bytes, hml, findClass_of_methodNamed B.named, fun w h => atoms_spec (ws := wu_X0_keepIfNearer) B.pre w (List.mem_cons_of_mem _ h), B.returns, B.notSynchronized, hK, hD⟩ x1 x2 σ s.heap [] ls hl hP va_S.rf hE
