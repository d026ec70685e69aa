def fX5_go_J203 (kb : Int32 → Int32 → ST → Option (ST)) (x2 : Int32) (x3 : Int32) (x4 : Int32) (x5 : Int32) (x7 : Int32) (x8 : Int32) (t0 : Int32) (σ : ST) : Option (ST) :=
  bnd (t0 : Int32) (fun x9_30 => ald (gA σ 12) 10 x3 (fun v_31 => bnd (sI σ 12 ((gI σ 12) ||| (1 <<< (v_31 &&& 31)))) (fun σ_32 => bnd (sI σ_32 13 ((gI σ_32 13) + x9_30)) (fun σ_33 => ald (gA σ_33 1) 200 (x4 + 2) (fun v_34 => bnd (sL σ_33 1 ((gL σ_33 1) + ((gL σ_33 0) * (Int32.toInt64 (v_34 - x9_30))))) (fun σ_35 => bnd (sI σ_35 11 ((gI σ_35 11) + x7)) (fun σ_36 => (if x8 = 0 then calv (fX5_start x5 σ_36) (fun σ_38 => bnd (x3 + 1) (fun x3_39 => kb x2 x3_39 σ_38)) else bnd (x3 + 1) (fun x3_37 => kb x2 x3_37 σ_36)))))))))
set_option maxHeartbeats 4000000 in
set_option maxRecDepth 100000 in
theorem wX5_go_J203 {p : Program} {l : Launch} {e : Env} {s : State} {m : MethodId} {args : Array Value} {below : List Frame} {meth : Method} {c : Code} {E : EN} (C : zC E mW p s m args meth c cX5_go 10 RX5 none wsX5_go) {F : ST} {kb : Int32 → Int32 → ST → Option (ST)} (hkb : ∀ (x2 : Int32) (x3 : Int32) (σ : ST) (H : Heap) (locs : List Loc) (ls : Array Slot), lv_has ls 10 [(0, .ref (ea E 0)), (2, .int x2), (3, .int x3)] → va_P (eD E) vwCl (mW E σ) H → va_S (eA E) s.heap H locs → kb x2 x3 σ = some F → zWv E mW p l e r_X5_go s m args below meth c F H locs (F0 m 51 ls [])) (x2 : Int32) (x3 : Int32) (x4 : Int32) (x5 : Int32) (x7 : Int32) (x8 : Int32) (t0 : Int32) (σ : ST) (H : Heap) (locs : List Loc) (ls : Array Slot) (hl : lv_has ls 10 [(0, .ref (ea E 0)), (2, .int x2), (3, .int x3), (4, .int x4), (5, .int x5), (7, .int x7), (8, .int x8)]) (hP : va_P (eD E) vwCl (mW E σ) H) (hS : va_S (eA E) s.heap H locs) (hE : fX5_go_J203 kb x2 x3 x4 x5 x7 x8 t0 σ = some F) : zWv E mW p l e r_X5_go s m args below meth c F H locs (F0 m 203 ls [.int t0]) := by
  obtain ⟨hx, hb, hml, hown, hts, hr, hlk, hK, hD⟩ := id C
  have hwX5 : ∀ w ∈ wsX50, w.before args s = true := fun w h => hts w (List.mem_cons_of_mem _ (List.mem_append_right _ h))
  unfold fX5_go_J203 at hE
  refine z_istore hx hb (fun x9_30 => [(9, .int x9_30), (0, .ref (ea E 0)), (2, .int x2), (3, .int x3), (4, .int x4), (5, .int x5), (7, .int x7), (8, .int x8)]) dX5_go_203 hl (by decide) rfl hE (fun x9_30 ls hl hE => ?_)
  refine lv_aload_n hx hb dX5_go_205 rfl (lv_at hl 1 rfl) ?_
  refine lv_dup hx hb dX5_go_206 rfl ?_
  refine mg_0_25 hx hb hown hwX5 (hts _ (List.mem_of_getElem? (i := 5) rfl)) hK hP dX5_go_207 ?_
  refine lv_iconst (v := 1) hx hb dX5_go_210 (by decide) ?_
  refine lv_aload_n hx hb dX5_go_211 rfl (lv_at hl 1 rfl) ?_
  refine mg_0_20 hx hb hown hwX5 (hts _ (List.mem_of_getElem? (i := 11) rfl)) hK hP dX5_go_212 ?_
  refine lv_iload_n hx hb dX5_go_215 rfl (lv_at hl 3 rfl) ?_
  refine ma_13 hx hb hK hP dX5_go_216 hE (fun v_31 hE => ?_)
  refine lv_ishl hx hb dX5_go_217 ?_
  refine lv_ior hx hb dX5_go_218 ?_
  refine mp_0_25 hx hb hown hwX5 (hts _ (List.mem_of_getElem? (i := 5) rfl)) hK hD hP hS dX5_go_219 hE (fun σ_32 H locs hP hS hE => ?_)
  refine lv_aload_n hx hb dX5_go_222 rfl (lv_at hl 1 rfl) ?_
  refine lv_dup hx hb dX5_go_223 rfl ?_
  refine mg_0_26 hx hb hown hwX5 (hts _ (List.mem_of_getElem? (i := 6) rfl)) hK hP dX5_go_224 ?_
  refine lv_iload hx hb dX5_go_227 (lv_at hl 0 rfl) ?_
  refine lv_iadd hx hb dX5_go_229 ?_
  refine mp_0_26 hx hb hown hwX5 (hts _ (List.mem_of_getElem? (i := 6) rfl)) hK hD hP hS dX5_go_230 hE (fun σ_33 H locs hP hS hE => ?_)
  refine lv_aload_n hx hb dX5_go_233 rfl (lv_at hl 1 rfl) ?_
  refine lv_dup hx hb dX5_go_234 rfl ?_
  refine mg_0_28 hx hb hown hwX5 (hts _ (List.mem_of_getElem? (i := 9) rfl)) hK hP dX5_go_235 ?_
  refine lv_aload_n hx hb dX5_go_238 rfl (lv_at hl 1 rfl) ?_
  refine mg_0_27 hx hb hown hwX5 (hts _ (List.mem_of_getElem? (i := 8) rfl)) hK hP dX5_go_239 ?_
  refine lv_aload_n hx hb dX5_go_242 rfl (lv_at hl 1 rfl) ?_
  refine mg_0_1 hx hb hown hwX5 (hts _ (List.mem_of_getElem? (i := 2) rfl)) hK hP dX5_go_243 ?_
  refine lv_iload hx hb dX5_go_246 (lv_at hl 4 rfl) ?_
  refine lv_iconst (v := 2) hx hb dX5_go_248 (by decide) ?_
  refine lv_iadd hx hb dX5_go_249 ?_
  refine ma_2 hx hb hK hP dX5_go_250 hE (fun v_34 hE => ?_)
  refine lv_iload hx hb dX5_go_251 (lv_at hl 0 rfl) ?_
  refine lv_isub hx hb dX5_go_253 ?_
  refine lv_i2l (v := (Int32.toInt64 (v_34 - x9_30))) hx hb dX5_go_254 rfl ?_
  refine lv_lmul hx hb dX5_go_255 ?_
  refine lv_ladd hx hb dX5_go_256 ?_
  refine mp_0_28 hx hb hown hwX5 (hts _ (List.mem_of_getElem? (i := 9) rfl)) hK hD hP hS dX5_go_257 hE (fun σ_35 H locs hP hS hE => ?_)
  refine lv_aload_n hx hb dX5_go_260 rfl (lv_at hl 1 rfl) ?_
  refine lv_dup hx hb dX5_go_261 rfl ?_
  refine mg_0_24 hx hb hown hwX5 (hts _ (List.mem_of_getElem? (i := 4) rfl)) hK hP dX5_go_262 ?_
  refine lv_iload hx hb dX5_go_265 (lv_at hl 6 rfl) ?_
  refine lv_iadd hx hb dX5_go_267 ?_
  refine mp_0_24 hx hb hown hwX5 (hts _ (List.mem_of_getElem? (i := 4) rfl)) hK hD hP hS dX5_go_268 hE (fun σ_36 H locs hP hS hE => ?_)
  refine lv_iload hx hb dX5_go_271 (lv_at hl 7 rfl) ?_
  refine z_if_ne (tgt := 282) hx hb dX5_go_273 (by decide) hE (fun hE => ?_) (fun hE => ?_)
  · refine z_iinc hx hb (v := (x3 + 1)) (k := 3) (fun x3_37 => [(3, .int x3_37), (9, .int x9_30), (0, .ref (ea E 0)), (2, .int x2), (4, .int x4), (5, .int x5), (7, .int x7), (8, .int x8)]) dX5_go_282 hl rfl (by rfl) (by decide) rfl hE (fun x3_37 ls hl hE => ?_)
    refine lv_goto (tgt := 51) hx hb dX5_go_285 (by decide) ?_
    exact hkb x2 x3_37 σ_36 _ _ _ (lv_sub hl [2, 3, 0] rfl) hP hS hE
  refine lv_aload_n hx hb dX5_go_276 rfl (lv_at hl 1 rfl) ?_
  refine lv_iload hx hb dX5_go_277 (lv_at hl 5 rfl) ?_
  refine z_gov (wf := mW) hS hE (fun F1 h1 => (va_runV (As := [.int x5]) (rest := []) ⟨hx, hb, hml, hown, hts⟩ (kX5_start l E hD x5 σ_36 F1 h1) (cwV 1 hts gX5_go_X5_start rfl rfl rfl q_X5_start ⟨Nat.le_of_ble_eq_true rfl, Nat.le_of_ble_eq_true rfl⟩) (z_preV hK hP hS (ci := 5) (q0 := 0) rfl rfl rfl) rfl rfl hl.1 rfl (lv_room (Nat.le_of_ble_eq_true rfl)) dX5_go_279 ⟨Nat.le_of_ble_eq_true rfl, Nat.le_of_ble_eq_true rfl⟩)) (fun σ_38 H locs hP hS hE => ?_)
  refine z_iinc hx hb (v := (x3 + 1)) (k := 3) (fun x3_39 => [(3, .int x3_39), (9, .int x9_30), (0, .ref (ea E 0)), (2, .int x2), (4, .int x4), (5, .int x5), (7, .int x7), (8, .int x8)]) dX5_go_282 hl rfl (by rfl) (by decide) rfl hE (fun x3_39 ls hl hE => ?_)
  refine lv_goto (tgt := 51) hx hb dX5_go_285 (by decide) ?_
  exact hkb x2 x3_39 σ_38 _ _ _ (lv_sub hl [2, 3, 0] rfl) hP hS hE
def fX5_go_J122 (kb : Int32 → Int32 → ST → Option (ST)) (x2 : Int32) (x3 : Int32) (x4 : Int32) (x5 : Int32) (t0 : Int32) (σ : ST) : Option (ST) :=
  bnd (t0 : Int32) (fun x6_17 => (if x6_17 = 0 then cali (fX5_goesIn x2 x5 σ) (fun r_20 σ_19 => bnd (sI σ_19 11 ((gI σ 11) + r_20)) (fun σ_21 => bnd (x5 : Int32) (fun x2_22 => ald (gA σ_21 1) 200 (x4 + 3) (fun v_23 => (if v_23 < (gI σ_21 11) then bnd (x3 + 1) (fun x3_24 => kb x2_22 x3_24 σ_21) else ald (gA σ_21 1) 200 (x4 + 1) (fun v_25 => bnd (v_25 : Int32) (fun x7_26 => cali (fX5_runsOn x5 x7_26 σ_21) (fun r_28 σ_27 => bnd (r_28 : Int32) (fun x8_29 => (if x8_29 = 0 then fX5_go_J203 kb x2_22 x3 x4 x5 x7_26 x8_29 0 σ_27 else ald (gA σ_27 1) 200 3 (fun v_40 => fX5_go_J203 kb x2_22 x3 x4 x5 x7_26 x8_29 (v_40 * x7_26) σ_27))))))))))) else bnd (x3 + 1) (fun x3_18 => kb x2 x3_18 σ)))
set_option maxHeartbeats 4000000 in
set_option maxRecDepth 100000 in
theorem wX5_go_J122 {p : Program} {l : Launch} {e : Env} {s : State} {m : MethodId} {args : Array Value} {below : List Frame} {meth : Method} {c : Code} {E : EN} (C : zC E mW p s m args meth c cX5_go 10 RX5 none wsX5_go) {F : ST} {kb : Int32 → Int32 → ST → Option (ST)} (hkb : ∀ (x2 : Int32) (x3 : Int32) (σ : ST) (H : Heap) (locs : List Loc) (ls : Array Slot), lv_has ls 10 [(0, .ref (ea E 0)), (2, .int x2), (3, .int x3)] → va_P (eD E) vwCl (mW E σ) H → va_S (eA E) s.heap H locs → kb x2 x3 σ = some F → zWv E mW p l e r_X5_go s m args below meth c F H locs (F0 m 51 ls [])) (x2 : Int32) (x3 : Int32) (x4 : Int32) (x5 : Int32) (t0 : Int32) (σ : ST) (H : Heap) (locs : List Loc) (ls : Array Slot) (hl : lv_has ls 10 [(0, .ref (ea E 0)), (2, .int x2), (3, .int x3), (4, .int x4), (5, .int x5)]) (hP : va_P (eD E) vwCl (mW E σ) H) (hS : va_S (eA E) s.heap H locs) (hE : fX5_go_J122 kb x2 x3 x4 x5 t0 σ = some F) : zWv E mW p l e r_X5_go s m args below meth c F H locs (F0 m 122 ls [.int t0]) := by
  obtain ⟨hx, hb, hml, hown, hts, hr, hlk, hK, hD⟩ := id C
  have hwX5 : ∀ w ∈ wsX50, w.before args s = true := fun w h => hts w (List.mem_cons_of_mem _ (List.mem_append_right _ h))
  unfold fX5_go_J122 at hE
  refine z_istore hx hb (fun x6_17 => [(6, .int x6_17), (0, .ref (ea E 0)), (2, .int x2), (3, .int x3), (4, .int x4), (5, .int x5)]) dX5_go_122 hl (by decide) rfl hE (fun x6_17 ls hl hE => ?_)
  refine lv_iload hx hb dX5_go_124 (lv_at hl 0 rfl) ?_
  refine z_if_ne (tgt := 282) hx hb dX5_go_126 (by decide) hE (fun hE => ?_) (fun hE => ?_)
  · refine z_iinc hx hb (v := (x3 + 1)) (k := 3) (fun x3_18 => [(3, .int x3_18), (6, .int x6_17), (0, .ref (ea E 0)), (2, .int x2), (4, .int x4), (5, .int x5)]) dX5_go_282 hl rfl (by rfl) (by decide) rfl hE (fun x3_18 ls hl hE => ?_)
    refine lv_goto (tgt := 51) hx hb dX5_go_285 (by decide) ?_
    exact hkb x2 x3_18 σ _ _ _ (lv_sub hl [2, 3, 0] rfl) hP hS hE
  refine lv_aload_n hx hb dX5_go_129 rfl (lv_at hl 1 rfl) ?_
  refine lv_dup hx hb dX5_go_130 rfl ?_
  refine mg_0_24 hx hb hown hwX5 (hts _ (List.mem_of_getElem? (i := 4) rfl)) hK hP dX5_go_131 ?_
  refine lv_aload_n hx hb dX5_go_134 rfl (lv_at hl 1 rfl) ?_
  refine lv_iload_n hx hb dX5_go_135 rfl (lv_at hl 2 rfl) ?_
  refine lv_iload hx hb dX5_go_136 (lv_at hl 5 rfl) ?_
  refine z_goi (wf := mW) hS hE (fun F1 h1 => (va_runV (As := [.int x2, .int x5]) (rest := [.int (gI σ 11), .ref (ea E 0)]) ⟨hx, hb, hml, hown, hts⟩ (kX5_goesIn l E hD x2 x5 σ F1 h1) (cwV 2 hts gX5_go_X5_goesIn rfl rfl rfl q_X5_goesIn ⟨Nat.le_of_ble_eq_true rfl, Nat.le_of_ble_eq_true rfl⟩) (z_preV hK hP hS (ci := 5) (q0 := 0) rfl rfl rfl) rfl rfl hl.1 rfl (lv_room (Nat.le_of_ble_eq_true rfl)) dX5_go_138 ⟨Nat.le_of_ble_eq_true rfl, Nat.le_of_ble_eq_true rfl⟩)) (fun r_20 σ_19 H locs hP hS hE => ?_)
  refine lv_iadd hx hb dX5_go_141 ?_
  refine mp_0_24 hx hb hown hwX5 (hts _ (List.mem_of_getElem? (i := 4) rfl)) hK hD hP hS dX5_go_142 hE (fun σ_21 H locs hP hS hE => ?_)
  refine lv_iload hx hb dX5_go_145 (lv_at hl 5 rfl) ?_
  refine z_istore_n hx hb (fun x2_22 => [(2, .int x2_22), (6, .int x6_17), (0, .ref (ea E 0)), (3, .int x3), (4, .int x4), (5, .int x5)]) dX5_go_147 rfl hl (by decide) rfl hE (fun x2_22 ls hl hE => ?_)
  refine lv_aload_n hx hb dX5_go_148 rfl (lv_at hl 2 rfl) ?_
  refine mg_0_24 hx hb hown hwX5 (hts _ (List.mem_of_getElem? (i := 4) rfl)) hK hP dX5_go_149 ?_
  refine lv_aload_n hx hb dX5_go_152 rfl (lv_at hl 2 rfl) ?_
  refine mg_0_1 hx hb hown hwX5 (hts _ (List.mem_of_getElem? (i := 2) rfl)) hK hP dX5_go_153 ?_
  refine lv_iload hx hb dX5_go_156 (lv_at hl 4 rfl) ?_
  refine lv_iconst (v := 3) hx hb dX5_go_158 (by decide) ?_
  refine lv_iadd hx hb dX5_go_159 ?_
  refine ma_2 hx hb hK hP dX5_go_160 hE (fun v_23 hE => ?_)
  refine z_icmp_gt (tgt := 282) hx hb dX5_go_161 (by decide) hE (fun hE => ?_) (fun hE => ?_)
  · refine z_iinc hx hb (v := (x3 + 1)) (k := 3) (fun x3_24 => [(3, .int x3_24), (2, .int x2_22), (6, .int x6_17), (0, .ref (ea E 0)), (4, .int x4), (5, .int x5)]) dX5_go_282 hl rfl (by rfl) (by decide) rfl hE (fun x3_24 ls hl hE => ?_)
    refine lv_goto (tgt := 51) hx hb dX5_go_285 (by decide) ?_
    exact hkb x2_22 x3_24 σ_21 _ _ _ (lv_sub hl [3, 1, 0] rfl) hP hS hE
  refine lv_aload_n hx hb dX5_go_164 rfl (lv_at hl 2 rfl) ?_
  refine mg_0_1 hx hb hown hwX5 (hts _ (List.mem_of_getElem? (i := 2) rfl)) hK hP dX5_go_165 ?_
  refine lv_iload hx hb dX5_go_168 (lv_at hl 4 rfl) ?_
  refine lv_iconst (v := 1) hx hb dX5_go_170 (by decide) ?_
  refine lv_iadd hx hb dX5_go_171 ?_
  refine ma_2 hx hb hK hP dX5_go_172 hE (fun v_25 hE => ?_)
  refine z_istore hx hb (fun x7_26 => [(7, .int x7_26), (2, .int x2_22), (6, .int x6_17), (0, .ref (ea E 0)), (3, .int x3), (4, .int x4), (5, .int x5)]) dX5_go_173 hl (by decide) rfl hE (fun x7_26 ls hl hE => ?_)
  refine lv_aload_n hx hb dX5_go_175 rfl (lv_at hl 3 rfl) ?_
  refine lv_iload hx hb dX5_go_176 (lv_at hl 6 rfl) ?_
  refine lv_iload hx hb dX5_go_178 (lv_at hl 0 rfl) ?_
  refine z_goi (wf := mW) hS hE (fun F1 h1 => (va_runV (As := [.int x5, .int x7_26]) (rest := []) ⟨hx, hb, hml, hown, hts⟩ (kX5_runsOn l E hD x5 x7_26 σ_21 F1 h1) (cwV 2 hts gX5_go_X5_runsOn rfl rfl rfl q_X5_runsOn ⟨Nat.le_of_ble_eq_true rfl, Nat.le_of_ble_eq_true rfl⟩) (z_preV hK hP hS (ci := 5) (q0 := 0) rfl rfl rfl) rfl rfl hl.1 rfl (lv_room (Nat.le_of_ble_eq_true rfl)) dX5_go_180 ⟨Nat.le_of_ble_eq_true rfl, Nat.le_of_ble_eq_true rfl⟩)) (fun r_28 σ_27 H locs hP hS hE => ?_)
  refine z_istore hx hb (fun x8_29 => [(8, .int x8_29), (7, .int x7_26), (2, .int x2_22), (6, .int x6_17), (0, .ref (ea E 0)), (3, .int x3), (4, .int x4), (5, .int x5)]) dX5_go_183 hl (by decide) rfl hE (fun x8_29 ls hl hE => ?_)
  refine lv_iload hx hb dX5_go_185 (lv_at hl 0 rfl) ?_
  refine z_if_eq (tgt := 202) hx hb dX5_go_187 (by decide) hE (fun hE => ?_) (fun hE => ?_)
  · refine lv_iconst (v := 0) hx hb dX5_go_202 (by decide) ?_
    exact wX5_go_J203 C hkb x2_22 x3 x4 x5 x7_26 x8_29 0 σ_27 _ _ _ (lv_sub hl [4, 2, 5, 6, 7, 1, 0] rfl) hP hS hE
  refine lv_aload_n hx hb dX5_go_190 rfl (lv_at hl 4 rfl) ?_
  refine mg_0_1 hx hb hown hwX5 (hts _ (List.mem_of_getElem? (i := 2) rfl)) hK hP dX5_go_191 ?_
  refine lv_iconst (v := 3) hx hb dX5_go_194 (by decide) ?_
  refine ma_2 hx hb hK hP dX5_go_195 hE (fun v_40 hE => ?_)
  refine lv_iload hx hb dX5_go_196 (lv_at hl 1 rfl) ?_
  refine lv_imul hx hb dX5_go_198 ?_
  refine lv_goto (tgt := 203) hx hb dX5_go_199 (by decide) ?_
  exact wX5_go_J203 C hkb x2_22 x3 x4 x5 x7_26 x8_29 (v_40 * x7_26) σ_27 _ _ _ (lv_sub hl [4, 2, 5, 6, 7, 1, 0] rfl) hP hS hE
def fX5_go_J117 (kb : Int32 → Int32 → ST → Option (ST)) (x2 : Int32) (x3 : Int32) (x4 : Int32) (x5 : Int32) (σ : ST) : Option (ST) :=
  fX5_go_J122 kb x2 x3 x4 x5 1 σ
set_option maxHeartbeats 4000000 in
set_option maxRecDepth 100000 in
theorem wX5_go_J117 {p : Program} {l : Launch} {e : Env} {s : State} {m : MethodId} {args : Array Value} {below : List Frame} {meth : Method} {c : Code} {E : EN} (C : zC E mW p s m args meth c cX5_go 10 RX5 none wsX5_go) {F : ST} {kb : Int32 → Int32 → ST → Option (ST)} (hkb : ∀ (x2 : Int32) (x3 : Int32) (σ : ST) (H : Heap) (locs : List Loc) (ls : Array Slot), lv_has ls 10 [(0, .ref (ea E 0)), (2, .int x2), (3, .int x3)] → va_P (eD E) vwCl (mW E σ) H → va_S (eA E) s.heap H locs → kb x2 x3 σ = some F → zWv E mW p l e r_X5_go s m args below meth c F H locs (F0 m 51 ls [])) (x2 : Int32) (x3 : Int32) (x4 : Int32) (x5 : Int32) (σ : ST) (H : Heap) (locs : List Loc) (ls : Array Slot) (hl : lv_has ls 10 [(0, .ref (ea E 0)), (2, .int x2), (3, .int x3), (4, .int x4), (5, .int x5)]) (hP : va_P (eD E) vwCl (mW E σ) H) (hS : va_S (eA E) s.heap H locs) (hE : fX5_go_J117 kb x2 x3 x4 x5 σ = some F) : zWv E mW p l e r_X5_go s m args below meth c F H locs (F0 m 117 ls []) := by
  obtain ⟨hx, hb, hml, hown, hts, hr, hlk, hK, hD⟩ := id C
  unfold fX5_go_J117 at hE
  refine lv_iconst (v := 1) hx hb dX5_go_117 (by decide) ?_
  refine lv_goto (tgt := 122) hx hb dX5_go_118 (by decide) ?_
  exact wX5_go_J122 C hkb x2 x3 x4 x5 1 σ _ _ _ (lv_sub hl [0, 1, 2, 3, 4] rfl) hP hS hE
def fX5_go_J100 (kb : Int32 → Int32 → ST → Option (ST)) (x2 : Int32) (x3 : Int32) (x4 : Int32) (x5 : Int32) (σ : ST) : Option (ST) :=
  ald (gA σ 8) 64 ((8 * x2) + x5) (fun v_16 => (if v_16 = 100000 then fX5_go_J117 kb x2 x3 x4 x5 σ else fX5_go_J122 kb x2 x3 x4 x5 0 σ))
set_option maxHeartbeats 4000000 in
set_option maxRecDepth 100000 in
theorem wX5_go_J100 {p : Program} {l : Launch} {e : Env} {s : State} {m : MethodId} {args : Array Value} {below : List Frame} {meth : Method} {c : Code} {E : EN} (C : zC E mW p s m args meth c cX5_go 10 RX5 none wsX5_go) {F : ST} {kb : Int32 → Int32 → ST → Option (ST)} (hkb : ∀ (x2 : Int32) (x3 : Int32) (σ : ST) (H : Heap) (locs : List Loc) (ls : Array Slot), lv_has ls 10 [(0, .ref (ea E 0)), (2, .int x2), (3, .int x3)] → va_P (eD E) vwCl (mW E σ) H → va_S (eA E) s.heap H locs → kb x2 x3 σ = some F → zWv E mW p l e r_X5_go s m args below meth c F H locs (F0 m 51 ls [])) (x2 : Int32) (x3 : Int32) (x4 : Int32) (x5 : Int32) (σ : ST) (H : Heap) (locs : List Loc) (ls : Array Slot) (hl : lv_has ls 10 [(0, .ref (ea E 0)), (2, .int x2), (3, .int x3), (4, .int x4), (5, .int x5)]) (hP : va_P (eD E) vwCl (mW E σ) H) (hS : va_S (eA E) s.heap H locs) (hE : fX5_go_J100 kb x2 x3 x4 x5 σ = some F) : zWv E mW p l e r_X5_go s m args below meth c F H locs (F0 m 100 ls []) := by
  obtain ⟨hx, hb, hml, hown, hts, hr, hlk, hK, hD⟩ := id C
  have hwX5 : ∀ w ∈ wsX50, w.before args s = true := fun w h => hts w (List.mem_cons_of_mem _ (List.mem_append_right _ h))
  unfold fX5_go_J100 at hE
  refine lv_aload_n hx hb dX5_go_100 rfl (lv_at hl 0 rfl) ?_
  refine mg_0_16 hx hb hown hwX5 (hts _ (List.mem_of_getElem? (i := 12) rfl)) hK hP dX5_go_101 ?_
  refine lv_bipush (v := 8) hx hb dX5_go_104 (by decide) ?_
  refine lv_iload_n hx hb dX5_go_106 rfl (lv_at hl 1 rfl) ?_
  refine lv_imul hx hb dX5_go_107 ?_
  refine lv_iload hx hb dX5_go_108 (lv_at hl 4 rfl) ?_
  refine lv_iadd hx hb dX5_go_110 ?_
  refine ma_9 hx hb hK hP dX5_go_111 hE (fun v_16 hE => ?_)
  refine lv_ldc (v := 100000) hx hb hown (hts _ (List.mem_of_getElem? (i := 13) rfl)) dX5_go_112 ?_
  refine z_icmp_ne (tgt := 121) hx hb dX5_go_114 (by decide) hE (fun hE => ?_) (fun hE => ?_)
  · refine lv_iconst (v := 0) hx hb dX5_go_121 (by decide) ?_
    exact wX5_go_J122 C hkb x2 x3 x4 x5 0 σ _ _ _ (lv_sub hl [0, 1, 2, 3, 4] rfl) hP hS hE
  exact wX5_go_J117 C hkb x2 x3 x4 x5 σ _ _ _ (lv_sub hl [0, 1, 2, 3, 4] rfl) hP hS hE
def fX5_go_L51 (ke : Int32 → ST → Option (ST)) : Nat → Int32 → Int32 → ST → Option (ST)
  | 0, _, _, _ => none
  | n + 1, x2, x3, σ => (if (gI σ 8) ≤ x3 then ke x2 σ else ald (gA σ 12) 10 x3 (fun v_12 => bnd ((40 + (4 * v_12)) : Int32) (fun x4_13 => ald (gA σ 1) 200 x4_13 (fun v_14 => bnd (v_14 : Int32) (fun x5_15 => (if (gI σ 9) ≤ 3 then fX5_go_J100 (fX5_go_L51 ke n) x2 x3 x4_13 x5_15 σ else cali (fX5_starts x5_15 σ) (fun r_42 σ_41 => (if r_42 < 10 then fX5_go_J117 (fX5_go_L51 ke n) x2 x3 x4_13 x5_15 σ_41 else fX5_go_J100 (fX5_go_L51 ke n) x2 x3 x4_13 x5_15 σ_41))))))))
set_option maxHeartbeats 4000000 in
set_option maxRecDepth 100000 in
theorem wX5_go_L51 {p : Program} {l : Launch} {e : Env} {s : State} {m : MethodId} {args : Array Value} {below : List Frame} {meth : Method} {c : Code} {E : EN} (C : zC E mW p s m args meth c cX5_go 10 RX5 none wsX5_go) {F : ST} {ke : Int32 → ST → Option (ST)} (hke : ∀ (x2 : Int32) (σ : ST) (H : Heap) (locs : List Loc) (ls : Array Slot), lv_has ls 10 [(0, .ref (ea E 0)), (2, .int x2)] → va_P (eD E) vwCl (mW E σ) H → va_S (eA E) s.heap H locs → ke x2 σ = some F → zWv E mW p l e r_X5_go s m args below meth c F H locs (F0 m 288 ls [])) : ∀ (n : Nat) (x2 : Int32) (x3 : Int32) (σ : ST) (H : Heap) (locs : List Loc) (ls : Array Slot), lv_has ls 10 [(0, .ref (ea E 0)), (2, .int x2), (3, .int x3)] → va_P (eD E) vwCl (mW E σ) H → va_S (eA E) s.heap H locs → fX5_go_L51 ke n x2 x3 σ = some F → zWv E mW p l e r_X5_go s m args below meth c F H locs (F0 m 51 ls []) := by
  obtain ⟨hx, hb, hml, hown, hts, hr, hlk, hK, hD⟩ := id C
  have hwX5 : ∀ w ∈ wsX50, w.before args s = true := fun w h => hts w (List.mem_cons_of_mem _ (List.mem_append_right _ h))
  intro n
  induction n with
  | zero => intro x2 x3 σ H locs ls hl hP hS hE; rw [fX5_go_L51] at hE; cases hE
  | succ n ih =>
    intro x2 x3 σ H locs ls hl hP hS hE
    rw [fX5_go_L51] at hE
    refine lv_iload_n hx hb dX5_go_51 rfl (lv_at hl 2 rfl) ?_
    refine lv_aload_n hx hb dX5_go_52 rfl (lv_at hl 0 rfl) ?_
    refine mg_0_21 hx hb hown hwX5 (hts _ (List.mem_of_getElem? (i := 10) rfl)) hK hP dX5_go_53 ?_
    refine z_icmp_ge (tgt := 288) hx hb dX5_go_56 (by decide) hE (fun hE => ?_) (fun hE => ?_)
    · exact hke x2 σ _ _ _ (lv_sub hl [0, 1] rfl) hP hS hE
    refine lv_bipush (v := 40) hx hb dX5_go_59 (by decide) ?_
    refine lv_iconst (v := 4) hx hb dX5_go_61 (by decide) ?_
    refine lv_aload_n hx hb dX5_go_62 rfl (lv_at hl 0 rfl) ?_
    refine mg_0_20 hx hb hown hwX5 (hts _ (List.mem_of_getElem? (i := 11) rfl)) hK hP dX5_go_63 ?_
    refine lv_iload_n hx hb dX5_go_66 rfl (lv_at hl 2 rfl) ?_
    refine ma_13 hx hb hK hP dX5_go_67 hE (fun v_12 hE => ?_)
    refine lv_imul hx hb dX5_go_68 ?_
    refine lv_iadd hx hb dX5_go_69 ?_
    refine z_istore hx hb (fun x4_13 => [(4, .int x4_13), (0, .ref (ea E 0)), (2, .int x2), (3, .int x3)]) dX5_go_70 hl (by decide) rfl hE (fun x4_13 ls hl hE => ?_)
    refine lv_aload_n hx hb dX5_go_72 rfl (lv_at hl 1 rfl) ?_
    refine mg_0_1 hx hb hown hwX5 (hts _ (List.mem_of_getElem? (i := 2) rfl)) hK hP dX5_go_73 ?_
    refine lv_iload hx hb dX5_go_76 (lv_at hl 0 rfl) ?_
    refine ma_2 hx hb hK hP dX5_go_78 hE (fun v_14 hE => ?_)
    refine z_istore hx hb (fun x5_15 => [(5, .int x5_15), (4, .int x4_13), (0, .ref (ea E 0)), (2, .int x2), (3, .int x3)]) dX5_go_79 hl (by decide) rfl hE (fun x5_15 ls hl hE => ?_)
    refine lv_aload_n hx hb dX5_go_81 rfl (lv_at hl 2 rfl) ?_
    refine mg_0_22 hx hb hown hwX5 (hts _ (List.mem_of_getElem? (i := 1) rfl)) hK hP dX5_go_82 ?_
    refine lv_iconst (v := 3) hx hb dX5_go_85 (by decide) ?_
    refine z_icmp_le (tgt := 100) hx hb dX5_go_86 (by decide) hE (fun hE => ?_) (fun hE => ?_)
    · exact wX5_go_J100 C ih x2 x3 x4_13 x5_15 σ _ _ _ (lv_sub hl [2, 3, 4, 1, 0] rfl) hP hS hE
    refine lv_aload_n hx hb dX5_go_89 rfl (lv_at hl 2 rfl) ?_
    refine lv_iload hx hb dX5_go_90 (lv_at hl 0 rfl) ?_
    refine z_goi (wf := mW) hS hE (fun F1 h1 => (va_runV (As := [.int x5_15]) (rest := []) ⟨hx, hb, hml, hown, hts⟩ (kX5_starts l E hD x5_15 σ F1 h1) (cwV 1 hts gX5_go_X5_starts rfl rfl rfl q_X5_starts ⟨Nat.le_of_ble_eq_true rfl, Nat.le_of_ble_eq_true rfl⟩) (z_preV hK hP hS (ci := 5) (q0 := 0) rfl rfl rfl) rfl rfl hl.1 rfl (lv_room (Nat.le_of_ble_eq_true rfl)) dX5_go_92 ⟨Nat.le_of_ble_eq_true rfl, Nat.le_of_ble_eq_true rfl⟩)) (fun r_42 σ_41 H locs hP hS hE => ?_)
    refine lv_bipush (v := 10) hx hb dX5_go_95 (by decide) ?_
    refine z_icmp_lt (tgt := 117) hx hb dX5_go_97 (by decide) hE (fun hE => ?_) (fun hE => ?_)
    · exact wX5_go_J117 C ih x2 x3 x4_13 x5_15 σ_41 _ _ _ (lv_sub hl [2, 3, 4, 1, 0] rfl) hP hS hE
    exact wX5_go_J100 C ih x2 x3 x4_13 x5_15 σ_41 _ _ _ (lv_sub hl [2, 3, 4, 1, 0] rfl) hP hS hE
def fX5_go  (x1 : Int32) (σ : ST) : Option (ST) :=
  bnd (sI σ 9 x1) (fun σ_1 => ald (gA σ_1 1) 200 4 (fun v_2 => bnd (sI σ_1 10 v_2) (fun σ_3 => bnd (sI σ_3 11 0) (fun σ_4 => bnd (sI σ_4 12 0) (fun σ_5 => bnd (sI σ_5 13 0) (fun σ_6 => bnd (sL σ_6 0 1000000000000) (fun σ_7 => bnd (sL σ_7 1 0) (fun σ_8 => calv (fX5_start 0 σ_8) (fun σ_9 => bnd (0 : Int32) (fun x2_10 => bnd (0 : Int32) (fun x3_11 => fX5_go_L51 (fun x2_43 σ_44 => cali (fX5_goesIn x2_43 0 σ_44) (fun r_46 σ_45 => bnd (sI σ_45 11 ((gI σ_44 11) + r_46)) (fun σ_47 => some σ_47))) FU x2_10 x3_11 σ_9)))))))))))
set_option maxHeartbeats 4000000 in
set_option maxRecDepth 100000 in
theorem wX5_go {p : Program} {l : Launch} {e : Env} {s : State} {m : MethodId} {args : Array Value} {below : List Frame} {meth : Method} {c : Code} {E : EN} (C : zC E mW p s m args meth c cX5_go 10 RX5 none wsX5_go) {F : ST}   (x1 : Int32) (σ : ST) (H : Heap) (locs : List Loc) (ls : Array Slot) (hl : lv_has ls 10 [(0, .ref (ea E 0)), (1, .int x1)]) (hP : va_P (eD E) vwCl (mW E σ) H) (hS : va_S (eA E) s.heap H locs) (hE : fX5_go  x1 σ = some F) : zWv E mW p l e r_X5_go s m args below meth c F H locs (F0 m 0 ls []) := by
  obtain ⟨hx, hb, hml, hown, hts, hr, hlk, hK, hD⟩ := id C
  have hwX5 : ∀ w ∈ wsX50, w.before args s = true := fun w h => hts w (List.mem_cons_of_mem _ (List.mem_append_right _ h))
  unfold fX5_go at hE
  refine lv_aload_n hx hb dX5_go_0 rfl (lv_at hl 0 rfl) ?_
  refine lv_iload_n hx hb dX5_go_1 rfl (lv_at hl 1 rfl) ?_
  refine mp_0_22 hx hb hown hwX5 (hts _ (List.mem_of_getElem? (i := 1) rfl)) hK hD hP hS dX5_go_2 hE (fun σ_1 H locs hP hS hE => ?_)
  refine lv_aload_n hx hb dX5_go_5 rfl (lv_at hl 0 rfl) ?_
  refine lv_aload_n hx hb dX5_go_6 rfl (lv_at hl 0 rfl) ?_
  refine mg_0_1 hx hb hown hwX5 (hts _ (List.mem_of_getElem? (i := 2) rfl)) hK hP dX5_go_7 ?_
  refine lv_iconst (v := 4) hx hb dX5_go_10 (by decide) ?_
  refine ma_2 hx hb hK hP dX5_go_11 hE (fun v_2 hE => ?_)
  refine mp_0_23 hx hb hown hwX5 (hts _ (List.mem_of_getElem? (i := 3) rfl)) hK hD hP hS dX5_go_12 hE (fun σ_3 H locs hP hS hE => ?_)
  refine lv_aload_n hx hb dX5_go_15 rfl (lv_at hl 0 rfl) ?_
  refine lv_iconst (v := 0) hx hb dX5_go_16 (by decide) ?_
  refine mp_0_24 hx hb hown hwX5 (hts _ (List.mem_of_getElem? (i := 4) rfl)) hK hD hP hS dX5_go_17 hE (fun σ_4 H locs hP hS hE => ?_)
  refine lv_aload_n hx hb dX5_go_20 rfl (lv_at hl 0 rfl) ?_
  refine lv_iconst (v := 0) hx hb dX5_go_21 (by decide) ?_
  refine mp_0_25 hx hb hown hwX5 (hts _ (List.mem_of_getElem? (i := 5) rfl)) hK hD hP hS dX5_go_22 hE (fun σ_5 H locs hP hS hE => ?_)
  refine lv_aload_n hx hb dX5_go_25 rfl (lv_at hl 0 rfl) ?_
  refine lv_iconst (v := 0) hx hb dX5_go_26 (by decide) ?_
  refine mp_0_26 hx hb hown hwX5 (hts _ (List.mem_of_getElem? (i := 6) rfl)) hK hD hP hS dX5_go_27 hE (fun σ_6 H locs hP hS hE => ?_)
  refine lv_aload_n hx hb dX5_go_30 rfl (lv_at hl 0 rfl) ?_
  refine lv_ldc2 (v := 1000000000000) hx hb hown (hts _ (List.mem_of_getElem? (i := 7) rfl)) dX5_go_31 ?_
  refine mp_0_27 hx hb hown hwX5 (hts _ (List.mem_of_getElem? (i := 8) rfl)) hK hD hP hS dX5_go_34 hE (fun σ_7 H locs hP hS hE => ?_)
  refine lv_aload_n hx hb dX5_go_37 rfl (lv_at hl 0 rfl) ?_
  refine lv_lconst (v := 0) hx hb dX5_go_38 (by decide) ?_
  refine mp_0_28 hx hb hown hwX5 (hts _ (List.mem_of_getElem? (i := 9) rfl)) hK hD hP hS dX5_go_39 hE (fun σ_8 H locs hP hS hE => ?_)
  refine lv_aload_n hx hb dX5_go_42 rfl (lv_at hl 0 rfl) ?_
  refine lv_iconst (v := 0) hx hb dX5_go_43 (by decide) ?_
  refine z_gov (wf := mW) hS hE (fun F1 h1 => (va_runV (As := [.int 0]) (rest := []) ⟨hx, hb, hml, hown, hts⟩ (kX5_start l E hD 0 σ_8 F1 h1) (cwV 1 hts gX5_go_X5_start rfl rfl rfl q_X5_start ⟨Nat.le_of_ble_eq_true rfl, Nat.le_of_ble_eq_true rfl⟩) (z_preV hK hP hS (ci := 5) (q0 := 0) rfl rfl rfl) rfl rfl hl.1 rfl (lv_room (Nat.le_of_ble_eq_true rfl)) dX5_go_44 ⟨Nat.le_of_ble_eq_true rfl, Nat.le_of_ble_eq_true rfl⟩)) (fun σ_9 H locs hP hS hE => ?_)
  refine lv_iconst (v := 0) hx hb dX5_go_47 (by decide) ?_
  refine z_istore_n hx hb (fun x2_10 => [(2, .int x2_10), (0, .ref (ea E 0)), (1, .int x1)]) dX5_go_48 rfl hl (by decide) rfl hE (fun x2_10 ls hl hE => ?_)
  refine lv_iconst (v := 0) hx hb dX5_go_49 (by decide) ?_
  refine z_istore_n hx hb (fun x3_11 => [(3, .int x3_11), (2, .int x2_10), (0, .ref (ea E 0)), (1, .int x1)]) dX5_go_50 rfl hl (by decide) rfl hE (fun x3_11 ls hl hE => ?_)
  refine wX5_go_L51 C ?_ FU x2_10 x3_11 σ_9 _ _ _ (lv_sub hl [2, 1, 0] rfl) hP hS hE
  intro x2_43 σ_44 H locs ls hl hP hS hE
  refine lv_aload_n hx hb dX5_go_288 rfl (lv_at hl 0 rfl) ?_
  refine lv_dup hx hb dX5_go_289 rfl ?_
  refine mg_0_24 hx hb hown hwX5 (hts _ (List.mem_of_getElem? (i := 4) rfl)) hK hP dX5_go_290 ?_
  refine lv_aload_n hx hb dX5_go_293 rfl (lv_at hl 0 rfl) ?_
  refine lv_iload_n hx hb dX5_go_294 rfl (lv_at hl 1 rfl) ?_
  refine lv_iconst (v := 0) hx hb dX5_go_295 (by decide) ?_
  refine z_goi (wf := mW) hS hE (fun F1 h1 => (va_runV (As := [.int x2_43, .int 0]) (rest := [.int (gI σ_44 11), .ref (ea E 0)]) ⟨hx, hb, hml, hown, hts⟩ (kX5_goesIn l E hD x2_43 0 σ_44 F1 h1) (cwV 2 hts gX5_go_X5_goesIn rfl rfl rfl q_X5_goesIn ⟨Nat.le_of_ble_eq_true rfl, Nat.le_of_ble_eq_true rfl⟩) (z_preV hK hP hS (ci := 5) (q0 := 0) rfl rfl rfl) rfl rfl hl.1 rfl (lv_room (Nat.le_of_ble_eq_true rfl)) dX5_go_296 ⟨Nat.le_of_ble_eq_true rfl, Nat.le_of_ble_eq_true rfl⟩)) (fun r_46 σ_45 H locs hP hS hE => ?_)
  refine lv_iadd hx hb dX5_go_299 ?_
  refine mp_0_24 hx hb hown hwX5 (hts _ (List.mem_of_getElem? (i := 4) rfl)) hK hD hP hS dX5_go_300 hE (fun σ_47 H locs hP hS hE => ?_)
  exact z_vret hx hb hr hlk hP hS dX5_go_303 hE
theorem kX5_go (l : Launch) (E : EN) (hD : ∀ σ, va_D (eA E) (mW E σ)) (x1 : Int32) (σ : ST) (F : ST) (hE : fX5_go x1 σ = some F) : Met l yX5_go wsX5_go r_X5_go (zPc E mW [.ref (ea E 0), .int x1] σ) (zQv E mW F) 0 0 (eA E) := by
  refine Met.ofW (cc := cX5_go) (maxL := 10) (ret := none) (by decide) rfl ?_
  intro p e s m args below meth c s₁ B hml hv
  obtain ⟨rfl, hP, hK⟩ := hv
  have hl := lv_entry ([.ref (ea E 0), .int x1]) (n := 10) (Nat.le_of_ble_eq_true rfl)
  rw [lg_entry_eq]
  generalize (lg_sl ([.ref (ea E 0), .int x1]) ++ List.replicate (10 - (lg_sl ([.ref (ea E 0), .int x1])).length) Slot.unset).toArray = ls at hl ⊢
  exact wX5_go ⟨B.exec, B.bytes, hml, findClass_of_methodNamed B.named, atoms_spec (ws := wsX5_go) B.pre, B.returns, B.notSynchronized, hK, hD⟩ x1 σ s.heap [] ls hl hP va_S.rf hE
def fX5_dayOfRow  (x1 : Int32) (σ : ST) : Option (ST) :=
  calv (fX5_legs σ) (fun σ_1 => calv (fX5_byRow (-9) σ_1) (fun σ_2 => calv (fX5_go x1 σ_2) (fun σ_3 => some σ_3)))
set_option maxHeartbeats 4000000 in
set_option maxRecDepth 100000 in
theorem wX5_dayOfRow {p : Program} {l : Launch} {e : Env} {s : State} {m : MethodId} {args : Array Value} {below : List Frame} {meth : Method} {c : Code} {E : EN} (C : zC E mW p s m args meth c cX5_dayOfRow 2 RX5 none wsX5_dayOfRow) {F : ST}   (x1 : Int32) (σ : ST) (H : Heap) (locs : List Loc) (ls : Array Slot) (hl : lv_has ls 2 [(0, .ref (ea E 0)), (1, .int x1)]) (hP : va_P (eD E) vwCl (mW E σ) H) (hS : va_S (eA E) s.heap H locs) (hE : fX5_dayOfRow  x1 σ = some F) : zWv E mW p l e r_X5_dayOfRow s m args below meth c F H locs (F0 m 0 ls []) := by
  obtain ⟨hx, hb, hml, hown, hts, hr, hlk, hK, hD⟩ := id C
  unfold fX5_dayOfRow at hE
  refine lv_aload_n hx hb dX5_dayOfRow_0 rfl (lv_at hl 0 rfl) ?_
  refine z_gov (wf := mW) hS hE (fun F1 h1 => (va_runV (As := []) (rest := []) ⟨hx, hb, hml, hown, hts⟩ (kX5_legs l E hD  σ F1 h1) (cwV 0 hts gX5_dayOfRow_X5_legs rfl rfl rfl q_X5_legs ⟨Nat.le_of_ble_eq_true rfl, Nat.le_of_ble_eq_true rfl⟩) (z_preV hK hP hS (ci := 5) (q0 := 0) rfl rfl rfl) rfl rfl hl.1 rfl (lv_room (Nat.le_of_ble_eq_true rfl)) dX5_dayOfRow_1 ⟨Nat.le_of_ble_eq_true rfl, Nat.le_of_ble_eq_true rfl⟩)) (fun σ_1 H locs hP hS hE => ?_)
  refine lv_aload_n hx hb dX5_dayOfRow_4 rfl (lv_at hl 0 rfl) ?_
  refine lv_bipush (v := -9) hx hb dX5_dayOfRow_5 (by decide) ?_
  refine z_gov (wf := mW) hS hE (fun F1 h1 => (va_runV (As := [.int (-9)]) (rest := []) ⟨hx, hb, hml, hown, hts⟩ (kX5_byRow l E hD (-9) σ_1 F1 h1) (cwV 1 hts gX5_dayOfRow_X5_byRow rfl rfl rfl q_X5_byRow ⟨Nat.le_of_ble_eq_true rfl, Nat.le_of_ble_eq_true rfl⟩) (z_preV hK hP hS (ci := 5) (q0 := 0) rfl rfl rfl) rfl rfl hl.1 rfl (lv_room (Nat.le_of_ble_eq_true rfl)) dX5_dayOfRow_7 ⟨Nat.le_of_ble_eq_true rfl, Nat.le_of_ble_eq_true rfl⟩)) (fun σ_2 H locs hP hS hE => ?_)
  refine lv_aload_n hx hb dX5_dayOfRow_10 rfl (lv_at hl 0 rfl) ?_
  refine lv_iload_n hx hb dX5_dayOfRow_11 rfl (lv_at hl 1 rfl) ?_
  refine z_gov (wf := mW) hS hE (fun F1 h1 => (va_runV (As := [.int x1]) (rest := []) ⟨hx, hb, hml, hown, hts⟩ (kX5_go l E hD x1 σ_2 F1 h1) (cwV 1 hts gX5_dayOfRow_X5_go rfl rfl rfl q_X5_go ⟨Nat.le_of_ble_eq_true rfl, Nat.le_of_ble_eq_true rfl⟩) (z_preV hK hP hS (ci := 5) (q0 := 0) rfl rfl rfl) rfl rfl hl.1 rfl (lv_room (Nat.le_of_ble_eq_true rfl)) dX5_dayOfRow_12 ⟨Nat.le_of_ble_eq_true rfl, Nat.le_of_ble_eq_true rfl⟩)) (fun σ_3 H locs hP hS hE => ?_)
  exact z_vret hx hb hr hlk hP hS dX5_dayOfRow_15 hE
theorem kX5_dayOfRow (l : Launch) (E : EN) (hD : ∀ σ, va_D (eA E) (mW E σ)) (x1 : Int32) (σ : ST) (F : ST) (hE : fX5_dayOfRow x1 σ = some F) : Met l yX5_dayOfRow wsX5_dayOfRow r_X5_dayOfRow (zPc E mW [.ref (ea E 0), .int x1] σ) (zQv E mW F) 0 0 (eA E) := by
  refine Met.ofW (cc := cX5_dayOfRow) (maxL := 2) (ret := none) (by decide) rfl ?_
  intro p e s m args below meth c s₁ B hml hv
  obtain ⟨rfl, hP, hK⟩ := hv
  have hl := lv_entry ([.ref (ea E 0), .int x1]) (n := 2) (Nat.le_of_ble_eq_true rfl)
  rw [lg_entry_eq]
  generalize (lg_sl ([.ref (ea E 0), .int x1]) ++ List.replicate (2 - (lg_sl ([.ref (ea E 0), .int x1])).length) Slot.unset).toArray = ls at hl ⊢
  exact wX5_dayOfRow ⟨B.exec, B.bytes, hml, findClass_of_methodNamed B.named, atoms_spec (ws := wsX5_dayOfRow) B.pre, B.returns, B.notSynchronized, hK, hD⟩ x1 σ s.heap [] ls hl hP va_S.rf hE
def fX5_day  (x1 : Int32) (σ : ST) : Option (Int32 × ST) :=
  (if x1 < 0 then cali (fX5_no (-2) σ) (fun r_2 σ_1 => some (r_2, σ_1)) else (if x1 ≤ 2 then cali (fX5_isNoTown σ) (fun r_4 σ_3 => (if r_4 = 0 then ald (gA σ_3 1) 200 5 (fun v_5 => calv (fX5_dayOfRow v_5 σ_3) (fun σ_6 => (if x1 = 0 then some ((gI σ_6 11), σ_6) else (if x1 = 1 then some ((gI σ_6 12), σ_6) else some ((gI σ_6 13), σ_6))))) else cali (fX5_no (-3) σ_3) (fun r_8 σ_7 => some (r_8, σ_7)))) else cali (fX5_no (-2) σ) (fun r_10 σ_9 => some (r_10, σ_9))))
set_option maxHeartbeats 4000000 in
set_option maxRecDepth 100000 in
theorem wX5_day {p : Program} {l : Launch} {e : Env} {s : State} {m : MethodId} {args : Array Value} {below : List Frame} {meth : Method} {c : Code} {E : EN} (C : zC E mW p s m args meth c cX5_day 2 RX5 (some .int) wsX5_day) {F : Int32 × ST}   (x1 : Int32) (σ : ST) (H : Heap) (locs : List Loc) (ls : Array Slot) (hl : lv_has ls 2 [(0, .ref (ea E 0)), (1, .int x1)]) (hP : va_P (eD E) vwCl (mW E σ) H) (hS : va_S (eA E) s.heap H locs) (hE : fX5_day  x1 σ = some F) : zWi E mW p l e r_X5_day s m args below meth c F H locs (F0 m 0 ls []) := by
  obtain ⟨hx, hb, hml, hown, hts, hr, hlk, hK, hD⟩ := id C
  have hwX5 : ∀ w ∈ wsX50, w.before args s = true := fun w h => hts w (List.mem_cons_of_mem _ (List.mem_append_right _ h))
  unfold fX5_day at hE
  refine lv_iload_n hx hb dX5_day_0 rfl (lv_at hl 1 rfl) ?_
  refine z_if_lt (tgt := 9) hx hb dX5_day_1 (by decide) hE (fun hE => ?_) (fun hE => ?_)
  · refine lv_aload_n hx hb dX5_day_9 rfl (lv_at hl 0 rfl) ?_
    refine lv_bipush (v := -2) hx hb dX5_day_10 (by decide) ?_
    refine z_goi (wf := mW) hS hE (fun F1 h1 => (va_runV (As := [.int (-2)]) (rest := []) ⟨hx, hb, hml, hown, hts⟩ (kX5_no l E hD (-2) σ F1 h1) (cwV 1 hts gX5_day_X5_no rfl rfl rfl q_X5_no ⟨Nat.le_of_ble_eq_true rfl, Nat.le_of_ble_eq_true rfl⟩) (z_preV hK hP hS (ci := 5) (q0 := 0) rfl rfl rfl) rfl rfl hl.1 rfl (lv_room (Nat.le_of_ble_eq_true rfl)) dX5_day_12 ⟨Nat.le_of_ble_eq_true rfl, Nat.le_of_ble_eq_true rfl⟩)) (fun r_2 σ_1 H locs hP hS hE => ?_)
    exact z_iret hx hb hr hlk hP hS dX5_day_15 hE
  refine lv_iload_n hx hb dX5_day_4 rfl (lv_at hl 1 rfl) ?_
  refine lv_iconst (v := 2) hx hb dX5_day_5 (by decide) ?_
  refine z_icmp_le (tgt := 16) hx hb dX5_day_6 (by decide) hE (fun hE => ?_) (fun hE => ?_)
  · refine lv_aload_n hx hb dX5_day_16 rfl (lv_at hl 0 rfl) ?_
    refine z_goi (wf := mW) hS hE (fun F1 h1 => (va_runV (As := []) (rest := []) ⟨hx, hb, hml, hown, hts⟩ (kX5_isNoTown l E hD  σ F1 h1) (cwV 0 hts gX5_day_X5_isNoTown rfl rfl rfl q_X5_isNoTown ⟨Nat.le_of_ble_eq_true rfl, Nat.le_of_ble_eq_true rfl⟩) (z_preV hK hP hS (ci := 5) (q0 := 0) rfl rfl rfl) rfl rfl hl.1 rfl (lv_room (Nat.le_of_ble_eq_true rfl)) dX5_day_17 ⟨Nat.le_of_ble_eq_true rfl, Nat.le_of_ble_eq_true rfl⟩)) (fun r_4 σ_3 H locs hP hS hE => ?_)
    refine z_if_eq (tgt := 30) hx hb dX5_day_20 (by decide) hE (fun hE => ?_) (fun hE => ?_)
    · refine lv_aload_n hx hb dX5_day_30 rfl (lv_at hl 0 rfl) ?_
      refine lv_aload_n hx hb dX5_day_31 rfl (lv_at hl 0 rfl) ?_
      refine mg_0_1 hx hb hown hwX5 (hts _ (List.mem_of_getElem? (i := 1) rfl)) hK hP dX5_day_32 ?_
      refine lv_iconst (v := 5) hx hb dX5_day_35 (by decide) ?_
      refine ma_2 hx hb hK hP dX5_day_36 hE (fun v_5 hE => ?_)
      refine z_gov (wf := mW) hS hE (fun F1 h1 => (va_runV (As := [.int v_5]) (rest := []) ⟨hx, hb, hml, hown, hts⟩ (kX5_dayOfRow l E hD v_5 σ_3 F1 h1) (cwV 1 hts gX5_day_X5_dayOfRow rfl rfl rfl q_X5_dayOfRow ⟨Nat.le_of_ble_eq_true rfl, Nat.le_of_ble_eq_true rfl⟩) (z_preV hK hP hS (ci := 5) (q0 := 0) rfl rfl rfl) rfl rfl hl.1 rfl (lv_room (Nat.le_of_ble_eq_true rfl)) dX5_day_37 ⟨Nat.le_of_ble_eq_true rfl, Nat.le_of_ble_eq_true rfl⟩)) (fun σ_6 H locs hP hS hE => ?_)
      refine lv_iload_n hx hb dX5_day_40 rfl (lv_at hl 1 rfl) ?_
      refine z_if_ne (tgt := 51) hx hb dX5_day_41 (by decide) hE (fun hE => ?_) (fun hE => ?_)
      · refine lv_iload_n hx hb dX5_day_51 rfl (lv_at hl 1 rfl) ?_
        refine lv_iconst (v := 1) hx hb dX5_day_52 (by decide) ?_
        refine z_icmp_ne (tgt := 63) hx hb dX5_day_53 (by decide) hE (fun hE => ?_) (fun hE => ?_)
        · refine lv_aload_n hx hb dX5_day_63 rfl (lv_at hl 0 rfl) ?_
          refine mg_0_26 hx hb hown hwX5 (hts _ (List.mem_of_getElem? (i := 4) rfl)) hK hP dX5_day_64 ?_
          exact z_iret hx hb hr hlk hP hS dX5_day_67 hE
        refine lv_aload_n hx hb dX5_day_56 rfl (lv_at hl 0 rfl) ?_
        refine mg_0_25 hx hb hown hwX5 (hts _ (List.mem_of_getElem? (i := 3) rfl)) hK hP dX5_day_57 ?_
        refine lv_goto (tgt := 67) hx hb dX5_day_60 (by decide) ?_
        exact z_iret hx hb hr hlk hP hS dX5_day_67 hE
      refine lv_aload_n hx hb dX5_day_44 rfl (lv_at hl 0 rfl) ?_
      refine mg_0_24 hx hb hown hwX5 (hts _ (List.mem_of_getElem? (i := 2) rfl)) hK hP dX5_day_45 ?_
      refine lv_goto (tgt := 67) hx hb dX5_day_48 (by decide) ?_
      exact z_iret hx hb hr hlk hP hS dX5_day_67 hE
    refine lv_aload_n hx hb dX5_day_23 rfl (lv_at hl 0 rfl) ?_
    refine lv_bipush (v := -3) hx hb dX5_day_24 (by decide) ?_
    refine z_goi (wf := mW) hS hE (fun F1 h1 => (va_runV (As := [.int (-3)]) (rest := []) ⟨hx, hb, hml, hown, hts⟩ (kX5_no l E hD (-3) σ_3 F1 h1) (cwV 1 hts gX5_day_X5_no rfl rfl rfl q_X5_no ⟨Nat.le_of_ble_eq_true rfl, Nat.le_of_ble_eq_true rfl⟩) (z_preV hK hP hS (ci := 5) (q0 := 0) rfl rfl rfl) rfl rfl hl.1 rfl (lv_room (Nat.le_of_ble_eq_true rfl)) dX5_day_26 ⟨Nat.le_of_ble_eq_true rfl, Nat.le_of_ble_eq_true rfl⟩)) (fun r_8 σ_7 H locs hP hS hE => ?_)
    exact z_iret hx hb hr hlk hP hS dX5_day_29 hE
  refine lv_aload_n hx hb dX5_day_9 rfl (lv_at hl 0 rfl) ?_
  refine lv_bipush (v := -2) hx hb dX5_day_10 (by decide) ?_
  refine z_goi (wf := mW) hS hE (fun F1 h1 => (va_runV (As := [.int (-2)]) (rest := []) ⟨hx, hb, hml, hown, hts⟩ (kX5_no l E hD (-2) σ F1 h1) (cwV 1 hts gX5_day_X5_no rfl rfl rfl q_X5_no ⟨Nat.le_of_ble_eq_true rfl, Nat.le_of_ble_eq_true rfl⟩) (z_preV hK hP hS (ci := 5) (q0 := 0) rfl rfl rfl) rfl rfl hl.1 rfl (lv_room (Nat.le_of_ble_eq_true rfl)) dX5_day_12 ⟨Nat.le_of_ble_eq_true rfl, Nat.le_of_ble_eq_true rfl⟩)) (fun r_10 σ_9 H locs hP hS hE => ?_)
  exact z_iret hx hb hr hlk hP hS dX5_day_15 hE
theorem kX5_day (l : Launch) (E : EN) (hD : ∀ σ, va_D (eA E) (mW E σ)) (x1 : Int32) (σ : ST) (F : Int32 × ST) (hE : fX5_day x1 σ = some F) : Met l yX5_day wsX5_day r_X5_day (zPc E mW [.ref (ea E 0), .int x1] σ) (zQi E mW F) 0 0 (eA E) := by
  refine Met.ofW (cc := cX5_day) (maxL := 2) (ret := (some .int)) (by decide) rfl ?_
  intro p e s m args below meth c s₁ B hml hv
  obtain ⟨rfl, hP, hK⟩ := hv
  have hl := lv_entry ([.ref (ea E 0), .int x1]) (n := 2) (Nat.le_of_ble_eq_true rfl)
  rw [lg_entry_eq]
  generalize (lg_sl ([.ref (ea E 0), .int x1]) ++ List.replicate (2 - (lg_sl ([.ref (ea E 0), .int x1])).length) Slot.unset).toArray = ls at hl ⊢
  exact wX5_day ⟨B.exec, B.bytes, hml, findClass_of_methodNamed B.named, atoms_spec (ws := wsX5_day) B.pre, B.returns, B.notSynchronized, hK, hD⟩ x1 σ s.heap [] ls hl hP va_S.rf hE
def fX5_isNoPart  (x0 : Int32) (σ : ST) : Option (Int32 × ST) :=
  (if x0 = 0 then some (0, σ) else (if x0 = 1 then some (0, σ) else some (1, σ)))
set_option maxHeartbeats 4000000 in
set_option maxRecDepth 100000 in
theorem wX5_isNoPart {p : Program} {l : Launch} {e : Env} {s : State} {m : MethodId} {args : Array Value} {below : List Frame} {meth : Method} {c : Code} {E : EN} (C : zC E mW p s m args meth c cX5_isNoPart 1 RX5 (some .boolean) wsX5_isNoPart) {F : Int32 × ST}   (x0 : Int32) (σ : ST) (H : Heap) (locs : List Loc) (ls : Array Slot) (hl : lv_has ls 1 [(0, .int x0)]) (hP : va_P (eD E) vwCl (mW E σ) H) (hS : va_S (eA E) s.heap H locs) (hE : fX5_isNoPart  x0 σ = some F) : zWi E mW p l e r_X5_isNoPart s m args below meth c F H locs (F0 m 0 ls []) := by
  obtain ⟨hx, hb, hml, hown, hts, hr, hlk, hK, hD⟩ := id C
  unfold fX5_isNoPart at hE
  refine lv_iload_n hx hb dX5_isNoPart_0 rfl (lv_at hl 0 rfl) ?_
  refine z_if_eq (tgt := 13) hx hb dX5_isNoPart_1 (by decide) hE (fun hE => ?_) (fun hE => ?_)
  · refine lv_iconst (v := 0) hx hb dX5_isNoPart_13 (by decide) ?_
    exact z_zret hx hb hr hlk rfl hP hS dX5_isNoPart_14 hE
  refine lv_iload_n hx hb dX5_isNoPart_4 rfl (lv_at hl 0 rfl) ?_
  refine lv_iconst (v := 1) hx hb dX5_isNoPart_5 (by decide) ?_
  refine z_icmp_eq (tgt := 13) hx hb dX5_isNoPart_6 (by decide) hE (fun hE => ?_) (fun hE => ?_)
  · refine lv_iconst (v := 0) hx hb dX5_isNoPart_13 (by decide) ?_
    exact z_zret hx hb hr hlk rfl hP hS dX5_isNoPart_14 hE
  refine lv_iconst (v := 1) hx hb dX5_isNoPart_9 (by decide) ?_
  refine lv_goto (tgt := 14) hx hb dX5_isNoPart_10 (by decide) ?_
  exact z_zret hx hb hr hlk rfl hP hS dX5_isNoPart_14 hE
theorem kX5_isNoPart (l : Launch) (E : EN) (hD : ∀ σ, va_D (eA E) (mW E σ)) (x0 : Int32) (σ : ST) (F : Int32 × ST) (hE : fX5_isNoPart x0 σ = some F) : Met l yX5_isNoPart wsX5_isNoPart r_X5_isNoPart (zPc E mW [.int x0] σ) (zQi E mW F) 0 0 (eA E) := by
  refine Met.ofW (cc := cX5_isNoPart) (maxL := 1) (ret := (some .boolean)) (by decide) rfl ?_
  intro p e s m args below meth c s₁ B hml hv
  obtain ⟨rfl, hP, hK⟩ := hv
  have hl := lv_entry ([.int x0]) (n := 1) (Nat.le_of_ble_eq_true rfl)
  rw [lg_entry_eq]
  generalize (lg_sl ([.int x0]) ++ List.replicate (1 - (lg_sl ([.int x0])).length) Slot.unset).toArray = ls at hl ⊢
  exact wX5_isNoPart ⟨B.exec, B.bytes, hml, findClass_of_methodNamed B.named, atoms_spec (ws := wsX5_isNoPart) B.pre, B.returns, B.notSynchronized, hK, hD⟩ x0 σ s.heap [] ls hl hP va_S.rf hE
def fX5_part_L19 (ke : Int64 → Int32 → Int64 → ST → Option (Int64 × ST)) : Nat → Int64 → Int32 → Int64 → Int64 → ST → Option (Int64 × ST)
  | 0, _, _, _, _, _ => none
  | n + 1, x0, x2, x3, x5, σ => (if (lg_cmp x5 0) = 0 then ke x0 x2 x3 σ else rml x3 x5 (fun v_3 => bnd (v_3 : Int64) (fun x7_4 => bnd (x5 : Int64) (fun x3_5 => bnd (x7_4 : Int64) (fun x5_6 => fX5_part_L19 ke n x0 x2 x3_5 x5_6 σ)))))
set_option maxHeartbeats 4000000 in
set_option maxRecDepth 100000 in
theorem wX5_part_L19 {p : Program} {l : Launch} {e : Env} {s : State} {m : MethodId} {args : Array Value} {below : List Frame} {meth : Method} {c : Code} {E : EN} (C : zC E mW p s m args meth c cX5_part 9 RX5 (some .long) wsX5_part) {F : Int64 × ST} {ke : Int64 → Int32 → Int64 → ST → Option (Int64 × ST)} (hke : ∀ (x0 : Int64) (x2 : Int32) (x3 : Int64) (σ : ST) (H : Heap) (locs : List Loc) (ls : Array Slot), lv_has ls 9 [(0, .long x0), (2, .int x2), (3, .long x3)] → va_P (eD E) vwCl (mW E σ) H → va_S (eA E) s.heap H locs → ke x0 x2 x3 σ = some F → zWl E mW p l e r_X5_part s m args below meth c F H locs (F0 m 42 ls [])) : ∀ (n : Nat) (x0 : Int64) (x2 : Int32) (x3 : Int64) (x5 : Int64) (σ : ST) (H : Heap) (locs : List Loc) (ls : Array Slot), lv_has ls 9 [(0, .long x0), (2, .int x2), (3, .long x3), (5, .long x5)] → va_P (eD E) vwCl (mW E σ) H → va_S (eA E) s.heap H locs → fX5_part_L19 ke n x0 x2 x3 x5 σ = some F → zWl E mW p l e r_X5_part s m args below meth c F H locs (F0 m 19 ls []) := by
  obtain ⟨hx, hb, hml, hown, hts, hr, hlk, hK, hD⟩ := id C
  intro n
  induction n with
  | zero => intro x0 x2 x3 x5 σ H locs ls hl hP hS hE; rw [fX5_part_L19] at hE; cases hE
  | succ n ih =>
    intro x0 x2 x3 x5 σ H locs ls hl hP hS hE
    rw [fX5_part_L19] at hE
    refine lv_lload hx hb dX5_part_19 (lv_at hl 3 rfl) ?_
    refine lv_lconst (v := 0) hx hb dX5_part_21 (by decide) ?_
    refine W.lcmp hx hb dX5_part_22 ?_
    refine z_if_eq (tgt := 42) hx hb dX5_part_23 (by decide) hE (fun hE => ?_) (fun hE => ?_)
    · exact hke x0 x2 x3 σ _ _ _ (lv_sub hl [0, 1, 2] rfl) hP hS hE
    refine lv_lload_n hx hb dX5_part_26 rfl (lv_at hl 2 rfl) ?_
    refine lv_lload hx hb dX5_part_27 (lv_at hl 3 rfl) ?_
    refine z_lrem hx hb dX5_part_29 hE (fun v_3 hE => ?_)
    refine z_lstore hx hb (fun x7_4 => [(7, .long x7_4), (0, .long x0), (2, .int x2), (3, .long x3), (5, .long x5)]) dX5_part_30 hl (by decide) rfl hE (fun x7_4 ls hl hE => ?_)
    refine lv_lload hx hb dX5_part_32 (lv_at hl 4 rfl) ?_
    refine z_lstore_n hx hb (fun x3_5 => [(3, .long x3_5), (7, .long x7_4), (0, .long x0), (2, .int x2), (5, .long x5)]) dX5_part_34 rfl hl (by decide) rfl hE (fun x3_5 ls hl hE => ?_)
    refine lv_lload hx hb dX5_part_35 (lv_at hl 1 rfl) ?_
    refine z_lstore hx hb (fun x5_6 => [(5, .long x5_6), (3, .long x3_5), (7, .long x7_4), (0, .long x0), (2, .int x2)]) dX5_part_37 hl (by decide) rfl hE (fun x5_6 ls hl hE => ?_)
    refine lv_goto (tgt := 19) hx hb dX5_part_39 (by decide) ?_
    exact ih x0 x2 x3_5 x5_6 σ _ _ _ (lv_sub hl [3, 4, 1, 0] rfl) hP hS hE
def fX5_part  (x0 : Int64) (x2 : Int32) (σ : ST) : Option (Int64 × ST) :=
  (if (lg_cmp x0 0) = 0 then some ((Int32.toInt64 x2), σ) else bnd ((jabsl x0) : Int64) (fun x3_1 => bnd (1000000000000 : Int64) (fun x5_2 => fX5_part_L19 (fun x0_7 x2_8 x3_9 σ_10 => (if x2_8 = 0 then dvl x0_7 x3_9 (fun v_12 => some (v_12, σ_10)) else dvl 1000000000000 x3_9 (fun v_11 => some (v_11, σ_10)))) FU x0 x2 x3_1 x5_2 σ)))
set_option maxHeartbeats 4000000 in
set_option maxRecDepth 100000 in
theorem wX5_part {p : Program} {l : Launch} {e : Env} {s : State} {m : MethodId} {args : Array Value} {below : List Frame} {meth : Method} {c : Code} {E : EN} (C : zC E mW p s m args meth c cX5_part 9 RX5 (some .long) wsX5_part) {F : Int64 × ST}   (x0 : Int64) (x2 : Int32) (σ : ST) (H : Heap) (locs : List Loc) (ls : Array Slot) (hl : lv_has ls 9 [(0, .long x0), (2, .int x2)]) (hP : va_P (eD E) vwCl (mW E σ) H) (hS : va_S (eA E) s.heap H locs) (hE : fX5_part  x0 x2 σ = some F) : zWl E mW p l e r_X5_part s m args below meth c F H locs (F0 m 0 ls []) := by
  obtain ⟨hx, hb, hml, hown, hts, hr, hlk, hK, hD⟩ := id C
  unfold fX5_part at hE
  refine lv_lload_n hx hb dX5_part_0 rfl (lv_at hl 0 rfl) ?_
  refine lv_lconst (v := 0) hx hb dX5_part_1 (by decide) ?_
  refine W.lcmp hx hb dX5_part_2 ?_
  refine z_if_ne (tgt := 9) hx hb dX5_part_3 (by decide) hE (fun hE => ?_) (fun hE => ?_)
  · refine lv_lload_n hx hb dX5_part_9 rfl (lv_at hl 0 rfl) ?_
    refine va_mabs_long hx hb (hml.trans hl.1.symm) hown (hts _ (List.mem_of_getElem? (i := 1) rfl)) (hts _ (List.mem_of_getElem? (i := 2) rfl)) (hts _ (List.mem_of_getElem? (i := 3) rfl)) (hts _ (List.mem_of_getElem? (i := 4) rfl)) (Nat.le_of_ble_eq_true rfl) (Nat.le_of_ble_eq_true rfl) (Nat.zero_le _) (Nat.zero_le _) dX5_part_10 ?_
    refine W.eq (g2 := F0 m 13 ls [.long (jabsl x0)]) rfl ?_
    refine z_lstore_n hx hb (fun x3_1 => [(3, .long x3_1), (0, .long x0), (2, .int x2)]) dX5_part_13 rfl hl (by decide) rfl hE (fun x3_1 ls hl hE => ?_)
    refine lv_ldc2 (v := 1000000000000) hx hb hown (hts _ (List.mem_of_getElem? (i := 5) rfl)) dX5_part_14 ?_
    refine z_lstore hx hb (fun x5_2 => [(5, .long x5_2), (3, .long x3_1), (0, .long x0), (2, .int x2)]) dX5_part_17 hl (by decide) rfl hE (fun x5_2 ls hl hE => ?_)
    refine wX5_part_L19 C ?_ FU x0 x2 x3_1 x5_2 σ _ _ _ (lv_sub hl [2, 3, 1, 0] rfl) hP hS hE
    intro x0_7 x2_8 x3_9 σ_10 H locs ls hl hP hS hE
    refine lv_iload_n hx hb dX5_part_42 rfl (lv_at hl 1 rfl) ?_
    refine z_if_ne (tgt := 50) hx hb dX5_part_43 (by decide) hE (fun hE => ?_) (fun hE => ?_)
    · refine lv_ldc2 (v := 1000000000000) hx hb hown (hts _ (List.mem_of_getElem? (i := 5) rfl)) dX5_part_50 ?_
      refine lv_lload_n hx hb dX5_part_53 rfl (lv_at hl 2 rfl) ?_
      refine z_ldiv hx hb dX5_part_54 hE (fun v_11 hE => ?_)
      exact z_lret hx hb hr hlk hP hS dX5_part_55 hE
    refine lv_lload_n hx hb dX5_part_46 rfl (lv_at hl 0 rfl) ?_
    refine lv_goto (tgt := 53) hx hb dX5_part_47 (by decide) ?_
    refine lv_lload_n hx hb dX5_part_53 rfl (lv_at hl 2 rfl) ?_
    refine z_ldiv hx hb dX5_part_54 hE (fun v_12 hE => ?_)
    exact z_lret hx hb hr hlk hP hS dX5_part_55 hE
  refine lv_iload_n hx hb dX5_part_6 rfl (lv_at hl 1 rfl) ?_
  refine lv_i2l (v := (Int32.toInt64 x2)) hx hb dX5_part_7 rfl ?_
  exact z_lret hx hb hr hlk hP hS dX5_part_8 hE
theorem kX5_part (l : Launch) (E : EN) (hD : ∀ σ, va_D (eA E) (mW E σ)) (x0 : Int64) (x2 : Int32) (σ : ST) (F : Int64 × ST) (hE : fX5_part x0 x2 σ = some F) : Met l yX5_part wsX5_part r_X5_part (zPc E mW [.long x0, .int x2] σ) (zQl E mW F) 0 0 (eA E) := by
  refine Met.ofW (cc := cX5_part) (maxL := 9) (ret := (some .long)) (by decide) rfl ?_
  intro p e s m args below meth c s₁ B hml hv
  obtain ⟨rfl, hP, hK⟩ := hv
  have hl := lv_entry ([.long x0, .int x2]) (n := 9) (Nat.le_of_ble_eq_true rfl)
  rw [lg_entry_eq]
  generalize (lg_sl ([.long x0, .int x2]) ++ List.replicate (9 - (lg_sl ([.long x0, .int x2])).length) Slot.unset).toArray = ls at hl ⊢
  exact wX5_part ⟨B.exec, B.bytes, hml, findClass_of_methodNamed B.named, atoms_spec (ws := wsX5_part) B.pre, B.returns, B.notSynchronized, hK, hD⟩ x0 x2 σ s.heap [] ls hl hP va_S.rf hE
def fX5_noLong  (x1 : Int32) (σ : ST) : Option (Int64 × ST) :=
  cali (fX5_no x1 σ) (fun r_2 σ_1 => some ((4000000000000000000 - (Int32.toInt64 r_2)), σ_1))
set_option maxHeartbeats 4000000 in
set_option maxRecDepth 100000 in
theorem wX5_noLong {p : Program} {l : Launch} {e : Env} {s : State} {m : MethodId} {args : Array Value} {below : List Frame} {meth : Method} {c : Code} {E : EN} (C : zC E mW p s m args meth c cX5_noLong 2 RX5 (some .long) wsX5_noLong) {F : Int64 × ST}   (x1 : Int32) (σ : ST) (H : Heap) (locs : List Loc) (ls : Array Slot) (hl : lv_has ls 2 [(0, .ref (ea E 0)), (1, .int x1)]) (hP : va_P (eD E) vwCl (mW E σ) H) (hS : va_S (eA E) s.heap H locs) (hE : fX5_noLong  x1 σ = some F) : zWl E mW p l e r_X5_noLong s m args below meth c F H locs (F0 m 0 ls []) := by
  obtain ⟨hx, hb, hml, hown, hts, hr, hlk, hK, hD⟩ := id C
  unfold fX5_noLong at hE
  refine lv_ldc2 (v := 4000000000000000000) hx hb hown (hts _ (List.mem_of_getElem? (i := 1) rfl)) dX5_noLong_0 ?_
  refine lv_aload_n hx hb dX5_noLong_3 rfl (lv_at hl 0 rfl) ?_
  refine lv_iload_n hx hb dX5_noLong_4 rfl (lv_at hl 1 rfl) ?_
  refine z_goi (wf := mW) hS hE (fun F1 h1 => (va_runV (As := [.int x1]) (rest := [.long 4000000000000000000]) ⟨hx, hb, hml, hown, hts⟩ (kX5_no l E hD x1 σ F1 h1) (cwV 1 hts gX5_noLong_X5_no rfl rfl rfl q_X5_no ⟨Nat.le_of_ble_eq_true rfl, Nat.le_of_ble_eq_true rfl⟩) (z_preV hK hP hS (ci := 5) (q0 := 0) rfl rfl rfl) rfl rfl hl.1 rfl (lv_room (Nat.le_of_ble_eq_true rfl)) dX5_noLong_5 ⟨Nat.le_of_ble_eq_true rfl, Nat.le_of_ble_eq_true rfl⟩)) (fun r_2 σ_1 H locs hP hS hE => ?_)
  refine lv_i2l (v := (Int32.toInt64 r_2)) hx hb dX5_noLong_8 rfl ?_
  refine lv_lsub hx hb dX5_noLong_9 ?_
  exact z_lret hx hb hr hlk hP hS dX5_noLong_10 hE
theorem kX5_noLong (l : Launch) (E : EN) (hD : ∀ σ, va_D (eA E) (mW E σ)) (x1 : Int32) (σ : ST) (F : Int64 × ST) (hE : fX5_noLong x1 σ = some F) : Met l yX5_noLong wsX5_noLong r_X5_noLong (zPc E mW [.ref (ea E 0), .int x1] σ) (zQl E mW F) 0 0 (eA E) := by
  refine Met.ofW (cc := cX5_noLong) (maxL := 2) (ret := (some .long)) (by decide) rfl ?_
  intro p e s m args below meth c s₁ B hml hv
  obtain ⟨rfl, hP, hK⟩ := hv
  have hl := lv_entry ([.ref (ea E 0), .int x1]) (n := 2) (Nat.le_of_ble_eq_true rfl)
  rw [lg_entry_eq]
  generalize (lg_sl ([.ref (ea E 0), .int x1]) ++ List.replicate (2 - (lg_sl ([.ref (ea E 0), .int x1])).length) Slot.unset).toArray = ls at hl ⊢
  exact wX5_noLong ⟨B.exec, B.bytes, hml, findClass_of_methodNamed B.named, atoms_spec (ws := wsX5_noLong) B.pre, B.returns, B.notSynchronized, hK, hD⟩ x1 σ s.heap [] ls hl hP va_S.rf hE
def fX5_likely  (x1 : Int32) (σ : ST) : Option (Int64 × ST) :=
  cali (fX5_isNoPart x1 σ) (fun r_2 σ_1 => (if r_2 = 0 then cali (fX5_isNoTown σ_1) (fun r_4 σ_3 => (if r_4 = 0 then ald (gA σ_3 1) 200 5 (fun v_5 => calv (fX5_dayOfRow v_5 σ_3) (fun σ_6 => call (fX5_part (gL σ_6 0) x1 σ_6) (fun r_8 σ_7 => some (r_8, σ_7)))) else call (fX5_noLong (-3) σ_3) (fun r_10 σ_9 => some (r_10, σ_9)))) else call (fX5_noLong (-2) σ_1) (fun r_12 σ_11 => some (r_12, σ_11))))
set_option maxHeartbeats 4000000 in
set_option maxRecDepth 100000 in
theorem wX5_likely {p : Program} {l : Launch} {e : Env} {s : State} {m : MethodId} {args : Array Value} {below : List Frame} {meth : Method} {c : Code} {E : EN} (C : zC E mW p s m args meth c cX5_likely 2 RX5 (some .long) wsX5_likely) {F : Int64 × ST}   (x1 : Int32) (σ : ST) (H : Heap) (locs : List Loc) (ls : Array Slot) (hl : lv_has ls 2 [(0, .ref (ea E 0)), (1, .int x1)]) (hP : va_P (eD E) vwCl (mW E σ) H) (hS : va_S (eA E) s.heap H locs) (hE : fX5_likely  x1 σ = some F) : zWl E mW p l e r_X5_likely s m args below meth c F H locs (F0 m 0 ls []) := by
  obtain ⟨hx, hb, hml, hown, hts, hr, hlk, hK, hD⟩ := id C
  have hwX5 : ∀ w ∈ wsX50, w.before args s = true := fun w h => hts w (List.mem_cons_of_mem _ (List.mem_append_right _ h))
  unfold fX5_likely at hE
  refine lv_iload_n hx hb dX5_likely_0 rfl (lv_at hl 1 rfl) ?_
  refine z_goi (wf := mW) hS hE (fun F1 h1 => (va_runS (As := [.int x1]) (rest := []) ⟨hx, hb, hml, hown, hts⟩ (kX5_isNoPart l E hD x1 σ F1 h1) (va_cwS 1 hts gX5_likely_X5_isNoPart rfl rfl rfl q_X5_isNoPart ⟨Nat.le_of_ble_eq_true rfl, Nat.le_of_ble_eq_true rfl⟩) (z_preS hK hP hS) rfl rfl hl.1 rfl (lv_room (Nat.le_of_ble_eq_true rfl)) dX5_likely_1 ⟨Nat.le_of_ble_eq_true rfl, Nat.le_of_ble_eq_true rfl⟩)) (fun r_2 σ_1 H locs hP hS hE => ?_)
  refine z_if_eq (tgt := 14) hx hb dX5_likely_4 (by decide) hE (fun hE => ?_) (fun hE => ?_)
  · refine lv_aload_n hx hb dX5_likely_14 rfl (lv_at hl 0 rfl) ?_
    refine z_goi (wf := mW) hS hE (fun F1 h1 => (va_runV (As := []) (rest := []) ⟨hx, hb, hml, hown, hts⟩ (kX5_isNoTown l E hD  σ_1 F1 h1) (cwV 0 hts gX5_likely_X5_isNoTown rfl rfl rfl q_X5_isNoTown ⟨Nat.le_of_ble_eq_true rfl, Nat.le_of_ble_eq_true rfl⟩) (z_preV hK hP hS (ci := 5) (q0 := 0) rfl rfl rfl) rfl rfl hl.1 rfl (lv_room (Nat.le_of_ble_eq_true rfl)) dX5_likely_15 ⟨Nat.le_of_ble_eq_true rfl, Nat.le_of_ble_eq_true rfl⟩)) (fun r_4 σ_3 H locs hP hS hE => ?_)
    refine z_if_eq (tgt := 28) hx hb dX5_likely_18 (by decide) hE (fun hE => ?_) (fun hE => ?_)
    · refine lv_aload_n hx hb dX5_likely_28 rfl (lv_at hl 0 rfl) ?_
      refine lv_aload_n hx hb dX5_likely_29 rfl (lv_at hl 0 rfl) ?_
      refine mg_0_1 hx hb hown hwX5 (hts _ (List.mem_of_getElem? (i := 1) rfl)) hK hP dX5_likely_30 ?_
      refine lv_iconst (v := 5) hx hb dX5_likely_33 (by decide) ?_
      refine ma_2 hx hb hK hP dX5_likely_34 hE (fun v_5 hE => ?_)
      refine z_gov (wf := mW) hS hE (fun F1 h1 => (va_runV (As := [.int v_5]) (rest := []) ⟨hx, hb, hml, hown, hts⟩ (kX5_dayOfRow l E hD v_5 σ_3 F1 h1) (cwV 1 hts gX5_likely_X5_dayOfRow rfl rfl rfl q_X5_dayOfRow ⟨Nat.le_of_ble_eq_true rfl, Nat.le_of_ble_eq_true rfl⟩) (z_preV hK hP hS (ci := 5) (q0 := 0) rfl rfl rfl) rfl rfl hl.1 rfl (lv_room (Nat.le_of_ble_eq_true rfl)) dX5_likely_35 ⟨Nat.le_of_ble_eq_true rfl, Nat.le_of_ble_eq_true rfl⟩)) (fun σ_6 H locs hP hS hE => ?_)
      refine lv_aload_n hx hb dX5_likely_38 rfl (lv_at hl 0 rfl) ?_
      refine mg_0_27 hx hb hown hwX5 (hts _ (List.mem_of_getElem? (i := 2) rfl)) hK hP dX5_likely_39 ?_
      refine lv_iload_n hx hb dX5_likely_42 rfl (lv_at hl 1 rfl) ?_
      refine z_gol (wf := mW) hS hE (fun F1 h1 => (va_runS (As := [.long (gL σ_6 0), .int x1]) (rest := []) ⟨hx, hb, hml, hown, hts⟩ (kX5_part l E hD (gL σ_6 0) x1 σ_6 F1 h1) (va_cwS 2 hts gX5_likely_X5_part rfl rfl rfl q_X5_part ⟨Nat.le_of_ble_eq_true rfl, Nat.le_of_ble_eq_true rfl⟩) (z_preS hK hP hS) rfl rfl hl.1 rfl (lv_room (Nat.le_of_ble_eq_true rfl)) dX5_likely_43 ⟨Nat.le_of_ble_eq_true rfl, Nat.le_of_ble_eq_true rfl⟩)) (fun r_8 σ_7 H locs hP hS hE => ?_)
      exact z_lret hx hb hr hlk hP hS dX5_likely_46 hE
    refine lv_aload_n hx hb dX5_likely_21 rfl (lv_at hl 0 rfl) ?_
    refine lv_bipush (v := -3) hx hb dX5_likely_22 (by decide) ?_
    refine z_gol (wf := mW) hS hE (fun F1 h1 => (va_runV (As := [.int (-3)]) (rest := []) ⟨hx, hb, hml, hown, hts⟩ (kX5_noLong l E hD (-3) σ_3 F1 h1) (cwV 1 hts gX5_likely_X5_noLong rfl rfl rfl q_X5_noLong ⟨Nat.le_of_ble_eq_true rfl, Nat.le_of_ble_eq_true rfl⟩) (z_preV hK hP hS (ci := 5) (q0 := 0) rfl rfl rfl) rfl rfl hl.1 rfl (lv_room (Nat.le_of_ble_eq_true rfl)) dX5_likely_24 ⟨Nat.le_of_ble_eq_true rfl, Nat.le_of_ble_eq_true rfl⟩)) (fun r_10 σ_9 H locs hP hS hE => ?_)
    exact z_lret hx hb hr hlk hP hS dX5_likely_27 hE
  refine lv_aload_n hx hb dX5_likely_7 rfl (lv_at hl 0 rfl) ?_
  refine lv_bipush (v := -2) hx hb dX5_likely_8 (by decide) ?_
  refine z_gol (wf := mW) hS hE (fun F1 h1 => (va_runV (As := [.int (-2)]) (rest := []) ⟨hx, hb, hml, hown, hts⟩ (kX5_noLong l E hD (-2) σ_1 F1 h1) (cwV 1 hts gX5_likely_X5_noLong rfl rfl rfl q_X5_noLong ⟨Nat.le_of_ble_eq_true rfl, Nat.le_of_ble_eq_true rfl⟩) (z_preV hK hP hS (ci := 5) (q0 := 0) rfl rfl rfl) rfl rfl hl.1 rfl (lv_room (Nat.le_of_ble_eq_true rfl)) dX5_likely_10 ⟨Nat.le_of_ble_eq_true rfl, Nat.le_of_ble_eq_true rfl⟩)) (fun r_12 σ_11 H locs hP hS hE => ?_)
  exact z_lret hx hb hr hlk hP hS dX5_likely_13 hE
theorem kX5_likely (l : Launch) (E : EN) (hD : ∀ σ, va_D (eA E) (mW E σ)) (x1 : Int32) (σ : ST) (F : Int64 × ST) (hE : fX5_likely x1 σ = some F) : Met l yX5_likely wsX5_likely r_X5_likely (zPc E mW [.ref (ea E 0), .int x1] σ) (zQl E mW F) 0 0 (eA E) := by
  refine Met.ofW (cc := cX5_likely) (maxL := 2) (ret := (some .long)) (by decide) rfl ?_
  intro p e s m args below meth c s₁ B hml hv
  obtain ⟨rfl, hP, hK⟩ := hv
  have hl := lv_entry ([.ref (ea E 0), .int x1]) (n := 2) (Nat.le_of_ble_eq_true rfl)
  rw [lg_entry_eq]
  generalize (lg_sl ([.ref (ea E 0), .int x1]) ++ List.replicate (2 - (lg_sl ([.ref (ea E 0), .int x1])).length) Slot.unset).toArray = ls at hl ⊢
  exact wX5_likely ⟨B.exec, B.bytes, hml, findClass_of_methodNamed B.named, atoms_spec (ws := wsX5_likely) B.pre, B.returns, B.notSynchronized, hK, hD⟩ x1 σ s.heap [] ls hl hP va_S.rf hE
def fX5_worth  (x1 : Int32) (σ : ST) : Option (Int64 × ST) :=
  cali (fX5_isNoPart x1 σ) (fun r_2 σ_1 => (if r_2 = 0 then cali (fX5_isNoTown σ_1) (fun r_4 σ_3 => (if r_4 = 0 then ald (gA σ_3 1) 200 5 (fun v_5 => calv (fX5_dayOfRow v_5 σ_3) (fun σ_6 => call (fX5_part (gL σ_6 1) x1 σ_6) (fun r_8 σ_7 => some (r_8, σ_7)))) else call (fX5_noLong (-3) σ_3) (fun r_10 σ_9 => some (r_10, σ_9)))) else call (fX5_noLong (-2) σ_1) (fun r_12 σ_11 => some (r_12, σ_11))))
set_option maxHeartbeats 4000000 in
set_option maxRecDepth 100000 in
theorem wX5_worth {p : Program} {l : Launch} {e : Env} {s : State} {m : MethodId} {args : Array Value} {below : List Frame} {meth : Method} {c : Code} {E : EN} (C : zC E mW p s m args meth c cX5_worth 2 RX5 (some .long) wsX5_worth) {F : Int64 × ST}   (x1 : Int32) (σ : ST) (H : Heap) (locs : List Loc) (ls : Array Slot) (hl : lv_has ls 2 [(0, .ref (ea E 0)), (1, .int x1)]) (hP : va_P (eD E) vwCl (mW E σ) H) (hS : va_S (eA E) s.heap H locs) (hE : fX5_worth  x1 σ = some F) : zWl E mW p l e r_X5_worth s m args below meth c F H locs (F0 m 0 ls []) := by
  obtain ⟨hx, hb, hml, hown, hts, hr, hlk, hK, hD⟩ := id C
  have hwX5 : ∀ w ∈ wsX50, w.before args s = true := fun w h => hts w (List.mem_cons_of_mem _ (List.mem_append_right _ h))
  unfold fX5_worth at hE
  refine lv_iload_n hx hb dX5_worth_0 rfl (lv_at hl 1 rfl) ?_
  refine z_goi (wf := mW) hS hE (fun F1 h1 => (va_runS (As := [.int x1]) (rest := []) ⟨hx, hb, hml, hown, hts⟩ (kX5_isNoPart l E hD x1 σ F1 h1) (va_cwS 1 hts gX5_worth_X5_isNoPart rfl rfl rfl q_X5_isNoPart ⟨Nat.le_of_ble_eq_true rfl, Nat.le_of_ble_eq_true rfl⟩) (z_preS hK hP hS) rfl rfl hl.1 rfl (lv_room (Nat.le_of_ble_eq_true rfl)) dX5_worth_1 ⟨Nat.le_of_ble_eq_true rfl, Nat.le_of_ble_eq_true rfl⟩)) (fun r_2 σ_1 H locs hP hS hE => ?_)
  refine z_if_eq (tgt := 14) hx hb dX5_worth_4 (by decide) hE (fun hE => ?_) (fun hE => ?_)
  · refine lv_aload_n hx hb dX5_worth_14 rfl (lv_at hl 0 rfl) ?_
    refine z_goi (wf := mW) hS hE (fun F1 h1 => (va_runV (As := []) (rest := []) ⟨hx, hb, hml, hown, hts⟩ (kX5_isNoTown l E hD  σ_1 F1 h1) (cwV 0 hts gX5_worth_X5_isNoTown rfl rfl rfl q_X5_isNoTown ⟨Nat.le_of_ble_eq_true rfl, Nat.le_of_ble_eq_true rfl⟩) (z_preV hK hP hS (ci := 5) (q0 := 0) rfl rfl rfl) rfl rfl hl.1 rfl (lv_room (Nat.le_of_ble_eq_true rfl)) dX5_worth_15 ⟨Nat.le_of_ble_eq_true rfl, Nat.le_of_ble_eq_true rfl⟩)) (fun r_4 σ_3 H locs hP hS hE => ?_)
    refine z_if_eq (tgt := 28) hx hb dX5_worth_18 (by decide) hE (fun hE => ?_) (fun hE => ?_)
    · refine lv_aload_n hx hb dX5_worth_28 rfl (lv_at hl 0 rfl) ?_
      refine lv_aload_n hx hb dX5_worth_29 rfl (lv_at hl 0 rfl) ?_
      refine mg_0_1 hx hb hown hwX5 (hts _ (List.mem_of_getElem? (i := 1) rfl)) hK hP dX5_worth_30 ?_
      refine lv_iconst (v := 5) hx hb dX5_worth_33 (by decide) ?_
      refine ma_2 hx hb hK hP dX5_worth_34 hE (fun v_5 hE => ?_)
      refine z_gov (wf := mW) hS hE (fun F1 h1 => (va_runV (As := [.int v_5]) (rest := []) ⟨hx, hb, hml, hown, hts⟩ (kX5_dayOfRow l E hD v_5 σ_3 F1 h1) (cwV 1 hts gX5_worth_X5_dayOfRow rfl rfl rfl q_X5_dayOfRow ⟨Nat.le_of_ble_eq_true rfl, Nat.le_of_ble_eq_true rfl⟩) (z_preV hK hP hS (ci := 5) (q0 := 0) rfl rfl rfl) rfl rfl hl.1 rfl (lv_room (Nat.le_of_ble_eq_true rfl)) dX5_worth_35 ⟨Nat.le_of_ble_eq_true rfl, Nat.le_of_ble_eq_true rfl⟩)) (fun σ_6 H locs hP hS hE => ?_)
      refine lv_aload_n hx hb dX5_worth_38 rfl (lv_at hl 0 rfl) ?_
      refine mg_0_28 hx hb hown hwX5 (hts _ (List.mem_of_getElem? (i := 2) rfl)) hK hP dX5_worth_39 ?_
      refine lv_iload_n hx hb dX5_worth_42 rfl (lv_at hl 1 rfl) ?_
      refine z_gol (wf := mW) hS hE (fun F1 h1 => (va_runS (As := [.long (gL σ_6 1), .int x1]) (rest := []) ⟨hx, hb, hml, hown, hts⟩ (kX5_part l E hD (gL σ_6 1) x1 σ_6 F1 h1) (va_cwS 2 hts gX5_worth_X5_part rfl rfl rfl q_X5_part ⟨Nat.le_of_ble_eq_true rfl, Nat.le_of_ble_eq_true rfl⟩) (z_preS hK hP hS) rfl rfl hl.1 rfl (lv_room (Nat.le_of_ble_eq_true rfl)) dX5_worth_43 ⟨Nat.le_of_ble_eq_true rfl, Nat.le_of_ble_eq_true rfl⟩)) (fun r_8 σ_7 H locs hP hS hE => ?_)
      exact z_lret hx hb hr hlk hP hS dX5_worth_46 hE
    refine lv_aload_n hx hb dX5_worth_21 rfl (lv_at hl 0 rfl) ?_
    refine lv_bipush (v := -3) hx hb dX5_worth_22 (by decide) ?_
    refine z_gol (wf := mW) hS hE (fun F1 h1 => (va_runV (As := [.int (-3)]) (rest := []) ⟨hx, hb, hml, hown, hts⟩ (kX5_noLong l E hD (-3) σ_3 F1 h1) (cwV 1 hts gX5_worth_X5_noLong rfl rfl rfl q_X5_noLong ⟨Nat.le_of_ble_eq_true rfl, Nat.le_of_ble_eq_true rfl⟩) (z_preV hK hP hS (ci := 5) (q0 := 0) rfl rfl rfl) rfl rfl hl.1 rfl (lv_room (Nat.le_of_ble_eq_true rfl)) dX5_worth_24 ⟨Nat.le_of_ble_eq_true rfl, Nat.le_of_ble_eq_true rfl⟩)) (fun r_10 σ_9 H locs hP hS hE => ?_)
    exact z_lret hx hb hr hlk hP hS dX5_worth_27 hE
  refine lv_aload_n hx hb dX5_worth_7 rfl (lv_at hl 0 rfl) ?_
  refine lv_bipush (v := -2) hx hb dX5_worth_8 (by decide) ?_
  refine z_gol (wf := mW) hS hE (fun F1 h1 => (va_runV (As := [.int (-2)]) (rest := []) ⟨hx, hb, hml, hown, hts⟩ (kX5_noLong l E hD (-2) σ_1 F1 h1) (cwV 1 hts gX5_worth_X5_noLong rfl rfl rfl q_X5_noLong ⟨Nat.le_of_ble_eq_true rfl, Nat.le_of_ble_eq_true rfl⟩) (z_preV hK hP hS (ci := 5) (q0 := 0) rfl rfl rfl) rfl rfl hl.1 rfl (lv_room (Nat.le_of_ble_eq_true rfl)) dX5_worth_10 ⟨Nat.le_of_ble_eq_true rfl, Nat.le_of_ble_eq_true rfl⟩)) (fun r_12 σ_11 H locs hP hS hE => ?_)
  exact z_lret hx hb hr hlk hP hS dX5_worth_13 hE
theorem kX5_worth (l : Launch) (E : EN) (hD : ∀ σ, va_D (eA E) (mW E σ)) (x1 : Int32) (σ : ST) (F : Int64 × ST) (hE : fX5_worth x1 σ = some F) : Met l yX5_worth wsX5_worth r_X5_worth (zPc E mW [.ref (ea E 0), .int x1] σ) (zQl E mW F) 0 0 (eA E) := by
  refine Met.ofW (cc := cX5_worth) (maxL := 2) (ret := (some .long)) (by decide) rfl ?_
  intro p e s m args below meth c s₁ B hml hv
  obtain ⟨rfl, hP, hK⟩ := hv
  have hl := lv_entry ([.ref (ea E 0), .int x1]) (n := 2) (Nat.le_of_ble_eq_true rfl)
  rw [lg_entry_eq]
  generalize (lg_sl ([.ref (ea E 0), .int x1]) ++ List.replicate (2 - (lg_sl ([.ref (ea E 0), .int x1])).length) Slot.unset).toArray = ls at hl ⊢
  exact wX5_worth ⟨B.exec, B.bytes, hml, findClass_of_methodNamed B.named, atoms_spec (ws := wsX5_worth) B.pre, B.returns, B.notSynchronized, hK, hD⟩ x1 σ s.heap [] ls hl hP va_S.rf hE
def fX5_isNoBest  (x0 : Int32) (σ : ST) : Option (Int32 × ST) :=
  (if x0 < 0 then some (1, σ) else (if x0 ≤ 2 then some (0, σ) else some (1, σ)))
set_option maxHeartbeats 4000000 in
set_option maxRecDepth 100000 in
theorem wX5_isNoBest {p : Program} {l : Launch} {e : Env} {s : State} {m : MethodId} {args : Array Value} {below : List Frame} {meth : Method} {c : Code} {E : EN} (C : zC E mW p s m args meth c cX5_isNoBest 1 RX5 (some .boolean) wsX5_isNoBest) {F : Int32 × ST}   (x0 : Int32) (σ : ST) (H : Heap) (locs : List Loc) (ls : Array Slot) (hl : lv_has ls 1 [(0, .int x0)]) (hP : va_P (eD E) vwCl (mW E σ) H) (hS : va_S (eA E) s.heap H locs) (hE : fX5_isNoBest  x0 σ = some F) : zWi E mW p l e r_X5_isNoBest s m args below meth c F H locs (F0 m 0 ls []) := by
  obtain ⟨hx, hb, hml, hown, hts, hr, hlk, hK, hD⟩ := id C
  unfold fX5_isNoBest at hE
  refine lv_iload_n hx hb dX5_isNoBest_0 rfl (lv_at hl 0 rfl) ?_
  refine z_if_lt (tgt := 9) hx hb dX5_isNoBest_1 (by decide) hE (fun hE => ?_) (fun hE => ?_)
  · refine lv_iconst (v := 1) hx hb dX5_isNoBest_9 (by decide) ?_
    refine lv_goto (tgt := 14) hx hb dX5_isNoBest_10 (by decide) ?_
    exact z_zret hx hb hr hlk rfl hP hS dX5_isNoBest_14 hE
  refine lv_iload_n hx hb dX5_isNoBest_4 rfl (lv_at hl 0 rfl) ?_
  refine lv_iconst (v := 2) hx hb dX5_isNoBest_5 (by decide) ?_
  refine z_icmp_le (tgt := 13) hx hb dX5_isNoBest_6 (by decide) hE (fun hE => ?_) (fun hE => ?_)
  · refine lv_iconst (v := 0) hx hb dX5_isNoBest_13 (by decide) ?_
    exact z_zret hx hb hr hlk rfl hP hS dX5_isNoBest_14 hE
  refine lv_iconst (v := 1) hx hb dX5_isNoBest_9 (by decide) ?_
  refine lv_goto (tgt := 14) hx hb dX5_isNoBest_10 (by decide) ?_
  exact z_zret hx hb hr hlk rfl hP hS dX5_isNoBest_14 hE
theorem kX5_isNoBest (l : Launch) (E : EN) (hD : ∀ σ, va_D (eA E) (mW E σ)) (x0 : Int32) (σ : ST) (F : Int32 × ST) (hE : fX5_isNoBest x0 σ = some F) : Met l yX5_isNoBest wsX5_isNoBest r_X5_isNoBest (zPc E mW [.int x0] σ) (zQi E mW F) 0 0 (eA E) := by
  refine Met.ofW (cc := cX5_isNoBest) (maxL := 1) (ret := (some .boolean)) (by decide) rfl ?_
  intro p e s m args below meth c s₁ B hml hv
  obtain ⟨rfl, hP, hK⟩ := hv
  have hl := lv_entry ([.int x0]) (n := 1) (Nat.le_of_ble_eq_true rfl)
  rw [lg_entry_eq]
  generalize (lg_sl ([.int x0]) ++ List.replicate (1 - (lg_sl ([.int x0])).length) Slot.unset).toArray = ls at hl ⊢
  exact wX5_isNoBest ⟨B.exec, B.bytes, hml, findClass_of_methodNamed B.named, atoms_spec (ws := wsX5_isNoBest) B.pre, B.returns, B.notSynchronized, hK, hD⟩ x0 σ s.heap [] ls hl hP va_S.rf hE
