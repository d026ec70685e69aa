def fX5_seekBest_L16 (ke : Int32 → ST → Option (ST)) : Nat → Int32 → Int32 → ST → Option (ST)
  | 0, _, _, _ => none
  | n + 1, x1, x2, σ => (if (gI σ 8) ≤ x2 then ke x1 σ else ast σ 12 10 x2 x2 (fun σ_5 => bnd (x2 + 1) (fun x2_6 => fX5_seekBest_L16 ke n x1 x2_6 σ_5)))
set_option maxHeartbeats 4000000 in
set_option maxRecDepth 100000 in
theorem wX5_seekBest_L16 {p : Program} {l : Launch} {e : Env} {s : State} {m : MethodId} {args : Array Value} {below : List Frame} {meth : Method} {c : Code} {E : EN} (C : zC E mW p s m args meth c cX5_seekBest 6 RX5 none wsL_law) {F : ST} {ke : Int32 → ST → Option (ST)} (hke : ∀ (x1 : Int32) (σ : ST) (H : Heap) (locs : List Loc) (ls : Array Slot), lv_has ls 6 [(0, .ref (ea E 0)), (1, .int x1)] → va_P (eD E) vwCl (mW E σ) H → va_S (eA E) s.heap H locs → ke x1 σ = some F → zWv E mW p l e r_X5_seekBest s m args below meth c F H locs (F0 m 37 ls [])) : ∀ (n : Nat) (x1 : Int32) (x2 : Int32) (σ : ST) (H : Heap) (locs : List Loc) (ls : Array Slot), lv_has ls 6 [(0, .ref (ea E 0)), (1, .int x1), (2, .int x2)] → va_P (eD E) vwCl (mW E σ) H → va_S (eA E) s.heap H locs → fX5_seekBest_L16 ke n x1 x2 σ = some F → zWv E mW p l e r_X5_seekBest s m args below meth c F H locs (F0 m 16 ls []) := by
  obtain ⟨hx, hb, hml, hown, hts, hr, hlk, hK, hD⟩ := id C
  have hwX5 : ∀ w ∈ wsX50, w.before args s = true := fun w h => hts w (inlX5 w h)
  intro n
  induction n with
  | zero => intro x1 x2 σ H locs ls hl hP hS hE; rw [fX5_seekBest_L16] at hE; cases hE
  | succ n ih =>
    intro x1 x2 σ H locs ls hl hP hS hE
    rw [fX5_seekBest_L16] at hE
    refine lv_iload_n hx hb dX5_seekBest_16 rfl (lv_at hl 2 rfl) ?_
    refine lv_aload_n hx hb dX5_seekBest_17 rfl (lv_at hl 0 rfl) ?_
    refine mg_0_21 hx hb hown hwX5 (hts _ u_600) hK hP dX5_seekBest_18 ?_
    refine z_icmp_ge (tgt := 37) hx hb dX5_seekBest_21 (by decide) hE (fun hE => ?_) (fun hE => ?_)
    · exact hke x1 σ _ _ _ (lv_sub hl [0, 1] rfl) hP hS hE
    refine lv_aload_n hx hb dX5_seekBest_24 rfl (lv_at hl 0 rfl) ?_
    refine mg_0_20 hx hb hown hwX5 (hts _ u_110) hK hP dX5_seekBest_25 ?_
    refine lv_iload_n hx hb dX5_seekBest_28 rfl (lv_at hl 2 rfl) ?_
    refine lv_iload_n hx hb dX5_seekBest_29 rfl (lv_at hl 2 rfl) ?_
    refine ms_13 hx hb hK hD hP hS dX5_seekBest_30 hE (fun σ_5 H locs hP hS hE => ?_)
    refine z_iinc hx hb (v := (x2 + 1)) (k := 2) (fun x2_6 => [(2, .int x2_6), (0, .ref (ea E 0)), (1, .int x1)]) dX5_seekBest_31 hl rfl (by rfl) (by decide) rfl hE (fun x2_6 ls hl hE => ?_)
    refine lv_goto (tgt := 16) hx hb dX5_seekBest_34 (by decide) ?_
    exact ih x1 x2_6 σ_5 _ _ _ (lv_sub hl [1, 2, 0] rfl) hP hS hE
def fX5_seekBest_L150 (ke : Int32 → Int32 → ST → Option (ST)) : Nat → Int32 → Int32 → Int32 → ST → Option (ST)
  | 0, _, _, _, _ => none
  | n + 1, x1, x2, x5, σ => (if (gI σ 8) ≤ x5 then ke x1 x2 σ else ald (gA σ 12) 10 x5 (fun v_22 => ast σ 14 5 x5 v_22 (fun σ_23 => bnd (x5 + 1) (fun x5_24 => fX5_seekBest_L150 ke n x1 x2 x5_24 σ_23))))
set_option maxHeartbeats 4000000 in
set_option maxRecDepth 100000 in
theorem wX5_seekBest_L150 {p : Program} {l : Launch} {e : Env} {s : State} {m : MethodId} {args : Array Value} {below : List Frame} {meth : Method} {c : Code} {E : EN} (C : zC E mW p s m args meth c cX5_seekBest 6 RX5 none wsL_law) {F : ST} {ke : Int32 → Int32 → ST → Option (ST)} (hke : ∀ (x1 : Int32) (x2 : Int32) (σ : ST) (H : Heap) (locs : List Loc) (ls : Array Slot), lv_has ls 6 [(0, .ref (ea E 0)), (1, .int x1), (2, .int x2)] → va_P (eD E) vwCl (mW E σ) H → va_S (eA E) s.heap H locs → ke x1 x2 σ = some F → zWv E mW p l e r_X5_seekBest s m args below meth c F H locs (F0 m 179 ls [])) : ∀ (n : Nat) (x1 : Int32) (x2 : Int32) (x5 : Int32) (σ : ST) (H : Heap) (locs : List Loc) (ls : Array Slot), lv_has ls 6 [(0, .ref (ea E 0)), (1, .int x1), (2, .int x2), (5, .int x5)] → va_P (eD E) vwCl (mW E σ) H → va_S (eA E) s.heap H locs → fX5_seekBest_L150 ke n x1 x2 x5 σ = some F → zWv E mW p l e r_X5_seekBest s m args below meth c F H locs (F0 m 150 ls []) := by
  obtain ⟨hx, hb, hml, hown, hts, hr, hlk, hK, hD⟩ := id C
  have hwX5 : ∀ w ∈ wsX50, w.before args s = true := fun w h => hts w (inlX5 w h)
  intro n
  induction n with
  | zero => intro x1 x2 x5 σ H locs ls hl hP hS hE; rw [fX5_seekBest_L150] at hE; cases hE
  | succ n ih =>
    intro x1 x2 x5 σ H locs ls hl hP hS hE
    rw [fX5_seekBest_L150] at hE
    refine lv_iload hx hb dX5_seekBest_150 (lv_at hl 3 rfl) ?_
    refine lv_aload_n hx hb dX5_seekBest_152 rfl (lv_at hl 0 rfl) ?_
    refine mg_0_21 hx hb hown hwX5 (hts _ u_600) hK hP dX5_seekBest_153 ?_
    refine z_icmp_ge (tgt := 179) hx hb dX5_seekBest_156 (by decide) hE (fun hE => ?_) (fun hE => ?_)
    · exact hke x1 x2 σ _ _ _ (lv_sub hl [0, 1, 2] rfl) hP hS hE
    refine lv_aload_n hx hb dX5_seekBest_159 rfl (lv_at hl 0 rfl) ?_
    refine mg_0_34 hx hb hown hwX5 (hts _ u_112) hK hP dX5_seekBest_160 ?_
    refine lv_iload hx hb dX5_seekBest_163 (lv_at hl 3 rfl) ?_
    refine lv_aload_n hx hb dX5_seekBest_165 rfl (lv_at hl 0 rfl) ?_
    refine mg_0_20 hx hb hown hwX5 (hts _ u_110) hK hP dX5_seekBest_166 ?_
    refine lv_iload hx hb dX5_seekBest_169 (lv_at hl 3 rfl) ?_
    refine ma_13 hx hb hK hP dX5_seekBest_171 hE (fun v_22 hE => ?_)
    refine ms_15 hx hb hK hD hP hS dX5_seekBest_172 hE (fun σ_23 H locs hP hS hE => ?_)
    refine z_iinc hx hb (v := (x5 + 1)) (k := 3) (fun x5_24 => [(5, .int x5_24), (0, .ref (ea E 0)), (1, .int x1), (2, .int x2)]) dX5_seekBest_173 hl rfl (by rfl) (by decide) rfl hE (fun x5_24 ls hl hE => ?_)
    refine lv_goto (tgt := 150) hx hb dX5_seekBest_176 (by decide) ?_
    exact ih x1 x2 x5_24 σ_23 _ _ _ (lv_sub hl [1, 2, 3, 0] rfl) hP hS hE
def fX5_seekBest_J114 (kb : Int32 → Int32 → Int32 → ST → Option (ST)) (x1 : Int32) (x2 : Int32) (t0 : Int32) (σ : ST) : Option (ST) :=
  bnd (t0 : Int32) (fun x4_13 => (if x4_13 = 0 then cali (fX5_next σ) (fun r_15 σ_14 => bnd (r_15 : Int32) (fun x3_16 => kb x1 x2 x3_16 σ_14)) else bnd (1 : Int32) (fun x2_17 => bnd (sI σ 18 (gI σ 11)) (fun σ_18 => bnd (sL σ_18 2 (gL σ_18 0)) (fun σ_19 => bnd (sL σ_19 3 (gL σ_19 1)) (fun σ_20 => bnd (0 : Int32) (fun x5_21 => fX5_seekBest_L150 (fun x1_25 x2_26 σ_27 => cali (fX5_next σ_27) (fun r_29 σ_28 => bnd (r_29 : Int32) (fun x3_30 => kb x1_25 x2_26 x3_30 σ_28))) FU x1 x2_17 x5_21 σ_20)))))))
set_option maxHeartbeats 4000000 in
set_option maxRecDepth 100000 in
theorem wX5_seekBest_J114 {p : Program} {l : Launch} {e : Env} {s : State} {m : MethodId} {args : Array Value} {below : List Frame} {meth : Method} {c : Code} {E : EN} (C : zC E mW p s m args meth c cX5_seekBest 6 RX5 none wsL_law) {F : ST} {kb : Int32 → Int32 → Int32 → ST → Option (ST)} (hkb : ∀ (x1 : Int32) (x2 : Int32) (x3 : Int32) (σ : ST) (H : Heap) (locs : List Loc) (ls : Array Slot), lv_has ls 6 [(0, .ref (ea E 0)), (1, .int x1), (2, .int x2), (3, .int x3)] → va_P (eD E) vwCl (mW E σ) H → va_S (eA E) s.heap H locs → kb x1 x2 x3 σ = some F → zWv E mW p l e r_X5_seekBest s m args below meth c F H locs (F0 m 41 ls [])) (x1 : Int32) (x2 : Int32) (t0 : Int32) (σ : ST) (H : Heap) (locs : List Loc) (ls : Array Slot) (hl : lv_has ls 6 [(0, .ref (ea E 0)), (1, .int x1), (2, .int x2)]) (hP : va_P (eD E) vwCl (mW E σ) H) (hS : va_S (eA E) s.heap H locs) (hE : fX5_seekBest_J114 kb x1 x2 t0 σ = some F) : zWv E mW p l e r_X5_seekBest s m args below meth c F H locs (F0 m 114 ls [.int t0]) := by
  obtain ⟨hx, hb, hml, hown, hts, hr, hlk, hK, hD⟩ := id C
  have hwX5 : ∀ w ∈ wsX50, w.before args s = true := fun w h => hts w (inlX5 w h)
  unfold fX5_seekBest_J114 at hE
  refine z_istore hx hb (fun x4_13 => [(4, .int x4_13), (0, .ref (ea E 0)), (1, .int x1), (2, .int x2)]) dX5_seekBest_114 hl (by decide) rfl hE (fun x4_13 ls hl hE => ?_)
  refine lv_iload hx hb dX5_seekBest_116 (lv_at hl 0 rfl) ?_
  refine z_if_eq (tgt := 179) hx hb dX5_seekBest_118 (by decide) hE (fun hE => ?_) (fun hE => ?_)
  · refine lv_aload_n hx hb dX5_seekBest_179 rfl (lv_at hl 1 rfl) ?_
    refine z_goi (wf := mW) hS hE (fun F1 h1 => (va_runV (As := []) (rest := []) ⟨hx, hb, hml, hown, hts⟩ (kX5_next l E hD  σ F1 h1) (cwV 0 hts (gU_V u_724 u_725 u_726 u_5 u_727) rfl rfl rfl q_X5_next ⟨Nat.le_of_ble_eq_true rfl, Nat.le_of_ble_eq_true rfl⟩) (z_preV hK hP hS (ci := 5) (q0 := 0) rfl rfl rfl) rfl rfl hl.1 rfl (lv_room (Nat.le_of_ble_eq_true rfl)) dX5_seekBest_180 ⟨Nat.le_of_ble_eq_true rfl, Nat.le_of_ble_eq_true rfl⟩)) (fun r_15 σ_14 H locs hP hS hE => ?_)
    refine z_istore_n hx hb (fun x3_16 => [(3, .int x3_16), (4, .int x4_13), (0, .ref (ea E 0)), (1, .int x1), (2, .int x2)]) dX5_seekBest_183 rfl hl (by decide) rfl hE (fun x3_16 ls hl hE => ?_)
    refine lv_goto (tgt := 41) hx hb dX5_seekBest_184 (by decide) ?_
    exact hkb x1 x2 x3_16 σ_14 _ _ _ (lv_sub hl [2, 3, 4, 0] rfl) hP hS hE
  refine lv_iconst (v := 1) hx hb dX5_seekBest_121 (by decide) ?_
  refine z_istore_n hx hb (fun x2_17 => [(2, .int x2_17), (4, .int x4_13), (0, .ref (ea E 0)), (1, .int x1)]) dX5_seekBest_122 rfl hl (by decide) rfl hE (fun x2_17 ls hl hE => ?_)
  refine lv_aload_n hx hb dX5_seekBest_123 rfl (lv_at hl 2 rfl) ?_
  refine lv_aload_n hx hb dX5_seekBest_124 rfl (lv_at hl 2 rfl) ?_
  refine mg_0_24 hx hb hown hwX5 (hts _ u_585) hK hP dX5_seekBest_125 ?_
  refine mp_0_35 hx hb hown hwX5 (hts _ u_721) hK hD hP hS dX5_seekBest_128 hE (fun σ_18 H locs hP hS hE => ?_)
  refine lv_aload_n hx hb dX5_seekBest_131 rfl (lv_at hl 2 rfl) ?_
  refine lv_aload_n hx hb dX5_seekBest_132 rfl (lv_at hl 2 rfl) ?_
  refine mg_0_27 hx hb hown hwX5 (hts _ u_609) hK hP dX5_seekBest_133 ?_
  refine mp_0_36 hx hb hown hwX5 (hts _ u_722) hK hD hP hS dX5_seekBest_136 hE (fun σ_19 H locs hP hS hE => ?_)
  refine lv_aload_n hx hb dX5_seekBest_139 rfl (lv_at hl 2 rfl) ?_
  refine lv_aload_n hx hb dX5_seekBest_140 rfl (lv_at hl 2 rfl) ?_
  refine mg_0_28 hx hb hown hwX5 (hts _ u_610) hK hP dX5_seekBest_141 ?_
  refine mp_0_37 hx hb hown hwX5 (hts _ u_723) hK hD hP hS dX5_seekBest_144 hE (fun σ_20 H locs hP hS hE => ?_)
  refine lv_iconst (v := 0) hx hb dX5_seekBest_147 (by decide) ?_
  refine z_istore hx hb (fun x5_21 => [(5, .int x5_21), (2, .int x2_17), (4, .int x4_13), (0, .ref (ea E 0)), (1, .int x1)]) dX5_seekBest_148 hl (by decide) rfl hE (fun x5_21 ls hl hE => ?_)
  refine wX5_seekBest_L150 C ?_ FU x1 x2_17 x5_21 σ_20 _ _ _ (lv_sub hl [3, 4, 1, 0] rfl) hP hS hE
  intro x1_25 x2_26 σ_27 H locs ls hl hP hS hE
  refine lv_aload_n hx hb dX5_seekBest_179 rfl (lv_at hl 0 rfl) ?_
  refine z_goi (wf := mW) hS hE (fun F1 h1 => (va_runV (As := []) (rest := []) ⟨hx, hb, hml, hown, hts⟩ (kX5_next l E hD  σ_27 F1 h1) (cwV 0 hts (gU_V u_724 u_725 u_726 u_5 u_727) rfl rfl rfl q_X5_next ⟨Nat.le_of_ble_eq_true rfl, Nat.le_of_ble_eq_true rfl⟩) (z_preV hK hP hS (ci := 5) (q0 := 0) rfl rfl rfl) rfl rfl hl.1 rfl (lv_room (Nat.le_of_ble_eq_true rfl)) dX5_seekBest_180 ⟨Nat.le_of_ble_eq_true rfl, Nat.le_of_ble_eq_true rfl⟩)) (fun r_29 σ_28 H locs hP hS hE => ?_)
  refine z_istore_n hx hb (fun x3_30 => [(3, .int x3_30), (0, .ref (ea E 0)), (1, .int x1_25), (2, .int x2_26)]) dX5_seekBest_183 rfl hl (by decide) rfl hE (fun x3_30 ls hl hE => ?_)
  refine lv_goto (tgt := 41) hx hb dX5_seekBest_184 (by decide) ?_
  exact hkb x1_25 x2_26 x3_30 σ_28 _ _ _ (lv_sub hl [1, 2, 3, 0] rfl) hP hS hE
def fX5_seekBest_J109 (kb : Int32 → Int32 → Int32 → ST → Option (ST)) (x1 : Int32) (x2 : Int32) (σ : ST) : Option (ST) :=
  fX5_seekBest_J114 kb x1 x2 1 σ
set_option maxHeartbeats 4000000 in
set_option maxRecDepth 100000 in
theorem wX5_seekBest_J109 {p : Program} {l : Launch} {e : Env} {s : State} {m : MethodId} {args : Array Value} {below : List Frame} {meth : Method} {c : Code} {E : EN} (C : zC E mW p s m args meth c cX5_seekBest 6 RX5 none wsL_law) {F : ST} {kb : Int32 → Int32 → Int32 → ST → Option (ST)} (hkb : ∀ (x1 : Int32) (x2 : Int32) (x3 : Int32) (σ : ST) (H : Heap) (locs : List Loc) (ls : Array Slot), lv_has ls 6 [(0, .ref (ea E 0)), (1, .int x1), (2, .int x2), (3, .int x3)] → va_P (eD E) vwCl (mW E σ) H → va_S (eA E) s.heap H locs → kb x1 x2 x3 σ = some F → zWv E mW p l e r_X5_seekBest s m args below meth c F H locs (F0 m 41 ls [])) (x1 : Int32) (x2 : Int32) (σ : ST) (H : Heap) (locs : List Loc) (ls : Array Slot) (hl : lv_has ls 6 [(0, .ref (ea E 0)), (1, .int x1), (2, .int x2)]) (hP : va_P (eD E) vwCl (mW E σ) H) (hS : va_S (eA E) s.heap H locs) (hE : fX5_seekBest_J109 kb x1 x2 σ = some F) : zWv E mW p l e r_X5_seekBest s m args below meth c F H locs (F0 m 109 ls []) := by
  obtain ⟨hx, hb, hml, hown, hts, hr, hlk, hK, hD⟩ := id C
  unfold fX5_seekBest_J109 at hE
  refine lv_iconst (v := 1) hx hb dX5_seekBest_109 (by decide) ?_
  refine lv_goto (tgt := 114) hx hb dX5_seekBest_110 (by decide) ?_
  exact wX5_seekBest_J114 C hkb x1 x2 1 σ _ _ _ (lv_sub hl [0, 1, 2] rfl) hP hS hE
def fX5_seekBest_J113 (kb : Int32 → Int32 → Int32 → ST → Option (ST)) (x1 : Int32) (x2 : Int32) (σ : ST) : Option (ST) :=
  fX5_seekBest_J114 kb x1 x2 0 σ
set_option maxHeartbeats 4000000 in
set_option maxRecDepth 100000 in
theorem wX5_seekBest_J113 {p : Program} {l : Launch} {e : Env} {s : State} {m : MethodId} {args : Array Value} {below : List Frame} {meth : Method} {c : Code} {E : EN} (C : zC E mW p s m args meth c cX5_seekBest 6 RX5 none wsL_law) {F : ST} {kb : Int32 → Int32 → Int32 → ST → Option (ST)} (hkb : ∀ (x1 : Int32) (x2 : Int32) (x3 : Int32) (σ : ST) (H : Heap) (locs : List Loc) (ls : Array Slot), lv_has ls 6 [(0, .ref (ea E 0)), (1, .int x1), (2, .int x2), (3, .int x3)] → va_P (eD E) vwCl (mW E σ) H → va_S (eA E) s.heap H locs → kb x1 x2 x3 σ = some F → zWv E mW p l e r_X5_seekBest s m args below meth c F H locs (F0 m 41 ls [])) (x1 : Int32) (x2 : Int32) (σ : ST) (H : Heap) (locs : List Loc) (ls : Array Slot) (hl : lv_has ls 6 [(0, .ref (ea E 0)), (1, .int x1), (2, .int x2)]) (hP : va_P (eD E) vwCl (mW E σ) H) (hS : va_S (eA E) s.heap H locs) (hE : fX5_seekBest_J113 kb x1 x2 σ = some F) : zWv E mW p l e r_X5_seekBest s m args below meth c F H locs (F0 m 113 ls []) := by
  obtain ⟨hx, hb, hml, hown, hts, hr, hlk, hK, hD⟩ := id C
  unfold fX5_seekBest_J113 at hE
  refine lv_iconst (v := 0) hx hb dX5_seekBest_113 (by decide) ?_
  exact wX5_seekBest_J114 C hkb x1 x2 0 σ _ _ _ (lv_sub hl [0, 1, 2] rfl) hP hS hE
def fX5_seekBest_L41 (ke : ST → Option (ST)) : Nat → Int32 → Int32 → Int32 → ST → Option (ST)
  | 0, _, _, _, _ => none
  | n + 1, x1, x2, x3, σ => (if x3 = 0 then ke  σ else ald (gA σ 1) 200 5 (fun v_11 => calv (fX5_go v_11 σ) (fun σ_12 => (if x2 = 0 then fX5_seekBest_J109 (fX5_seekBest_L41 ke n) x1 x2 σ_12 else (if x1 = 0 then (if (gI σ_12 18) ≤ (gI σ_12 11) then fX5_seekBest_J113 (fX5_seekBest_L41 ke n) x1 x2 σ_12 else fX5_seekBest_J109 (fX5_seekBest_L41 ke n) x1 x2 σ_12) else (if x1 = 1 then (if (lg_cmp (gL σ_12 0) (gL σ_12 2)) ≤ 0 then fX5_seekBest_J113 (fX5_seekBest_L41 ke n) x1 x2 σ_12 else fX5_seekBest_J109 (fX5_seekBest_L41 ke n) x1 x2 σ_12) else (if (lg_cmp (gL σ_12 1) (gL σ_12 3)) ≤ 0 then fX5_seekBest_J113 (fX5_seekBest_L41 ke n) x1 x2 σ_12 else fX5_seekBest_J109 (fX5_seekBest_L41 ke n) x1 x2 σ_12)))))))
set_option maxHeartbeats 4000000 in
set_option maxRecDepth 100000 in
theorem wX5_seekBest_L41 {p : Program} {l : Launch} {e : Env} {s : State} {m : MethodId} {args : Array Value} {below : List Frame} {meth : Method} {c : Code} {E : EN} (C : zC E mW p s m args meth c cX5_seekBest 6 RX5 none wsL_law) {F : ST} {ke : ST → Option (ST)} (hke : ∀  (σ : ST) (H : Heap) (locs : List Loc) (ls : Array Slot), lv_has ls 6 [] → va_P (eD E) vwCl (mW E σ) H → va_S (eA E) s.heap H locs → ke  σ = some F → zWv E mW p l e r_X5_seekBest s m args below meth c F H locs (F0 m 187 ls [])) : ∀ (n : Nat) (x1 : Int32) (x2 : Int32) (x3 : Int32) (σ : ST) (H : Heap) (locs : List Loc) (ls : Array Slot), lv_has ls 6 [(0, .ref (ea E 0)), (1, .int x1), (2, .int x2), (3, .int x3)] → va_P (eD E) vwCl (mW E σ) H → va_S (eA E) s.heap H locs → fX5_seekBest_L41 ke n x1 x2 x3 σ = some F → zWv E mW p l e r_X5_seekBest s m args below meth c F H locs (F0 m 41 ls []) := by
  obtain ⟨hx, hb, hml, hown, hts, hr, hlk, hK, hD⟩ := id C
  have hwX5 : ∀ w ∈ wsX50, w.before args s = true := fun w h => hts w (inlX5 w h)
  intro n
  induction n with
  | zero => intro x1 x2 x3 σ H locs ls hl hP hS hE; rw [fX5_seekBest_L41] at hE; cases hE
  | succ n ih =>
    intro x1 x2 x3 σ H locs ls hl hP hS hE
    rw [fX5_seekBest_L41] at hE
    refine lv_iload_n hx hb dX5_seekBest_41 rfl (lv_at hl 3 rfl) ?_
    refine z_if_eq (tgt := 187) hx hb dX5_seekBest_42 (by decide) hE (fun hE => ?_) (fun hE => ?_)
    · exact hke  σ _ _ _ (lv_sub hl [] rfl) hP hS hE
    refine lv_aload_n hx hb dX5_seekBest_45 rfl (lv_at hl 0 rfl) ?_
    refine lv_aload_n hx hb dX5_seekBest_46 rfl (lv_at hl 0 rfl) ?_
    refine mg_0_1 hx hb hown hwX5 (hts _ u_97) hK hP dX5_seekBest_47 ?_
    refine lv_iconst (v := 5) hx hb dX5_seekBest_50 (by decide) ?_
    refine ma_2 hx hb hK hP dX5_seekBest_51 hE (fun v_11 hE => ?_)
    refine z_gov (wf := mW) hS hE (fun F1 h1 => (va_runV (As := [.int v_11]) (rest := []) ⟨hx, hb, hml, hown, hts⟩ (kX5_go l E hD v_11 σ F1 h1) (cwV 1 hts (gU_V u_602 u_603 u_604 u_5 u_605) rfl rfl rfl q_X5_go ⟨Nat.le_of_ble_eq_true rfl, Nat.le_of_ble_eq_true rfl⟩) (z_preV hK hP hS (ci := 5) (q0 := 0) rfl rfl rfl) rfl rfl hl.1 rfl (lv_room (Nat.le_of_ble_eq_true rfl)) dX5_seekBest_52 ⟨Nat.le_of_ble_eq_true rfl, Nat.le_of_ble_eq_true rfl⟩)) (fun σ_12 H locs hP hS hE => ?_)
    refine lv_iload_n hx hb dX5_seekBest_55 rfl (lv_at hl 2 rfl) ?_
    refine z_if_eq (tgt := 109) hx hb dX5_seekBest_56 (by decide) hE (fun hE => ?_) (fun hE => ?_)
    · exact wX5_seekBest_J109 C ih x1 x2 σ_12 _ _ _ (lv_sub hl [0, 1, 2] rfl) hP hS hE
    refine lv_iload_n hx hb dX5_seekBest_59 rfl (lv_at hl 1 rfl) ?_
    refine z_if_ne (tgt := 77) hx hb dX5_seekBest_60 (by decide) hE (fun hE => ?_) (fun hE => ?_)
    · refine lv_iload_n hx hb dX5_seekBest_77 rfl (lv_at hl 1 rfl) ?_
      refine lv_iconst (v := 1) hx hb dX5_seekBest_78 (by decide) ?_
      refine z_icmp_ne (tgt := 97) hx hb dX5_seekBest_79 (by decide) hE (fun hE => ?_) (fun hE => ?_)
      · refine lv_aload_n hx hb dX5_seekBest_97 rfl (lv_at hl 0 rfl) ?_
        refine mg_0_28 hx hb hown hwX5 (hts _ u_610) hK hP dX5_seekBest_98 ?_
        refine lv_aload_n hx hb dX5_seekBest_101 rfl (lv_at hl 0 rfl) ?_
        refine mg_0_37 hx hb hown hwX5 (hts _ u_723) hK hP dX5_seekBest_102 ?_
        refine W.lcmp hx hb dX5_seekBest_105 ?_
        refine z_if_le (tgt := 113) hx hb dX5_seekBest_106 (by decide) hE (fun hE => ?_) (fun hE => ?_)
        · exact wX5_seekBest_J113 C ih x1 x2 σ_12 _ _ _ (lv_sub hl [0, 1, 2] rfl) hP hS hE
        exact wX5_seekBest_J109 C ih x1 x2 σ_12 _ _ _ (lv_sub hl [0, 1, 2] rfl) hP hS hE
      refine lv_aload_n hx hb dX5_seekBest_82 rfl (lv_at hl 0 rfl) ?_
      refine mg_0_27 hx hb hown hwX5 (hts _ u_609) hK hP dX5_seekBest_83 ?_
      refine lv_aload_n hx hb dX5_seekBest_86 rfl (lv_at hl 0 rfl) ?_
      refine mg_0_36 hx hb hown hwX5 (hts _ u_722) hK hP dX5_seekBest_87 ?_
      refine W.lcmp hx hb dX5_seekBest_90 ?_
      refine z_if_le (tgt := 113) hx hb dX5_seekBest_91 (by decide) hE (fun hE => ?_) (fun hE => ?_)
      · exact wX5_seekBest_J113 C ih x1 x2 σ_12 _ _ _ (lv_sub hl [0, 1, 2] rfl) hP hS hE
      refine lv_goto (tgt := 109) hx hb dX5_seekBest_94 (by decide) ?_
      exact wX5_seekBest_J109 C ih x1 x2 σ_12 _ _ _ (lv_sub hl [0, 1, 2] rfl) hP hS hE
    refine lv_aload_n hx hb dX5_seekBest_63 rfl (lv_at hl 0 rfl) ?_
    refine mg_0_24 hx hb hown hwX5 (hts _ u_585) hK hP dX5_seekBest_64 ?_
    refine lv_aload_n hx hb dX5_seekBest_67 rfl (lv_at hl 0 rfl) ?_
    refine mg_0_35 hx hb hown hwX5 (hts _ u_721) hK hP dX5_seekBest_68 ?_
    refine z_icmp_ge (tgt := 113) hx hb dX5_seekBest_71 (by decide) hE (fun hE => ?_) (fun hE => ?_)
    · exact wX5_seekBest_J113 C ih x1 x2 σ_12 _ _ _ (lv_sub hl [0, 1, 2] rfl) hP hS hE
    refine lv_goto (tgt := 109) hx hb dX5_seekBest_74 (by decide) ?_
    exact wX5_seekBest_J109 C ih x1 x2 σ_12 _ _ _ (lv_sub hl [0, 1, 2] rfl) hP hS hE
def fX5_seekBest  (x1 : Int32) (σ : ST) : Option (ST) :=
  calv (fX5_legs σ) (fun σ_1 => ald (gA σ_1 1) 200 2 (fun v_2 => bnd (sI σ_1 8 v_2) (fun σ_3 => bnd (0 : Int32) (fun x2_4 => fX5_seekBest_L16 (fun x1_7 σ_8 => bnd (0 : Int32) (fun x2_9 => bnd (1 : Int32) (fun x3_10 => fX5_seekBest_L41 (fun σ_31 => some σ_31) FU x1_7 x2_9 x3_10 σ_8))) FU x1 x2_4 σ_3))))
set_option maxHeartbeats 4000000 in
set_option maxRecDepth 100000 in
theorem wX5_seekBest {p : Program} {l : Launch} {e : Env} {s : State} {m : MethodId} {args : Array Value} {below : List Frame} {meth : Method} {c : Code} {E : EN} (C : zC E mW p s m args meth c cX5_seekBest 6 RX5 none wsL_law) {F : ST}   (x1 : Int32) (σ : ST) (H : Heap) (locs : List Loc) (ls : Array Slot) (hl : lv_has ls 6 [(0, .ref (ea E 0)), (1, .int x1)]) (hP : va_P (eD E) vwCl (mW E σ) H) (hS : va_S (eA E) s.heap H locs) (hE : fX5_seekBest  x1 σ = some F) : zWv E mW p l e r_X5_seekBest s m args below meth c F H locs (F0 m 0 ls []) := by
  obtain ⟨hx, hb, hml, hown, hts, hr, hlk, hK, hD⟩ := id C
  have hwX5 : ∀ w ∈ wsX50, w.before args s = true := fun w h => hts w (inlX5 w h)
  unfold fX5_seekBest at hE
  refine lv_aload_n hx hb dX5_seekBest_0 rfl (lv_at hl 0 rfl) ?_
  refine z_gov (wf := mW) hS hE (fun F1 h1 => (va_runV (As := []) (rest := []) ⟨hx, hb, hml, hown, hts⟩ (kX5_legs l E hD  σ F1 h1) (cwV 0 hts (gU_V u_498 u_499 u_500 u_5 u_501) rfl rfl rfl q_X5_legs ⟨Nat.le_of_ble_eq_true rfl, Nat.le_of_ble_eq_true rfl⟩) (z_preV hK hP hS (ci := 5) (q0 := 0) rfl rfl rfl) rfl rfl hl.1 rfl (lv_room (Nat.le_of_ble_eq_true rfl)) dX5_seekBest_1 ⟨Nat.le_of_ble_eq_true rfl, Nat.le_of_ble_eq_true rfl⟩)) (fun σ_1 H locs hP hS hE => ?_)
  refine lv_aload_n hx hb dX5_seekBest_4 rfl (lv_at hl 0 rfl) ?_
  refine lv_aload_n hx hb dX5_seekBest_5 rfl (lv_at hl 0 rfl) ?_
  refine mg_0_1 hx hb hown hwX5 (hts _ u_97) hK hP dX5_seekBest_6 ?_
  refine lv_iconst (v := 2) hx hb dX5_seekBest_9 (by decide) ?_
  refine ma_2 hx hb hK hP dX5_seekBest_10 hE (fun v_2 hE => ?_)
  refine mp_0_21 hx hb hown hwX5 (hts _ u_600) hK hD hP hS dX5_seekBest_11 hE (fun σ_3 H locs hP hS hE => ?_)
  refine lv_iconst (v := 0) hx hb dX5_seekBest_14 (by decide) ?_
  refine z_istore_n hx hb (fun x2_4 => [(2, .int x2_4), (0, .ref (ea E 0)), (1, .int x1)]) dX5_seekBest_15 rfl hl (by decide) rfl hE (fun x2_4 ls hl hE => ?_)
  refine wX5_seekBest_L16 C ?_ FU x1 x2_4 σ_3 _ _ _ (lv_sub hl [1, 2, 0] rfl) hP hS hE
  intro x1_7 σ_8 H locs ls hl hP hS hE
  refine lv_iconst (v := 0) hx hb dX5_seekBest_37 (by decide) ?_
  refine z_istore_n hx hb (fun x2_9 => [(2, .int x2_9), (0, .ref (ea E 0)), (1, .int x1_7)]) dX5_seekBest_38 rfl hl (by decide) rfl hE (fun x2_9 ls hl hE => ?_)
  refine lv_iconst (v := 1) hx hb dX5_seekBest_39 (by decide) ?_
  refine z_istore_n hx hb (fun x3_10 => [(3, .int x3_10), (2, .int x2_9), (0, .ref (ea E 0)), (1, .int x1_7)]) dX5_seekBest_40 rfl hl (by decide) rfl hE (fun x3_10 ls hl hE => ?_)
  refine wX5_seekBest_L41 C ?_ FU x1_7 x2_9 x3_10 σ_8 _ _ _ (lv_sub hl [2, 3, 1, 0] rfl) hP hS hE
  intro σ_31 H locs ls hl hP hS hE
  exact z_vret hx hb hr hlk hP hS dX5_seekBest_187 hE
theorem kX5_seekBest (l : Launch) (E : EN) (hD : ∀ σ, va_D (eA E) (mW E σ)) (x1 : Int32) (σ : ST) (F : ST) (hE : fX5_seekBest x1 σ = some F) : Met l yX5_seekBest wu_X5_seekBest r_X5_seekBest (zPc E mW [.ref (ea E 0), .int x1] σ) (zQv E mW F) 0 0 (eA E) := by
  refine Met.ofW (cc := cX5_seekBest) (maxL := 6) (ret := none) (by decide) rfl ?_
  intro p e s m args below meth c s₁ B hml hv
  obtain ⟨rfl, hP, hK⟩ := hv
  have hl := lv_entry ([.ref (ea E 0), .int x1]) (n := 6) (Nat.le_of_ble_eq_true rfl)
  rw [lg_entry_eq]
  generalize (lg_sl ([.ref (ea E 0), .int x1]) ++ List.replicate (6 - (lg_sl ([.ref (ea E 0), .int x1])).length) Slot.unset).toArray = ls at hl ⊢
  exact wX5_seekBest ⟨B.exec, B.bytes, hml, findClass_of_methodNamed B.named, fun w h => atoms_spec (ws := wu_X5_seekBest) B.pre w (List.mem_cons_of_mem _ h), B.returns, B.notSynchronized, hK, hD⟩ x1 σ s.heap [] ls hl hP va_S.rf hE
def fX5_best  (x1 : Int32) (x2 : Int32) (σ : ST) : Option (Int32 × ST) :=
  cali (fX5_isNoBest x1 σ) (fun r_2 σ_1 => (if r_2 = 0 then cali (fX5_isNoTown σ_1) (fun r_4 σ_3 => (if r_4 = 0 then (if x2 < 0 then cali (fX5_no (-1) σ_3) (fun r_6 σ_5 => some (r_6, σ_5)) else ald (gA σ_3 1) 200 2 (fun v_7 => (if x2 < v_7 then calv (fX5_seekBest x1 σ_3) (fun σ_8 => ald (gA σ_8 14) 5 x2 (fun v_9 => some (v_9, σ_8))) else cali (fX5_no (-1) σ_3) (fun r_11 σ_10 => some (r_11, σ_10))))) else cali (fX5_no (-3) σ_3) (fun r_13 σ_12 => some (r_13, σ_12)))) else cali (fX5_no (-2) σ_1) (fun r_15 σ_14 => some (r_15, σ_14))))
set_option maxHeartbeats 4000000 in
set_option maxRecDepth 100000 in
theorem wX5_best {p : Program} {l : Launch} {e : Env} {s : State} {m : MethodId} {args : Array Value} {below : List Frame} {meth : Method} {c : Code} {E : EN} (C : zC E mW p s m args meth c cX5_best 3 RX5 (some .int) wsL_law) {F : Int32 × ST}   (x1 : Int32) (x2 : Int32) (σ : ST) (H : Heap) (locs : List Loc) (ls : Array Slot) (hl : lv_has ls 3 [(0, .ref (ea E 0)), (1, .int x1), (2, .int x2)]) (hP : va_P (eD E) vwCl (mW E σ) H) (hS : va_S (eA E) s.heap H locs) (hE : fX5_best  x1 x2 σ = some F) : zWi E mW p l e r_X5_best s m args below meth c F H locs (F0 m 0 ls []) := by
  obtain ⟨hx, hb, hml, hown, hts, hr, hlk, hK, hD⟩ := id C
  have hwX5 : ∀ w ∈ wsX50, w.before args s = true := fun w h => hts w (inlX5 w h)
  unfold fX5_best at hE
  refine lv_iload_n hx hb dX5_best_0 rfl (lv_at hl 1 rfl) ?_
  refine z_goi (wf := mW) hS hE (fun F1 h1 => (va_runS (As := [.int x1]) (rest := []) ⟨hx, hb, hml, hown, hts⟩ (kX5_isNoBest l E hD x1 σ F1 h1) (va_cwS 1 hts (gU_S u_714 u_715 u_5 u_716) rfl rfl rfl q_X5_isNoBest ⟨Nat.le_of_ble_eq_true rfl, Nat.le_of_ble_eq_true rfl⟩) (z_preS hK hP hS) rfl rfl hl.1 rfl (lv_room (Nat.le_of_ble_eq_true rfl)) dX5_best_1 ⟨Nat.le_of_ble_eq_true rfl, Nat.le_of_ble_eq_true rfl⟩)) (fun r_2 σ_1 H locs hP hS hE => ?_)
  refine z_if_eq (tgt := 14) hx hb dX5_best_4 (by decide) hE (fun hE => ?_) (fun hE => ?_)
  · refine lv_aload_n hx hb dX5_best_14 rfl (lv_at hl 0 rfl) ?_
    refine z_goi (wf := mW) hS hE (fun F1 h1 => (va_runV (As := []) (rest := []) ⟨hx, hb, hml, hown, hts⟩ (kX5_isNoTown l E hD  σ_1 F1 h1) (cwV 0 hts (gU_V u_588 u_589 u_590 u_5 u_591) rfl rfl rfl q_X5_isNoTown ⟨Nat.le_of_ble_eq_true rfl, Nat.le_of_ble_eq_true rfl⟩) (z_preV hK hP hS (ci := 5) (q0 := 0) rfl rfl rfl) rfl rfl hl.1 rfl (lv_room (Nat.le_of_ble_eq_true rfl)) dX5_best_15 ⟨Nat.le_of_ble_eq_true rfl, Nat.le_of_ble_eq_true rfl⟩)) (fun r_4 σ_3 H locs hP hS hE => ?_)
    refine z_if_eq (tgt := 28) hx hb dX5_best_18 (by decide) hE (fun hE => ?_) (fun hE => ?_)
    · refine lv_iload_n hx hb dX5_best_28 rfl (lv_at hl 2 rfl) ?_
      refine z_if_lt (tgt := 42) hx hb dX5_best_29 (by decide) hE (fun hE => ?_) (fun hE => ?_)
      · refine lv_aload_n hx hb dX5_best_42 rfl (lv_at hl 0 rfl) ?_
        refine lv_iconst (v := -1) hx hb dX5_best_43 (by decide) ?_
        refine z_goi (wf := mW) hS hE (fun F1 h1 => (va_runV (As := [.int (-1)]) (rest := []) ⟨hx, hb, hml, hown, hts⟩ (kX5_no l E hD (-1) σ_3 F1 h1) (cwV 1 hts (gU_V u_131 u_132 u_133 u_5 u_134) rfl rfl rfl q_X5_no ⟨Nat.le_of_ble_eq_true rfl, Nat.le_of_ble_eq_true rfl⟩) (z_preV hK hP hS (ci := 5) (q0 := 0) rfl rfl rfl) rfl rfl hl.1 rfl (lv_room (Nat.le_of_ble_eq_true rfl)) dX5_best_44 ⟨Nat.le_of_ble_eq_true rfl, Nat.le_of_ble_eq_true rfl⟩)) (fun r_6 σ_5 H locs hP hS hE => ?_)
        exact z_iret hx hb hr hlk hP hS dX5_best_47 hE
      refine lv_iload_n hx hb dX5_best_32 rfl (lv_at hl 2 rfl) ?_
      refine lv_aload_n hx hb dX5_best_33 rfl (lv_at hl 0 rfl) ?_
      refine mg_0_1 hx hb hown hwX5 (hts _ u_97) hK hP dX5_best_34 ?_
      refine lv_iconst (v := 2) hx hb dX5_best_37 (by decide) ?_
      refine ma_2 hx hb hK hP dX5_best_38 hE (fun v_7 hE => ?_)
      refine z_icmp_lt (tgt := 48) hx hb dX5_best_39 (by decide) hE (fun hE => ?_) (fun hE => ?_)
      · refine lv_aload_n hx hb dX5_best_48 rfl (lv_at hl 0 rfl) ?_
        refine lv_iload_n hx hb dX5_best_49 rfl (lv_at hl 1 rfl) ?_
        refine z_gov (wf := mW) hS hE (fun F1 h1 => (va_runV (As := [.int x1]) (rest := []) ⟨hx, hb, hml, hown, hts⟩ (kX5_seekBest l E hD x1 σ_3 F1 h1) (cwV 1 hts (gU_V u_717 u_718 u_719 u_5 u_720) rfl rfl rfl q_X5_seekBest ⟨Nat.le_of_ble_eq_true rfl, Nat.le_of_ble_eq_true rfl⟩) (z_preV hK hP hS (ci := 5) (q0 := 0) rfl rfl rfl) rfl rfl hl.1 rfl (lv_room (Nat.le_of_ble_eq_true rfl)) dX5_best_50 ⟨Nat.le_of_ble_eq_true rfl, Nat.le_of_ble_eq_true rfl⟩)) (fun σ_8 H locs hP hS hE => ?_)
        refine lv_aload_n hx hb dX5_best_53 rfl (lv_at hl 0 rfl) ?_
        refine mg_0_34 hx hb hown hwX5 (hts _ u_112) hK hP dX5_best_54 ?_
        refine lv_iload_n hx hb dX5_best_57 rfl (lv_at hl 2 rfl) ?_
        refine ma_15 hx hb hK hP dX5_best_58 hE (fun v_9 hE => ?_)
        exact z_iret hx hb hr hlk hP hS dX5_best_59 hE
      refine lv_aload_n hx hb dX5_best_42 rfl (lv_at hl 0 rfl) ?_
      refine lv_iconst (v := -1) hx hb dX5_best_43 (by decide) ?_
      refine z_goi (wf := mW) hS hE (fun F1 h1 => (va_runV (As := [.int (-1)]) (rest := []) ⟨hx, hb, hml, hown, hts⟩ (kX5_no l E hD (-1) σ_3 F1 h1) (cwV 1 hts (gU_V u_131 u_132 u_133 u_5 u_134) rfl rfl rfl q_X5_no ⟨Nat.le_of_ble_eq_true rfl, Nat.le_of_ble_eq_true rfl⟩) (z_preV hK hP hS (ci := 5) (q0 := 0) rfl rfl rfl) rfl rfl hl.1 rfl (lv_room (Nat.le_of_ble_eq_true rfl)) dX5_best_44 ⟨Nat.le_of_ble_eq_true rfl, Nat.le_of_ble_eq_true rfl⟩)) (fun r_11 σ_10 H locs hP hS hE => ?_)
      exact z_iret hx hb hr hlk hP hS dX5_best_47 hE
    refine lv_aload_n hx hb dX5_best_21 rfl (lv_at hl 0 rfl) ?_
    refine lv_bipush (v := -3) hx hb dX5_best_22 (by decide) ?_
    refine z_goi (wf := mW) hS hE (fun F1 h1 => (va_runV (As := [.int (-3)]) (rest := []) ⟨hx, hb, hml, hown, hts⟩ (kX5_no l E hD (-3) σ_3 F1 h1) (cwV 1 hts (gU_V u_131 u_132 u_133 u_5 u_134) rfl rfl rfl q_X5_no ⟨Nat.le_of_ble_eq_true rfl, Nat.le_of_ble_eq_true rfl⟩) (z_preV hK hP hS (ci := 5) (q0 := 0) rfl rfl rfl) rfl rfl hl.1 rfl (lv_room (Nat.le_of_ble_eq_true rfl)) dX5_best_24 ⟨Nat.le_of_ble_eq_true rfl, Nat.le_of_ble_eq_true rfl⟩)) (fun r_13 σ_12 H locs hP hS hE => ?_)
    exact z_iret hx hb hr hlk hP hS dX5_best_27 hE
  refine lv_aload_n hx hb dX5_best_7 rfl (lv_at hl 0 rfl) ?_
  refine lv_bipush (v := -2) hx hb dX5_best_8 (by decide) ?_
  refine z_goi (wf := mW) hS hE (fun F1 h1 => (va_runV (As := [.int (-2)]) (rest := []) ⟨hx, hb, hml, hown, hts⟩ (kX5_no l E hD (-2) σ_1 F1 h1) (cwV 1 hts (gU_V u_131 u_132 u_133 u_5 u_134) rfl rfl rfl q_X5_no ⟨Nat.le_of_ble_eq_true rfl, Nat.le_of_ble_eq_true rfl⟩) (z_preV hK hP hS (ci := 5) (q0 := 0) rfl rfl rfl) rfl rfl hl.1 rfl (lv_room (Nat.le_of_ble_eq_true rfl)) dX5_best_10 ⟨Nat.le_of_ble_eq_true rfl, Nat.le_of_ble_eq_true rfl⟩)) (fun r_15 σ_14 H locs hP hS hE => ?_)
  exact z_iret hx hb hr hlk hP hS dX5_best_13 hE
theorem kX5_best (l : Launch) (E : EN) (hD : ∀ σ, va_D (eA E) (mW E σ)) (x1 : Int32) (x2 : Int32) (σ : ST) (F : Int32 × ST) (hE : fX5_best x1 x2 σ = some F) : Met l yX5_best wu_X5_best r_X5_best (zPc E mW [.ref (ea E 0), .int x1, .int x2] σ) (zQi E mW F) 0 0 (eA E) := by
  refine Met.ofW (cc := cX5_best) (maxL := 3) (ret := (some .int)) (by decide) rfl ?_
  intro p e s m args below meth c s₁ B hml hv
  obtain ⟨rfl, hP, hK⟩ := hv
  have hl := lv_entry ([.ref (ea E 0), .int x1, .int x2]) (n := 3) (Nat.le_of_ble_eq_true rfl)
  rw [lg_entry_eq]
  generalize (lg_sl ([.ref (ea E 0), .int x1, .int x2]) ++ List.replicate (3 - (lg_sl ([.ref (ea E 0), .int x1, .int x2])).length) Slot.unset).toArray = ls at hl ⊢
  exact wX5_best ⟨B.exec, B.bytes, hml, findClass_of_methodNamed B.named, fun w h => atoms_spec (ws := wu_X5_best) B.pre w (List.mem_cons_of_mem _ h), B.returns, B.notSynchronized, hK, hD⟩ x1 x2 σ s.heap [] ls hl hP va_S.rf hE
def fX5_bestMinutes  (x1 : Int32) (σ : ST) : Option (Int32 × ST) :=
  cali (fX5_isNoBest x1 σ) (fun r_2 σ_1 => (if r_2 = 0 then cali (fX5_isNoTown σ_1) (fun r_4 σ_3 => (if r_4 = 0 then calv (fX5_seekBest x1 σ_3) (fun σ_5 => some ((gI σ_5 18), σ_5)) else cali (fX5_no (-3) σ_3) (fun r_7 σ_6 => some (r_7, σ_6)))) else cali (fX5_no (-2) σ_1) (fun r_9 σ_8 => some (r_9, σ_8))))
set_option maxHeartbeats 4000000 in
set_option maxRecDepth 100000 in
theorem wX5_bestMinutes {p : Program} {l : Launch} {e : Env} {s : State} {m : MethodId} {args : Array Value} {below : List Frame} {meth : Method} {c : Code} {E : EN} (C : zC E mW p s m args meth c cX5_bestMinutes 2 RX5 (some .int) wsL_law) {F : Int32 × ST}   (x1 : Int32) (σ : ST) (H : Heap) (locs : List Loc) (ls : Array Slot) (hl : lv_has ls 2 [(0, .ref (ea E 0)), (1, .int x1)]) (hP : va_P (eD E) vwCl (mW E σ) H) (hS : va_S (eA E) s.heap H locs) (hE : fX5_bestMinutes  x1 σ = some F) : zWi E mW p l e r_X5_bestMinutes s m args below meth c F H locs (F0 m 0 ls []) := by
  obtain ⟨hx, hb, hml, hown, hts, hr, hlk, hK, hD⟩ := id C
  have hwX5 : ∀ w ∈ wsX50, w.before args s = true := fun w h => hts w (inlX5 w h)
  unfold fX5_bestMinutes at hE
  refine lv_iload_n hx hb dX5_bestMinutes_0 rfl (lv_at hl 1 rfl) ?_
  refine z_goi (wf := mW) hS hE (fun F1 h1 => (va_runS (As := [.int x1]) (rest := []) ⟨hx, hb, hml, hown, hts⟩ (kX5_isNoBest l E hD x1 σ F1 h1) (va_cwS 1 hts (gU_S u_714 u_715 u_5 u_716) rfl rfl rfl q_X5_isNoBest ⟨Nat.le_of_ble_eq_true rfl, Nat.le_of_ble_eq_true rfl⟩) (z_preS hK hP hS) rfl rfl hl.1 rfl (lv_room (Nat.le_of_ble_eq_true rfl)) dX5_bestMinutes_1 ⟨Nat.le_of_ble_eq_true rfl, Nat.le_of_ble_eq_true rfl⟩)) (fun r_2 σ_1 H locs hP hS hE => ?_)
  refine z_if_eq (tgt := 14) hx hb dX5_bestMinutes_4 (by decide) hE (fun hE => ?_) (fun hE => ?_)
  · refine lv_aload_n hx hb dX5_bestMinutes_14 rfl (lv_at hl 0 rfl) ?_
    refine z_goi (wf := mW) hS hE (fun F1 h1 => (va_runV (As := []) (rest := []) ⟨hx, hb, hml, hown, hts⟩ (kX5_isNoTown l E hD  σ_1 F1 h1) (cwV 0 hts (gU_V u_588 u_589 u_590 u_5 u_591) rfl rfl rfl q_X5_isNoTown ⟨Nat.le_of_ble_eq_true rfl, Nat.le_of_ble_eq_true rfl⟩) (z_preV hK hP hS (ci := 5) (q0 := 0) rfl rfl rfl) rfl rfl hl.1 rfl (lv_room (Nat.le_of_ble_eq_true rfl)) dX5_bestMinutes_15 ⟨Nat.le_of_ble_eq_true rfl, Nat.le_of_ble_eq_true rfl⟩)) (fun r_4 σ_3 H locs hP hS hE => ?_)
    refine z_if_eq (tgt := 28) hx hb dX5_bestMinutes_18 (by decide) hE (fun hE => ?_) (fun hE => ?_)
    · refine lv_aload_n hx hb dX5_bestMinutes_28 rfl (lv_at hl 0 rfl) ?_
      refine lv_iload_n hx hb dX5_bestMinutes_29 rfl (lv_at hl 1 rfl) ?_
      refine z_gov (wf := mW) hS hE (fun F1 h1 => (va_runV (As := [.int x1]) (rest := []) ⟨hx, hb, hml, hown, hts⟩ (kX5_seekBest l E hD x1 σ_3 F1 h1) (cwV 1 hts (gU_V u_717 u_718 u_719 u_5 u_720) rfl rfl rfl q_X5_seekBest ⟨Nat.le_of_ble_eq_true rfl, Nat.le_of_ble_eq_true rfl⟩) (z_preV hK hP hS (ci := 5) (q0 := 0) rfl rfl rfl) rfl rfl hl.1 rfl (lv_room (Nat.le_of_ble_eq_true rfl)) dX5_bestMinutes_30 ⟨Nat.le_of_ble_eq_true rfl, Nat.le_of_ble_eq_true rfl⟩)) (fun σ_5 H locs hP hS hE => ?_)
      refine lv_aload_n hx hb dX5_bestMinutes_33 rfl (lv_at hl 0 rfl) ?_
      refine mg_0_35 hx hb hown hwX5 (hts _ u_721) hK hP dX5_bestMinutes_34 ?_
      exact z_iret hx hb hr hlk hP hS dX5_bestMinutes_37 hE
    refine lv_aload_n hx hb dX5_bestMinutes_21 rfl (lv_at hl 0 rfl) ?_
    refine lv_bipush (v := -3) hx hb dX5_bestMinutes_22 (by decide) ?_
    refine z_goi (wf := mW) hS hE (fun F1 h1 => (va_runV (As := [.int (-3)]) (rest := []) ⟨hx, hb, hml, hown, hts⟩ (kX5_no l E hD (-3) σ_3 F1 h1) (cwV 1 hts (gU_V u_131 u_132 u_133 u_5 u_134) rfl rfl rfl q_X5_no ⟨Nat.le_of_ble_eq_true rfl, Nat.le_of_ble_eq_true rfl⟩) (z_preV hK hP hS (ci := 5) (q0 := 0) rfl rfl rfl) rfl rfl hl.1 rfl (lv_room (Nat.le_of_ble_eq_true rfl)) dX5_bestMinutes_24 ⟨Nat.le_of_ble_eq_true rfl, Nat.le_of_ble_eq_true rfl⟩)) (fun r_7 σ_6 H locs hP hS hE => ?_)
    exact z_iret hx hb hr hlk hP hS dX5_bestMinutes_27 hE
  refine lv_aload_n hx hb dX5_bestMinutes_7 rfl (lv_at hl 0 rfl) ?_
  refine lv_bipush (v := -2) hx hb dX5_bestMinutes_8 (by decide) ?_
  refine z_goi (wf := mW) hS hE (fun F1 h1 => (va_runV (As := [.int (-2)]) (rest := []) ⟨hx, hb, hml, hown, hts⟩ (kX5_no l E hD (-2) σ_1 F1 h1) (cwV 1 hts (gU_V u_131 u_132 u_133 u_5 u_134) rfl rfl rfl q_X5_no ⟨Nat.le_of_ble_eq_true rfl, Nat.le_of_ble_eq_true rfl⟩) (z_preV hK hP hS (ci := 5) (q0 := 0) rfl rfl rfl) rfl rfl hl.1 rfl (lv_room (Nat.le_of_ble_eq_true rfl)) dX5_bestMinutes_10 ⟨Nat.le_of_ble_eq_true rfl, Nat.le_of_ble_eq_true rfl⟩)) (fun r_9 σ_8 H locs hP hS hE => ?_)
  exact z_iret hx hb hr hlk hP hS dX5_bestMinutes_13 hE
theorem kX5_bestMinutes (l : Launch) (E : EN) (hD : ∀ σ, va_D (eA E) (mW E σ)) (x1 : Int32) (σ : ST) (F : Int32 × ST) (hE : fX5_bestMinutes x1 σ = some F) : Met l yX5_bestMinutes wu_X5_bestMinutes r_X5_bestMinutes (zPc E mW [.ref (ea E 0), .int x1] σ) (zQi E mW F) 0 0 (eA E) := by
  refine Met.ofW (cc := cX5_bestMinutes) (maxL := 2) (ret := (some .int)) (by decide) rfl ?_
  intro p e s m args below meth c s₁ B hml hv
  obtain ⟨rfl, hP, hK⟩ := hv
  have hl := lv_entry ([.ref (ea E 0), .int x1]) (n := 2) (Nat.le_of_ble_eq_true rfl)
  rw [lg_entry_eq]
  generalize (lg_sl ([.ref (ea E 0), .int x1]) ++ List.replicate (2 - (lg_sl ([.ref (ea E 0), .int x1])).length) Slot.unset).toArray = ls at hl ⊢
  exact wX5_bestMinutes ⟨B.exec, B.bytes, hml, findClass_of_methodNamed B.named, fun w h => atoms_spec (ws := wu_X5_bestMinutes) B.pre w (List.mem_cons_of_mem _ h), B.returns, B.notSynchronized, hK, hD⟩ x1 σ s.heap [] ls hl hP va_S.rf hE
def fX5_bestLikely  (x1 : Int32) (x2 : Int32) (σ : ST) : Option (Int64 × ST) :=
  cali (fX5_isNoBest x1 σ) (fun r_2 σ_1 => (if r_2 = 0 then cali (fX5_isNoPart x2 σ_1) (fun r_6 σ_5 => (if r_6 = 0 then cali (fX5_isNoTown σ_5) (fun r_8 σ_7 => (if r_8 = 0 then calv (fX5_seekBest x1 σ_7) (fun σ_9 => call (fX5_part (gL σ_9 2) x2 σ_9) (fun r_11 σ_10 => some (r_11, σ_10))) else call (fX5_noLong (-3) σ_7) (fun r_13 σ_12 => some (r_13, σ_12)))) else call (fX5_noLong (-2) σ_5) (fun r_15 σ_14 => some (r_15, σ_14)))) else call (fX5_noLong (-2) σ_1) (fun r_4 σ_3 => some (r_4, σ_3))))
set_option maxHeartbeats 4000000 in
set_option maxRecDepth 100000 in
theorem wX5_bestLikely {p : Program} {l : Launch} {e : Env} {s : State} {m : MethodId} {args : Array Value} {below : List Frame} {meth : Method} {c : Code} {E : EN} (C : zC E mW p s m args meth c cX5_bestLikely 3 RX5 (some .long) wsL_law) {F : Int64 × ST}   (x1 : Int32) (x2 : Int32) (σ : ST) (H : Heap) (locs : List Loc) (ls : Array Slot) (hl : lv_has ls 3 [(0, .ref (ea E 0)), (1, .int x1), (2, .int x2)]) (hP : va_P (eD E) vwCl (mW E σ) H) (hS : va_S (eA E) s.heap H locs) (hE : fX5_bestLikely  x1 x2 σ = some F) : zWl E mW p l e r_X5_bestLikely s m args below meth c F H locs (F0 m 0 ls []) := by
  obtain ⟨hx, hb, hml, hown, hts, hr, hlk, hK, hD⟩ := id C
  have hwX5 : ∀ w ∈ wsX50, w.before args s = true := fun w h => hts w (inlX5 w h)
  unfold fX5_bestLikely at hE
  refine lv_iload_n hx hb dX5_bestLikely_0 rfl (lv_at hl 1 rfl) ?_
  refine z_goi (wf := mW) hS hE (fun F1 h1 => (va_runS (As := [.int x1]) (rest := []) ⟨hx, hb, hml, hown, hts⟩ (kX5_isNoBest l E hD x1 σ F1 h1) (va_cwS 1 hts (gU_S u_714 u_715 u_5 u_716) rfl rfl rfl q_X5_isNoBest ⟨Nat.le_of_ble_eq_true rfl, Nat.le_of_ble_eq_true rfl⟩) (z_preS hK hP hS) rfl rfl hl.1 rfl (lv_room (Nat.le_of_ble_eq_true rfl)) dX5_bestLikely_1 ⟨Nat.le_of_ble_eq_true rfl, Nat.le_of_ble_eq_true rfl⟩)) (fun r_2 σ_1 H locs hP hS hE => ?_)
  refine z_if_ne (tgt := 14) hx hb dX5_bestLikely_4 (by decide) hE (fun hE => ?_) (fun hE => ?_)
  · refine lv_aload_n hx hb dX5_bestLikely_14 rfl (lv_at hl 0 rfl) ?_
    refine lv_bipush (v := -2) hx hb dX5_bestLikely_15 (by decide) ?_
    refine z_gol (wf := mW) hS hE (fun F1 h1 => (va_runV (As := [.int (-2)]) (rest := []) ⟨hx, hb, hml, hown, hts⟩ (kX5_noLong l E hD (-2) σ_1 F1 h1) (cwV 1 hts (gU_V u_665 u_666 u_667 u_5 u_668) rfl rfl rfl q_X5_noLong ⟨Nat.le_of_ble_eq_true rfl, Nat.le_of_ble_eq_true rfl⟩) (z_preV hK hP hS (ci := 5) (q0 := 0) rfl rfl rfl) rfl rfl hl.1 rfl (lv_room (Nat.le_of_ble_eq_true rfl)) dX5_bestLikely_17 ⟨Nat.le_of_ble_eq_true rfl, Nat.le_of_ble_eq_true rfl⟩)) (fun r_4 σ_3 H locs hP hS hE => ?_)
    exact z_lret hx hb hr hlk hP hS dX5_bestLikely_20 hE
  refine lv_iload_n hx hb dX5_bestLikely_7 rfl (lv_at hl 2 rfl) ?_
  refine z_goi (wf := mW) hS hE (fun F1 h1 => (va_runS (As := [.int x2]) (rest := []) ⟨hx, hb, hml, hown, hts⟩ (kX5_isNoPart l E hD x2 σ_1 F1 h1) (va_cwS 1 hts (gU_S u_662 u_663 u_5 u_664) rfl rfl rfl q_X5_isNoPart ⟨Nat.le_of_ble_eq_true rfl, Nat.le_of_ble_eq_true rfl⟩) (z_preS hK hP hS) rfl rfl hl.1 rfl (lv_room (Nat.le_of_ble_eq_true rfl)) dX5_bestLikely_8 ⟨Nat.le_of_ble_eq_true rfl, Nat.le_of_ble_eq_true rfl⟩)) (fun r_6 σ_5 H locs hP hS hE => ?_)
  refine z_if_eq (tgt := 21) hx hb dX5_bestLikely_11 (by decide) hE (fun hE => ?_) (fun hE => ?_)
  · refine lv_aload_n hx hb dX5_bestLikely_21 rfl (lv_at hl 0 rfl) ?_
    refine z_goi (wf := mW) hS hE (fun F1 h1 => (va_runV (As := []) (rest := []) ⟨hx, hb, hml, hown, hts⟩ (kX5_isNoTown l E hD  σ_5 F1 h1) (cwV 0 hts (gU_V u_588 u_589 u_590 u_5 u_591) rfl rfl rfl q_X5_isNoTown ⟨Nat.le_of_ble_eq_true rfl, Nat.le_of_ble_eq_true rfl⟩) (z_preV hK hP hS (ci := 5) (q0 := 0) rfl rfl rfl) rfl rfl hl.1 rfl (lv_room (Nat.le_of_ble_eq_true rfl)) dX5_bestLikely_22 ⟨Nat.le_of_ble_eq_true rfl, Nat.le_of_ble_eq_true rfl⟩)) (fun r_8 σ_7 H locs hP hS hE => ?_)
    refine z_if_eq (tgt := 35) hx hb dX5_bestLikely_25 (by decide) hE (fun hE => ?_) (fun hE => ?_)
    · refine lv_aload_n hx hb dX5_bestLikely_35 rfl (lv_at hl 0 rfl) ?_
      refine lv_iload_n hx hb dX5_bestLikely_36 rfl (lv_at hl 1 rfl) ?_
      refine z_gov (wf := mW) hS hE (fun F1 h1 => (va_runV (As := [.int x1]) (rest := []) ⟨hx, hb, hml, hown, hts⟩ (kX5_seekBest l E hD x1 σ_7 F1 h1) (cwV 1 hts (gU_V u_717 u_718 u_719 u_5 u_720) rfl rfl rfl q_X5_seekBest ⟨Nat.le_of_ble_eq_true rfl, Nat.le_of_ble_eq_true rfl⟩) (z_preV hK hP hS (ci := 5) (q0 := 0) rfl rfl rfl) rfl rfl hl.1 rfl (lv_room (Nat.le_of_ble_eq_true rfl)) dX5_bestLikely_37 ⟨Nat.le_of_ble_eq_true rfl, Nat.le_of_ble_eq_true rfl⟩)) (fun σ_9 H locs hP hS hE => ?_)
      refine lv_aload_n hx hb dX5_bestLikely_40 rfl (lv_at hl 0 rfl) ?_
      refine mg_0_36 hx hb hown hwX5 (hts _ u_722) hK hP dX5_bestLikely_41 ?_
      refine lv_iload_n hx hb dX5_bestLikely_44 rfl (lv_at hl 2 rfl) ?_
      refine z_gol (wf := mW) hS hE (fun F1 h1 => (va_runS (As := [.long (gL σ_9 2), .int x2]) (rest := []) ⟨hx, hb, hml, hown, hts⟩ (kX5_part l E hD (gL σ_9 2) x2 σ_9 F1 h1) (va_cwS 2 hts (gU_S u_670 u_671 u_5 u_672) rfl rfl rfl q_X5_part ⟨Nat.le_of_ble_eq_true rfl, Nat.le_of_ble_eq_true rfl⟩) (z_preS hK hP hS) rfl rfl hl.1 rfl (lv_room (Nat.le_of_ble_eq_true rfl)) dX5_bestLikely_45 ⟨Nat.le_of_ble_eq_true rfl, Nat.le_of_ble_eq_true rfl⟩)) (fun r_11 σ_10 H locs hP hS hE => ?_)
      exact z_lret hx hb hr hlk hP hS dX5_bestLikely_48 hE
    refine lv_aload_n hx hb dX5_bestLikely_28 rfl (lv_at hl 0 rfl) ?_
    refine lv_bipush (v := -3) hx hb dX5_bestLikely_29 (by decide) ?_
    refine z_gol (wf := mW) hS hE (fun F1 h1 => (va_runV (As := [.int (-3)]) (rest := []) ⟨hx, hb, hml, hown, hts⟩ (kX5_noLong l E hD (-3) σ_7 F1 h1) (cwV 1 hts (gU_V u_665 u_666 u_667 u_5 u_668) rfl rfl rfl q_X5_noLong ⟨Nat.le_of_ble_eq_true rfl, Nat.le_of_ble_eq_true rfl⟩) (z_preV hK hP hS (ci := 5) (q0 := 0) rfl rfl rfl) rfl rfl hl.1 rfl (lv_room (Nat.le_of_ble_eq_true rfl)) dX5_bestLikely_31 ⟨Nat.le_of_ble_eq_true rfl, Nat.le_of_ble_eq_true rfl⟩)) (fun r_13 σ_12 H locs hP hS hE => ?_)
    exact z_lret hx hb hr hlk hP hS dX5_bestLikely_34 hE
  refine lv_aload_n hx hb dX5_bestLikely_14 rfl (lv_at hl 0 rfl) ?_
  refine lv_bipush (v := -2) hx hb dX5_bestLikely_15 (by decide) ?_
  refine z_gol (wf := mW) hS hE (fun F1 h1 => (va_runV (As := [.int (-2)]) (rest := []) ⟨hx, hb, hml, hown, hts⟩ (kX5_noLong l E hD (-2) σ_5 F1 h1) (cwV 1 hts (gU_V u_665 u_666 u_667 u_5 u_668) rfl rfl rfl q_X5_noLong ⟨Nat.le_of_ble_eq_true rfl, Nat.le_of_ble_eq_true rfl⟩) (z_preV hK hP hS (ci := 5) (q0 := 0) rfl rfl rfl) rfl rfl hl.1 rfl (lv_room (Nat.le_of_ble_eq_true rfl)) dX5_bestLikely_17 ⟨Nat.le_of_ble_eq_true rfl, Nat.le_of_ble_eq_true rfl⟩)) (fun r_15 σ_14 H locs hP hS hE => ?_)
  exact z_lret hx hb hr hlk hP hS dX5_bestLikely_20 hE
theorem kX5_bestLikely (l : Launch) (E : EN) (hD : ∀ σ, va_D (eA E) (mW E σ)) (x1 : Int32) (x2 : Int32) (σ : ST) (F : Int64 × ST) (hE : fX5_bestLikely x1 x2 σ = some F) : Met l yX5_bestLikely wu_X5_bestLikely r_X5_bestLikely (zPc E mW [.ref (ea E 0), .int x1, .int x2] σ) (zQl E mW F) 0 0 (eA E) := by
  refine Met.ofW (cc := cX5_bestLikely) (maxL := 3) (ret := (some .long)) (by decide) rfl ?_
  intro p e s m args below meth c s₁ B hml hv
  obtain ⟨rfl, hP, hK⟩ := hv
  have hl := lv_entry ([.ref (ea E 0), .int x1, .int x2]) (n := 3) (Nat.le_of_ble_eq_true rfl)
  rw [lg_entry_eq]
  generalize (lg_sl ([.ref (ea E 0), .int x1, .int x2]) ++ List.replicate (3 - (lg_sl ([.ref (ea E 0), .int x1, .int x2])).length) Slot.unset).toArray = ls at hl ⊢
  exact wX5_bestLikely ⟨B.exec, B.bytes, hml, findClass_of_methodNamed B.named, fun w h => atoms_spec (ws := wu_X5_bestLikely) B.pre w (List.mem_cons_of_mem _ h), B.returns, B.notSynchronized, hK, hD⟩ x1 x2 σ s.heap [] ls hl hP va_S.rf hE
def fX5_bestWorth  (x1 : Int32) (x2 : Int32) (σ : ST) : Option (Int64 × ST) :=
  cali (fX5_isNoBest x1 σ) (fun r_2 σ_1 => (if r_2 = 0 then cali (fX5_isNoPart x2 σ_1) (fun r_6 σ_5 => (if r_6 = 0 then cali (fX5_isNoTown σ_5) (fun r_8 σ_7 => (if r_8 = 0 then calv (fX5_seekBest x1 σ_7) (fun σ_9 => call (fX5_part (gL σ_9 3) x2 σ_9) (fun r_11 σ_10 => some (r_11, σ_10))) else call (fX5_noLong (-3) σ_7) (fun r_13 σ_12 => some (r_13, σ_12)))) else call (fX5_noLong (-2) σ_5) (fun r_15 σ_14 => some (r_15, σ_14)))) else call (fX5_noLong (-2) σ_1) (fun r_4 σ_3 => some (r_4, σ_3))))
set_option maxHeartbeats 4000000 in
set_option maxRecDepth 100000 in
theorem wX5_bestWorth {p : Program} {l : Launch} {e : Env} {s : State} {m : MethodId} {args : Array Value} {below : List Frame} {meth : Method} {c : Code} {E : EN} (C : zC E mW p s m args meth c cX5_bestWorth 3 RX5 (some .long) wsL_law) {F : Int64 × ST}   (x1 : Int32) (x2 : Int32) (σ : ST) (H : Heap) (locs : List Loc) (ls : Array Slot) (hl : lv_has ls 3 [(0, .ref (ea E 0)), (1, .int x1), (2, .int x2)]) (hP : va_P (eD E) vwCl (mW E σ) H) (hS : va_S (eA E) s.heap H locs) (hE : fX5_bestWorth  x1 x2 σ = some F) : zWl E mW p l e r_X5_bestWorth s m args below meth c F H locs (F0 m 0 ls []) := by
  obtain ⟨hx, hb, hml, hown, hts, hr, hlk, hK, hD⟩ := id C
  have hwX5 : ∀ w ∈ wsX50, w.before args s = true := fun w h => hts w (inlX5 w h)
  unfold fX5_bestWorth at hE
  refine lv_iload_n hx hb dX5_bestWorth_0 rfl (lv_at hl 1 rfl) ?_
  refine z_goi (wf := mW) hS hE (fun F1 h1 => (va_runS (As := [.int x1]) (rest := []) ⟨hx, hb, hml, hown, hts⟩ (kX5_isNoBest l E hD x1 σ F1 h1) (va_cwS 1 hts (gU_S u_714 u_715 u_5 u_716) rfl rfl rfl q_X5_isNoBest ⟨Nat.le_of_ble_eq_true rfl, Nat.le_of_ble_eq_true rfl⟩) (z_preS hK hP hS) rfl rfl hl.1 rfl (lv_room (Nat.le_of_ble_eq_true rfl)) dX5_bestWorth_1 ⟨Nat.le_of_ble_eq_true rfl, Nat.le_of_ble_eq_true rfl⟩)) (fun r_2 σ_1 H locs hP hS hE => ?_)
  refine z_if_ne (tgt := 14) hx hb dX5_bestWorth_4 (by decide) hE (fun hE => ?_) (fun hE => ?_)
  · refine lv_aload_n hx hb dX5_bestWorth_14 rfl (lv_at hl 0 rfl) ?_
    refine lv_bipush (v := -2) hx hb dX5_bestWorth_15 (by decide) ?_
    refine z_gol (wf := mW) hS hE (fun F1 h1 => (va_runV (As := [.int (-2)]) (rest := []) ⟨hx, hb, hml, hown, hts⟩ (kX5_noLong l E hD (-2) σ_1 F1 h1) (cwV 1 hts (gU_V u_665 u_666 u_667 u_5 u_668) rfl rfl rfl q_X5_noLong ⟨Nat.le_of_ble_eq_true rfl, Nat.le_of_ble_eq_true rfl⟩) (z_preV hK hP hS (ci := 5) (q0 := 0) rfl rfl rfl) rfl rfl hl.1 rfl (lv_room (Nat.le_of_ble_eq_true rfl)) dX5_bestWorth_17 ⟨Nat.le_of_ble_eq_true rfl, Nat.le_of_ble_eq_true rfl⟩)) (fun r_4 σ_3 H locs hP hS hE => ?_)
    exact z_lret hx hb hr hlk hP hS dX5_bestWorth_20 hE
  refine lv_iload_n hx hb dX5_bestWorth_7 rfl (lv_at hl 2 rfl) ?_
  refine z_goi (wf := mW) hS hE (fun F1 h1 => (va_runS (As := [.int x2]) (rest := []) ⟨hx, hb, hml, hown, hts⟩ (kX5_isNoPart l E hD x2 σ_1 F1 h1) (va_cwS 1 hts (gU_S u_662 u_663 u_5 u_664) rfl rfl rfl q_X5_isNoPart ⟨Nat.le_of_ble_eq_true rfl, Nat.le_of_ble_eq_true rfl⟩) (z_preS hK hP hS) rfl rfl hl.1 rfl (lv_room (Nat.le_of_ble_eq_true rfl)) dX5_bestWorth_8 ⟨Nat.le_of_ble_eq_true rfl, Nat.le_of_ble_eq_true rfl⟩)) (fun r_6 σ_5 H locs hP hS hE => ?_)
  refine z_if_eq (tgt := 21) hx hb dX5_bestWorth_11 (by decide) hE (fun hE => ?_) (fun hE => ?_)
  · refine lv_aload_n hx hb dX5_bestWorth_21 rfl (lv_at hl 0 rfl) ?_
    refine z_goi (wf := mW) hS hE (fun F1 h1 => (va_runV (As := []) (rest := []) ⟨hx, hb, hml, hown, hts⟩ (kX5_isNoTown l E hD  σ_5 F1 h1) (cwV 0 hts (gU_V u_588 u_589 u_590 u_5 u_591) rfl rfl rfl q_X5_isNoTown ⟨Nat.le_of_ble_eq_true rfl, Nat.le_of_ble_eq_true rfl⟩) (z_preV hK hP hS (ci := 5) (q0 := 0) rfl rfl rfl) rfl rfl hl.1 rfl (lv_room (Nat.le_of_ble_eq_true rfl)) dX5_bestWorth_22 ⟨Nat.le_of_ble_eq_true rfl, Nat.le_of_ble_eq_true rfl⟩)) (fun r_8 σ_7 H locs hP hS hE => ?_)
    refine z_if_eq (tgt := 35) hx hb dX5_bestWorth_25 (by decide) hE (fun hE => ?_) (fun hE => ?_)
    · refine lv_aload_n hx hb dX5_bestWorth_35 rfl (lv_at hl 0 rfl) ?_
      refine lv_iload_n hx hb dX5_bestWorth_36 rfl (lv_at hl 1 rfl) ?_
      refine z_gov (wf := mW) hS hE (fun F1 h1 => (va_runV (As := [.int x1]) (rest := []) ⟨hx, hb, hml, hown, hts⟩ (kX5_seekBest l E hD x1 σ_7 F1 h1) (cwV 1 hts (gU_V u_717 u_718 u_719 u_5 u_720) rfl rfl rfl q_X5_seekBest ⟨Nat.le_of_ble_eq_true rfl, Nat.le_of_ble_eq_true rfl⟩) (z_preV hK hP hS (ci := 5) (q0 := 0) rfl rfl rfl) rfl rfl hl.1 rfl (lv_room (Nat.le_of_ble_eq_true rfl)) dX5_bestWorth_37 ⟨Nat.le_of_ble_eq_true rfl, Nat.le_of_ble_eq_true rfl⟩)) (fun σ_9 H locs hP hS hE => ?_)
      refine lv_aload_n hx hb dX5_bestWorth_40 rfl (lv_at hl 0 rfl) ?_
      refine mg_0_37 hx hb hown hwX5 (hts _ u_723) hK hP dX5_bestWorth_41 ?_
      refine lv_iload_n hx hb dX5_bestWorth_44 rfl (lv_at hl 2 rfl) ?_
      refine z_gol (wf := mW) hS hE (fun F1 h1 => (va_runS (As := [.long (gL σ_9 3), .int x2]) (rest := []) ⟨hx, hb, hml, hown, hts⟩ (kX5_part l E hD (gL σ_9 3) x2 σ_9 F1 h1) (va_cwS 2 hts (gU_S u_670 u_671 u_5 u_672) rfl rfl rfl q_X5_part ⟨Nat.le_of_ble_eq_true rfl, Nat.le_of_ble_eq_true rfl⟩) (z_preS hK hP hS) rfl rfl hl.1 rfl (lv_room (Nat.le_of_ble_eq_true rfl)) dX5_bestWorth_45 ⟨Nat.le_of_ble_eq_true rfl, Nat.le_of_ble_eq_true rfl⟩)) (fun r_11 σ_10 H locs hP hS hE => ?_)
      exact z_lret hx hb hr hlk hP hS dX5_bestWorth_48 hE
    refine lv_aload_n hx hb dX5_bestWorth_28 rfl (lv_at hl 0 rfl) ?_
    refine lv_bipush (v := -3) hx hb dX5_bestWorth_29 (by decide) ?_
    refine z_gol (wf := mW) hS hE (fun F1 h1 => (va_runV (As := [.int (-3)]) (rest := []) ⟨hx, hb, hml, hown, hts⟩ (kX5_noLong l E hD (-3) σ_7 F1 h1) (cwV 1 hts (gU_V u_665 u_666 u_667 u_5 u_668) rfl rfl rfl q_X5_noLong ⟨Nat.le_of_ble_eq_true rfl, Nat.le_of_ble_eq_true rfl⟩) (z_preV hK hP hS (ci := 5) (q0 := 0) rfl rfl rfl) rfl rfl hl.1 rfl (lv_room (Nat.le_of_ble_eq_true rfl)) dX5_bestWorth_31 ⟨Nat.le_of_ble_eq_true rfl, Nat.le_of_ble_eq_true rfl⟩)) (fun r_13 σ_12 H locs hP hS hE => ?_)
    exact z_lret hx hb hr hlk hP hS dX5_bestWorth_34 hE
  refine lv_aload_n hx hb dX5_bestWorth_14 rfl (lv_at hl 0 rfl) ?_
  refine lv_bipush (v := -2) hx hb dX5_bestWorth_15 (by decide) ?_
  refine z_gol (wf := mW) hS hE (fun F1 h1 => (va_runV (As := [.int (-2)]) (rest := []) ⟨hx, hb, hml, hown, hts⟩ (kX5_noLong l E hD (-2) σ_5 F1 h1) (cwV 1 hts (gU_V u_665 u_666 u_667 u_5 u_668) rfl rfl rfl q_X5_noLong ⟨Nat.le_of_ble_eq_true rfl, Nat.le_of_ble_eq_true rfl⟩) (z_preV hK hP hS (ci := 5) (q0 := 0) rfl rfl rfl) rfl rfl hl.1 rfl (lv_room (Nat.le_of_ble_eq_true rfl)) dX5_bestWorth_17 ⟨Nat.le_of_ble_eq_true rfl, Nat.le_of_ble_eq_true rfl⟩)) (fun r_15 σ_14 H locs hP hS hE => ?_)
  exact z_lret hx hb hr hlk hP hS dX5_bestWorth_20 hE
theorem kX5_bestWorth (l : Launch) (E : EN) (hD : ∀ σ, va_D (eA E) (mW E σ)) (x1 : Int32) (x2 : Int32) (σ : ST) (F : Int64 × ST) (hE : fX5_bestWorth x1 x2 σ = some F) : Met l yX5_bestWorth wu_X5_bestWorth r_X5_bestWorth (zPc E mW [.ref (ea E 0), .int x1, .int x2] σ) (zQl E mW F) 0 0 (eA E) := by
  refine Met.ofW (cc := cX5_bestWorth) (maxL := 3) (ret := (some .long)) (by decide) rfl ?_
  intro p e s m args below meth c s₁ B hml hv
  obtain ⟨rfl, hP, hK⟩ := hv
  have hl := lv_entry ([.ref (ea E 0), .int x1, .int x2]) (n := 3) (Nat.le_of_ble_eq_true rfl)
  rw [lg_entry_eq]
  generalize (lg_sl ([.ref (ea E 0), .int x1, .int x2]) ++ List.replicate (3 - (lg_sl ([.ref (ea E 0), .int x1, .int x2])).length) Slot.unset).toArray = ls at hl ⊢
  exact wX5_bestWorth ⟨B.exec, B.bytes, hml, findClass_of_methodNamed B.named, fun w h => atoms_spec (ws := wu_X5_bestWorth) B.pre w (List.mem_cons_of_mem _ h), B.returns, B.notSynchronized, hK, hD⟩ x1 x2 σ s.heap [] ls hl hP va_S.rf hE
def fX5_sure_L22 (ke : Int32 → ST → Option (Int32 × ST)) : Nat → Int32 → Int32 → ST → Option (Int32 × ST)
  | 0, _, _, _ => none
  | n + 1, x1, x2, σ => ald (gA σ 1) 200 2 (fun v_6 => (if v_6 ≤ x2 then ke x1 σ else ast σ 12 10 0 x2 (fun σ_7 => bnd (sI σ_7 8 1) (fun σ_8 => ald (gA σ_8 1) 200 5 (fun v_9 => calv (fX5_go v_9 σ_8) (fun σ_10 => (if (gI σ_10 12) = 0 then bnd ((x1 ||| 0) : Int32) (fun x1_11 => bnd (x2 + 1) (fun x2_12 => fX5_sure_L22 ke n x1_11 x2_12 σ_10)) else (if (lg_cmp (gL σ_10 0) 1000000000000) = 0 then bnd ((x1 ||| (gI σ_10 12)) : Int32) (fun x1_15 => bnd (x2 + 1) (fun x2_16 => fX5_sure_L22 ke n x1_15 x2_16 σ_10)) else bnd ((x1 ||| 0) : Int32) (fun x1_13 => bnd (x2 + 1) (fun x2_14 => fX5_sure_L22 ke n x1_13 x2_14 σ_10))))))))))
set_option maxHeartbeats 4000000 in
set_option maxRecDepth 100000 in
theorem wX5_sure_L22 {p : Program} {l : Launch} {e : Env} {s : State} {m : MethodId} {args : Array Value} {below : List Frame} {meth : Method} {c : Code} {E : EN} (C : zC E mW p s m args meth c cX5_sure 3 RX5 (some .int) wsL_law) {F : Int32 × ST} {ke : Int32 → ST → Option (Int32 × ST)} (hke : ∀ (x1 : Int32) (σ : ST) (H : Heap) (locs : List Loc) (ls : Array Slot), lv_has ls 3 [(1, .int x1)] → va_P (eD E) vwCl (mW E σ) H → va_S (eA E) s.heap H locs → ke x1 σ = some F → zWi E mW p l e r_X5_sure s m args below meth c F H locs (F0 m 89 ls [])) : ∀ (n : Nat) (x1 : Int32) (x2 : Int32) (σ : ST) (H : Heap) (locs : List Loc) (ls : Array Slot), lv_has ls 3 [(0, .ref (ea E 0)), (1, .int x1), (2, .int x2)] → va_P (eD E) vwCl (mW E σ) H → va_S (eA E) s.heap H locs → fX5_sure_L22 ke n x1 x2 σ = some F → zWi E mW p l e r_X5_sure s m args below meth c F H locs (F0 m 22 ls []) := by
  obtain ⟨hx, hb, hml, hown, hts, hr, hlk, hK, hD⟩ := id C
  have hwX5 : ∀ w ∈ wsX50, w.before args s = true := fun w h => hts w (inlX5 w h)
  intro n
  induction n with
  | zero => intro x1 x2 σ H locs ls hl hP hS hE; rw [fX5_sure_L22] at hE; cases hE
  | succ n ih =>
    intro x1 x2 σ H locs ls hl hP hS hE
    rw [fX5_sure_L22] at hE
    refine lv_iload_n hx hb dX5_sure_22 rfl (lv_at hl 2 rfl) ?_
    refine lv_aload_n hx hb dX5_sure_23 rfl (lv_at hl 0 rfl) ?_
    refine mg_0_1 hx hb hown hwX5 (hts _ u_97) hK hP dX5_sure_24 ?_
    refine lv_iconst (v := 2) hx hb dX5_sure_27 (by decide) ?_
    refine ma_2 hx hb hK hP dX5_sure_28 hE (fun v_6 hE => ?_)
    refine z_icmp_ge (tgt := 89) hx hb dX5_sure_29 (by decide) hE (fun hE => ?_) (fun hE => ?_)
    · exact hke x1 σ _ _ _ (lv_sub hl [1] rfl) hP hS hE
    refine lv_aload_n hx hb dX5_sure_32 rfl (lv_at hl 0 rfl) ?_
    refine mg_0_20 hx hb hown hwX5 (hts _ u_110) hK hP dX5_sure_33 ?_
    refine lv_iconst (v := 0) hx hb dX5_sure_36 (by decide) ?_
    refine lv_iload_n hx hb dX5_sure_37 rfl (lv_at hl 2 rfl) ?_
    refine ms_13 hx hb hK hD hP hS dX5_sure_38 hE (fun σ_7 H locs hP hS hE => ?_)
    refine lv_aload_n hx hb dX5_sure_39 rfl (lv_at hl 0 rfl) ?_
    refine lv_iconst (v := 1) hx hb dX5_sure_40 (by decide) ?_
    refine mp_0_21 hx hb hown hwX5 (hts _ u_600) hK hD hP hS dX5_sure_41 hE (fun σ_8 H locs hP hS hE => ?_)
    refine lv_aload_n hx hb dX5_sure_44 rfl (lv_at hl 0 rfl) ?_
    refine lv_aload_n hx hb dX5_sure_45 rfl (lv_at hl 0 rfl) ?_
    refine mg_0_1 hx hb hown hwX5 (hts _ u_97) hK hP dX5_sure_46 ?_
    refine lv_iconst (v := 5) hx hb dX5_sure_49 (by decide) ?_
    refine ma_2 hx hb hK hP dX5_sure_50 hE (fun v_9 hE => ?_)
    refine z_gov (wf := mW) hS hE (fun F1 h1 => (va_runV (As := [.int v_9]) (rest := []) ⟨hx, hb, hml, hown, hts⟩ (kX5_go l E hD v_9 σ_8 F1 h1) (cwV 1 hts (gU_V u_602 u_603 u_604 u_5 u_605) rfl rfl rfl q_X5_go ⟨Nat.le_of_ble_eq_true rfl, Nat.le_of_ble_eq_true rfl⟩) (z_preV hK hP hS (ci := 5) (q0 := 0) rfl rfl rfl) rfl rfl hl.1 rfl (lv_room (Nat.le_of_ble_eq_true rfl)) dX5_sure_51 ⟨Nat.le_of_ble_eq_true rfl, Nat.le_of_ble_eq_true rfl⟩)) (fun σ_10 H locs hP hS hE => ?_)
    refine lv_iload_n hx hb dX5_sure_54 rfl (lv_at hl 1 rfl) ?_
    refine lv_aload_n hx hb dX5_sure_55 rfl (lv_at hl 0 rfl) ?_
    refine mg_0_25 hx hb hown hwX5 (hts _ u_586) hK hP dX5_sure_56 ?_
    refine z_if_eq (tgt := 80) hx hb dX5_sure_59 (by decide) hE (fun hE => ?_) (fun hE => ?_)
    · refine lv_iconst (v := 0) hx hb dX5_sure_80 (by decide) ?_
      refine lv_ior hx hb dX5_sure_81 ?_
      refine z_istore_n hx hb (fun x1_11 => [(1, .int x1_11), (0, .ref (ea E 0)), (2, .int x2)]) dX5_sure_82 rfl hl (by decide) rfl hE (fun x1_11 ls hl hE => ?_)
      refine z_iinc hx hb (v := (x2 + 1)) (k := 2) (fun x2_12 => [(2, .int x2_12), (1, .int x1_11), (0, .ref (ea E 0))]) dX5_sure_83 hl rfl (by rfl) (by decide) rfl hE (fun x2_12 ls hl hE => ?_)
      refine lv_goto (tgt := 22) hx hb dX5_sure_86 (by decide) ?_
      exact ih x1_11 x2_12 σ_10 _ _ _ (lv_sub hl [2, 1, 0] rfl) hP hS hE
    refine lv_aload_n hx hb dX5_sure_62 rfl (lv_at hl 0 rfl) ?_
    refine mg_0_27 hx hb hown hwX5 (hts _ u_609) hK hP dX5_sure_63 ?_
    refine lv_ldc2 (v := 1000000000000) hx hb hown (hts _ u_608) dX5_sure_66 ?_
    refine W.lcmp hx hb dX5_sure_69 ?_
    refine z_if_ne (tgt := 80) hx hb dX5_sure_70 (by decide) hE (fun hE => ?_) (fun hE => ?_)
    · refine lv_iconst (v := 0) hx hb dX5_sure_80 (by decide) ?_
      refine lv_ior hx hb dX5_sure_81 ?_
      refine z_istore_n hx hb (fun x1_13 => [(1, .int x1_13), (0, .ref (ea E 0)), (2, .int x2)]) dX5_sure_82 rfl hl (by decide) rfl hE (fun x1_13 ls hl hE => ?_)
      refine z_iinc hx hb (v := (x2 + 1)) (k := 2) (fun x2_14 => [(2, .int x2_14), (1, .int x1_13), (0, .ref (ea E 0))]) dX5_sure_83 hl rfl (by rfl) (by decide) rfl hE (fun x2_14 ls hl hE => ?_)
      refine lv_goto (tgt := 22) hx hb dX5_sure_86 (by decide) ?_
      exact ih x1_13 x2_14 σ_10 _ _ _ (lv_sub hl [2, 1, 0] rfl) hP hS hE
    refine lv_aload_n hx hb dX5_sure_73 rfl (lv_at hl 0 rfl) ?_
    refine mg_0_25 hx hb hown hwX5 (hts _ u_586) hK hP dX5_sure_74 ?_
    refine lv_goto (tgt := 81) hx hb dX5_sure_77 (by decide) ?_
    refine lv_ior hx hb dX5_sure_81 ?_
    refine z_istore_n hx hb (fun x1_15 => [(1, .int x1_15), (0, .ref (ea E 0)), (2, .int x2)]) dX5_sure_82 rfl hl (by decide) rfl hE (fun x1_15 ls hl hE => ?_)
    refine z_iinc hx hb (v := (x2 + 1)) (k := 2) (fun x2_16 => [(2, .int x2_16), (1, .int x1_15), (0, .ref (ea E 0))]) dX5_sure_83 hl rfl (by rfl) (by decide) rfl hE (fun x2_16 ls hl hE => ?_)
    refine lv_goto (tgt := 22) hx hb dX5_sure_86 (by decide) ?_
    exact ih x1_15 x2_16 σ_10 _ _ _ (lv_sub hl [2, 1, 0] rfl) hP hS hE
def fX5_sure   (σ : ST) : Option (Int32 × ST) :=
  cali (fX5_isNoTown σ) (fun r_2 σ_1 => (if r_2 = 0 then calv (fX5_legs σ_1) (fun σ_3 => bnd (0 : Int32) (fun x1_4 => bnd (0 : Int32) (fun x2_5 => fX5_sure_L22 (fun x1_17 σ_18 => some (x1_17, σ_18)) FU x1_4 x2_5 σ_3))) else cali (fX5_no (-3) σ_1) (fun r_20 σ_19 => some (r_20, σ_19))))
set_option maxHeartbeats 4000000 in
set_option maxRecDepth 100000 in
theorem wX5_sure {p : Program} {l : Launch} {e : Env} {s : State} {m : MethodId} {args : Array Value} {below : List Frame} {meth : Method} {c : Code} {E : EN} (C : zC E mW p s m args meth c cX5_sure 3 RX5 (some .int) wsL_law) {F : Int32 × ST}    (σ : ST) (H : Heap) (locs : List Loc) (ls : Array Slot) (hl : lv_has ls 3 [(0, .ref (ea E 0))]) (hP : va_P (eD E) vwCl (mW E σ) H) (hS : va_S (eA E) s.heap H locs) (hE : fX5_sure   σ = some F) : zWi E mW p l e r_X5_sure s m args below meth c F H locs (F0 m 0 ls []) := by
  obtain ⟨hx, hb, hml, hown, hts, hr, hlk, hK, hD⟩ := id C
  unfold fX5_sure at hE
  refine lv_aload_n hx hb dX5_sure_0 rfl (lv_at hl 0 rfl) ?_
  refine z_goi (wf := mW) hS hE (fun F1 h1 => (va_runV (As := []) (rest := []) ⟨hx, hb, hml, hown, hts⟩ (kX5_isNoTown l E hD  σ F1 h1) (cwV 0 hts (gU_V u_588 u_589 u_590 u_5 u_591) rfl rfl rfl q_X5_isNoTown ⟨Nat.le_of_ble_eq_true rfl, Nat.le_of_ble_eq_true rfl⟩) (z_preV hK hP hS (ci := 5) (q0 := 0) rfl rfl rfl) rfl rfl hl.1 rfl (lv_room (Nat.le_of_ble_eq_true rfl)) dX5_sure_1 ⟨Nat.le_of_ble_eq_true rfl, Nat.le_of_ble_eq_true rfl⟩)) (fun r_2 σ_1 H locs hP hS hE => ?_)
  refine z_if_eq (tgt := 14) hx hb dX5_sure_4 (by decide) hE (fun hE => ?_) (fun hE => ?_)
  · refine lv_aload_n hx hb dX5_sure_14 rfl (lv_at hl 0 rfl) ?_
    refine z_gov (wf := mW) hS hE (fun F1 h1 => (va_runV (As := []) (rest := []) ⟨hx, hb, hml, hown, hts⟩ (kX5_legs l E hD  σ_1 F1 h1) (cwV 0 hts (gU_V u_498 u_499 u_500 u_5 u_501) rfl rfl rfl q_X5_legs ⟨Nat.le_of_ble_eq_true rfl, Nat.le_of_ble_eq_true rfl⟩) (z_preV hK hP hS (ci := 5) (q0 := 0) rfl rfl rfl) rfl rfl hl.1 rfl (lv_room (Nat.le_of_ble_eq_true rfl)) dX5_sure_15 ⟨Nat.le_of_ble_eq_true rfl, Nat.le_of_ble_eq_true rfl⟩)) (fun σ_3 H locs hP hS hE => ?_)
    refine lv_iconst (v := 0) hx hb dX5_sure_18 (by decide) ?_
    refine z_istore_n hx hb (fun x1_4 => [(1, .int x1_4), (0, .ref (ea E 0))]) dX5_sure_19 rfl hl (by decide) rfl hE (fun x1_4 ls hl hE => ?_)
    refine lv_iconst (v := 0) hx hb dX5_sure_20 (by decide) ?_
    refine z_istore_n hx hb (fun x2_5 => [(2, .int x2_5), (1, .int x1_4), (0, .ref (ea E 0))]) dX5_sure_21 rfl hl (by decide) rfl hE (fun x2_5 ls hl hE => ?_)
    refine wX5_sure_L22 C ?_ FU x1_4 x2_5 σ_3 _ _ _ (lv_sub hl [2, 1, 0] rfl) hP hS hE
    intro x1_17 σ_18 H locs ls hl hP hS hE
    refine lv_iload_n hx hb dX5_sure_89 rfl (lv_at hl 0 rfl) ?_
    exact z_iret hx hb hr hlk hP hS dX5_sure_90 hE
  refine lv_aload_n hx hb dX5_sure_7 rfl (lv_at hl 0 rfl) ?_
  refine lv_bipush (v := -3) hx hb dX5_sure_8 (by decide) ?_
  refine z_goi (wf := mW) hS hE (fun F1 h1 => (va_runV (As := [.int (-3)]) (rest := []) ⟨hx, hb, hml, hown, hts⟩ (kX5_no l E hD (-3) σ_1 F1 h1) (cwV 1 hts (gU_V u_131 u_132 u_133 u_5 u_134) rfl rfl rfl q_X5_no ⟨Nat.le_of_ble_eq_true rfl, Nat.le_of_ble_eq_true rfl⟩) (z_preV hK hP hS (ci := 5) (q0 := 0) rfl rfl rfl) rfl rfl hl.1 rfl (lv_room (Nat.le_of_ble_eq_true rfl)) dX5_sure_10 ⟨Nat.le_of_ble_eq_true rfl, Nat.le_of_ble_eq_true rfl⟩)) (fun r_20 σ_19 H locs hP hS hE => ?_)
  exact z_iret hx hb hr hlk hP hS dX5_sure_13 hE
theorem kX5_sure (l : Launch) (E : EN) (hD : ∀ σ, va_D (eA E) (mW E σ))  (σ : ST) (F : Int32 × ST) (hE : fX5_sure  σ = some F) : Met l yX5_sure wu_X5_sure r_X5_sure (zPc E mW [.ref (ea E 0)] σ) (zQi E mW F) 0 0 (eA E) := by
  refine Met.ofW (cc := cX5_sure) (maxL := 3) (ret := (some .int)) (by decide) rfl ?_
  intro p e s m args below meth c s₁ B hml hv
  obtain ⟨rfl, hP, hK⟩ := hv
  have hl := lv_entry ([.ref (ea E 0)]) (n := 3) (Nat.le_of_ble_eq_true rfl)
  rw [lg_entry_eq]
  generalize (lg_sl ([.ref (ea E 0)]) ++ List.replicate (3 - (lg_sl ([.ref (ea E 0)])).length) Slot.unset).toArray = ls at hl ⊢
  exact wX5_sure ⟨B.exec, B.bytes, hml, findClass_of_methodNamed B.named, fun w h => atoms_spec (ws := wu_X5_sure) B.pre w (List.mem_cons_of_mem _ h), B.returns, B.notSynchronized, hK, hD⟩  σ s.heap [] ls hl hP va_S.rf hE
def fX5_worthOfRow  (x1 : Int32) (σ : ST) : Option (Int64 × ST) :=
  calv (fX5_dayOfRow x1 σ) (fun σ_1 => some ((gL σ_1 1), σ_1))
set_option maxHeartbeats 4000000 in
set_option maxRecDepth 100000 in
theorem wX5_worthOfRow {p : Program} {l : Launch} {e : Env} {s : State} {m : MethodId} {args : Array Value} {below : List Frame} {meth : Method} {c : Code} {E : EN} (C : zC E mW p s m args meth c cX5_worthOfRow 2 RX5 (some .long) wsL_law) {F : Int64 × ST}   (x1 : Int32) (σ : ST) (H : Heap) (locs : List Loc) (ls : Array Slot) (hl : lv_has ls 2 [(0, .ref (ea E 0)), (1, .int x1)]) (hP : va_P (eD E) vwCl (mW E σ) H) (hS : va_S (eA E) s.heap H locs) (hE : fX5_worthOfRow  x1 σ = some F) : zWl E mW p l e r_X5_worthOfRow s m args below meth c F H locs (F0 m 0 ls []) := by
  obtain ⟨hx, hb, hml, hown, hts, hr, hlk, hK, hD⟩ := id C
  have hwX5 : ∀ w ∈ wsX50, w.before args s = true := fun w h => hts w (inlX5 w h)
  unfold fX5_worthOfRow at hE
  refine lv_aload_n hx hb dX5_worthOfRow_0 rfl (lv_at hl 0 rfl) ?_
  refine lv_iload_n hx hb dX5_worthOfRow_1 rfl (lv_at hl 1 rfl) ?_
  refine z_gov (wf := mW) hS hE (fun F1 h1 => (va_runV (As := [.int x1]) (rest := []) ⟨hx, hb, hml, hown, hts⟩ (kX5_dayOfRow l E hD x1 σ F1 h1) (cwV 1 hts (gU_V u_592 u_593 u_594 u_5 u_595) rfl rfl rfl q_X5_dayOfRow ⟨Nat.le_of_ble_eq_true rfl, Nat.le_of_ble_eq_true rfl⟩) (z_preV hK hP hS (ci := 5) (q0 := 0) rfl rfl rfl) rfl rfl hl.1 rfl (lv_room (Nat.le_of_ble_eq_true rfl)) dX5_worthOfRow_2 ⟨Nat.le_of_ble_eq_true rfl, Nat.le_of_ble_eq_true rfl⟩)) (fun σ_1 H locs hP hS hE => ?_)
  refine lv_aload_n hx hb dX5_worthOfRow_5 rfl (lv_at hl 0 rfl) ?_
  refine mg_0_28 hx hb hown hwX5 (hts _ u_610) hK hP dX5_worthOfRow_6 ?_
  exact z_lret hx hb hr hlk hP hS dX5_worthOfRow_9 hE
theorem kX5_worthOfRow (l : Launch) (E : EN) (hD : ∀ σ, va_D (eA E) (mW E σ)) (x1 : Int32) (σ : ST) (F : Int64 × ST) (hE : fX5_worthOfRow x1 σ = some F) : Met l yX5_worthOfRow wu_X5_worthOfRow r_X5_worthOfRow (zPc E mW [.ref (ea E 0), .int x1] σ) (zQl E mW F) 0 0 (eA E) := by
  refine Met.ofW (cc := cX5_worthOfRow) (maxL := 2) (ret := (some .long)) (by decide) rfl ?_
  intro p e s m args below meth c s₁ B hml hv
  obtain ⟨rfl, hP, hK⟩ := hv
  have hl := lv_entry ([.ref (ea E 0), .int x1]) (n := 2) (Nat.le_of_ble_eq_true rfl)
  rw [lg_entry_eq]
  generalize (lg_sl ([.ref (ea E 0), .int x1]) ++ List.replicate (2 - (lg_sl ([.ref (ea E 0), .int x1])).length) Slot.unset).toArray = ls at hl ⊢
  exact wX5_worthOfRow ⟨B.exec, B.bytes, hml, findClass_of_methodNamed B.named, fun w h => atoms_spec (ws := wu_X5_worthOfRow) B.pre w (List.mem_cons_of_mem _ h), B.returns, B.notSynchronized, hK, hD⟩ x1 σ s.heap [] ls hl hP va_S.rf hE
