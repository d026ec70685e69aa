def R_law : String := "OnlyDownhillLaw"
def lw_P (b : Addr) (xs : List Int32) (args : Array Value) (s : State) : Prop := args = #[.ref b] ∧ s.IntsAt b xs ∧ xs.length ≤ 2048 ∧ (Jvm.Cond.and given_1 narrow_1).before args s = true
def lw_Q (_ : Array Value) (s : State) (o : Outcome) (t : State) : Prop := o = .returned (some (.int 1)) ∧ Framed s o t [] 70 1905
def lw_Z (below : List Frame) (a : Array Value) (s : State) : State → Prop := fun t => ∃ o, t.status = .running ∧ Ended t below o ∧ lw_Q a s o t
/-- the law's own end, with 1 on the stack, nothing written that was there before, its room as the claim has it -/
theorem lw_ret {p : Program} {l : Launch} {e : Env} {s : State} {m : MethodId} {below : List Frame} {meth : Method} {c : Code} {b : Nat} (hx : p.tables.exec = Jvm.exec) (hb : c.code = code) (hr : meth.sig.returnType = ret) (hlocks : meth.locks = false) {pc : Nat} {H : Heap} {ls : Array Slot} (hdg : decode code pc = .ok (.ireturn, 1)) : W p l e room_1 s m #[Value.ref b] below meth c H [] 70 1905 (lw_Z below #[Value.ref b] s) (F0 m pc ls [.int 1]) := by
  intro T hT X
  obtain ⟨fs, hret, hrun, hended, hW, hframe⟩ := X.leave (v := some (.int 1)) (hlocks := hlocks) (fun h => by rw [hr] at h; cases h)
  have hmeth' : T.vm.method? m = some meth := X.method'
  refine ⟨T.setFrames fs, ?_, .returned (some (.int 1)), hrun, hended, rfl, ⟨_, rfl⟩, hW, hframe⟩
  jvm_step X.here [X.here.top, hx, hb, hdg, hmeth', hr, ret, narrow_b1]
  (try refine ⟨rfl, ?_⟩); (try refine ⟨rfl, ?_⟩)
  first | (intro acts; rw [hret _ acts rfl rfl rfl]) | rw [hret _ _ rfl rfl rfl]
  exact Steps.refl _
/-- what holds at the law's entry: the machine, the code, the tables' words (any of lw_tbl by 'hts w (by decide +kernel)'), the script of L ints xs at the cell b, what the Statement gives of the start (any of its parts by flat_of_before) -/
def lw_At (p : Program) (s : State) (m : MethodId) (meth : Method) (c : Code) (b L : Nat) (xs : Nat → Int32) : Prop :=
  p.tables.exec = Jvm.exec ∧ c.code = code ∧ meth.sig.returnType = ret ∧ c.maxLocals = 4 ∧ s.vm.findClass R_law = some m.cls ∧ (∀ w ∈ lw_tbl, w.before #[Value.ref b] s = true) ∧ va_X b L xs s s.heap ∧ b < s.heap.size ∧ meth.locks = false ∧ (Jvm.Cond.and given_1 narrow_1).before #[Value.ref b] s = true

/-- two answers alike, the states behind them related -/
def SIMi (Rl : ST → ST → Prop) (f g : ST → Option (Int32 × ST)) : Prop := ∀ σ τ, Rl σ τ → ∃ (r : Int32) (σ' τ' : ST), f σ = some (r, σ') ∧ g τ = some (r, τ') ∧ Rl σ' τ'
def SIMl (Rl : ST → ST → Prop) (f g : ST → Option (Int64 × ST)) : Prop := ∀ σ τ, Rl σ τ → ∃ (r : Int64) (σ' τ' : ST), f σ = some (r, σ') ∧ g τ = some (r, τ') ∧ Rl σ' τ'
def SIMS (Rl : ST → ST → Prop) : Prop :=
  (∀ a1 : Int32, SIMi Rl (fX4_letter a1) (fX5_letter a1)) ∧
  (SIMi Rl (fX4_town ) (fX5_town )) ∧
  (∀ a1 a2 : Int32, SIMi Rl (fX4_place a1 a2) (fX5_place a1 a2)) ∧
  (∀ a1 a2 : Int32, SIMi Rl (fX4_slope a1 a2) (fX5_slope a1 a2)) ∧
  (∀ a1 a2 : Int32, SIMi Rl (fX4_errand a1 a2) (fX5_errand a1 a2)) ∧
  (∀ a1 a2 : Int32, SIMi Rl (fX4_set a1 a2) (fX5_set a1 a2)) ∧
  (∀ a1 a2 a3 : Int32, SIMi Rl (fX4_leg a1 a2 a3) (fX5_leg a1 a2 a3)) ∧
  (∀ a1 a2 a3 : Int32, SIMi Rl (fX4_safe a1 a2 a3) (fX5_safe a1 a2 a3)) ∧
  (∀ a1 : Int32, SIMi Rl (fX4_day a1) (fX5_day a1)) ∧
  (∀ a1 : Int32, SIMl Rl (fX4_likely a1) (fX5_likely a1)) ∧
  (∀ a1 : Int32, SIMl Rl (fX4_worth a1) (fX5_worth a1)) ∧
  (∀ a1 a2 : Int32, SIMi Rl (fX4_best a1 a2) (fX5_best a1 a2)) ∧
  (∀ a1 : Int32, SIMi Rl (fX4_bestMinutes a1) (fX5_bestMinutes a1)) ∧
  (∀ a1 a2 : Int32, SIMl Rl (fX4_bestLikely a1 a2) (fX5_bestLikely a1 a2)) ∧
  (∀ a1 a2 : Int32, SIMl Rl (fX4_bestWorth a1 a2) (fX5_bestWorth a1 a2)) ∧
  (SIMi Rl (fX4_sure ) (fX5_sure )) ∧
  (SIMi Rl (fX4_bestDriver ) (fX5_bestDriver )) ∧
  (SIMi Rl (fX4_leftOut ) (fX5_leftOut )) ∧
  (SIMi Rl (fX4_runOn ) (fX5_runOn )) ∧
  (SIMi Rl (fX4_push ) (fX5_push )) ∧
  (∀ a1 : Int32, SIMl Rl (fX4_hill a1) (fX5_hill a1)) ∧
  (∀ a1 a2 : Int32, SIMi Rl (fX4_mend a1 a2) (fX5_mend a1 a2)) ∧
  (∀ a1 : Int32, SIMi Rl (fX4_mendFrom a1) (fX5_mendFrom a1)) ∧
  (∀ a1 a2 a3 : Int32, SIMi Rl (fX4_onFoot a1 a2 a3) (fX5_onFoot a1 a2 a3)) ∧
  (∀ a1 a2 a3 : Int32, SIMi Rl (fX4_onTheWay a1 a2 a3) (fX5_onTheWay a1 a2 a3)) ∧
  (∀ a1 : Int32, SIMi Rl (fX4_row a1) (fX5_row a1)) ∧
  (SIMi Rl (fX4_clear ) (fX5_clear )) ∧
  (SIMi Rl (fX4_judge ) (fX5_judge )) ∧
  (∀ a1 a2 : Int32, SIMi Rl (fX4_lots a1 a2) (fX5_lots a1 a2)) ∧
  (SIMi Rl (fX4_image ) (fX5_image )) ∧
  (SIMi Rl (fX4_on ) (fX5_on )) ∧
  (∀ a1 : Int32, SIMi Rl (fX4_count a1) (fX5_count a1))
def lawA (s : State) : Nat → Prop := fun q => s.heap.size ≤ q
/-- what the law's walk has at hand, once both objects are made -/
def LC (p : Program) (s : State) (m : MethodId) (meth : Method) (c : Code) (b L : Nat) (xs : Nat → Int32) (E1 E2 : EN) : Prop :=
  p.tables.exec = Jvm.exec ∧ c.code = cL_law ∧ c.maxLocals = 4 ∧ s.vm.findClass RL = some m.cls ∧ (∀ w ∈ wsL_law, w.before #[Value.ref b] s = true) ∧ meth.sig.returnType = ret ∧ meth.locks = false ∧ va_X b L xs s s.heap ∧ b < s.heap.size ∧ L ≤ 2048 ∧ (∀ σ, va_D (eA E1) (xW E1 σ)) ∧ (∀ σ, va_D (eA E2) (mW E2 σ)) ∧ (∀ q, eA E1 q → s.heap.size ≤ q) ∧ (∀ q, eA E2 q → s.heap.size ≤ q) ∧ (∀ q, eA E1 q → ¬ eA E2 q) ∧ va_K (eD E1) vwCl (eT E1) s ∧ va_K (eD E2) vwCl (eT E2) s ∧ (∀ (U : State) (H : Heap) (locs : List Loc), va_S (lawA s) s.heap H locs → U.heap = H → s.WarmedH U.vm → xK E1 U) ∧ (∀ (U : State) (H : Heap) (locs : List Loc), va_S (lawA s) s.heap H locs → U.heap = H → s.WarmedH U.vm → xK E2 U)
section LawSteps
variable {p : Program} {l : Launch} {e : Env} {s : State} {m : MethodId} {args : Array Value} {below : List Frame} {meth : Method} {c : Code} {H : Heap} {locs : List Loc} {Q : State → Prop} {pc : Nat} {ls : Array Slot} {rest st As : List Value} {E1 E2 : EN} {σ τ : ST} {av : Array Value} {b L : Nat} {xs : Nat → Int32}
theorem law_kept {E : EN} {wf : EN → ST → va_W} {σ : ST} {A1 : Nat → Prop} {H H1 : Heap} (hP : va_P (eD E) vwCl (wf E σ) H) (hD : va_D (eA E) (wf E σ)) (hd : ∀ q, A1 q → ¬ eA E q) (hk : ∀ q : Nat, q < H.size → ¬ A1 q → H1[q]? = H[q]?) : va_P (eD E) vwCl (wf E σ) H1 :=
  va_P.kept hP (fun k q h => hk q.1 (va_at.lt (hP k q h)) (fun z => hd _ z (hD.2 k q h)))
theorem law_xi {F1 : Int32 × ST} (C : LC p s m meth c b L xs E1 E2) (hP2 : va_P (eD E2) vwCl (mW E2 τ) H) (hS : va_S (lawA s) s.heap H locs) (hr : va_Run p l e room_1 s m args below meth c H locs 70 1905 0 0 (F0 m pc ls st) rest (zQi E1 xW F1 av) (eA E1)) (kk : ∀ (H1 : Heap) (locs1 : List Loc), va_P (eD E1) vwCl (xW E1 F1.2) H1 → va_P (eD E2) vwCl (mW E2 τ) H1 → va_S (lawA s) s.heap H1 locs1 → W p l e room_1 s m args below meth c H1 locs1 70 1905 Q (F0 m (pc + 3) ls (.int F1.1 :: rest))) : W p l e room_1 s m args below meth c H locs 70 1905 Q (F0 m pc ls st) := by
  obtain ⟨hx, hb, hml, hown, hts, hrt, hlk, hX, hbl, hL, hD1, hD2, hs1, hs2, hdis, hK1, hK2, k1, k2⟩ := C
  refine va_calli hr hS (fun q _ h => hs1 q h) (fun q h => hs1 q h) (fun r u t H1 locs1 ht hvm hw hB hz1 hk1 hS1 => ?_)
  subst hw
  rw [ht] at hB
  exact kk H1 locs1 hB (law_kept (wf := mW) hP2 (hD2 τ) hdis hk1) hS1
theorem law_xl {F1 : Int64 × ST} (C : LC p s m meth c b L xs E1 E2) (hP2 : va_P (eD E2) vwCl (mW E2 τ) H) (hS : va_S (lawA s) s.heap H locs) (hr : va_Run p l e room_1 s m args below meth c H locs 70 1905 0 0 (F0 m pc ls st) rest (zQl E1 xW F1 av) (eA E1)) (kk : ∀ (H1 : Heap) (locs1 : List Loc), va_P (eD E1) vwCl (xW E1 F1.2) H1 → va_P (eD E2) vwCl (mW E2 τ) H1 → va_S (lawA s) s.heap H1 locs1 → W p l e room_1 s m args below meth c H1 locs1 70 1905 Q (F0 m (pc + 3) ls (.long F1.1 :: rest))) : W p l e room_1 s m args below meth c H locs 70 1905 Q (F0 m pc ls st) := by
  obtain ⟨hx, hb, hml, hown, hts, hrt, hlk, hX, hbl, hL, hD1, hD2, hs1, hs2, hdis, hK1, hK2, k1, k2⟩ := C
  refine va_calll hr hS (fun q _ h => hs1 q h) (fun q h => hs1 q h) (fun r u t H1 locs1 ht hvm hw hB hz1 hk1 hS1 => ?_)
  subst hw
  rw [ht] at hB
  exact kk H1 locs1 hB (law_kept (wf := mW) hP2 (hD2 τ) hdis hk1) hS1
theorem law_mi {F1 : Int32 × ST} (C : LC p s m meth c b L xs E1 E2) (hP1 : va_P (eD E1) vwCl (xW E1 σ) H) (hS : va_S (lawA s) s.heap H locs) (hr : va_Run p l e room_1 s m args below meth c H locs 70 1905 0 0 (F0 m pc ls st) rest (zQi E2 mW F1 av) (eA E2)) (kk : ∀ (H1 : Heap) (locs1 : List Loc), va_P (eD E1) vwCl (xW E1 σ) H1 → va_P (eD E2) vwCl (mW E2 F1.2) H1 → va_S (lawA s) s.heap H1 locs1 → W p l e room_1 s m args below meth c H1 locs1 70 1905 Q (F0 m (pc + 3) ls (.int F1.1 :: rest))) : W p l e room_1 s m args below meth c H locs 70 1905 Q (F0 m pc ls st) := by
  obtain ⟨hx, hb, hml, hown, hts, hrt, hlk, hX, hbl, hL, hD1, hD2, hs1, hs2, hdis, hK1, hK2, k1, k2⟩ := C
  refine va_calli hr hS (fun q _ h => hs2 q h) (fun q h => hs2 q h) (fun r u t H1 locs1 ht hvm hw hB hz1 hk1 hS1 => ?_)
  subst hw
  rw [ht] at hB
  exact kk H1 locs1 (law_kept (wf := xW) hP1 (hD1 σ) (fun q h2 h1 => hdis q h1 h2) hk1) hB hS1
theorem law_ml {F1 : Int64 × ST} (C : LC p s m meth c b L xs E1 E2) (hP1 : va_P (eD E1) vwCl (xW E1 σ) H) (hS : va_S (lawA s) s.heap H locs) (hr : va_Run p l e room_1 s m args below meth c H locs 70 1905 0 0 (F0 m pc ls st) rest (zQl E2 mW F1 av) (eA E2)) (kk : ∀ (H1 : Heap) (locs1 : List Loc), va_P (eD E1) vwCl (xW E1 σ) H1 → va_P (eD E2) vwCl (mW E2 F1.2) H1 → va_S (lawA s) s.heap H1 locs1 → W p l e room_1 s m args below meth c H1 locs1 70 1905 Q (F0 m (pc + 3) ls (.long F1.1 :: rest))) : W p l e room_1 s m args below meth c H locs 70 1905 Q (F0 m pc ls st) := by
  obtain ⟨hx, hb, hml, hown, hts, hrt, hlk, hX, hbl, hL, hD1, hD2, hs1, hs2, hdis, hK1, hK2, k1, k2⟩ := C
  refine va_calll hr hS (fun q _ h => hs2 q h) (fun q h => hs2 q h) (fun r u t H1 locs1 ht hvm hw hB hz1 hk1 hS1 => ?_)
  subst hw
  rw [ht] at hB
  exact kk H1 locs1 (law_kept (wf := xW) hP1 (hD1 σ) (fun q h2 h1 => hdis q h1 h2) hk1) hB hS1
theorem law_pre1 (C : LC p s m meth c b L xs E1 E2) (hP : va_P (eD E1) vwCl (xW E1 σ) H) (hS : va_S (lawA s) s.heap H locs) : PreV s H RX4 (ea E1 0) (zPc E1 xW (.ref (ea E1 0) :: As) σ) As := by
  obtain ⟨hx, hb, hml, hown, hts, hrt, hlk, hX, hbl, hL, hD1, hD2, hs1, hs2, hdis, hK1, hK2, k1, k2⟩ := C
  exact ⟨z_blind, va_recv (q := (RX4, TX4, 12)) hK1 hP (ci := 4) (q0 := 0) rfl rfl, fun U hU hW => ⟨rfl, by rw [hU]; exact hP, k1 U H locs hS hU hW⟩⟩
theorem law_pre2 (C : LC p s m meth c b L xs E1 E2) (hP : va_P (eD E2) vwCl (mW E2 τ) H) (hS : va_S (lawA s) s.heap H locs) : PreV s H RX5 (ea E2 0) (zPc E2 mW (.ref (ea E2 0) :: As) τ) As := by
  obtain ⟨hx, hb, hml, hown, hts, hrt, hlk, hX, hbl, hL, hD1, hD2, hs1, hs2, hdis, hK1, hK2, k1, k2⟩ := C
  exact ⟨z_blind, va_recv (q := (RX5, TX5, 38)) hK2 hP (ci := 5) (q0 := 0) rfl rfl, fun U hU hW => ⟨rfl, by rw [hU]; exact hP, k2 U H locs hS hU hW⟩⟩
theorem law_in {x3 : Int32} {i j L : Nat} (h : i + 4 ≤ L) (hL : L ≤ 2048) (ex : x3 = nI i) (hj : j < 4) : vp_in (x3 + nI j) L := by
  subst ex
  rw [show nI i + nI j = nI (i + j) from by unfold nI; rw [Int32.ofNat_add]]
  exact vp_in_nI (by omega) (by omega)
theorem law_cmp (r : Int64) : lg_cmp r r = 0 := by
  unfold lg_cmp
  rw [if_neg (by simp), if_pos rfl]
end LawSteps
set_option maxHeartbeats 4000000 in
set_option maxRecDepth 100000 in
theorem law_c0 {p : Program} {l : Launch} {e : Env} {s : State} {m : MethodId} {below : List Frame} {meth : Method} {c : Code} {H : Heap} {locs : List Loc} {Q : State → Prop} {ls : Array Slot} {E1 E2 : EN} {b L : Nat} {xs : Nat → Int32} (C : LC p s m meth c b L xs E1 E2) {Rl : ST → ST → Prop} (S : SIMS Rl) {i : Nat} {x3 : Int32} (hi : i + 4 ≤ L) (ex3 : x3 = nI i) {σ τ : ST} (hR : Rl σ τ) (hl : lv_has ls 4 [(0, .ref b), (1, .ref (ea E1 0)), (2, .ref (ea E2 0)), (3, .int x3)]) (hP1 : va_P (eD E1) vwCl (xW E1 σ) H) (hP2 : va_P (eD E2) vwCl (mW E2 τ) H) (hS : va_S (lawA s) s.heap H locs) (kk : ∀ (σ τ : ST) (H : Heap) (locs : List Loc), Rl σ τ → va_P (eD E1) vwCl (xW E1 σ) H → va_P (eD E2) vwCl (mW E2 τ) H → va_S (lawA s) s.heap H locs → W p l e room_1 s m #[Value.ref b] below meth c H locs 70 1905 Q (F0 m 987 ls [])) : W p l e room_1 s m #[Value.ref b] below meth c H locs 70 1905 Q (F0 m 176 ls []) := by
  obtain ⟨hx, hb, hml, hown, hts, hrt, hlk, hX, hbl, hL, hD1, hD2, hs1, hs2, hdis, hK1, hK2, k1, k2⟩ := id C
  have hbA : ¬ lawA s b := Nat.not_le.mpr hbl
  obtain ⟨r, σ2, τ2, e1, e2, hR2⟩ := S.1 (xs (Int32.toNatClampNeg (x3 + 1))) σ τ hR
  refine lv_aload_n hx hb dL_law_176 rfl (lv_at hl 1 rfl) ?_
  refine lv_aload_n hx hb dL_law_177 rfl (lv_at hl 0 rfl) ?_
  refine lv_iload_n hx hb dL_law_178 rfl (lv_at hl 3 rfl) ?_
  refine lv_iconst (v := 1) hx hb dL_law_179 (by decide) ?_
  refine lv_iadd hx hb dL_law_180 ?_
  refine va_sld hx hb hX hbl hbA hS (law_in hi hL ex3 (j := 1) (by decide)) dL_law_181 ?_
  refine law_xi (F1 := (r, σ2)) C hP2 hS (va_runV (As := [.int (xs (Int32.toNatClampNeg (x3 + 1)))]) (rest := []) ⟨hx, hb, hml, hown, hts⟩ (kX4_letter l E1 hD1 (xs (Int32.toNatClampNeg (x3 + 1))) σ (r, σ2) e1) (cwV 1 hts (gU_V u_113 u_114 u_115 u_2 u_116) rfl rfl rfl q_X4_letter ⟨Nat.le_of_ble_eq_true rfl, Nat.le_of_ble_eq_true rfl⟩) (law_pre1 C hP1 hS) rfl rfl hl.1 rfl (lv_room (Nat.le_of_ble_eq_true rfl)) dL_law_182 ⟨Nat.le_of_ble_eq_true rfl, Nat.le_of_ble_eq_true rfl⟩) (fun H locs hP1 hP2 hS => ?_)
  refine lv_aload_n hx hb dL_law_185 rfl (lv_at hl 2 rfl) ?_
  refine lv_aload_n hx hb dL_law_186 rfl (lv_at hl 0 rfl) ?_
  refine lv_iload_n hx hb dL_law_187 rfl (lv_at hl 3 rfl) ?_
  refine lv_iconst (v := 1) hx hb dL_law_188 (by decide) ?_
  refine lv_iadd hx hb dL_law_189 ?_
  refine va_sld hx hb hX hbl hbA hS (law_in hi hL ex3 (j := 1) (by decide)) dL_law_190 ?_
  refine law_mi (F1 := (r, τ2)) C hP1 hS (va_runV (As := [.int (xs (Int32.toNatClampNeg (x3 + 1)))]) (rest := [.int r]) ⟨hx, hb, hml, hown, hts⟩ (kX5_letter l E2 hD2 (xs (Int32.toNatClampNeg (x3 + 1))) τ (r, τ2) e2) (cwV 1 hts (gU_V u_126 u_127 u_128 u_5 u_129) rfl rfl rfl q_X5_letter ⟨Nat.le_of_ble_eq_true rfl, Nat.le_of_ble_eq_true rfl⟩) (law_pre2 C hP2 hS) rfl rfl hl.1 rfl (lv_room (Nat.le_of_ble_eq_true rfl)) dL_law_191 ⟨Nat.le_of_ble_eq_true rfl, Nat.le_of_ble_eq_true rfl⟩) (fun H locs hP1 hP2 hS => ?_)
  exact lv_icmp_eq (tgt := 987) hx hb dL_law_194 (by decide) (fun _ => kk σ2 τ2 _ _ hR2 hP1 hP2 hS) (fun q => absurd rfl q)
set_option maxHeartbeats 4000000 in
set_option maxRecDepth 100000 in
theorem law_c1 {p : Program} {l : Launch} {e : Env} {s : State} {m : MethodId} {below : List Frame} {meth : Method} {c : Code} {H : Heap} {locs : List Loc} {Q : State → Prop} {ls : Array Slot} {E1 E2 : EN} {b L : Nat} {xs : Nat → Int32} (C : LC p s m meth c b L xs E1 E2) {Rl : ST → ST → Prop} (S : SIMS Rl) {i : Nat} {x3 : Int32} (hi : i + 4 ≤ L) (ex3 : x3 = nI i) {σ τ : ST} (hR : Rl σ τ) (hl : lv_has ls 4 [(0, .ref b), (1, .ref (ea E1 0)), (2, .ref (ea E2 0)), (3, .int x3)]) (hP1 : va_P (eD E1) vwCl (xW E1 σ) H) (hP2 : va_P (eD E2) vwCl (mW E2 τ) H) (hS : va_S (lawA s) s.heap H locs) (kk : ∀ (σ τ : ST) (H : Heap) (locs : List Loc), Rl σ τ → va_P (eD E1) vwCl (xW E1 σ) H → va_P (eD E2) vwCl (mW E2 τ) H → va_S (lawA s) s.heap H locs → W p l e room_1 s m #[Value.ref b] below meth c H locs 70 1905 Q (F0 m 987 ls [])) : W p l e room_1 s m #[Value.ref b] below meth c H locs 70 1905 Q (F0 m 199 ls []) := by
  obtain ⟨hx, hb, hml, hown, hts, hrt, hlk, hX, hbl, hL, hD1, hD2, hs1, hs2, hdis, hK1, hK2, k1, k2⟩ := id C
  have hbA : ¬ lawA s b := Nat.not_le.mpr hbl
  obtain ⟨r, σ2, τ2, e1, e2, hR2⟩ := S.2.1  σ τ hR
  refine lv_aload_n hx hb dL_law_199 rfl (lv_at hl 1 rfl) ?_
  refine law_xi (F1 := (r, σ2)) C hP2 hS (va_runV (As := []) (rest := []) ⟨hx, hb, hml, hown, hts⟩ (kX4_town l E1 hD1  σ (r, σ2) e1) (cwV 0 hts (gU_V u_135 u_136 u_137 u_2 u_138) rfl rfl rfl q_X4_town ⟨Nat.le_of_ble_eq_true rfl, Nat.le_of_ble_eq_true rfl⟩) (law_pre1 C hP1 hS) rfl rfl hl.1 rfl (lv_room (Nat.le_of_ble_eq_true rfl)) dL_law_200 ⟨Nat.le_of_ble_eq_true rfl, Nat.le_of_ble_eq_true rfl⟩) (fun H locs hP1 hP2 hS => ?_)
  refine lv_aload_n hx hb dL_law_203 rfl (lv_at hl 2 rfl) ?_
  refine law_mi (F1 := (r, τ2)) C hP1 hS (va_runV (As := []) (rest := [.int r]) ⟨hx, hb, hml, hown, hts⟩ (kX5_town l E2 hD2  τ (r, τ2) e2) (cwV 0 hts (gU_V u_342 u_343 u_344 u_5 u_345) rfl rfl rfl q_X5_town ⟨Nat.le_of_ble_eq_true rfl, Nat.le_of_ble_eq_true rfl⟩) (law_pre2 C hP2 hS) rfl rfl hl.1 rfl (lv_room (Nat.le_of_ble_eq_true rfl)) dL_law_204 ⟨Nat.le_of_ble_eq_true rfl, Nat.le_of_ble_eq_true rfl⟩) (fun H locs hP1 hP2 hS => ?_)
  exact lv_icmp_eq (tgt := 987) hx hb dL_law_207 (by decide) (fun _ => kk σ2 τ2 _ _ hR2 hP1 hP2 hS) (fun q => absurd rfl q)
set_option maxHeartbeats 4000000 in
set_option maxRecDepth 100000 in
theorem law_c2 {p : Program} {l : Launch} {e : Env} {s : State} {m : MethodId} {below : List Frame} {meth : Method} {c : Code} {H : Heap} {locs : List Loc} {Q : State → Prop} {ls : Array Slot} {E1 E2 : EN} {b L : Nat} {xs : Nat → Int32} (C : LC p s m meth c b L xs E1 E2) {Rl : ST → ST → Prop} (S : SIMS Rl) {i : Nat} {x3 : Int32} (hi : i + 4 ≤ L) (ex3 : x3 = nI i) {σ τ : ST} (hR : Rl σ τ) (hl : lv_has ls 4 [(0, .ref b), (1, .ref (ea E1 0)), (2, .ref (ea E2 0)), (3, .int x3)]) (hP1 : va_P (eD E1) vwCl (xW E1 σ) H) (hP2 : va_P (eD E2) vwCl (mW E2 τ) H) (hS : va_S (lawA s) s.heap H locs) (kk : ∀ (σ τ : ST) (H : Heap) (locs : List Loc), Rl σ τ → va_P (eD E1) vwCl (xW E1 σ) H → va_P (eD E2) vwCl (mW E2 τ) H → va_S (lawA s) s.heap H locs → W p l e room_1 s m #[Value.ref b] below meth c H locs 70 1905 Q (F0 m 987 ls [])) : W p l e room_1 s m #[Value.ref b] below meth c H locs 70 1905 Q (F0 m 212 ls []) := by
  obtain ⟨hx, hb, hml, hown, hts, hrt, hlk, hX, hbl, hL, hD1, hD2, hs1, hs2, hdis, hK1, hK2, k1, k2⟩ := id C
  have hbA : ¬ lawA s b := Nat.not_le.mpr hbl
  obtain ⟨r, σ2, τ2, e1, e2, hR2⟩ := S.2.2.1 (xs (Int32.toNatClampNeg (x3 + 1))) (xs (Int32.toNatClampNeg (x3 + 2))) σ τ hR
  refine lv_aload_n hx hb dL_law_212 rfl (lv_at hl 1 rfl) ?_
  refine lv_aload_n hx hb dL_law_213 rfl (lv_at hl 0 rfl) ?_
  refine lv_iload_n hx hb dL_law_214 rfl (lv_at hl 3 rfl) ?_
  refine lv_iconst (v := 1) hx hb dL_law_215 (by decide) ?_
  refine lv_iadd hx hb dL_law_216 ?_
  refine va_sld hx hb hX hbl hbA hS (law_in hi hL ex3 (j := 1) (by decide)) dL_law_217 ?_
  refine lv_aload_n hx hb dL_law_218 rfl (lv_at hl 0 rfl) ?_
  refine lv_iload_n hx hb dL_law_219 rfl (lv_at hl 3 rfl) ?_
  refine lv_iconst (v := 2) hx hb dL_law_220 (by decide) ?_
  refine lv_iadd hx hb dL_law_221 ?_
  refine va_sld hx hb hX hbl hbA hS (law_in hi hL ex3 (j := 2) (by decide)) dL_law_222 ?_
  refine law_xi (F1 := (r, σ2)) C hP2 hS (va_runV (As := [.int (xs (Int32.toNatClampNeg (x3 + 1))), .int (xs (Int32.toNatClampNeg (x3 + 2)))]) (rest := []) ⟨hx, hb, hml, hown, hts⟩ (kX4_place l E1 hD1 (xs (Int32.toNatClampNeg (x3 + 1))) (xs (Int32.toNatClampNeg (x3 + 2))) σ (r, σ2) e1) (cwV 2 hts (gU_V u_376 u_377 u_378 u_2 u_379) rfl rfl rfl q_X4_place ⟨Nat.le_of_ble_eq_true rfl, Nat.le_of_ble_eq_true rfl⟩) (law_pre1 C hP1 hS) rfl rfl hl.1 rfl (lv_room (Nat.le_of_ble_eq_true rfl)) dL_law_223 ⟨Nat.le_of_ble_eq_true rfl, Nat.le_of_ble_eq_true rfl⟩) (fun H locs hP1 hP2 hS => ?_)
  refine lv_aload_n hx hb dL_law_226 rfl (lv_at hl 2 rfl) ?_
  refine lv_aload_n hx hb dL_law_227 rfl (lv_at hl 0 rfl) ?_
  refine lv_iload_n hx hb dL_law_228 rfl (lv_at hl 3 rfl) ?_
  refine lv_iconst (v := 1) hx hb dL_law_229 (by decide) ?_
  refine lv_iadd hx hb dL_law_230 ?_
  refine va_sld hx hb hX hbl hbA hS (law_in hi hL ex3 (j := 1) (by decide)) dL_law_231 ?_
  refine lv_aload_n hx hb dL_law_232 rfl (lv_at hl 0 rfl) ?_
  refine lv_iload_n hx hb dL_law_233 rfl (lv_at hl 3 rfl) ?_
  refine lv_iconst (v := 2) hx hb dL_law_234 (by decide) ?_
  refine lv_iadd hx hb dL_law_235 ?_
  refine va_sld hx hb hX hbl hbA hS (law_in hi hL ex3 (j := 2) (by decide)) dL_law_236 ?_
  refine law_mi (F1 := (r, τ2)) C hP1 hS (va_runV (As := [.int (xs (Int32.toNatClampNeg (x3 + 1))), .int (xs (Int32.toNatClampNeg (x3 + 2)))]) (rest := [.int r]) ⟨hx, hb, hml, hown, hts⟩ (kX5_place l E2 hD2 (xs (Int32.toNatClampNeg (x3 + 1))) (xs (Int32.toNatClampNeg (x3 + 2))) τ (r, τ2) e2) (cwV 2 hts (gU_V u_406 u_407 u_408 u_5 u_409) rfl rfl rfl q_X5_place ⟨Nat.le_of_ble_eq_true rfl, Nat.le_of_ble_eq_true rfl⟩) (law_pre2 C hP2 hS) rfl rfl hl.1 rfl (lv_room (Nat.le_of_ble_eq_true rfl)) dL_law_237 ⟨Nat.le_of_ble_eq_true rfl, Nat.le_of_ble_eq_true rfl⟩) (fun H locs hP1 hP2 hS => ?_)
  exact lv_icmp_eq (tgt := 987) hx hb dL_law_240 (by decide) (fun _ => kk σ2 τ2 _ _ hR2 hP1 hP2 hS) (fun q => absurd rfl q)
set_option maxHeartbeats 4000000 in
set_option maxRecDepth 100000 in
theorem law_c3 {p : Program} {l : Launch} {e : Env} {s : State} {m : MethodId} {below : List Frame} {meth : Method} {c : Code} {H : Heap} {locs : List Loc} {Q : State → Prop} {ls : Array Slot} {E1 E2 : EN} {b L : Nat} {xs : Nat → Int32} (C : LC p s m meth c b L xs E1 E2) {Rl : ST → ST → Prop} (S : SIMS Rl) {i : Nat} {x3 : Int32} (hi : i + 4 ≤ L) (ex3 : x3 = nI i) {σ τ : ST} (hR : Rl σ τ) (hl : lv_has ls 4 [(0, .ref b), (1, .ref (ea E1 0)), (2, .ref (ea E2 0)), (3, .int x3)]) (hP1 : va_P (eD E1) vwCl (xW E1 σ) H) (hP2 : va_P (eD E2) vwCl (mW E2 τ) H) (hS : va_S (lawA s) s.heap H locs) (kk : ∀ (σ τ : ST) (H : Heap) (locs : List Loc), Rl σ τ → va_P (eD E1) vwCl (xW E1 σ) H → va_P (eD E2) vwCl (mW E2 τ) H → va_S (lawA s) s.heap H locs → W p l e room_1 s m #[Value.ref b] below meth c H locs 70 1905 Q (F0 m 987 ls [])) : W p l e room_1 s m #[Value.ref b] below meth c H locs 70 1905 Q (F0 m 245 ls []) := by
  obtain ⟨hx, hb, hml, hown, hts, hrt, hlk, hX, hbl, hL, hD1, hD2, hs1, hs2, hdis, hK1, hK2, k1, k2⟩ := id C
  have hbA : ¬ lawA s b := Nat.not_le.mpr hbl
  obtain ⟨r, σ2, τ2, e1, e2, hR2⟩ := S.2.2.2.1 (xs (Int32.toNatClampNeg (x3 + 1))) (xs (Int32.toNatClampNeg (x3 + 2))) σ τ hR
  refine lv_aload_n hx hb dL_law_245 rfl (lv_at hl 1 rfl) ?_
  refine lv_aload_n hx hb dL_law_246 rfl (lv_at hl 0 rfl) ?_
  refine lv_iload_n hx hb dL_law_247 rfl (lv_at hl 3 rfl) ?_
  refine lv_iconst (v := 1) hx hb dL_law_248 (by decide) ?_
  refine lv_iadd hx hb dL_law_249 ?_
  refine va_sld hx hb hX hbl hbA hS (law_in hi hL ex3 (j := 1) (by decide)) dL_law_250 ?_
  refine lv_aload_n hx hb dL_law_251 rfl (lv_at hl 0 rfl) ?_
  refine lv_iload_n hx hb dL_law_252 rfl (lv_at hl 3 rfl) ?_
  refine lv_iconst (v := 2) hx hb dL_law_253 (by decide) ?_
  refine lv_iadd hx hb dL_law_254 ?_
  refine va_sld hx hb hX hbl hbA hS (law_in hi hL ex3 (j := 2) (by decide)) dL_law_255 ?_
  refine law_xi (F1 := (r, σ2)) C hP2 hS (va_runV (As := [.int (xs (Int32.toNatClampNeg (x3 + 1))), .int (xs (Int32.toNatClampNeg (x3 + 2)))]) (rest := []) ⟨hx, hb, hml, hown, hts⟩ (kX4_slope l E1 hD1 (xs (Int32.toNatClampNeg (x3 + 1))) (xs (Int32.toNatClampNeg (x3 + 2))) σ (r, σ2) e1) (cwV 2 hts (gU_V u_430 u_431 u_432 u_2 u_433) rfl rfl rfl q_X4_slope ⟨Nat.le_of_ble_eq_true rfl, Nat.le_of_ble_eq_true rfl⟩) (law_pre1 C hP1 hS) rfl rfl hl.1 rfl (lv_room (Nat.le_of_ble_eq_true rfl)) dL_law_256 ⟨Nat.le_of_ble_eq_true rfl, Nat.le_of_ble_eq_true rfl⟩) (fun H locs hP1 hP2 hS => ?_)
  refine lv_aload_n hx hb dL_law_259 rfl (lv_at hl 2 rfl) ?_
  refine lv_aload_n hx hb dL_law_260 rfl (lv_at hl 0 rfl) ?_
  refine lv_iload_n hx hb dL_law_261 rfl (lv_at hl 3 rfl) ?_
  refine lv_iconst (v := 1) hx hb dL_law_262 (by decide) ?_
  refine lv_iadd hx hb dL_law_263 ?_
  refine va_sld hx hb hX hbl hbA hS (law_in hi hL ex3 (j := 1) (by decide)) dL_law_264 ?_
  refine lv_aload_n hx hb dL_law_265 rfl (lv_at hl 0 rfl) ?_
  refine lv_iload_n hx hb dL_law_266 rfl (lv_at hl 3 rfl) ?_
  refine lv_iconst (v := 2) hx hb dL_law_267 (by decide) ?_
  refine lv_iadd hx hb dL_law_268 ?_
  refine va_sld hx hb hX hbl hbA hS (law_in hi hL ex3 (j := 2) (by decide)) dL_law_269 ?_
  refine law_mi (F1 := (r, τ2)) C hP1 hS (va_runV (As := [.int (xs (Int32.toNatClampNeg (x3 + 1))), .int (xs (Int32.toNatClampNeg (x3 + 2)))]) (rest := [.int r]) ⟨hx, hb, hml, hown, hts⟩ (kX5_slope l E2 hD2 (xs (Int32.toNatClampNeg (x3 + 1))) (xs (Int32.toNatClampNeg (x3 + 2))) τ (r, τ2) e2) (cwV 2 hts (gU_V u_434 u_435 u_436 u_5 u_437) rfl rfl rfl q_X5_slope ⟨Nat.le_of_ble_eq_true rfl, Nat.le_of_ble_eq_true rfl⟩) (law_pre2 C hP2 hS) rfl rfl hl.1 rfl (lv_room (Nat.le_of_ble_eq_true rfl)) dL_law_270 ⟨Nat.le_of_ble_eq_true rfl, Nat.le_of_ble_eq_true rfl⟩) (fun H locs hP1 hP2 hS => ?_)
  exact lv_icmp_eq (tgt := 987) hx hb dL_law_273 (by decide) (fun _ => kk σ2 τ2 _ _ hR2 hP1 hP2 hS) (fun q => absurd rfl q)
set_option maxHeartbeats 4000000 in
set_option maxRecDepth 100000 in
theorem law_c4 {p : Program} {l : Launch} {e : Env} {s : State} {m : MethodId} {below : List Frame} {meth : Method} {c : Code} {H : Heap} {locs : List Loc} {Q : State → Prop} {ls : Array Slot} {E1 E2 : EN} {b L : Nat} {xs : Nat → Int32} (C : LC p s m meth c b L xs E1 E2) {Rl : ST → ST → Prop} (S : SIMS Rl) {i : Nat} {x3 : Int32} (hi : i + 4 ≤ L) (ex3 : x3 = nI i) {σ τ : ST} (hR : Rl σ τ) (hl : lv_has ls 4 [(0, .ref b), (1, .ref (ea E1 0)), (2, .ref (ea E2 0)), (3, .int x3)]) (hP1 : va_P (eD E1) vwCl (xW E1 σ) H) (hP2 : va_P (eD E2) vwCl (mW E2 τ) H) (hS : va_S (lawA s) s.heap H locs) (kk : ∀ (σ τ : ST) (H : Heap) (locs : List Loc), Rl σ τ → va_P (eD E1) vwCl (xW E1 σ) H → va_P (eD E2) vwCl (mW E2 τ) H → va_S (lawA s) s.heap H locs → W p l e room_1 s m #[Value.ref b] below meth c H locs 70 1905 Q (F0 m 987 ls [])) : W p l e room_1 s m #[Value.ref b] below meth c H locs 70 1905 Q (F0 m 278 ls []) := by
  obtain ⟨hx, hb, hml, hown, hts, hrt, hlk, hX, hbl, hL, hD1, hD2, hs1, hs2, hdis, hK1, hK2, k1, k2⟩ := id C
  have hbA : ¬ lawA s b := Nat.not_le.mpr hbl
  obtain ⟨r, σ2, τ2, e1, e2, hR2⟩ := S.2.2.2.2.1 (xs (Int32.toNatClampNeg (x3 + 1))) (xs (Int32.toNatClampNeg (x3 + 2))) σ τ hR
  refine lv_aload_n hx hb dL_law_278 rfl (lv_at hl 1 rfl) ?_
  refine lv_aload_n hx hb dL_law_279 rfl (lv_at hl 0 rfl) ?_
  refine lv_iload_n hx hb dL_law_280 rfl (lv_at hl 3 rfl) ?_
  refine lv_iconst (v := 1) hx hb dL_law_281 (by decide) ?_
  refine lv_iadd hx hb dL_law_282 ?_
  refine va_sld hx hb hX hbl hbA hS (law_in hi hL ex3 (j := 1) (by decide)) dL_law_283 ?_
  refine lv_aload_n hx hb dL_law_284 rfl (lv_at hl 0 rfl) ?_
  refine lv_iload_n hx hb dL_law_285 rfl (lv_at hl 3 rfl) ?_
  refine lv_iconst (v := 2) hx hb dL_law_286 (by decide) ?_
  refine lv_iadd hx hb dL_law_287 ?_
  refine va_sld hx hb hX hbl hbA hS (law_in hi hL ex3 (j := 2) (by decide)) dL_law_288 ?_
  refine law_xi (F1 := (r, σ2)) C hP2 hS (va_runV (As := [.int (xs (Int32.toNatClampNeg (x3 + 1))), .int (xs (Int32.toNatClampNeg (x3 + 2)))]) (rest := []) ⟨hx, hb, hml, hown, hts⟩ (kX4_errand l E1 hD1 (xs (Int32.toNatClampNeg (x3 + 1))) (xs (Int32.toNatClampNeg (x3 + 2))) σ (r, σ2) e1) (cwV 2 hts (gU_V u_442 u_443 u_444 u_2 u_445) rfl rfl rfl q_X4_errand ⟨Nat.le_of_ble_eq_true rfl, Nat.le_of_ble_eq_true rfl⟩) (law_pre1 C hP1 hS) rfl rfl hl.1 rfl (lv_room (Nat.le_of_ble_eq_true rfl)) dL_law_289 ⟨Nat.le_of_ble_eq_true rfl, Nat.le_of_ble_eq_true rfl⟩) (fun H locs hP1 hP2 hS => ?_)
  refine lv_aload_n hx hb dL_law_292 rfl (lv_at hl 2 rfl) ?_
  refine lv_aload_n hx hb dL_law_293 rfl (lv_at hl 0 rfl) ?_
  refine lv_iload_n hx hb dL_law_294 rfl (lv_at hl 3 rfl) ?_
  refine lv_iconst (v := 1) hx hb dL_law_295 (by decide) ?_
  refine lv_iadd hx hb dL_law_296 ?_
  refine va_sld hx hb hX hbl hbA hS (law_in hi hL ex3 (j := 1) (by decide)) dL_law_297 ?_
  refine lv_aload_n hx hb dL_law_298 rfl (lv_at hl 0 rfl) ?_
  refine lv_iload_n hx hb dL_law_299 rfl (lv_at hl 3 rfl) ?_
  refine lv_iconst (v := 2) hx hb dL_law_300 (by decide) ?_
  refine lv_iadd hx hb dL_law_301 ?_
  refine va_sld hx hb hX hbl hbA hS (law_in hi hL ex3 (j := 2) (by decide)) dL_law_302 ?_
  refine law_mi (F1 := (r, τ2)) C hP1 hS (va_runV (As := [.int (xs (Int32.toNatClampNeg (x3 + 1))), .int (xs (Int32.toNatClampNeg (x3 + 2)))]) (rest := [.int r]) ⟨hx, hb, hml, hown, hts⟩ (kX5_errand l E2 hD2 (xs (Int32.toNatClampNeg (x3 + 1))) (xs (Int32.toNatClampNeg (x3 + 2))) τ (r, τ2) e2) (cwV 2 hts (gU_V u_451 u_452 u_453 u_5 u_454) rfl rfl rfl q_X5_errand ⟨Nat.le_of_ble_eq_true rfl, Nat.le_of_ble_eq_true rfl⟩) (law_pre2 C hP2 hS) rfl rfl hl.1 rfl (lv_room (Nat.le_of_ble_eq_true rfl)) dL_law_303 ⟨Nat.le_of_ble_eq_true rfl, Nat.le_of_ble_eq_true rfl⟩) (fun H locs hP1 hP2 hS => ?_)
  exact lv_icmp_eq (tgt := 987) hx hb dL_law_306 (by decide) (fun _ => kk σ2 τ2 _ _ hR2 hP1 hP2 hS) (fun q => absurd rfl q)
set_option maxHeartbeats 4000000 in
set_option maxRecDepth 100000 in
theorem law_c5 {p : Program} {l : Launch} {e : Env} {s : State} {m : MethodId} {below : List Frame} {meth : Method} {c : Code} {H : Heap} {locs : List Loc} {Q : State → Prop} {ls : Array Slot} {E1 E2 : EN} {b L : Nat} {xs : Nat → Int32} (C : LC p s m meth c b L xs E1 E2) {Rl : ST → ST → Prop} (S : SIMS Rl) {i : Nat} {x3 : Int32} (hi : i + 4 ≤ L) (ex3 : x3 = nI i) {σ τ : ST} (hR : Rl σ τ) (hl : lv_has ls 4 [(0, .ref b), (1, .ref (ea E1 0)), (2, .ref (ea E2 0)), (3, .int x3)]) (hP1 : va_P (eD E1) vwCl (xW E1 σ) H) (hP2 : va_P (eD E2) vwCl (mW E2 τ) H) (hS : va_S (lawA s) s.heap H locs) (kk : ∀ (σ τ : ST) (H : Heap) (locs : List Loc), Rl σ τ → va_P (eD E1) vwCl (xW E1 σ) H → va_P (eD E2) vwCl (mW E2 τ) H → va_S (lawA s) s.heap H locs → W p l e room_1 s m #[Value.ref b] below meth c H locs 70 1905 Q (F0 m 987 ls [])) : W p l e room_1 s m #[Value.ref b] below meth c H locs 70 1905 Q (F0 m 311 ls []) := by
  obtain ⟨hx, hb, hml, hown, hts, hrt, hlk, hX, hbl, hL, hD1, hD2, hs1, hs2, hdis, hK1, hK2, k1, k2⟩ := id C
  have hbA : ¬ lawA s b := Nat.not_le.mpr hbl
  obtain ⟨r, σ2, τ2, e1, e2, hR2⟩ := S.2.2.2.2.2.1 (xs (Int32.toNatClampNeg (x3 + 1))) (xs (Int32.toNatClampNeg (x3 + 2))) σ τ hR
  refine lv_aload_n hx hb dL_law_311 rfl (lv_at hl 1 rfl) ?_
  refine lv_aload_n hx hb dL_law_312 rfl (lv_at hl 0 rfl) ?_
  refine lv_iload_n hx hb dL_law_313 rfl (lv_at hl 3 rfl) ?_
  refine lv_iconst (v := 1) hx hb dL_law_314 (by decide) ?_
  refine lv_iadd hx hb dL_law_315 ?_
  refine va_sld hx hb hX hbl hbA hS (law_in hi hL ex3 (j := 1) (by decide)) dL_law_316 ?_
  refine lv_aload_n hx hb dL_law_317 rfl (lv_at hl 0 rfl) ?_
  refine lv_iload_n hx hb dL_law_318 rfl (lv_at hl 3 rfl) ?_
  refine lv_iconst (v := 2) hx hb dL_law_319 (by decide) ?_
  refine lv_iadd hx hb dL_law_320 ?_
  refine va_sld hx hb hX hbl hbA hS (law_in hi hL ex3 (j := 2) (by decide)) dL_law_321 ?_
  refine law_xi (F1 := (r, σ2)) C hP2 hS (va_runV (As := [.int (xs (Int32.toNatClampNeg (x3 + 1))), .int (xs (Int32.toNatClampNeg (x3 + 2)))]) (rest := []) ⟨hx, hb, hml, hown, hts⟩ (kX4_set l E1 hD1 (xs (Int32.toNatClampNeg (x3 + 1))) (xs (Int32.toNatClampNeg (x3 + 2))) σ (r, σ2) e1) (cwV 2 hts (gU_V u_455 u_456 u_457 u_2 u_458) rfl rfl rfl q_X4_set ⟨Nat.le_of_ble_eq_true rfl, Nat.le_of_ble_eq_true rfl⟩) (law_pre1 C hP1 hS) rfl rfl hl.1 rfl (lv_room (Nat.le_of_ble_eq_true rfl)) dL_law_322 ⟨Nat.le_of_ble_eq_true rfl, Nat.le_of_ble_eq_true rfl⟩) (fun H locs hP1 hP2 hS => ?_)
  refine lv_aload_n hx hb dL_law_325 rfl (lv_at hl 2 rfl) ?_
  refine lv_aload_n hx hb dL_law_326 rfl (lv_at hl 0 rfl) ?_
  refine lv_iload_n hx hb dL_law_327 rfl (lv_at hl 3 rfl) ?_
  refine lv_iconst (v := 1) hx hb dL_law_328 (by decide) ?_
  refine lv_iadd hx hb dL_law_329 ?_
  refine va_sld hx hb hX hbl hbA hS (law_in hi hL ex3 (j := 1) (by decide)) dL_law_330 ?_
  refine lv_aload_n hx hb dL_law_331 rfl (lv_at hl 0 rfl) ?_
  refine lv_iload_n hx hb dL_law_332 rfl (lv_at hl 3 rfl) ?_
  refine lv_iconst (v := 2) hx hb dL_law_333 (by decide) ?_
  refine lv_iadd hx hb dL_law_334 ?_
  refine va_sld hx hb hX hbl hbA hS (law_in hi hL ex3 (j := 2) (by decide)) dL_law_335 ?_
  refine law_mi (F1 := (r, τ2)) C hP1 hS (va_runV (As := [.int (xs (Int32.toNatClampNeg (x3 + 1))), .int (xs (Int32.toNatClampNeg (x3 + 2)))]) (rest := [.int r]) ⟨hx, hb, hml, hown, hts⟩ (kX5_set l E2 hD2 (xs (Int32.toNatClampNeg (x3 + 1))) (xs (Int32.toNatClampNeg (x3 + 2))) τ (r, τ2) e2) (cwV 2 hts (gU_V u_469 u_470 u_471 u_5 u_472) rfl rfl rfl q_X5_set ⟨Nat.le_of_ble_eq_true rfl, Nat.le_of_ble_eq_true rfl⟩) (law_pre2 C hP2 hS) rfl rfl hl.1 rfl (lv_room (Nat.le_of_ble_eq_true rfl)) dL_law_336 ⟨Nat.le_of_ble_eq_true rfl, Nat.le_of_ble_eq_true rfl⟩) (fun H locs hP1 hP2 hS => ?_)
  exact lv_icmp_eq (tgt := 987) hx hb dL_law_339 (by decide) (fun _ => kk σ2 τ2 _ _ hR2 hP1 hP2 hS) (fun q => absurd rfl q)
set_option maxHeartbeats 4000000 in
set_option maxRecDepth 100000 in
theorem law_c6 {p : Program} {l : Launch} {e : Env} {s : State} {m : MethodId} {below : List Frame} {meth : Method} {c : Code} {H : Heap} {locs : List Loc} {Q : State → Prop} {ls : Array Slot} {E1 E2 : EN} {b L : Nat} {xs : Nat → Int32} (C : LC p s m meth c b L xs E1 E2) {Rl : ST → ST → Prop} (S : SIMS Rl) {i : Nat} {x3 : Int32} (hi : i + 4 ≤ L) (ex3 : x3 = nI i) {σ τ : ST} (hR : Rl σ τ) (hl : lv_has ls 4 [(0, .ref b), (1, .ref (ea E1 0)), (2, .ref (ea E2 0)), (3, .int x3)]) (hP1 : va_P (eD E1) vwCl (xW E1 σ) H) (hP2 : va_P (eD E2) vwCl (mW E2 τ) H) (hS : va_S (lawA s) s.heap H locs) (kk : ∀ (σ τ : ST) (H : Heap) (locs : List Loc), Rl σ τ → va_P (eD E1) vwCl (xW E1 σ) H → va_P (eD E2) vwCl (mW E2 τ) H → va_S (lawA s) s.heap H locs → W p l e room_1 s m #[Value.ref b] below meth c H locs 70 1905 Q (F0 m 987 ls [])) : W p l e room_1 s m #[Value.ref b] below meth c H locs 70 1905 Q (F0 m 344 ls []) := by
  obtain ⟨hx, hb, hml, hown, hts, hrt, hlk, hX, hbl, hL, hD1, hD2, hs1, hs2, hdis, hK1, hK2, k1, k2⟩ := id C
  have hbA : ¬ lawA s b := Nat.not_le.mpr hbl
  obtain ⟨r, σ2, τ2, e1, e2, hR2⟩ := S.2.2.2.2.2.2.1 (xs (Int32.toNatClampNeg (x3 + 1))) (xs (Int32.toNatClampNeg (x3 + 2))) (xs (Int32.toNatClampNeg (x3 + 3))) σ τ hR
  refine lv_aload_n hx hb dL_law_344 rfl (lv_at hl 1 rfl) ?_
  refine lv_aload_n hx hb dL_law_345 rfl (lv_at hl 0 rfl) ?_
  refine lv_iload_n hx hb dL_law_346 rfl (lv_at hl 3 rfl) ?_
  refine lv_iconst (v := 1) hx hb dL_law_347 (by decide) ?_
  refine lv_iadd hx hb dL_law_348 ?_
  refine va_sld hx hb hX hbl hbA hS (law_in hi hL ex3 (j := 1) (by decide)) dL_law_349 ?_
  refine lv_aload_n hx hb dL_law_350 rfl (lv_at hl 0 rfl) ?_
  refine lv_iload_n hx hb dL_law_351 rfl (lv_at hl 3 rfl) ?_
  refine lv_iconst (v := 2) hx hb dL_law_352 (by decide) ?_
  refine lv_iadd hx hb dL_law_353 ?_
  refine va_sld hx hb hX hbl hbA hS (law_in hi hL ex3 (j := 2) (by decide)) dL_law_354 ?_
  refine lv_aload_n hx hb dL_law_355 rfl (lv_at hl 0 rfl) ?_
  refine lv_iload_n hx hb dL_law_356 rfl (lv_at hl 3 rfl) ?_
  refine lv_iconst (v := 3) hx hb dL_law_357 (by decide) ?_
  refine lv_iadd hx hb dL_law_358 ?_
  refine va_sld hx hb hX hbl hbA hS (law_in hi hL ex3 (j := 3) (by decide)) dL_law_359 ?_
  refine law_xi (F1 := (r, σ2)) C hP2 hS (va_runV (As := [.int (xs (Int32.toNatClampNeg (x3 + 1))), .int (xs (Int32.toNatClampNeg (x3 + 2))), .int (xs (Int32.toNatClampNeg (x3 + 3)))]) (rest := []) ⟨hx, hb, hml, hown, hts⟩ (kX4_leg l E1 hD1 (xs (Int32.toNatClampNeg (x3 + 1))) (xs (Int32.toNatClampNeg (x3 + 2))) (xs (Int32.toNatClampNeg (x3 + 3))) σ (r, σ2) e1) (cwV 3 hts (gU_V u_473 u_474 u_475 u_2 u_476) rfl rfl rfl q_X4_leg ⟨Nat.le_of_ble_eq_true rfl, Nat.le_of_ble_eq_true rfl⟩) (law_pre1 C hP1 hS) rfl rfl hl.1 rfl (lv_room (Nat.le_of_ble_eq_true rfl)) dL_law_360 ⟨Nat.le_of_ble_eq_true rfl, Nat.le_of_ble_eq_true rfl⟩) (fun H locs hP1 hP2 hS => ?_)
  refine lv_aload_n hx hb dL_law_363 rfl (lv_at hl 2 rfl) ?_
  refine lv_aload_n hx hb dL_law_364 rfl (lv_at hl 0 rfl) ?_
  refine lv_iload_n hx hb dL_law_365 rfl (lv_at hl 3 rfl) ?_
  refine lv_iconst (v := 1) hx hb dL_law_366 (by decide) ?_
  refine lv_iadd hx hb dL_law_367 ?_
  refine va_sld hx hb hX hbl hbA hS (law_in hi hL ex3 (j := 1) (by decide)) dL_law_368 ?_
  refine lv_aload_n hx hb dL_law_369 rfl (lv_at hl 0 rfl) ?_
  refine lv_iload_n hx hb dL_law_370 rfl (lv_at hl 3 rfl) ?_
  refine lv_iconst (v := 2) hx hb dL_law_371 (by decide) ?_
  refine lv_iadd hx hb dL_law_372 ?_
  refine va_sld hx hb hX hbl hbA hS (law_in hi hL ex3 (j := 2) (by decide)) dL_law_373 ?_
  refine lv_aload_n hx hb dL_law_374 rfl (lv_at hl 0 rfl) ?_
  refine lv_iload_n hx hb dL_law_375 rfl (lv_at hl 3 rfl) ?_
  refine lv_iconst (v := 3) hx hb dL_law_376 (by decide) ?_
  refine lv_iadd hx hb dL_law_377 ?_
  refine va_sld hx hb hX hbl hbA hS (law_in hi hL ex3 (j := 3) (by decide)) dL_law_378 ?_
  refine law_mi (F1 := (r, τ2)) C hP1 hS (va_runV (As := [.int (xs (Int32.toNatClampNeg (x3 + 1))), .int (xs (Int32.toNatClampNeg (x3 + 2))), .int (xs (Int32.toNatClampNeg (x3 + 3)))]) (rest := [.int r]) ⟨hx, hb, hml, hown, hts⟩ (kX5_leg l E2 hD2 (xs (Int32.toNatClampNeg (x3 + 1))) (xs (Int32.toNatClampNeg (x3 + 2))) (xs (Int32.toNatClampNeg (x3 + 3))) τ (r, τ2) e2) (cwV 3 hts (gU_V u_489 u_490 u_491 u_5 u_492) rfl rfl rfl q_X5_leg ⟨Nat.le_of_ble_eq_true rfl, Nat.le_of_ble_eq_true rfl⟩) (law_pre2 C hP2 hS) rfl rfl hl.1 rfl (lv_room (Nat.le_of_ble_eq_true rfl)) dL_law_379 ⟨Nat.le_of_ble_eq_true rfl, Nat.le_of_ble_eq_true rfl⟩) (fun H locs hP1 hP2 hS => ?_)
  exact lv_icmp_eq (tgt := 987) hx hb dL_law_382 (by decide) (fun _ => kk σ2 τ2 _ _ hR2 hP1 hP2 hS) (fun q => absurd rfl q)
set_option maxHeartbeats 4000000 in
set_option maxRecDepth 100000 in
theorem law_c7 {p : Program} {l : Launch} {e : Env} {s : State} {m : MethodId} {below : List Frame} {meth : Method} {c : Code} {H : Heap} {locs : List Loc} {Q : State → Prop} {ls : Array Slot} {E1 E2 : EN} {b L : Nat} {xs : Nat → Int32} (C : LC p s m meth c b L xs E1 E2) {Rl : ST → ST → Prop} (S : SIMS Rl) {i : Nat} {x3 : Int32} (hi : i + 4 ≤ L) (ex3 : x3 = nI i) {σ τ : ST} (hR : Rl σ τ) (hl : lv_has ls 4 [(0, .ref b), (1, .ref (ea E1 0)), (2, .ref (ea E2 0)), (3, .int x3)]) (hP1 : va_P (eD E1) vwCl (xW E1 σ) H) (hP2 : va_P (eD E2) vwCl (mW E2 τ) H) (hS : va_S (lawA s) s.heap H locs) (kk : ∀ (σ τ : ST) (H : Heap) (locs : List Loc), Rl σ τ → va_P (eD E1) vwCl (xW E1 σ) H → va_P (eD E2) vwCl (mW E2 τ) H → va_S (lawA s) s.heap H locs → W p l e room_1 s m #[Value.ref b] below meth c H locs 70 1905 Q (F0 m 987 ls [])) : W p l e room_1 s m #[Value.ref b] below meth c H locs 70 1905 Q (F0 m 387 ls []) := by
  obtain ⟨hx, hb, hml, hown, hts, hrt, hlk, hX, hbl, hL, hD1, hD2, hs1, hs2, hdis, hK1, hK2, k1, k2⟩ := id C
  have hbA : ¬ lawA s b := Nat.not_le.mpr hbl
  obtain ⟨r, σ2, τ2, e1, e2, hR2⟩ := S.2.2.2.2.2.2.2.1 (xs (Int32.toNatClampNeg (x3 + 1))) (xs (Int32.toNatClampNeg (x3 + 2))) (xs (Int32.toNatClampNeg (x3 + 3))) σ τ hR
  refine lv_aload_n hx hb dL_law_387 rfl (lv_at hl 1 rfl) ?_
  refine lv_aload_n hx hb dL_law_388 rfl (lv_at hl 0 rfl) ?_
  refine lv_iload_n hx hb dL_law_389 rfl (lv_at hl 3 rfl) ?_
  refine lv_iconst (v := 1) hx hb dL_law_390 (by decide) ?_
  refine lv_iadd hx hb dL_law_391 ?_
  refine va_sld hx hb hX hbl hbA hS (law_in hi hL ex3 (j := 1) (by decide)) dL_law_392 ?_
  refine lv_aload_n hx hb dL_law_393 rfl (lv_at hl 0 rfl) ?_
  refine lv_iload_n hx hb dL_law_394 rfl (lv_at hl 3 rfl) ?_
  refine lv_iconst (v := 2) hx hb dL_law_395 (by decide) ?_
  refine lv_iadd hx hb dL_law_396 ?_
  refine va_sld hx hb hX hbl hbA hS (law_in hi hL ex3 (j := 2) (by decide)) dL_law_397 ?_
  refine lv_aload_n hx hb dL_law_398 rfl (lv_at hl 0 rfl) ?_
  refine lv_iload_n hx hb dL_law_399 rfl (lv_at hl 3 rfl) ?_
  refine lv_iconst (v := 3) hx hb dL_law_400 (by decide) ?_
  refine lv_iadd hx hb dL_law_401 ?_
  refine va_sld hx hb hX hbl hbA hS (law_in hi hL ex3 (j := 3) (by decide)) dL_law_402 ?_
  refine law_xi (F1 := (r, σ2)) C hP2 hS (va_runV (As := [.int (xs (Int32.toNatClampNeg (x3 + 1))), .int (xs (Int32.toNatClampNeg (x3 + 2))), .int (xs (Int32.toNatClampNeg (x3 + 3)))]) (rest := []) ⟨hx, hb, hml, hown, hts⟩ (kX4_safe l E1 hD1 (xs (Int32.toNatClampNeg (x3 + 1))) (xs (Int32.toNatClampNeg (x3 + 2))) (xs (Int32.toNatClampNeg (x3 + 3))) σ (r, σ2) e1) (cwV 3 hts (gU_V u_506 u_507 u_508 u_2 u_509) rfl rfl rfl q_X4_safe ⟨Nat.le_of_ble_eq_true rfl, Nat.le_of_ble_eq_true rfl⟩) (law_pre1 C hP1 hS) rfl rfl hl.1 rfl (lv_room (Nat.le_of_ble_eq_true rfl)) dL_law_403 ⟨Nat.le_of_ble_eq_true rfl, Nat.le_of_ble_eq_true rfl⟩) (fun H locs hP1 hP2 hS => ?_)
  refine lv_aload_n hx hb dL_law_406 rfl (lv_at hl 2 rfl) ?_
  refine lv_aload_n hx hb dL_law_407 rfl (lv_at hl 0 rfl) ?_
  refine lv_iload_n hx hb dL_law_408 rfl (lv_at hl 3 rfl) ?_
  refine lv_iconst (v := 1) hx hb dL_law_409 (by decide) ?_
  refine lv_iadd hx hb dL_law_410 ?_
  refine va_sld hx hb hX hbl hbA hS (law_in hi hL ex3 (j := 1) (by decide)) dL_law_411 ?_
  refine lv_aload_n hx hb dL_law_412 rfl (lv_at hl 0 rfl) ?_
  refine lv_iload_n hx hb dL_law_413 rfl (lv_at hl 3 rfl) ?_
  refine lv_iconst (v := 2) hx hb dL_law_414 (by decide) ?_
  refine lv_iadd hx hb dL_law_415 ?_
  refine va_sld hx hb hX hbl hbA hS (law_in hi hL ex3 (j := 2) (by decide)) dL_law_416 ?_
  refine lv_aload_n hx hb dL_law_417 rfl (lv_at hl 0 rfl) ?_
  refine lv_iload_n hx hb dL_law_418 rfl (lv_at hl 3 rfl) ?_
  refine lv_iconst (v := 3) hx hb dL_law_419 (by decide) ?_
  refine lv_iadd hx hb dL_law_420 ?_
  refine va_sld hx hb hX hbl hbA hS (law_in hi hL ex3 (j := 3) (by decide)) dL_law_421 ?_
  refine law_mi (F1 := (r, τ2)) C hP1 hS (va_runV (As := [.int (xs (Int32.toNatClampNeg (x3 + 1))), .int (xs (Int32.toNatClampNeg (x3 + 2))), .int (xs (Int32.toNatClampNeg (x3 + 3)))]) (rest := [.int r]) ⟨hx, hb, hml, hown, hts⟩ (kX5_safe l E2 hD2 (xs (Int32.toNatClampNeg (x3 + 1))) (xs (Int32.toNatClampNeg (x3 + 2))) (xs (Int32.toNatClampNeg (x3 + 3))) τ (r, τ2) e2) (cwV 3 hts (gU_V u_510 u_511 u_512 u_5 u_513) rfl rfl rfl q_X5_safe ⟨Nat.le_of_ble_eq_true rfl, Nat.le_of_ble_eq_true rfl⟩) (law_pre2 C hP2 hS) rfl rfl hl.1 rfl (lv_room (Nat.le_of_ble_eq_true rfl)) dL_law_422 ⟨Nat.le_of_ble_eq_true rfl, Nat.le_of_ble_eq_true rfl⟩) (fun H locs hP1 hP2 hS => ?_)
  exact lv_icmp_eq (tgt := 987) hx hb dL_law_425 (by decide) (fun _ => kk σ2 τ2 _ _ hR2 hP1 hP2 hS) (fun q => absurd rfl q)
set_option maxHeartbeats 4000000 in
set_option maxRecDepth 100000 in
theorem law_c8 {p : Program} {l : Launch} {e : Env} {s : State} {m : MethodId} {below : List Frame} {meth : Method} {c : Code} {H : Heap} {locs : List Loc} {Q : State → Prop} {ls : Array Slot} {E1 E2 : EN} {b L : Nat} {xs : Nat → Int32} (C : LC p s m meth c b L xs E1 E2) {Rl : ST → ST → Prop} (S : SIMS Rl) {i : Nat} {x3 : Int32} (hi : i + 4 ≤ L) (ex3 : x3 = nI i) {σ τ : ST} (hR : Rl σ τ) (hl : lv_has ls 4 [(0, .ref b), (1, .ref (ea E1 0)), (2, .ref (ea E2 0)), (3, .int x3)]) (hP1 : va_P (eD E1) vwCl (xW E1 σ) H) (hP2 : va_P (eD E2) vwCl (mW E2 τ) H) (hS : va_S (lawA s) s.heap H locs) (kk : ∀ (σ τ : ST) (H : Heap) (locs : List Loc), Rl σ τ → va_P (eD E1) vwCl (xW E1 σ) H → va_P (eD E2) vwCl (mW E2 τ) H → va_S (lawA s) s.heap H locs → W p l e room_1 s m #[Value.ref b] below meth c H locs 70 1905 Q (F0 m 987 ls [])) : W p l e room_1 s m #[Value.ref b] below meth c H locs 70 1905 Q (F0 m 430 ls []) := by
  obtain ⟨hx, hb, hml, hown, hts, hrt, hlk, hX, hbl, hL, hD1, hD2, hs1, hs2, hdis, hK1, hK2, k1, k2⟩ := id C
  have hbA : ¬ lawA s b := Nat.not_le.mpr hbl
  obtain ⟨r, σ2, τ2, e1, e2, hR2⟩ := S.2.2.2.2.2.2.2.2.1 (xs (Int32.toNatClampNeg (x3 + 1))) σ τ hR
  refine lv_aload_n hx hb dL_law_430 rfl (lv_at hl 1 rfl) ?_
  refine lv_aload_n hx hb dL_law_431 rfl (lv_at hl 0 rfl) ?_
  refine lv_iload_n hx hb dL_law_432 rfl (lv_at hl 3 rfl) ?_
  refine lv_iconst (v := 1) hx hb dL_law_433 (by decide) ?_
  refine lv_iadd hx hb dL_law_434 ?_
  refine va_sld hx hb hX hbl hbA hS (law_in hi hL ex3 (j := 1) (by decide)) dL_law_435 ?_
  refine law_xi (F1 := (r, σ2)) C hP2 hS (va_runV (As := [.int (xs (Int32.toNatClampNeg (x3 + 1)))]) (rest := []) ⟨hx, hb, hml, hown, hts⟩ (kX4_day l E1 hD1 (xs (Int32.toNatClampNeg (x3 + 1))) σ (r, σ2) e1) (cwV 1 hts (gU_V u_514 u_515 u_516 u_2 u_517) rfl rfl rfl q_X4_day ⟨Nat.le_of_ble_eq_true rfl, Nat.le_of_ble_eq_true rfl⟩) (law_pre1 C hP1 hS) rfl rfl hl.1 rfl (lv_room (Nat.le_of_ble_eq_true rfl)) dL_law_436 ⟨Nat.le_of_ble_eq_true rfl, Nat.le_of_ble_eq_true rfl⟩) (fun H locs hP1 hP2 hS => ?_)
  refine lv_aload_n hx hb dL_law_439 rfl (lv_at hl 2 rfl) ?_
  refine lv_aload_n hx hb dL_law_440 rfl (lv_at hl 0 rfl) ?_
  refine lv_iload_n hx hb dL_law_441 rfl (lv_at hl 3 rfl) ?_
  refine lv_iconst (v := 1) hx hb dL_law_442 (by decide) ?_
  refine lv_iadd hx hb dL_law_443 ?_
  refine va_sld hx hb hX hbl hbA hS (law_in hi hL ex3 (j := 1) (by decide)) dL_law_444 ?_
  refine law_mi (F1 := (r, τ2)) C hP1 hS (va_runV (As := [.int (xs (Int32.toNatClampNeg (x3 + 1)))]) (rest := [.int r]) ⟨hx, hb, hml, hown, hts⟩ (kX5_day l E2 hD2 (xs (Int32.toNatClampNeg (x3 + 1))) τ (r, τ2) e2) (cwV 1 hts (gU_V u_581 u_582 u_583 u_5 u_584) rfl rfl rfl q_X5_day ⟨Nat.le_of_ble_eq_true rfl, Nat.le_of_ble_eq_true rfl⟩) (law_pre2 C hP2 hS) rfl rfl hl.1 rfl (lv_room (Nat.le_of_ble_eq_true rfl)) dL_law_445 ⟨Nat.le_of_ble_eq_true rfl, Nat.le_of_ble_eq_true rfl⟩) (fun H locs hP1 hP2 hS => ?_)
  exact lv_icmp_eq (tgt := 987) hx hb dL_law_448 (by decide) (fun _ => kk σ2 τ2 _ _ hR2 hP1 hP2 hS) (fun q => absurd rfl q)
set_option maxHeartbeats 4000000 in
set_option maxRecDepth 100000 in
theorem law_c9 {p : Program} {l : Launch} {e : Env} {s : State} {m : MethodId} {below : List Frame} {meth : Method} {c : Code} {H : Heap} {locs : List Loc} {Q : State → Prop} {ls : Array Slot} {E1 E2 : EN} {b L : Nat} {xs : Nat → Int32} (C : LC p s m meth c b L xs E1 E2) {Rl : ST → ST → Prop} (S : SIMS Rl) {i : Nat} {x3 : Int32} (hi : i + 4 ≤ L) (ex3 : x3 = nI i) {σ τ : ST} (hR : Rl σ τ) (hl : lv_has ls 4 [(0, .ref b), (1, .ref (ea E1 0)), (2, .ref (ea E2 0)), (3, .int x3)]) (hP1 : va_P (eD E1) vwCl (xW E1 σ) H) (hP2 : va_P (eD E2) vwCl (mW E2 τ) H) (hS : va_S (lawA s) s.heap H locs) (kk : ∀ (σ τ : ST) (H : Heap) (locs : List Loc), Rl σ τ → va_P (eD E1) vwCl (xW E1 σ) H → va_P (eD E2) vwCl (mW E2 τ) H → va_S (lawA s) s.heap H locs → W p l e room_1 s m #[Value.ref b] below meth c H locs 70 1905 Q (F0 m 987 ls [])) : W p l e room_1 s m #[Value.ref b] below meth c H locs 70 1905 Q (F0 m 453 ls []) := by
  obtain ⟨hx, hb, hml, hown, hts, hrt, hlk, hX, hbl, hL, hD1, hD2, hs1, hs2, hdis, hK1, hK2, k1, k2⟩ := id C
  have hbA : ¬ lawA s b := Nat.not_le.mpr hbl
  obtain ⟨r, σ2, τ2, e1, e2, hR2⟩ := S.2.2.2.2.2.2.2.2.2.1 (xs (Int32.toNatClampNeg (x3 + 1))) σ τ hR
  refine lv_aload_n hx hb dL_law_453 rfl (lv_at hl 1 rfl) ?_
  refine lv_aload_n hx hb dL_law_454 rfl (lv_at hl 0 rfl) ?_
  refine lv_iload_n hx hb dL_law_455 rfl (lv_at hl 3 rfl) ?_
  refine lv_iconst (v := 1) hx hb dL_law_456 (by decide) ?_
  refine lv_iadd hx hb dL_law_457 ?_
  refine va_sld hx hb hX hbl hbA hS (law_in hi hL ex3 (j := 1) (by decide)) dL_law_458 ?_
  refine law_xl (F1 := (r, σ2)) C hP2 hS (va_runV (As := [.int (xs (Int32.toNatClampNeg (x3 + 1)))]) (rest := []) ⟨hx, hb, hml, hown, hts⟩ (kX4_likely l E1 hD1 (xs (Int32.toNatClampNeg (x3 + 1))) σ (r, σ2) e1) (cwV 1 hts (gU_V u_638 u_639 u_640 u_2 u_641) rfl rfl rfl q_X4_likely ⟨Nat.le_of_ble_eq_true rfl, Nat.le_of_ble_eq_true rfl⟩) (law_pre1 C hP1 hS) rfl rfl hl.1 rfl (lv_room (Nat.le_of_ble_eq_true rfl)) dL_law_459 ⟨Nat.le_of_ble_eq_true rfl, Nat.le_of_ble_eq_true rfl⟩) (fun H locs hP1 hP2 hS => ?_)
  refine lv_aload_n hx hb dL_law_462 rfl (lv_at hl 2 rfl) ?_
  refine lv_aload_n hx hb dL_law_463 rfl (lv_at hl 0 rfl) ?_
  refine lv_iload_n hx hb dL_law_464 rfl (lv_at hl 3 rfl) ?_
  refine lv_iconst (v := 1) hx hb dL_law_465 (by decide) ?_
  refine lv_iadd hx hb dL_law_466 ?_
  refine va_sld hx hb hX hbl hbA hS (law_in hi hL ex3 (j := 1) (by decide)) dL_law_467 ?_
  refine law_ml (F1 := (r, τ2)) C hP1 hS (va_runV (As := [.int (xs (Int32.toNatClampNeg (x3 + 1)))]) (rest := [.long r]) ⟨hx, hb, hml, hown, hts⟩ (kX5_likely l E2 hD2 (xs (Int32.toNatClampNeg (x3 + 1))) τ (r, τ2) e2) (cwV 1 hts (gU_V u_658 u_659 u_660 u_5 u_661) rfl rfl rfl q_X5_likely ⟨Nat.le_of_ble_eq_true rfl, Nat.le_of_ble_eq_true rfl⟩) (law_pre2 C hP2 hS) rfl rfl hl.1 rfl (lv_room (Nat.le_of_ble_eq_true rfl)) dL_law_468 ⟨Nat.le_of_ble_eq_true rfl, Nat.le_of_ble_eq_true rfl⟩) (fun H locs hP1 hP2 hS => ?_)
  refine W.lcmp hx hb dL_law_471 ?_
  exact lv_if_eq (tgt := 987) hx hb dL_law_472 (by decide) (fun _ => kk σ2 τ2 _ _ hR2 hP1 hP2 hS) (fun q => absurd (law_cmp r) q)
set_option maxHeartbeats 4000000 in
set_option maxRecDepth 100000 in
theorem law_c10 {p : Program} {l : Launch} {e : Env} {s : State} {m : MethodId} {below : List Frame} {meth : Method} {c : Code} {H : Heap} {locs : List Loc} {Q : State → Prop} {ls : Array Slot} {E1 E2 : EN} {b L : Nat} {xs : Nat → Int32} (C : LC p s m meth c b L xs E1 E2) {Rl : ST → ST → Prop} (S : SIMS Rl) {i : Nat} {x3 : Int32} (hi : i + 4 ≤ L) (ex3 : x3 = nI i) {σ τ : ST} (hR : Rl σ τ) (hl : lv_has ls 4 [(0, .ref b), (1, .ref (ea E1 0)), (2, .ref (ea E2 0)), (3, .int x3)]) (hP1 : va_P (eD E1) vwCl (xW E1 σ) H) (hP2 : va_P (eD E2) vwCl (mW E2 τ) H) (hS : va_S (lawA s) s.heap H locs) (kk : ∀ (σ τ : ST) (H : Heap) (locs : List Loc), Rl σ τ → va_P (eD E1) vwCl (xW E1 σ) H → va_P (eD E2) vwCl (mW E2 τ) H → va_S (lawA s) s.heap H locs → W p l e room_1 s m #[Value.ref b] below meth c H locs 70 1905 Q (F0 m 987 ls [])) : W p l e room_1 s m #[Value.ref b] below meth c H locs 70 1905 Q (F0 m 477 ls []) := by
  obtain ⟨hx, hb, hml, hown, hts, hrt, hlk, hX, hbl, hL, hD1, hD2, hs1, hs2, hdis, hK1, hK2, k1, k2⟩ := id C
  have hbA : ¬ lawA s b := Nat.not_le.mpr hbl
  obtain ⟨r, σ2, τ2, e1, e2, hR2⟩ := S.2.2.2.2.2.2.2.2.2.2.1 (xs (Int32.toNatClampNeg (x3 + 1))) σ τ hR
  refine lv_aload_n hx hb dL_law_477 rfl (lv_at hl 1 rfl) ?_
  refine lv_aload_n hx hb dL_law_478 rfl (lv_at hl 0 rfl) ?_
  refine lv_iload_n hx hb dL_law_479 rfl (lv_at hl 3 rfl) ?_
  refine lv_iconst (v := 1) hx hb dL_law_480 (by decide) ?_
  refine lv_iadd hx hb dL_law_481 ?_
  refine va_sld hx hb hX hbl hbA hS (law_in hi hL ex3 (j := 1) (by decide)) dL_law_482 ?_
  refine law_xl (F1 := (r, σ2)) C hP2 hS (va_runV (As := [.int (xs (Int32.toNatClampNeg (x3 + 1)))]) (rest := []) ⟨hx, hb, hml, hown, hts⟩ (kX4_worth l E1 hD1 (xs (Int32.toNatClampNeg (x3 + 1))) σ (r, σ2) e1) (cwV 1 hts (gU_V u_676 u_677 u_678 u_2 u_679) rfl rfl rfl q_X4_worth ⟨Nat.le_of_ble_eq_true rfl, Nat.le_of_ble_eq_true rfl⟩) (law_pre1 C hP1 hS) rfl rfl hl.1 rfl (lv_room (Nat.le_of_ble_eq_true rfl)) dL_law_483 ⟨Nat.le_of_ble_eq_true rfl, Nat.le_of_ble_eq_true rfl⟩) (fun H locs hP1 hP2 hS => ?_)
  refine lv_aload_n hx hb dL_law_486 rfl (lv_at hl 2 rfl) ?_
  refine lv_aload_n hx hb dL_law_487 rfl (lv_at hl 0 rfl) ?_
  refine lv_iload_n hx hb dL_law_488 rfl (lv_at hl 3 rfl) ?_
  refine lv_iconst (v := 1) hx hb dL_law_489 (by decide) ?_
  refine lv_iadd hx hb dL_law_490 ?_
  refine va_sld hx hb hX hbl hbA hS (law_in hi hL ex3 (j := 1) (by decide)) dL_law_491 ?_
  refine law_ml (F1 := (r, τ2)) C hP1 hS (va_runV (As := [.int (xs (Int32.toNatClampNeg (x3 + 1)))]) (rest := [.long r]) ⟨hx, hb, hml, hown, hts⟩ (kX5_worth l E2 hD2 (xs (Int32.toNatClampNeg (x3 + 1))) τ (r, τ2) e2) (cwV 1 hts (gU_V u_681 u_682 u_683 u_5 u_684) rfl rfl rfl q_X5_worth ⟨Nat.le_of_ble_eq_true rfl, Nat.le_of_ble_eq_true rfl⟩) (law_pre2 C hP2 hS) rfl rfl hl.1 rfl (lv_room (Nat.le_of_ble_eq_true rfl)) dL_law_492 ⟨Nat.le_of_ble_eq_true rfl, Nat.le_of_ble_eq_true rfl⟩) (fun H locs hP1 hP2 hS => ?_)
  refine W.lcmp hx hb dL_law_495 ?_
  exact lv_if_eq (tgt := 987) hx hb dL_law_496 (by decide) (fun _ => kk σ2 τ2 _ _ hR2 hP1 hP2 hS) (fun q => absurd (law_cmp r) q)
set_option maxHeartbeats 4000000 in
set_option maxRecDepth 100000 in
theorem law_c11 {p : Program} {l : Launch} {e : Env} {s : State} {m : MethodId} {below : List Frame} {meth : Method} {c : Code} {H : Heap} {locs : List Loc} {Q : State → Prop} {ls : Array Slot} {E1 E2 : EN} {b L : Nat} {xs : Nat → Int32} (C : LC p s m meth c b L xs E1 E2) {Rl : ST → ST → Prop} (S : SIMS Rl) {i : Nat} {x3 : Int32} (hi : i + 4 ≤ L) (ex3 : x3 = nI i) {σ τ : ST} (hR : Rl σ τ) (hl : lv_has ls 4 [(0, .ref b), (1, .ref (ea E1 0)), (2, .ref (ea E2 0)), (3, .int x3)]) (hP1 : va_P (eD E1) vwCl (xW E1 σ) H) (hP2 : va_P (eD E2) vwCl (mW E2 τ) H) (hS : va_S (lawA s) s.heap H locs) (kk : ∀ (σ τ : ST) (H : Heap) (locs : List Loc), Rl σ τ → va_P (eD E1) vwCl (xW E1 σ) H → va_P (eD E2) vwCl (mW E2 τ) H → va_S (lawA s) s.heap H locs → W p l e room_1 s m #[Value.ref b] below meth c H locs 70 1905 Q (F0 m 987 ls [])) : W p l e room_1 s m #[Value.ref b] below meth c H locs 70 1905 Q (F0 m 501 ls []) := by
  obtain ⟨hx, hb, hml, hown, hts, hrt, hlk, hX, hbl, hL, hD1, hD2, hs1, hs2, hdis, hK1, hK2, k1, k2⟩ := id C
  have hbA : ¬ lawA s b := Nat.not_le.mpr hbl
  obtain ⟨r, σ2, τ2, e1, e2, hR2⟩ := S.2.2.2.2.2.2.2.2.2.2.2.1 (xs (Int32.toNatClampNeg (x3 + 1))) (xs (Int32.toNatClampNeg (x3 + 2))) σ τ hR
  refine lv_aload_n hx hb dL_law_501 rfl (lv_at hl 1 rfl) ?_
  refine lv_aload_n hx hb dL_law_502 rfl (lv_at hl 0 rfl) ?_
  refine lv_iload_n hx hb dL_law_503 rfl (lv_at hl 3 rfl) ?_
  refine lv_iconst (v := 1) hx hb dL_law_504 (by decide) ?_
  refine lv_iadd hx hb dL_law_505 ?_
  refine va_sld hx hb hX hbl hbA hS (law_in hi hL ex3 (j := 1) (by decide)) dL_law_506 ?_
  refine lv_aload_n hx hb dL_law_507 rfl (lv_at hl 0 rfl) ?_
  refine lv_iload_n hx hb dL_law_508 rfl (lv_at hl 3 rfl) ?_
  refine lv_iconst (v := 2) hx hb dL_law_509 (by decide) ?_
  refine lv_iadd hx hb dL_law_510 ?_
  refine va_sld hx hb hX hbl hbA hS (law_in hi hL ex3 (j := 2) (by decide)) dL_law_511 ?_
  refine law_xi (F1 := (r, σ2)) C hP2 hS (va_runV (As := [.int (xs (Int32.toNatClampNeg (x3 + 1))), .int (xs (Int32.toNatClampNeg (x3 + 2)))]) (rest := []) ⟨hx, hb, hml, hown, hts⟩ (kX4_best l E1 hD1 (xs (Int32.toNatClampNeg (x3 + 1))) (xs (Int32.toNatClampNeg (x3 + 2))) σ (r, σ2) e1) (cwV 2 hts (gU_V u_685 u_686 u_687 u_2 u_688) rfl rfl rfl q_X4_best ⟨Nat.le_of_ble_eq_true rfl, Nat.le_of_ble_eq_true rfl⟩) (law_pre1 C hP1 hS) rfl rfl hl.1 rfl (lv_room (Nat.le_of_ble_eq_true rfl)) dL_law_512 ⟨Nat.le_of_ble_eq_true rfl, Nat.le_of_ble_eq_true rfl⟩) (fun H locs hP1 hP2 hS => ?_)
  refine lv_aload_n hx hb dL_law_515 rfl (lv_at hl 2 rfl) ?_
  refine lv_aload_n hx hb dL_law_516 rfl (lv_at hl 0 rfl) ?_
  refine lv_iload_n hx hb dL_law_517 rfl (lv_at hl 3 rfl) ?_
  refine lv_iconst (v := 1) hx hb dL_law_518 (by decide) ?_
  refine lv_iadd hx hb dL_law_519 ?_
  refine va_sld hx hb hX hbl hbA hS (law_in hi hL ex3 (j := 1) (by decide)) dL_law_520 ?_
  refine lv_aload_n hx hb dL_law_521 rfl (lv_at hl 0 rfl) ?_
  refine lv_iload_n hx hb dL_law_522 rfl (lv_at hl 3 rfl) ?_
  refine lv_iconst (v := 2) hx hb dL_law_523 (by decide) ?_
  refine lv_iadd hx hb dL_law_524 ?_
  refine va_sld hx hb hX hbl hbA hS (law_in hi hL ex3 (j := 2) (by decide)) dL_law_525 ?_
  refine law_mi (F1 := (r, τ2)) C hP1 hS (va_runV (As := [.int (xs (Int32.toNatClampNeg (x3 + 1))), .int (xs (Int32.toNatClampNeg (x3 + 2)))]) (rest := [.int r]) ⟨hx, hb, hml, hown, hts⟩ (kX5_best l E2 hD2 (xs (Int32.toNatClampNeg (x3 + 1))) (xs (Int32.toNatClampNeg (x3 + 2))) τ (r, τ2) e2) (cwV 2 hts (gU_V u_710 u_711 u_712 u_5 u_713) rfl rfl rfl q_X5_best ⟨Nat.le_of_ble_eq_true rfl, Nat.le_of_ble_eq_true rfl⟩) (law_pre2 C hP2 hS) rfl rfl hl.1 rfl (lv_room (Nat.le_of_ble_eq_true rfl)) dL_law_526 ⟨Nat.le_of_ble_eq_true rfl, Nat.le_of_ble_eq_true rfl⟩) (fun H locs hP1 hP2 hS => ?_)
  exact lv_icmp_eq (tgt := 987) hx hb dL_law_529 (by decide) (fun _ => kk σ2 τ2 _ _ hR2 hP1 hP2 hS) (fun q => absurd rfl q)
set_option maxHeartbeats 4000000 in
set_option maxRecDepth 100000 in
theorem law_c12 {p : Program} {l : Launch} {e : Env} {s : State} {m : MethodId} {below : List Frame} {meth : Method} {c : Code} {H : Heap} {locs : List Loc} {Q : State → Prop} {ls : Array Slot} {E1 E2 : EN} {b L : Nat} {xs : Nat → Int32} (C : LC p s m meth c b L xs E1 E2) {Rl : ST → ST → Prop} (S : SIMS Rl) {i : Nat} {x3 : Int32} (hi : i + 4 ≤ L) (ex3 : x3 = nI i) {σ τ : ST} (hR : Rl σ τ) (hl : lv_has ls 4 [(0, .ref b), (1, .ref (ea E1 0)), (2, .ref (ea E2 0)), (3, .int x3)]) (hP1 : va_P (eD E1) vwCl (xW E1 σ) H) (hP2 : va_P (eD E2) vwCl (mW E2 τ) H) (hS : va_S (lawA s) s.heap H locs) (kk : ∀ (σ τ : ST) (H : Heap) (locs : List Loc), Rl σ τ → va_P (eD E1) vwCl (xW E1 σ) H → va_P (eD E2) vwCl (mW E2 τ) H → va_S (lawA s) s.heap H locs → W p l e room_1 s m #[Value.ref b] below meth c H locs 70 1905 Q (F0 m 987 ls [])) : W p l e room_1 s m #[Value.ref b] below meth c H locs 70 1905 Q (F0 m 534 ls []) := by
  obtain ⟨hx, hb, hml, hown, hts, hrt, hlk, hX, hbl, hL, hD1, hD2, hs1, hs2, hdis, hK1, hK2, k1, k2⟩ := id C
  have hbA : ¬ lawA s b := Nat.not_le.mpr hbl
  obtain ⟨r, σ2, τ2, e1, e2, hR2⟩ := S.2.2.2.2.2.2.2.2.2.2.2.2.1 (xs (Int32.toNatClampNeg (x3 + 1))) σ τ hR
  refine lv_aload_n hx hb dL_law_534 rfl (lv_at hl 1 rfl) ?_
  refine lv_aload_n hx hb dL_law_535 rfl (lv_at hl 0 rfl) ?_
  refine lv_iload_n hx hb dL_law_536 rfl (lv_at hl 3 rfl) ?_
  refine lv_iconst (v := 1) hx hb dL_law_537 (by decide) ?_
  refine lv_iadd hx hb dL_law_538 ?_
  refine va_sld hx hb hX hbl hbA hS (law_in hi hL ex3 (j := 1) (by decide)) dL_law_539 ?_
  refine law_xi (F1 := (r, σ2)) C hP2 hS (va_runV (As := [.int (xs (Int32.toNatClampNeg (x3 + 1)))]) (rest := []) ⟨hx, hb, hml, hown, hts⟩ (kX4_bestMinutes l E1 hD1 (xs (Int32.toNatClampNeg (x3 + 1))) σ (r, σ2) e1) (cwV 1 hts (gU_V u_732 u_733 u_734 u_2 u_735) rfl rfl rfl q_X4_bestMinutes ⟨Nat.le_of_ble_eq_true rfl, Nat.le_of_ble_eq_true rfl⟩) (law_pre1 C hP1 hS) rfl rfl hl.1 rfl (lv_room (Nat.le_of_ble_eq_true rfl)) dL_law_540 ⟨Nat.le_of_ble_eq_true rfl, Nat.le_of_ble_eq_true rfl⟩) (fun H locs hP1 hP2 hS => ?_)
  refine lv_aload_n hx hb dL_law_543 rfl (lv_at hl 2 rfl) ?_
  refine lv_aload_n hx hb dL_law_544 rfl (lv_at hl 0 rfl) ?_
  refine lv_iload_n hx hb dL_law_545 rfl (lv_at hl 3 rfl) ?_
  refine lv_iconst (v := 1) hx hb dL_law_546 (by decide) ?_
  refine lv_iadd hx hb dL_law_547 ?_
  refine va_sld hx hb hX hbl hbA hS (law_in hi hL ex3 (j := 1) (by decide)) dL_law_548 ?_
  refine law_mi (F1 := (r, τ2)) C hP1 hS (va_runV (As := [.int (xs (Int32.toNatClampNeg (x3 + 1)))]) (rest := [.int r]) ⟨hx, hb, hml, hown, hts⟩ (kX5_bestMinutes l E2 hD2 (xs (Int32.toNatClampNeg (x3 + 1))) τ (r, τ2) e2) (cwV 1 hts (gU_V u_736 u_737 u_738 u_5 u_739) rfl rfl rfl q_X5_bestMinutes ⟨Nat.le_of_ble_eq_true rfl, Nat.le_of_ble_eq_true rfl⟩) (law_pre2 C hP2 hS) rfl rfl hl.1 rfl (lv_room (Nat.le_of_ble_eq_true rfl)) dL_law_549 ⟨Nat.le_of_ble_eq_true rfl, Nat.le_of_ble_eq_true rfl⟩) (fun H locs hP1 hP2 hS => ?_)
  exact lv_icmp_eq (tgt := 987) hx hb dL_law_552 (by decide) (fun _ => kk σ2 τ2 _ _ hR2 hP1 hP2 hS) (fun q => absurd rfl q)
set_option maxHeartbeats 4000000 in
set_option maxRecDepth 100000 in
theorem law_c13 {p : Program} {l : Launch} {e : Env} {s : State} {m : MethodId} {below : List Frame} {meth : Method} {c : Code} {H : Heap} {locs : List Loc} {Q : State → Prop} {ls : Array Slot} {E1 E2 : EN} {b L : Nat} {xs : Nat → Int32} (C : LC p s m meth c b L xs E1 E2) {Rl : ST → ST → Prop} (S : SIMS Rl) {i : Nat} {x3 : Int32} (hi : i + 4 ≤ L) (ex3 : x3 = nI i) {σ τ : ST} (hR : Rl σ τ) (hl : lv_has ls 4 [(0, .ref b), (1, .ref (ea E1 0)), (2, .ref (ea E2 0)), (3, .int x3)]) (hP1 : va_P (eD E1) vwCl (xW E1 σ) H) (hP2 : va_P (eD E2) vwCl (mW E2 τ) H) (hS : va_S (lawA s) s.heap H locs) (kk : ∀ (σ τ : ST) (H : Heap) (locs : List Loc), Rl σ τ → va_P (eD E1) vwCl (xW E1 σ) H → va_P (eD E2) vwCl (mW E2 τ) H → va_S (lawA s) s.heap H locs → W p l e room_1 s m #[Value.ref b] below meth c H locs 70 1905 Q (F0 m 987 ls [])) : W p l e room_1 s m #[Value.ref b] below meth c H locs 70 1905 Q (F0 m 557 ls []) := by
  obtain ⟨hx, hb, hml, hown, hts, hrt, hlk, hX, hbl, hL, hD1, hD2, hs1, hs2, hdis, hK1, hK2, k1, k2⟩ := id C
  have hbA : ¬ lawA s b := Nat.not_le.mpr hbl
  obtain ⟨r, σ2, τ2, e1, e2, hR2⟩ := S.2.2.2.2.2.2.2.2.2.2.2.2.2.1 (xs (Int32.toNatClampNeg (x3 + 1))) (xs (Int32.toNatClampNeg (x3 + 2))) σ τ hR
  refine lv_aload_n hx hb dL_law_557 rfl (lv_at hl 1 rfl) ?_
  refine lv_aload_n hx hb dL_law_558 rfl (lv_at hl 0 rfl) ?_
  refine lv_iload_n hx hb dL_law_559 rfl (lv_at hl 3 rfl) ?_
  refine lv_iconst (v := 1) hx hb dL_law_560 (by decide) ?_
  refine lv_iadd hx hb dL_law_561 ?_
  refine va_sld hx hb hX hbl hbA hS (law_in hi hL ex3 (j := 1) (by decide)) dL_law_562 ?_
  refine lv_aload_n hx hb dL_law_563 rfl (lv_at hl 0 rfl) ?_
  refine lv_iload_n hx hb dL_law_564 rfl (lv_at hl 3 rfl) ?_
  refine lv_iconst (v := 2) hx hb dL_law_565 (by decide) ?_
  refine lv_iadd hx hb dL_law_566 ?_
  refine va_sld hx hb hX hbl hbA hS (law_in hi hL ex3 (j := 2) (by decide)) dL_law_567 ?_
  refine law_xl (F1 := (r, σ2)) C hP2 hS (va_runV (As := [.int (xs (Int32.toNatClampNeg (x3 + 1))), .int (xs (Int32.toNatClampNeg (x3 + 2)))]) (rest := []) ⟨hx, hb, hml, hown, hts⟩ (kX4_bestLikely l E1 hD1 (xs (Int32.toNatClampNeg (x3 + 1))) (xs (Int32.toNatClampNeg (x3 + 2))) σ (r, σ2) e1) (cwV 2 hts (gU_V u_740 u_741 u_742 u_2 u_743) rfl rfl rfl q_X4_bestLikely ⟨Nat.le_of_ble_eq_true rfl, Nat.le_of_ble_eq_true rfl⟩) (law_pre1 C hP1 hS) rfl rfl hl.1 rfl (lv_room (Nat.le_of_ble_eq_true rfl)) dL_law_568 ⟨Nat.le_of_ble_eq_true rfl, Nat.le_of_ble_eq_true rfl⟩) (fun H locs hP1 hP2 hS => ?_)
  refine lv_aload_n hx hb dL_law_571 rfl (lv_at hl 2 rfl) ?_
  refine lv_aload_n hx hb dL_law_572 rfl (lv_at hl 0 rfl) ?_
  refine lv_iload_n hx hb dL_law_573 rfl (lv_at hl 3 rfl) ?_
  refine lv_iconst (v := 1) hx hb dL_law_574 (by decide) ?_
  refine lv_iadd hx hb dL_law_575 ?_
  refine va_sld hx hb hX hbl hbA hS (law_in hi hL ex3 (j := 1) (by decide)) dL_law_576 ?_
  refine lv_aload_n hx hb dL_law_577 rfl (lv_at hl 0 rfl) ?_
  refine lv_iload_n hx hb dL_law_578 rfl (lv_at hl 3 rfl) ?_
  refine lv_iconst (v := 2) hx hb dL_law_579 (by decide) ?_
  refine lv_iadd hx hb dL_law_580 ?_
  refine va_sld hx hb hX hbl hbA hS (law_in hi hL ex3 (j := 2) (by decide)) dL_law_581 ?_
  refine law_ml (F1 := (r, τ2)) C hP1 hS (va_runV (As := [.int (xs (Int32.toNatClampNeg (x3 + 1))), .int (xs (Int32.toNatClampNeg (x3 + 2)))]) (rest := [.long r]) ⟨hx, hb, hml, hown, hts⟩ (kX5_bestLikely l E2 hD2 (xs (Int32.toNatClampNeg (x3 + 1))) (xs (Int32.toNatClampNeg (x3 + 2))) τ (r, τ2) e2) (cwV 2 hts (gU_V u_748 u_749 u_750 u_5 u_751) rfl rfl rfl q_X5_bestLikely ⟨Nat.le_of_ble_eq_true rfl, Nat.le_of_ble_eq_true rfl⟩) (law_pre2 C hP2 hS) rfl rfl hl.1 rfl (lv_room (Nat.le_of_ble_eq_true rfl)) dL_law_582 ⟨Nat.le_of_ble_eq_true rfl, Nat.le_of_ble_eq_true rfl⟩) (fun H locs hP1 hP2 hS => ?_)
  refine W.lcmp hx hb dL_law_585 ?_
  exact lv_if_eq (tgt := 987) hx hb dL_law_586 (by decide) (fun _ => kk σ2 τ2 _ _ hR2 hP1 hP2 hS) (fun q => absurd (law_cmp r) q)
set_option maxHeartbeats 4000000 in
set_option maxRecDepth 100000 in
theorem law_c14 {p : Program} {l : Launch} {e : Env} {s : State} {m : MethodId} {below : List Frame} {meth : Method} {c : Code} {H : Heap} {locs : List Loc} {Q : State → Prop} {ls : Array Slot} {E1 E2 : EN} {b L : Nat} {xs : Nat → Int32} (C : LC p s m meth c b L xs E1 E2) {Rl : ST → ST → Prop} (S : SIMS Rl) {i : Nat} {x3 : Int32} (hi : i + 4 ≤ L) (ex3 : x3 = nI i) {σ τ : ST} (hR : Rl σ τ) (hl : lv_has ls 4 [(0, .ref b), (1, .ref (ea E1 0)), (2, .ref (ea E2 0)), (3, .int x3)]) (hP1 : va_P (eD E1) vwCl (xW E1 σ) H) (hP2 : va_P (eD E2) vwCl (mW E2 τ) H) (hS : va_S (lawA s) s.heap H locs) (kk : ∀ (σ τ : ST) (H : Heap) (locs : List Loc), Rl σ τ → va_P (eD E1) vwCl (xW E1 σ) H → va_P (eD E2) vwCl (mW E2 τ) H → va_S (lawA s) s.heap H locs → W p l e room_1 s m #[Value.ref b] below meth c H locs 70 1905 Q (F0 m 987 ls [])) : W p l e room_1 s m #[Value.ref b] below meth c H locs 70 1905 Q (F0 m 591 ls []) := by
  obtain ⟨hx, hb, hml, hown, hts, hrt, hlk, hX, hbl, hL, hD1, hD2, hs1, hs2, hdis, hK1, hK2, k1, k2⟩ := id C
  have hbA : ¬ lawA s b := Nat.not_le.mpr hbl
  obtain ⟨r, σ2, τ2, e1, e2, hR2⟩ := S.2.2.2.2.2.2.2.2.2.2.2.2.2.2.1 (xs (Int32.toNatClampNeg (x3 + 1))) (xs (Int32.toNatClampNeg (x3 + 2))) σ τ hR
  refine lv_aload_n hx hb dL_law_591 rfl (lv_at hl 1 rfl) ?_
  refine lv_aload_n hx hb dL_law_592 rfl (lv_at hl 0 rfl) ?_
  refine lv_iload_n hx hb dL_law_593 rfl (lv_at hl 3 rfl) ?_
  refine lv_iconst (v := 1) hx hb dL_law_594 (by decide) ?_
  refine lv_iadd hx hb dL_law_595 ?_
  refine va_sld hx hb hX hbl hbA hS (law_in hi hL ex3 (j := 1) (by decide)) dL_law_596 ?_
  refine lv_aload_n hx hb dL_law_597 rfl (lv_at hl 0 rfl) ?_
  refine lv_iload_n hx hb dL_law_598 rfl (lv_at hl 3 rfl) ?_
  refine lv_iconst (v := 2) hx hb dL_law_599 (by decide) ?_
  refine lv_iadd hx hb dL_law_600 ?_
  refine va_sld hx hb hX hbl hbA hS (law_in hi hL ex3 (j := 2) (by decide)) dL_law_601 ?_
  refine law_xl (F1 := (r, σ2)) C hP2 hS (va_runV (As := [.int (xs (Int32.toNatClampNeg (x3 + 1))), .int (xs (Int32.toNatClampNeg (x3 + 2)))]) (rest := []) ⟨hx, hb, hml, hown, hts⟩ (kX4_bestWorth l E1 hD1 (xs (Int32.toNatClampNeg (x3 + 1))) (xs (Int32.toNatClampNeg (x3 + 2))) σ (r, σ2) e1) (cwV 2 hts (gU_V u_752 u_753 u_754 u_2 u_755) rfl rfl rfl q_X4_bestWorth ⟨Nat.le_of_ble_eq_true rfl, Nat.le_of_ble_eq_true rfl⟩) (law_pre1 C hP1 hS) rfl rfl hl.1 rfl (lv_room (Nat.le_of_ble_eq_true rfl)) dL_law_602 ⟨Nat.le_of_ble_eq_true rfl, Nat.le_of_ble_eq_true rfl⟩) (fun H locs hP1 hP2 hS => ?_)
  refine lv_aload_n hx hb dL_law_605 rfl (lv_at hl 2 rfl) ?_
  refine lv_aload_n hx hb dL_law_606 rfl (lv_at hl 0 rfl) ?_
  refine lv_iload_n hx hb dL_law_607 rfl (lv_at hl 3 rfl) ?_
  refine lv_iconst (v := 1) hx hb dL_law_608 (by decide) ?_
  refine lv_iadd hx hb dL_law_609 ?_
  refine va_sld hx hb hX hbl hbA hS (law_in hi hL ex3 (j := 1) (by decide)) dL_law_610 ?_
  refine lv_aload_n hx hb dL_law_611 rfl (lv_at hl 0 rfl) ?_
  refine lv_iload_n hx hb dL_law_612 rfl (lv_at hl 3 rfl) ?_
  refine lv_iconst (v := 2) hx hb dL_law_613 (by decide) ?_
  refine lv_iadd hx hb dL_law_614 ?_
  refine va_sld hx hb hX hbl hbA hS (law_in hi hL ex3 (j := 2) (by decide)) dL_law_615 ?_
  refine law_ml (F1 := (r, τ2)) C hP1 hS (va_runV (As := [.int (xs (Int32.toNatClampNeg (x3 + 1))), .int (xs (Int32.toNatClampNeg (x3 + 2)))]) (rest := [.long r]) ⟨hx, hb, hml, hown, hts⟩ (kX5_bestWorth l E2 hD2 (xs (Int32.toNatClampNeg (x3 + 1))) (xs (Int32.toNatClampNeg (x3 + 2))) τ (r, τ2) e2) (cwV 2 hts (gU_V u_756 u_757 u_758 u_5 u_759) rfl rfl rfl q_X5_bestWorth ⟨Nat.le_of_ble_eq_true rfl, Nat.le_of_ble_eq_true rfl⟩) (law_pre2 C hP2 hS) rfl rfl hl.1 rfl (lv_room (Nat.le_of_ble_eq_true rfl)) dL_law_616 ⟨Nat.le_of_ble_eq_true rfl, Nat.le_of_ble_eq_true rfl⟩) (fun H locs hP1 hP2 hS => ?_)
  refine W.lcmp hx hb dL_law_619 ?_
  exact lv_if_eq (tgt := 987) hx hb dL_law_620 (by decide) (fun _ => kk σ2 τ2 _ _ hR2 hP1 hP2 hS) (fun q => absurd (law_cmp r) q)
set_option maxHeartbeats 4000000 in
set_option maxRecDepth 100000 in
theorem law_c15 {p : Program} {l : Launch} {e : Env} {s : State} {m : MethodId} {below : List Frame} {meth : Method} {c : Code} {H : Heap} {locs : List Loc} {Q : State → Prop} {ls : Array Slot} {E1 E2 : EN} {b L : Nat} {xs : Nat → Int32} (C : LC p s m meth c b L xs E1 E2) {Rl : ST → ST → Prop} (S : SIMS Rl) {i : Nat} {x3 : Int32} (hi : i + 4 ≤ L) (ex3 : x3 = nI i) {σ τ : ST} (hR : Rl σ τ) (hl : lv_has ls 4 [(0, .ref b), (1, .ref (ea E1 0)), (2, .ref (ea E2 0)), (3, .int x3)]) (hP1 : va_P (eD E1) vwCl (xW E1 σ) H) (hP2 : va_P (eD E2) vwCl (mW E2 τ) H) (hS : va_S (lawA s) s.heap H locs) (kk : ∀ (σ τ : ST) (H : Heap) (locs : List Loc), Rl σ τ → va_P (eD E1) vwCl (xW E1 σ) H → va_P (eD E2) vwCl (mW E2 τ) H → va_S (lawA s) s.heap H locs → W p l e room_1 s m #[Value.ref b] below meth c H locs 70 1905 Q (F0 m 987 ls [])) : W p l e room_1 s m #[Value.ref b] below meth c H locs 70 1905 Q (F0 m 625 ls []) := by
  obtain ⟨hx, hb, hml, hown, hts, hrt, hlk, hX, hbl, hL, hD1, hD2, hs1, hs2, hdis, hK1, hK2, k1, k2⟩ := id C
  have hbA : ¬ lawA s b := Nat.not_le.mpr hbl
  obtain ⟨r, σ2, τ2, e1, e2, hR2⟩ := S.2.2.2.2.2.2.2.2.2.2.2.2.2.2.2.1  σ τ hR
  refine lv_aload_n hx hb dL_law_625 rfl (lv_at hl 1 rfl) ?_
  refine law_xi (F1 := (r, σ2)) C hP2 hS (va_runV (As := []) (rest := []) ⟨hx, hb, hml, hown, hts⟩ (kX4_sure l E1 hD1  σ (r, σ2) e1) (cwV 0 hts (gU_V u_760 u_761 u_762 u_2 u_763) rfl rfl rfl q_X4_sure ⟨Nat.le_of_ble_eq_true rfl, Nat.le_of_ble_eq_true rfl⟩) (law_pre1 C hP1 hS) rfl rfl hl.1 rfl (lv_room (Nat.le_of_ble_eq_true rfl)) dL_law_626 ⟨Nat.le_of_ble_eq_true rfl, Nat.le_of_ble_eq_true rfl⟩) (fun H locs hP1 hP2 hS => ?_)
  refine lv_aload_n hx hb dL_law_629 rfl (lv_at hl 2 rfl) ?_
  refine law_mi (F1 := (r, τ2)) C hP1 hS (va_runV (As := []) (rest := [.int r]) ⟨hx, hb, hml, hown, hts⟩ (kX5_sure l E2 hD2  τ (r, τ2) e2) (cwV 0 hts (gU_V u_764 u_765 u_766 u_5 u_767) rfl rfl rfl q_X5_sure ⟨Nat.le_of_ble_eq_true rfl, Nat.le_of_ble_eq_true rfl⟩) (law_pre2 C hP2 hS) rfl rfl hl.1 rfl (lv_room (Nat.le_of_ble_eq_true rfl)) dL_law_630 ⟨Nat.le_of_ble_eq_true rfl, Nat.le_of_ble_eq_true rfl⟩) (fun H locs hP1 hP2 hS => ?_)
  exact lv_icmp_eq (tgt := 987) hx hb dL_law_633 (by decide) (fun _ => kk σ2 τ2 _ _ hR2 hP1 hP2 hS) (fun q => absurd rfl q)
set_option maxHeartbeats 4000000 in
set_option maxRecDepth 100000 in
theorem law_c16 {p : Program} {l : Launch} {e : Env} {s : State} {m : MethodId} {below : List Frame} {meth : Method} {c : Code} {H : Heap} {locs : List Loc} {Q : State → Prop} {ls : Array Slot} {E1 E2 : EN} {b L : Nat} {xs : Nat → Int32} (C : LC p s m meth c b L xs E1 E2) {Rl : ST → ST → Prop} (S : SIMS Rl) {i : Nat} {x3 : Int32} (hi : i + 4 ≤ L) (ex3 : x3 = nI i) {σ τ : ST} (hR : Rl σ τ) (hl : lv_has ls 4 [(0, .ref b), (1, .ref (ea E1 0)), (2, .ref (ea E2 0)), (3, .int x3)]) (hP1 : va_P (eD E1) vwCl (xW E1 σ) H) (hP2 : va_P (eD E2) vwCl (mW E2 τ) H) (hS : va_S (lawA s) s.heap H locs) (kk : ∀ (σ τ : ST) (H : Heap) (locs : List Loc), Rl σ τ → va_P (eD E1) vwCl (xW E1 σ) H → va_P (eD E2) vwCl (mW E2 τ) H → va_S (lawA s) s.heap H locs → W p l e room_1 s m #[Value.ref b] below meth c H locs 70 1905 Q (F0 m 987 ls [])) : W p l e room_1 s m #[Value.ref b] below meth c H locs 70 1905 Q (F0 m 638 ls []) := by
  obtain ⟨hx, hb, hml, hown, hts, hrt, hlk, hX, hbl, hL, hD1, hD2, hs1, hs2, hdis, hK1, hK2, k1, k2⟩ := id C
  have hbA : ¬ lawA s b := Nat.not_le.mpr hbl
  obtain ⟨r, σ2, τ2, e1, e2, hR2⟩ := S.2.2.2.2.2.2.2.2.2.2.2.2.2.2.2.2.1  σ τ hR
  refine lv_aload_n hx hb dL_law_638 rfl (lv_at hl 1 rfl) ?_
  refine law_xi (F1 := (r, σ2)) C hP2 hS (va_runV (As := []) (rest := []) ⟨hx, hb, hml, hown, hts⟩ (kX4_bestDriver l E1 hD1  σ (r, σ2) e1) (cwV 0 hts (gU_V u_768 u_769 u_770 u_2 u_771) rfl rfl rfl q_X4_bestDriver ⟨Nat.le_of_ble_eq_true rfl, Nat.le_of_ble_eq_true rfl⟩) (law_pre1 C hP1 hS) rfl rfl hl.1 rfl (lv_room (Nat.le_of_ble_eq_true rfl)) dL_law_639 ⟨Nat.le_of_ble_eq_true rfl, Nat.le_of_ble_eq_true rfl⟩) (fun H locs hP1 hP2 hS => ?_)
  refine lv_aload_n hx hb dL_law_642 rfl (lv_at hl 2 rfl) ?_
  refine law_mi (F1 := (r, τ2)) C hP1 hS (va_runV (As := []) (rest := [.int r]) ⟨hx, hb, hml, hown, hts⟩ (kX5_bestDriver l E2 hD2  τ (r, τ2) e2) (cwV 0 hts (gU_V u_773 u_774 u_775 u_5 u_776) rfl rfl rfl q_X5_bestDriver ⟨Nat.le_of_ble_eq_true rfl, Nat.le_of_ble_eq_true rfl⟩) (law_pre2 C hP2 hS) rfl rfl hl.1 rfl (lv_room (Nat.le_of_ble_eq_true rfl)) dL_law_643 ⟨Nat.le_of_ble_eq_true rfl, Nat.le_of_ble_eq_true rfl⟩) (fun H locs hP1 hP2 hS => ?_)
  exact lv_icmp_eq (tgt := 987) hx hb dL_law_646 (by decide) (fun _ => kk σ2 τ2 _ _ hR2 hP1 hP2 hS) (fun q => absurd rfl q)
set_option maxHeartbeats 4000000 in
set_option maxRecDepth 100000 in
theorem law_c17 {p : Program} {l : Launch} {e : Env} {s : State} {m : MethodId} {below : List Frame} {meth : Method} {c : Code} {H : Heap} {locs : List Loc} {Q : State → Prop} {ls : Array Slot} {E1 E2 : EN} {b L : Nat} {xs : Nat → Int32} (C : LC p s m meth c b L xs E1 E2) {Rl : ST → ST → Prop} (S : SIMS Rl) {i : Nat} {x3 : Int32} (hi : i + 4 ≤ L) (ex3 : x3 = nI i) {σ τ : ST} (hR : Rl σ τ) (hl : lv_has ls 4 [(0, .ref b), (1, .ref (ea E1 0)), (2, .ref (ea E2 0)), (3, .int x3)]) (hP1 : va_P (eD E1) vwCl (xW E1 σ) H) (hP2 : va_P (eD E2) vwCl (mW E2 τ) H) (hS : va_S (lawA s) s.heap H locs) (kk : ∀ (σ τ : ST) (H : Heap) (locs : List Loc), Rl σ τ → va_P (eD E1) vwCl (xW E1 σ) H → va_P (eD E2) vwCl (mW E2 τ) H → va_S (lawA s) s.heap H locs → W p l e room_1 s m #[Value.ref b] below meth c H locs 70 1905 Q (F0 m 987 ls [])) : W p l e room_1 s m #[Value.ref b] below meth c H locs 70 1905 Q (F0 m 651 ls []) := by
  obtain ⟨hx, hb, hml, hown, hts, hrt, hlk, hX, hbl, hL, hD1, hD2, hs1, hs2, hdis, hK1, hK2, k1, k2⟩ := id C
  have hbA : ¬ lawA s b := Nat.not_le.mpr hbl
  obtain ⟨r, σ2, τ2, e1, e2, hR2⟩ := S.2.2.2.2.2.2.2.2.2.2.2.2.2.2.2.2.2.1  σ τ hR
  refine lv_aload_n hx hb dL_law_651 rfl (lv_at hl 1 rfl) ?_
  refine law_xi (F1 := (r, σ2)) C hP2 hS (va_runV (As := []) (rest := []) ⟨hx, hb, hml, hown, hts⟩ (kX4_leftOut l E1 hD1  σ (r, σ2) e1) (cwV 0 hts (gU_V u_784 u_785 u_786 u_2 u_787) rfl rfl rfl q_X4_leftOut ⟨Nat.le_of_ble_eq_true rfl, Nat.le_of_ble_eq_true rfl⟩) (law_pre1 C hP1 hS) rfl rfl hl.1 rfl (lv_room (Nat.le_of_ble_eq_true rfl)) dL_law_652 ⟨Nat.le_of_ble_eq_true rfl, Nat.le_of_ble_eq_true rfl⟩) (fun H locs hP1 hP2 hS => ?_)
  refine lv_aload_n hx hb dL_law_655 rfl (lv_at hl 2 rfl) ?_
  refine law_mi (F1 := (r, τ2)) C hP1 hS (va_runV (As := []) (rest := [.int r]) ⟨hx, hb, hml, hown, hts⟩ (kX5_leftOut l E2 hD2  τ (r, τ2) e2) (cwV 0 hts (gU_V u_788 u_789 u_790 u_5 u_791) rfl rfl rfl q_X5_leftOut ⟨Nat.le_of_ble_eq_true rfl, Nat.le_of_ble_eq_true rfl⟩) (law_pre2 C hP2 hS) rfl rfl hl.1 rfl (lv_room (Nat.le_of_ble_eq_true rfl)) dL_law_656 ⟨Nat.le_of_ble_eq_true rfl, Nat.le_of_ble_eq_true rfl⟩) (fun H locs hP1 hP2 hS => ?_)
  exact lv_icmp_eq (tgt := 987) hx hb dL_law_659 (by decide) (fun _ => kk σ2 τ2 _ _ hR2 hP1 hP2 hS) (fun q => absurd rfl q)
set_option maxHeartbeats 4000000 in
set_option maxRecDepth 100000 in
theorem law_c18 {p : Program} {l : Launch} {e : Env} {s : State} {m : MethodId} {below : List Frame} {meth : Method} {c : Code} {H : Heap} {locs : List Loc} {Q : State → Prop} {ls : Array Slot} {E1 E2 : EN} {b L : Nat} {xs : Nat → Int32} (C : LC p s m meth c b L xs E1 E2) {Rl : ST → ST → Prop} (S : SIMS Rl) {i : Nat} {x3 : Int32} (hi : i + 4 ≤ L) (ex3 : x3 = nI i) {σ τ : ST} (hR : Rl σ τ) (hl : lv_has ls 4 [(0, .ref b), (1, .ref (ea E1 0)), (2, .ref (ea E2 0)), (3, .int x3)]) (hP1 : va_P (eD E1) vwCl (xW E1 σ) H) (hP2 : va_P (eD E2) vwCl (mW E2 τ) H) (hS : va_S (lawA s) s.heap H locs) (kk : ∀ (σ τ : ST) (H : Heap) (locs : List Loc), Rl σ τ → va_P (eD E1) vwCl (xW E1 σ) H → va_P (eD E2) vwCl (mW E2 τ) H → va_S (lawA s) s.heap H locs → W p l e room_1 s m #[Value.ref b] below meth c H locs 70 1905 Q (F0 m 987 ls [])) : W p l e room_1 s m #[Value.ref b] below meth c H locs 70 1905 Q (F0 m 664 ls []) := by
  obtain ⟨hx, hb, hml, hown, hts, hrt, hlk, hX, hbl, hL, hD1, hD2, hs1, hs2, hdis, hK1, hK2, k1, k2⟩ := id C
  have hbA : ¬ lawA s b := Nat.not_le.mpr hbl
  obtain ⟨r, σ2, τ2, e1, e2, hR2⟩ := S.2.2.2.2.2.2.2.2.2.2.2.2.2.2.2.2.2.2.1  σ τ hR
  refine lv_aload_n hx hb dL_law_664 rfl (lv_at hl 1 rfl) ?_
  refine law_xi (F1 := (r, σ2)) C hP2 hS (va_runV (As := []) (rest := []) ⟨hx, hb, hml, hown, hts⟩ (kX4_runOn l E1 hD1  σ (r, σ2) e1) (cwV 0 hts (gU_V u_792 u_793 u_794 u_2 u_795) rfl rfl rfl q_X4_runOn ⟨Nat.le_of_ble_eq_true rfl, Nat.le_of_ble_eq_true rfl⟩) (law_pre1 C hP1 hS) rfl rfl hl.1 rfl (lv_room (Nat.le_of_ble_eq_true rfl)) dL_law_665 ⟨Nat.le_of_ble_eq_true rfl, Nat.le_of_ble_eq_true rfl⟩) (fun H locs hP1 hP2 hS => ?_)
  refine lv_aload_n hx hb dL_law_668 rfl (lv_at hl 2 rfl) ?_
  refine law_mi (F1 := (r, τ2)) C hP1 hS (va_runV (As := []) (rest := [.int r]) ⟨hx, hb, hml, hown, hts⟩ (kX5_runOn l E2 hD2  τ (r, τ2) e2) (cwV 0 hts (gU_V u_797 u_798 u_799 u_5 u_800) rfl rfl rfl q_X5_runOn ⟨Nat.le_of_ble_eq_true rfl, Nat.le_of_ble_eq_true rfl⟩) (law_pre2 C hP2 hS) rfl rfl hl.1 rfl (lv_room (Nat.le_of_ble_eq_true rfl)) dL_law_669 ⟨Nat.le_of_ble_eq_true rfl, Nat.le_of_ble_eq_true rfl⟩) (fun H locs hP1 hP2 hS => ?_)
  exact lv_icmp_eq (tgt := 987) hx hb dL_law_672 (by decide) (fun _ => kk σ2 τ2 _ _ hR2 hP1 hP2 hS) (fun q => absurd rfl q)
set_option maxHeartbeats 4000000 in
set_option maxRecDepth 100000 in
theorem law_c19 {p : Program} {l : Launch} {e : Env} {s : State} {m : MethodId} {below : List Frame} {meth : Method} {c : Code} {H : Heap} {locs : List Loc} {Q : State → Prop} {ls : Array Slot} {E1 E2 : EN} {b L : Nat} {xs : Nat → Int32} (C : LC p s m meth c b L xs E1 E2) {Rl : ST → ST → Prop} (S : SIMS Rl) {i : Nat} {x3 : Int32} (hi : i + 4 ≤ L) (ex3 : x3 = nI i) {σ τ : ST} (hR : Rl σ τ) (hl : lv_has ls 4 [(0, .ref b), (1, .ref (ea E1 0)), (2, .ref (ea E2 0)), (3, .int x3)]) (hP1 : va_P (eD E1) vwCl (xW E1 σ) H) (hP2 : va_P (eD E2) vwCl (mW E2 τ) H) (hS : va_S (lawA s) s.heap H locs) (kk : ∀ (σ τ : ST) (H : Heap) (locs : List Loc), Rl σ τ → va_P (eD E1) vwCl (xW E1 σ) H → va_P (eD E2) vwCl (mW E2 τ) H → va_S (lawA s) s.heap H locs → W p l e room_1 s m #[Value.ref b] below meth c H locs 70 1905 Q (F0 m 987 ls [])) : W p l e room_1 s m #[Value.ref b] below meth c H locs 70 1905 Q (F0 m 677 ls []) := by
  obtain ⟨hx, hb, hml, hown, hts, hrt, hlk, hX, hbl, hL, hD1, hD2, hs1, hs2, hdis, hK1, hK2, k1, k2⟩ := id C
  have hbA : ¬ lawA s b := Nat.not_le.mpr hbl
  obtain ⟨r, σ2, τ2, e1, e2, hR2⟩ := S.2.2.2.2.2.2.2.2.2.2.2.2.2.2.2.2.2.2.2.1  σ τ hR
  refine lv_aload_n hx hb dL_law_677 rfl (lv_at hl 1 rfl) ?_
  refine law_xi (F1 := (r, σ2)) C hP2 hS (va_runV (As := []) (rest := []) ⟨hx, hb, hml, hown, hts⟩ (kX4_push l E1 hD1  σ (r, σ2) e1) (cwV 0 hts (gU_V u_801 u_802 u_803 u_2 u_804) rfl rfl rfl q_X4_push ⟨Nat.le_of_ble_eq_true rfl, Nat.le_of_ble_eq_true rfl⟩) (law_pre1 C hP1 hS) rfl rfl hl.1 rfl (lv_room (Nat.le_of_ble_eq_true rfl)) dL_law_678 ⟨Nat.le_of_ble_eq_true rfl, Nat.le_of_ble_eq_true rfl⟩) (fun H locs hP1 hP2 hS => ?_)
  refine lv_aload_n hx hb dL_law_681 rfl (lv_at hl 2 rfl) ?_
  refine law_mi (F1 := (r, τ2)) C hP1 hS (va_runV (As := []) (rest := [.int r]) ⟨hx, hb, hml, hown, hts⟩ (kX5_push l E2 hD2  τ (r, τ2) e2) (cwV 0 hts (gU_V u_807 u_808 u_809 u_5 u_810) rfl rfl rfl q_X5_push ⟨Nat.le_of_ble_eq_true rfl, Nat.le_of_ble_eq_true rfl⟩) (law_pre2 C hP2 hS) rfl rfl hl.1 rfl (lv_room (Nat.le_of_ble_eq_true rfl)) dL_law_682 ⟨Nat.le_of_ble_eq_true rfl, Nat.le_of_ble_eq_true rfl⟩) (fun H locs hP1 hP2 hS => ?_)
  exact lv_icmp_eq (tgt := 987) hx hb dL_law_685 (by decide) (fun _ => kk σ2 τ2 _ _ hR2 hP1 hP2 hS) (fun q => absurd rfl q)
set_option maxHeartbeats 4000000 in
set_option maxRecDepth 100000 in
theorem law_c20 {p : Program} {l : Launch} {e : Env} {s : State} {m : MethodId} {below : List Frame} {meth : Method} {c : Code} {H : Heap} {locs : List Loc} {Q : State → Prop} {ls : Array Slot} {E1 E2 : EN} {b L : Nat} {xs : Nat → Int32} (C : LC p s m meth c b L xs E1 E2) {Rl : ST → ST → Prop} (S : SIMS Rl) {i : Nat} {x3 : Int32} (hi : i + 4 ≤ L) (ex3 : x3 = nI i) {σ τ : ST} (hR : Rl σ τ) (hl : lv_has ls 4 [(0, .ref b), (1, .ref (ea E1 0)), (2, .ref (ea E2 0)), (3, .int x3)]) (hP1 : va_P (eD E1) vwCl (xW E1 σ) H) (hP2 : va_P (eD E2) vwCl (mW E2 τ) H) (hS : va_S (lawA s) s.heap H locs) (kk : ∀ (σ τ : ST) (H : Heap) (locs : List Loc), Rl σ τ → va_P (eD E1) vwCl (xW E1 σ) H → va_P (eD E2) vwCl (mW E2 τ) H → va_S (lawA s) s.heap H locs → W p l e room_1 s m #[Value.ref b] below meth c H locs 70 1905 Q (F0 m 987 ls [])) : W p l e room_1 s m #[Value.ref b] below meth c H locs 70 1905 Q (F0 m 690 ls []) := by
  obtain ⟨hx, hb, hml, hown, hts, hrt, hlk, hX, hbl, hL, hD1, hD2, hs1, hs2, hdis, hK1, hK2, k1, k2⟩ := id C
  have hbA : ¬ lawA s b := Nat.not_le.mpr hbl
  obtain ⟨r, σ2, τ2, e1, e2, hR2⟩ := S.2.2.2.2.2.2.2.2.2.2.2.2.2.2.2.2.2.2.2.2.1 (xs (Int32.toNatClampNeg (x3 + 1))) σ τ hR
  refine lv_aload_n hx hb dL_law_690 rfl (lv_at hl 1 rfl) ?_
  refine lv_aload_n hx hb dL_law_691 rfl (lv_at hl 0 rfl) ?_
  refine lv_iload_n hx hb dL_law_692 rfl (lv_at hl 3 rfl) ?_
  refine lv_iconst (v := 1) hx hb dL_law_693 (by decide) ?_
  refine lv_iadd hx hb dL_law_694 ?_
  refine va_sld hx hb hX hbl hbA hS (law_in hi hL ex3 (j := 1) (by decide)) dL_law_695 ?_
  refine law_xl (F1 := (r, σ2)) C hP2 hS (va_runV (As := [.int (xs (Int32.toNatClampNeg (x3 + 1)))]) (rest := []) ⟨hx, hb, hml, hown, hts⟩ (kX4_hill l E1 hD1 (xs (Int32.toNatClampNeg (x3 + 1))) σ (r, σ2) e1) (cwV 1 hts (gU_V u_811 u_812 u_813 u_2 u_814) rfl rfl rfl q_X4_hill ⟨Nat.le_of_ble_eq_true rfl, Nat.le_of_ble_eq_true rfl⟩) (law_pre1 C hP1 hS) rfl rfl hl.1 rfl (lv_room (Nat.le_of_ble_eq_true rfl)) dL_law_696 ⟨Nat.le_of_ble_eq_true rfl, Nat.le_of_ble_eq_true rfl⟩) (fun H locs hP1 hP2 hS => ?_)
  refine lv_aload_n hx hb dL_law_699 rfl (lv_at hl 2 rfl) ?_
  refine lv_aload_n hx hb dL_law_700 rfl (lv_at hl 0 rfl) ?_
  refine lv_iload_n hx hb dL_law_701 rfl (lv_at hl 3 rfl) ?_
  refine lv_iconst (v := 1) hx hb dL_law_702 (by decide) ?_
  refine lv_iadd hx hb dL_law_703 ?_
  refine va_sld hx hb hX hbl hbA hS (law_in hi hL ex3 (j := 1) (by decide)) dL_law_704 ?_
  refine law_ml (F1 := (r, τ2)) C hP1 hS (va_runV (As := [.int (xs (Int32.toNatClampNeg (x3 + 1)))]) (rest := [.long r]) ⟨hx, hb, hml, hown, hts⟩ (kX5_hill l E2 hD2 (xs (Int32.toNatClampNeg (x3 + 1))) τ (r, τ2) e2) (cwV 1 hts (gU_V u_823 u_824 u_825 u_5 u_826) rfl rfl rfl q_X5_hill ⟨Nat.le_of_ble_eq_true rfl, Nat.le_of_ble_eq_true rfl⟩) (law_pre2 C hP2 hS) rfl rfl hl.1 rfl (lv_room (Nat.le_of_ble_eq_true rfl)) dL_law_705 ⟨Nat.le_of_ble_eq_true rfl, Nat.le_of_ble_eq_true rfl⟩) (fun H locs hP1 hP2 hS => ?_)
  refine W.lcmp hx hb dL_law_708 ?_
  exact lv_if_eq (tgt := 987) hx hb dL_law_709 (by decide) (fun _ => kk σ2 τ2 _ _ hR2 hP1 hP2 hS) (fun q => absurd (law_cmp r) q)
set_option maxHeartbeats 4000000 in
set_option maxRecDepth 100000 in
theorem law_c21 {p : Program} {l : Launch} {e : Env} {s : State} {m : MethodId} {below : List Frame} {meth : Method} {c : Code} {H : Heap} {locs : List Loc} {Q : State → Prop} {ls : Array Slot} {E1 E2 : EN} {b L : Nat} {xs : Nat → Int32} (C : LC p s m meth c b L xs E1 E2) {Rl : ST → ST → Prop} (S : SIMS Rl) {i : Nat} {x3 : Int32} (hi : i + 4 ≤ L) (ex3 : x3 = nI i) {σ τ : ST} (hR : Rl σ τ) (hl : lv_has ls 4 [(0, .ref b), (1, .ref (ea E1 0)), (2, .ref (ea E2 0)), (3, .int x3)]) (hP1 : va_P (eD E1) vwCl (xW E1 σ) H) (hP2 : va_P (eD E2) vwCl (mW E2 τ) H) (hS : va_S (lawA s) s.heap H locs) (kk : ∀ (σ τ : ST) (H : Heap) (locs : List Loc), Rl σ τ → va_P (eD E1) vwCl (xW E1 σ) H → va_P (eD E2) vwCl (mW E2 τ) H → va_S (lawA s) s.heap H locs → W p l e room_1 s m #[Value.ref b] below meth c H locs 70 1905 Q (F0 m 987 ls [])) : W p l e room_1 s m #[Value.ref b] below meth c H locs 70 1905 Q (F0 m 714 ls []) := by
  obtain ⟨hx, hb, hml, hown, hts, hrt, hlk, hX, hbl, hL, hD1, hD2, hs1, hs2, hdis, hK1, hK2, k1, k2⟩ := id C
  have hbA : ¬ lawA s b := Nat.not_le.mpr hbl
  obtain ⟨r, σ2, τ2, e1, e2, hR2⟩ := S.2.2.2.2.2.2.2.2.2.2.2.2.2.2.2.2.2.2.2.2.2.1 (xs (Int32.toNatClampNeg (x3 + 1))) (xs (Int32.toNatClampNeg (x3 + 2))) σ τ hR
  refine lv_aload_n hx hb dL_law_714 rfl (lv_at hl 1 rfl) ?_
  refine lv_aload_n hx hb dL_law_715 rfl (lv_at hl 0 rfl) ?_
  refine lv_iload_n hx hb dL_law_716 rfl (lv_at hl 3 rfl) ?_
  refine lv_iconst (v := 1) hx hb dL_law_717 (by decide) ?_
  refine lv_iadd hx hb dL_law_718 ?_
  refine va_sld hx hb hX hbl hbA hS (law_in hi hL ex3 (j := 1) (by decide)) dL_law_719 ?_
  refine lv_aload_n hx hb dL_law_720 rfl (lv_at hl 0 rfl) ?_
  refine lv_iload_n hx hb dL_law_721 rfl (lv_at hl 3 rfl) ?_
  refine lv_iconst (v := 2) hx hb dL_law_722 (by decide) ?_
  refine lv_iadd hx hb dL_law_723 ?_
  refine va_sld hx hb hX hbl hbA hS (law_in hi hL ex3 (j := 2) (by decide)) dL_law_724 ?_
  refine law_xi (F1 := (r, σ2)) C hP2 hS (va_runV (As := [.int (xs (Int32.toNatClampNeg (x3 + 1))), .int (xs (Int32.toNatClampNeg (x3 + 2)))]) (rest := []) ⟨hx, hb, hml, hown, hts⟩ (kX4_mend l E1 hD1 (xs (Int32.toNatClampNeg (x3 + 1))) (xs (Int32.toNatClampNeg (x3 + 2))) σ (r, σ2) e1) (cwV 2 hts (gU_V u_827 u_828 u_829 u_2 u_830) rfl rfl rfl q_X4_mend ⟨Nat.le_of_ble_eq_true rfl, Nat.le_of_ble_eq_true rfl⟩) (law_pre1 C hP1 hS) rfl rfl hl.1 rfl (lv_room (Nat.le_of_ble_eq_true rfl)) dL_law_725 ⟨Nat.le_of_ble_eq_true rfl, Nat.le_of_ble_eq_true rfl⟩) (fun H locs hP1 hP2 hS => ?_)
  refine lv_aload_n hx hb dL_law_728 rfl (lv_at hl 2 rfl) ?_
  refine lv_aload_n hx hb dL_law_729 rfl (lv_at hl 0 rfl) ?_
  refine lv_iload_n hx hb dL_law_730 rfl (lv_at hl 3 rfl) ?_
  refine lv_iconst (v := 1) hx hb dL_law_731 (by decide) ?_
  refine lv_iadd hx hb dL_law_732 ?_
  refine va_sld hx hb hX hbl hbA hS (law_in hi hL ex3 (j := 1) (by decide)) dL_law_733 ?_
  refine lv_aload_n hx hb dL_law_734 rfl (lv_at hl 0 rfl) ?_
  refine lv_iload_n hx hb dL_law_735 rfl (lv_at hl 3 rfl) ?_
  refine lv_iconst (v := 2) hx hb dL_law_736 (by decide) ?_
  refine lv_iadd hx hb dL_law_737 ?_
  refine va_sld hx hb hX hbl hbA hS (law_in hi hL ex3 (j := 2) (by decide)) dL_law_738 ?_
  refine law_mi (F1 := (r, τ2)) C hP1 hS (va_runV (As := [.int (xs (Int32.toNatClampNeg (x3 + 1))), .int (xs (Int32.toNatClampNeg (x3 + 2)))]) (rest := [.int r]) ⟨hx, hb, hml, hown, hts⟩ (kX5_mend l E2 hD2 (xs (Int32.toNatClampNeg (x3 + 1))) (xs (Int32.toNatClampNeg (x3 + 2))) τ (r, τ2) e2) (cwV 2 hts (gU_V u_831 u_832 u_833 u_5 u_834) rfl rfl rfl q_X5_mend ⟨Nat.le_of_ble_eq_true rfl, Nat.le_of_ble_eq_true rfl⟩) (law_pre2 C hP2 hS) rfl rfl hl.1 rfl (lv_room (Nat.le_of_ble_eq_true rfl)) dL_law_739 ⟨Nat.le_of_ble_eq_true rfl, Nat.le_of_ble_eq_true rfl⟩) (fun H locs hP1 hP2 hS => ?_)
  exact lv_icmp_eq (tgt := 987) hx hb dL_law_742 (by decide) (fun _ => kk σ2 τ2 _ _ hR2 hP1 hP2 hS) (fun q => absurd rfl q)
set_option maxHeartbeats 4000000 in
set_option maxRecDepth 100000 in
theorem law_c22 {p : Program} {l : Launch} {e : Env} {s : State} {m : MethodId} {below : List Frame} {meth : Method} {c : Code} {H : Heap} {locs : List Loc} {Q : State → Prop} {ls : Array Slot} {E1 E2 : EN} {b L : Nat} {xs : Nat → Int32} (C : LC p s m meth c b L xs E1 E2) {Rl : ST → ST → Prop} (S : SIMS Rl) {i : Nat} {x3 : Int32} (hi : i + 4 ≤ L) (ex3 : x3 = nI i) {σ τ : ST} (hR : Rl σ τ) (hl : lv_has ls 4 [(0, .ref b), (1, .ref (ea E1 0)), (2, .ref (ea E2 0)), (3, .int x3)]) (hP1 : va_P (eD E1) vwCl (xW E1 σ) H) (hP2 : va_P (eD E2) vwCl (mW E2 τ) H) (hS : va_S (lawA s) s.heap H locs) (kk : ∀ (σ τ : ST) (H : Heap) (locs : List Loc), Rl σ τ → va_P (eD E1) vwCl (xW E1 σ) H → va_P (eD E2) vwCl (mW E2 τ) H → va_S (lawA s) s.heap H locs → W p l e room_1 s m #[Value.ref b] below meth c H locs 70 1905 Q (F0 m 987 ls [])) : W p l e room_1 s m #[Value.ref b] below meth c H locs 70 1905 Q (F0 m 747 ls []) := by
  obtain ⟨hx, hb, hml, hown, hts, hrt, hlk, hX, hbl, hL, hD1, hD2, hs1, hs2, hdis, hK1, hK2, k1, k2⟩ := id C
  have hbA : ¬ lawA s b := Nat.not_le.mpr hbl
  obtain ⟨r, σ2, τ2, e1, e2, hR2⟩ := S.2.2.2.2.2.2.2.2.2.2.2.2.2.2.2.2.2.2.2.2.2.2.1 (xs (Int32.toNatClampNeg (x3 + 1))) σ τ hR
  refine lv_aload_n hx hb dL_law_747 rfl (lv_at hl 1 rfl) ?_
  refine lv_aload_n hx hb dL_law_748 rfl (lv_at hl 0 rfl) ?_
  refine lv_iload_n hx hb dL_law_749 rfl (lv_at hl 3 rfl) ?_
  refine lv_iconst (v := 1) hx hb dL_law_750 (by decide) ?_
  refine lv_iadd hx hb dL_law_751 ?_
  refine va_sld hx hb hX hbl hbA hS (law_in hi hL ex3 (j := 1) (by decide)) dL_law_752 ?_
  refine law_xi (F1 := (r, σ2)) C hP2 hS (va_runV (As := [.int (xs (Int32.toNatClampNeg (x3 + 1)))]) (rest := []) ⟨hx, hb, hml, hown, hts⟩ (kX4_mendFrom l E1 hD1 (xs (Int32.toNatClampNeg (x3 + 1))) σ (r, σ2) e1) (cwV 1 hts (gU_V u_839 u_840 u_841 u_2 u_842) rfl rfl rfl q_X4_mendFrom ⟨Nat.le_of_ble_eq_true rfl, Nat.le_of_ble_eq_true rfl⟩) (law_pre1 C hP1 hS) rfl rfl hl.1 rfl (lv_room (Nat.le_of_ble_eq_true rfl)) dL_law_753 ⟨Nat.le_of_ble_eq_true rfl, Nat.le_of_ble_eq_true rfl⟩) (fun H locs hP1 hP2 hS => ?_)
  refine lv_aload_n hx hb dL_law_756 rfl (lv_at hl 2 rfl) ?_
  refine lv_aload_n hx hb dL_law_757 rfl (lv_at hl 0 rfl) ?_
  refine lv_iload_n hx hb dL_law_758 rfl (lv_at hl 3 rfl) ?_
  refine lv_iconst (v := 1) hx hb dL_law_759 (by decide) ?_
  refine lv_iadd hx hb dL_law_760 ?_
  refine va_sld hx hb hX hbl hbA hS (law_in hi hL ex3 (j := 1) (by decide)) dL_law_761 ?_
  refine law_mi (F1 := (r, τ2)) C hP1 hS (va_runV (As := [.int (xs (Int32.toNatClampNeg (x3 + 1)))]) (rest := [.int r]) ⟨hx, hb, hml, hown, hts⟩ (kX5_mendFrom l E2 hD2 (xs (Int32.toNatClampNeg (x3 + 1))) τ (r, τ2) e2) (cwV 1 hts (gU_V u_843 u_844 u_845 u_5 u_846) rfl rfl rfl q_X5_mendFrom ⟨Nat.le_of_ble_eq_true rfl, Nat.le_of_ble_eq_true rfl⟩) (law_pre2 C hP2 hS) rfl rfl hl.1 rfl (lv_room (Nat.le_of_ble_eq_true rfl)) dL_law_762 ⟨Nat.le_of_ble_eq_true rfl, Nat.le_of_ble_eq_true rfl⟩) (fun H locs hP1 hP2 hS => ?_)
  exact lv_icmp_eq (tgt := 987) hx hb dL_law_765 (by decide) (fun _ => kk σ2 τ2 _ _ hR2 hP1 hP2 hS) (fun q => absurd rfl q)
set_option maxHeartbeats 4000000 in
set_option maxRecDepth 100000 in
theorem law_c23 {p : Program} {l : Launch} {e : Env} {s : State} {m : MethodId} {below : List Frame} {meth : Method} {c : Code} {H : Heap} {locs : List Loc} {Q : State → Prop} {ls : Array Slot} {E1 E2 : EN} {b L : Nat} {xs : Nat → Int32} (C : LC p s m meth c b L xs E1 E2) {Rl : ST → ST → Prop} (S : SIMS Rl) {i : Nat} {x3 : Int32} (hi : i + 4 ≤ L) (ex3 : x3 = nI i) {σ τ : ST} (hR : Rl σ τ) (hl : lv_has ls 4 [(0, .ref b), (1, .ref (ea E1 0)), (2, .ref (ea E2 0)), (3, .int x3)]) (hP1 : va_P (eD E1) vwCl (xW E1 σ) H) (hP2 : va_P (eD E2) vwCl (mW E2 τ) H) (hS : va_S (lawA s) s.heap H locs) (kk : ∀ (σ τ : ST) (H : Heap) (locs : List Loc), Rl σ τ → va_P (eD E1) vwCl (xW E1 σ) H → va_P (eD E2) vwCl (mW E2 τ) H → va_S (lawA s) s.heap H locs → W p l e room_1 s m #[Value.ref b] below meth c H locs 70 1905 Q (F0 m 987 ls [])) : W p l e room_1 s m #[Value.ref b] below meth c H locs 70 1905 Q (F0 m 770 ls []) := by
  obtain ⟨hx, hb, hml, hown, hts, hrt, hlk, hX, hbl, hL, hD1, hD2, hs1, hs2, hdis, hK1, hK2, k1, k2⟩ := id C
  have hbA : ¬ lawA s b := Nat.not_le.mpr hbl
  obtain ⟨r, σ2, τ2, e1, e2, hR2⟩ := S.2.2.2.2.2.2.2.2.2.2.2.2.2.2.2.2.2.2.2.2.2.2.2.1 (xs (Int32.toNatClampNeg (x3 + 1))) (xs (Int32.toNatClampNeg (x3 + 2))) (xs (Int32.toNatClampNeg (x3 + 3))) σ τ hR
  refine lv_aload_n hx hb dL_law_770 rfl (lv_at hl 1 rfl) ?_
  refine lv_aload_n hx hb dL_law_771 rfl (lv_at hl 0 rfl) ?_
  refine lv_iload_n hx hb dL_law_772 rfl (lv_at hl 3 rfl) ?_
  refine lv_iconst (v := 1) hx hb dL_law_773 (by decide) ?_
  refine lv_iadd hx hb dL_law_774 ?_
  refine va_sld hx hb hX hbl hbA hS (law_in hi hL ex3 (j := 1) (by decide)) dL_law_775 ?_
  refine lv_aload_n hx hb dL_law_776 rfl (lv_at hl 0 rfl) ?_
  refine lv_iload_n hx hb dL_law_777 rfl (lv_at hl 3 rfl) ?_
  refine lv_iconst (v := 2) hx hb dL_law_778 (by decide) ?_
  refine lv_iadd hx hb dL_law_779 ?_
  refine va_sld hx hb hX hbl hbA hS (law_in hi hL ex3 (j := 2) (by decide)) dL_law_780 ?_
  refine lv_aload_n hx hb dL_law_781 rfl (lv_at hl 0 rfl) ?_
  refine lv_iload_n hx hb dL_law_782 rfl (lv_at hl 3 rfl) ?_
  refine lv_iconst (v := 3) hx hb dL_law_783 (by decide) ?_
  refine lv_iadd hx hb dL_law_784 ?_
  refine va_sld hx hb hX hbl hbA hS (law_in hi hL ex3 (j := 3) (by decide)) dL_law_785 ?_
  refine law_xi (F1 := (r, σ2)) C hP2 hS (va_runV (As := [.int (xs (Int32.toNatClampNeg (x3 + 1))), .int (xs (Int32.toNatClampNeg (x3 + 2))), .int (xs (Int32.toNatClampNeg (x3 + 3)))]) (rest := []) ⟨hx, hb, hml, hown, hts⟩ (kX4_onFoot l E1 hD1 (xs (Int32.toNatClampNeg (x3 + 1))) (xs (Int32.toNatClampNeg (x3 + 2))) (xs (Int32.toNatClampNeg (x3 + 3))) σ (r, σ2) e1) (cwV 3 hts (gU_V u_847 u_848 u_849 u_2 u_850) rfl rfl rfl q_X4_onFoot ⟨Nat.le_of_ble_eq_true rfl, Nat.le_of_ble_eq_true rfl⟩) (law_pre1 C hP1 hS) rfl rfl hl.1 rfl (lv_room (Nat.le_of_ble_eq_true rfl)) dL_law_786 ⟨Nat.le_of_ble_eq_true rfl, Nat.le_of_ble_eq_true rfl⟩) (fun H locs hP1 hP2 hS => ?_)
  refine lv_aload_n hx hb dL_law_789 rfl (lv_at hl 2 rfl) ?_
  refine lv_aload_n hx hb dL_law_790 rfl (lv_at hl 0 rfl) ?_
  refine lv_iload_n hx hb dL_law_791 rfl (lv_at hl 3 rfl) ?_
  refine lv_iconst (v := 1) hx hb dL_law_792 (by decide) ?_
  refine lv_iadd hx hb dL_law_793 ?_
  refine va_sld hx hb hX hbl hbA hS (law_in hi hL ex3 (j := 1) (by decide)) dL_law_794 ?_
  refine lv_aload_n hx hb dL_law_795 rfl (lv_at hl 0 rfl) ?_
  refine lv_iload_n hx hb dL_law_796 rfl (lv_at hl 3 rfl) ?_
  refine lv_iconst (v := 2) hx hb dL_law_797 (by decide) ?_
  refine lv_iadd hx hb dL_law_798 ?_
  refine va_sld hx hb hX hbl hbA hS (law_in hi hL ex3 (j := 2) (by decide)) dL_law_799 ?_
  refine lv_aload_n hx hb dL_law_800 rfl (lv_at hl 0 rfl) ?_
  refine lv_iload_n hx hb dL_law_801 rfl (lv_at hl 3 rfl) ?_
  refine lv_iconst (v := 3) hx hb dL_law_802 (by decide) ?_
  refine lv_iadd hx hb dL_law_803 ?_
  refine va_sld hx hb hX hbl hbA hS (law_in hi hL ex3 (j := 3) (by decide)) dL_law_804 ?_
  refine law_mi (F1 := (r, τ2)) C hP1 hS (va_runV (As := [.int (xs (Int32.toNatClampNeg (x3 + 1))), .int (xs (Int32.toNatClampNeg (x3 + 2))), .int (xs (Int32.toNatClampNeg (x3 + 3)))]) (rest := [.int r]) ⟨hx, hb, hml, hown, hts⟩ (kX5_onFoot l E2 hD2 (xs (Int32.toNatClampNeg (x3 + 1))) (xs (Int32.toNatClampNeg (x3 + 2))) (xs (Int32.toNatClampNeg (x3 + 3))) τ (r, τ2) e2) (cwV 3 hts (gU_V u_855 u_856 u_857 u_5 u_858) rfl rfl rfl q_X5_onFoot ⟨Nat.le_of_ble_eq_true rfl, Nat.le_of_ble_eq_true rfl⟩) (law_pre2 C hP2 hS) rfl rfl hl.1 rfl (lv_room (Nat.le_of_ble_eq_true rfl)) dL_law_805 ⟨Nat.le_of_ble_eq_true rfl, Nat.le_of_ble_eq_true rfl⟩) (fun H locs hP1 hP2 hS => ?_)
  exact lv_icmp_eq (tgt := 987) hx hb dL_law_808 (by decide) (fun _ => kk σ2 τ2 _ _ hR2 hP1 hP2 hS) (fun q => absurd rfl q)
set_option maxHeartbeats 4000000 in
set_option maxRecDepth 100000 in
theorem law_c24 {p : Program} {l : Launch} {e : Env} {s : State} {m : MethodId} {below : List Frame} {meth : Method} {c : Code} {H : Heap} {locs : List Loc} {Q : State → Prop} {ls : Array Slot} {E1 E2 : EN} {b L : Nat} {xs : Nat → Int32} (C : LC p s m meth c b L xs E1 E2) {Rl : ST → ST → Prop} (S : SIMS Rl) {i : Nat} {x3 : Int32} (hi : i + 4 ≤ L) (ex3 : x3 = nI i) {σ τ : ST} (hR : Rl σ τ) (hl : lv_has ls 4 [(0, .ref b), (1, .ref (ea E1 0)), (2, .ref (ea E2 0)), (3, .int x3)]) (hP1 : va_P (eD E1) vwCl (xW E1 σ) H) (hP2 : va_P (eD E2) vwCl (mW E2 τ) H) (hS : va_S (lawA s) s.heap H locs) (kk : ∀ (σ τ : ST) (H : Heap) (locs : List Loc), Rl σ τ → va_P (eD E1) vwCl (xW E1 σ) H → va_P (eD E2) vwCl (mW E2 τ) H → va_S (lawA s) s.heap H locs → W p l e room_1 s m #[Value.ref b] below meth c H locs 70 1905 Q (F0 m 987 ls [])) : W p l e room_1 s m #[Value.ref b] below meth c H locs 70 1905 Q (F0 m 813 ls []) := by
  obtain ⟨hx, hb, hml, hown, hts, hrt, hlk, hX, hbl, hL, hD1, hD2, hs1, hs2, hdis, hK1, hK2, k1, k2⟩ := id C
  have hbA : ¬ lawA s b := Nat.not_le.mpr hbl
  obtain ⟨r, σ2, τ2, e1, e2, hR2⟩ := S.2.2.2.2.2.2.2.2.2.2.2.2.2.2.2.2.2.2.2.2.2.2.2.2.1 (xs (Int32.toNatClampNeg (x3 + 1))) (xs (Int32.toNatClampNeg (x3 + 2))) (xs (Int32.toNatClampNeg (x3 + 3))) σ τ hR
  refine lv_aload_n hx hb dL_law_813 rfl (lv_at hl 1 rfl) ?_
  refine lv_aload_n hx hb dL_law_814 rfl (lv_at hl 0 rfl) ?_
  refine lv_iload_n hx hb dL_law_815 rfl (lv_at hl 3 rfl) ?_
  refine lv_iconst (v := 1) hx hb dL_law_816 (by decide) ?_
  refine lv_iadd hx hb dL_law_817 ?_
  refine va_sld hx hb hX hbl hbA hS (law_in hi hL ex3 (j := 1) (by decide)) dL_law_818 ?_
  refine lv_aload_n hx hb dL_law_819 rfl (lv_at hl 0 rfl) ?_
  refine lv_iload_n hx hb dL_law_820 rfl (lv_at hl 3 rfl) ?_
  refine lv_iconst (v := 2) hx hb dL_law_821 (by decide) ?_
  refine lv_iadd hx hb dL_law_822 ?_
  refine va_sld hx hb hX hbl hbA hS (law_in hi hL ex3 (j := 2) (by decide)) dL_law_823 ?_
  refine lv_aload_n hx hb dL_law_824 rfl (lv_at hl 0 rfl) ?_
  refine lv_iload_n hx hb dL_law_825 rfl (lv_at hl 3 rfl) ?_
  refine lv_iconst (v := 3) hx hb dL_law_826 (by decide) ?_
  refine lv_iadd hx hb dL_law_827 ?_
  refine va_sld hx hb hX hbl hbA hS (law_in hi hL ex3 (j := 3) (by decide)) dL_law_828 ?_
  refine law_xi (F1 := (r, σ2)) C hP2 hS (va_runV (As := [.int (xs (Int32.toNatClampNeg (x3 + 1))), .int (xs (Int32.toNatClampNeg (x3 + 2))), .int (xs (Int32.toNatClampNeg (x3 + 3)))]) (rest := []) ⟨hx, hb, hml, hown, hts⟩ (kX4_onTheWay l E1 hD1 (xs (Int32.toNatClampNeg (x3 + 1))) (xs (Int32.toNatClampNeg (x3 + 2))) (xs (Int32.toNatClampNeg (x3 + 3))) σ (r, σ2) e1) (cwV 3 hts (gU_V u_859 u_860 u_861 u_2 u_862) rfl rfl rfl q_X4_onTheWay ⟨Nat.le_of_ble_eq_true rfl, Nat.le_of_ble_eq_true rfl⟩) (law_pre1 C hP1 hS) rfl rfl hl.1 rfl (lv_room (Nat.le_of_ble_eq_true rfl)) dL_law_829 ⟨Nat.le_of_ble_eq_true rfl, Nat.le_of_ble_eq_true rfl⟩) (fun H locs hP1 hP2 hS => ?_)
  refine lv_aload_n hx hb dL_law_832 rfl (lv_at hl 2 rfl) ?_
  refine lv_aload_n hx hb dL_law_833 rfl (lv_at hl 0 rfl) ?_
  refine lv_iload_n hx hb dL_law_834 rfl (lv_at hl 3 rfl) ?_
  refine lv_iconst (v := 1) hx hb dL_law_835 (by decide) ?_
  refine lv_iadd hx hb dL_law_836 ?_
  refine va_sld hx hb hX hbl hbA hS (law_in hi hL ex3 (j := 1) (by decide)) dL_law_837 ?_
  refine lv_aload_n hx hb dL_law_838 rfl (lv_at hl 0 rfl) ?_
  refine lv_iload_n hx hb dL_law_839 rfl (lv_at hl 3 rfl) ?_
  refine lv_iconst (v := 2) hx hb dL_law_840 (by decide) ?_
  refine lv_iadd hx hb dL_law_841 ?_
  refine va_sld hx hb hX hbl hbA hS (law_in hi hL ex3 (j := 2) (by decide)) dL_law_842 ?_
  refine lv_aload_n hx hb dL_law_843 rfl (lv_at hl 0 rfl) ?_
  refine lv_iload_n hx hb dL_law_844 rfl (lv_at hl 3 rfl) ?_
  refine lv_iconst (v := 3) hx hb dL_law_845 (by decide) ?_
  refine lv_iadd hx hb dL_law_846 ?_
  refine va_sld hx hb hX hbl hbA hS (law_in hi hL ex3 (j := 3) (by decide)) dL_law_847 ?_
  refine law_mi (F1 := (r, τ2)) C hP1 hS (va_runV (As := [.int (xs (Int32.toNatClampNeg (x3 + 1))), .int (xs (Int32.toNatClampNeg (x3 + 2))), .int (xs (Int32.toNatClampNeg (x3 + 3)))]) (rest := [.int r]) ⟨hx, hb, hml, hown, hts⟩ (kX5_onTheWay l E2 hD2 (xs (Int32.toNatClampNeg (x3 + 1))) (xs (Int32.toNatClampNeg (x3 + 2))) (xs (Int32.toNatClampNeg (x3 + 3))) τ (r, τ2) e2) (cwV 3 hts (gU_V u_863 u_864 u_865 u_5 u_866) rfl rfl rfl q_X5_onTheWay ⟨Nat.le_of_ble_eq_true rfl, Nat.le_of_ble_eq_true rfl⟩) (law_pre2 C hP2 hS) rfl rfl hl.1 rfl (lv_room (Nat.le_of_ble_eq_true rfl)) dL_law_848 ⟨Nat.le_of_ble_eq_true rfl, Nat.le_of_ble_eq_true rfl⟩) (fun H locs hP1 hP2 hS => ?_)
  exact lv_icmp_eq (tgt := 987) hx hb dL_law_851 (by decide) (fun _ => kk σ2 τ2 _ _ hR2 hP1 hP2 hS) (fun q => absurd rfl q)
set_option maxHeartbeats 4000000 in
set_option maxRecDepth 100000 in
theorem law_c25 {p : Program} {l : Launch} {e : Env} {s : State} {m : MethodId} {below : List Frame} {meth : Method} {c : Code} {H : Heap} {locs : List Loc} {Q : State → Prop} {ls : Array Slot} {E1 E2 : EN} {b L : Nat} {xs : Nat → Int32} (C : LC p s m meth c b L xs E1 E2) {Rl : ST → ST → Prop} (S : SIMS Rl) {i : Nat} {x3 : Int32} (hi : i + 4 ≤ L) (ex3 : x3 = nI i) {σ τ : ST} (hR : Rl σ τ) (hl : lv_has ls 4 [(0, .ref b), (1, .ref (ea E1 0)), (2, .ref (ea E2 0)), (3, .int x3)]) (hP1 : va_P (eD E1) vwCl (xW E1 σ) H) (hP2 : va_P (eD E2) vwCl (mW E2 τ) H) (hS : va_S (lawA s) s.heap H locs) (kk : ∀ (σ τ : ST) (H : Heap) (locs : List Loc), Rl σ τ → va_P (eD E1) vwCl (xW E1 σ) H → va_P (eD E2) vwCl (mW E2 τ) H → va_S (lawA s) s.heap H locs → W p l e room_1 s m #[Value.ref b] below meth c H locs 70 1905 Q (F0 m 987 ls [])) : W p l e room_1 s m #[Value.ref b] below meth c H locs 70 1905 Q (F0 m 856 ls []) := by
  obtain ⟨hx, hb, hml, hown, hts, hrt, hlk, hX, hbl, hL, hD1, hD2, hs1, hs2, hdis, hK1, hK2, k1, k2⟩ := id C
  have hbA : ¬ lawA s b := Nat.not_le.mpr hbl
  obtain ⟨r, σ2, τ2, e1, e2, hR2⟩ := S.2.2.2.2.2.2.2.2.2.2.2.2.2.2.2.2.2.2.2.2.2.2.2.2.2.1 (xs (Int32.toNatClampNeg (x3 + 1))) σ τ hR
  refine lv_aload_n hx hb dL_law_856 rfl (lv_at hl 1 rfl) ?_
  refine lv_aload_n hx hb dL_law_857 rfl (lv_at hl 0 rfl) ?_
  refine lv_iload_n hx hb dL_law_858 rfl (lv_at hl 3 rfl) ?_
  refine lv_iconst (v := 1) hx hb dL_law_859 (by decide) ?_
  refine lv_iadd hx hb dL_law_860 ?_
  refine va_sld hx hb hX hbl hbA hS (law_in hi hL ex3 (j := 1) (by decide)) dL_law_861 ?_
  refine law_xi (F1 := (r, σ2)) C hP2 hS (va_runV (As := [.int (xs (Int32.toNatClampNeg (x3 + 1)))]) (rest := []) ⟨hx, hb, hml, hown, hts⟩ (kX4_row l E1 hD1 (xs (Int32.toNatClampNeg (x3 + 1))) σ (r, σ2) e1) (cwV 1 hts (gU_V u_867 u_868 u_869 u_2 u_870) rfl rfl rfl q_X4_row ⟨Nat.le_of_ble_eq_true rfl, Nat.le_of_ble_eq_true rfl⟩) (law_pre1 C hP1 hS) rfl rfl hl.1 rfl (lv_room (Nat.le_of_ble_eq_true rfl)) dL_law_862 ⟨Nat.le_of_ble_eq_true rfl, Nat.le_of_ble_eq_true rfl⟩) (fun H locs hP1 hP2 hS => ?_)
  refine lv_aload_n hx hb dL_law_865 rfl (lv_at hl 2 rfl) ?_
  refine lv_aload_n hx hb dL_law_866 rfl (lv_at hl 0 rfl) ?_
  refine lv_iload_n hx hb dL_law_867 rfl (lv_at hl 3 rfl) ?_
  refine lv_iconst (v := 1) hx hb dL_law_868 (by decide) ?_
  refine lv_iadd hx hb dL_law_869 ?_
  refine va_sld hx hb hX hbl hbA hS (law_in hi hL ex3 (j := 1) (by decide)) dL_law_870 ?_
  refine law_mi (F1 := (r, τ2)) C hP1 hS (va_runV (As := [.int (xs (Int32.toNatClampNeg (x3 + 1)))]) (rest := [.int r]) ⟨hx, hb, hml, hown, hts⟩ (kX5_row l E2 hD2 (xs (Int32.toNatClampNeg (x3 + 1))) τ (r, τ2) e2) (cwV 1 hts (gU_V u_871 u_872 u_873 u_5 u_874) rfl rfl rfl q_X5_row ⟨Nat.le_of_ble_eq_true rfl, Nat.le_of_ble_eq_true rfl⟩) (law_pre2 C hP2 hS) rfl rfl hl.1 rfl (lv_room (Nat.le_of_ble_eq_true rfl)) dL_law_871 ⟨Nat.le_of_ble_eq_true rfl, Nat.le_of_ble_eq_true rfl⟩) (fun H locs hP1 hP2 hS => ?_)
  exact lv_icmp_eq (tgt := 987) hx hb dL_law_874 (by decide) (fun _ => kk σ2 τ2 _ _ hR2 hP1 hP2 hS) (fun q => absurd rfl q)
set_option maxHeartbeats 4000000 in
set_option maxRecDepth 100000 in
theorem law_c26 {p : Program} {l : Launch} {e : Env} {s : State} {m : MethodId} {below : List Frame} {meth : Method} {c : Code} {H : Heap} {locs : List Loc} {Q : State → Prop} {ls : Array Slot} {E1 E2 : EN} {b L : Nat} {xs : Nat → Int32} (C : LC p s m meth c b L xs E1 E2) {Rl : ST → ST → Prop} (S : SIMS Rl) {i : Nat} {x3 : Int32} (hi : i + 4 ≤ L) (ex3 : x3 = nI i) {σ τ : ST} (hR : Rl σ τ) (hl : lv_has ls 4 [(0, .ref b), (1, .ref (ea E1 0)), (2, .ref (ea E2 0)), (3, .int x3)]) (hP1 : va_P (eD E1) vwCl (xW E1 σ) H) (hP2 : va_P (eD E2) vwCl (mW E2 τ) H) (hS : va_S (lawA s) s.heap H locs) (kk : ∀ (σ τ : ST) (H : Heap) (locs : List Loc), Rl σ τ → va_P (eD E1) vwCl (xW E1 σ) H → va_P (eD E2) vwCl (mW E2 τ) H → va_S (lawA s) s.heap H locs → W p l e room_1 s m #[Value.ref b] below meth c H locs 70 1905 Q (F0 m 987 ls [])) : W p l e room_1 s m #[Value.ref b] below meth c H locs 70 1905 Q (F0 m 879 ls []) := by
  obtain ⟨hx, hb, hml, hown, hts, hrt, hlk, hX, hbl, hL, hD1, hD2, hs1, hs2, hdis, hK1, hK2, k1, k2⟩ := id C
  have hbA : ¬ lawA s b := Nat.not_le.mpr hbl
  obtain ⟨r, σ2, τ2, e1, e2, hR2⟩ := S.2.2.2.2.2.2.2.2.2.2.2.2.2.2.2.2.2.2.2.2.2.2.2.2.2.2.1  σ τ hR
  refine lv_aload_n hx hb dL_law_879 rfl (lv_at hl 1 rfl) ?_
  refine law_xi (F1 := (r, σ2)) C hP2 hS (va_runV (As := []) (rest := []) ⟨hx, hb, hml, hown, hts⟩ (kX4_clear l E1 hD1  σ (r, σ2) e1) (cwV 0 hts (gU_V u_875 u_876 u_877 u_2 u_878) rfl rfl rfl q_X4_clear ⟨Nat.le_of_ble_eq_true rfl, Nat.le_of_ble_eq_true rfl⟩) (law_pre1 C hP1 hS) rfl rfl hl.1 rfl (lv_room (Nat.le_of_ble_eq_true rfl)) dL_law_880 ⟨Nat.le_of_ble_eq_true rfl, Nat.le_of_ble_eq_true rfl⟩) (fun H locs hP1 hP2 hS => ?_)
  refine lv_aload_n hx hb dL_law_883 rfl (lv_at hl 2 rfl) ?_
  refine law_mi (F1 := (r, τ2)) C hP1 hS (va_runV (As := []) (rest := [.int r]) ⟨hx, hb, hml, hown, hts⟩ (kX5_clear l E2 hD2  τ (r, τ2) e2) (cwV 0 hts (gU_V u_879 u_880 u_881 u_5 u_882) rfl rfl rfl q_X5_clear ⟨Nat.le_of_ble_eq_true rfl, Nat.le_of_ble_eq_true rfl⟩) (law_pre2 C hP2 hS) rfl rfl hl.1 rfl (lv_room (Nat.le_of_ble_eq_true rfl)) dL_law_884 ⟨Nat.le_of_ble_eq_true rfl, Nat.le_of_ble_eq_true rfl⟩) (fun H locs hP1 hP2 hS => ?_)
  exact lv_icmp_eq (tgt := 987) hx hb dL_law_887 (by decide) (fun _ => kk σ2 τ2 _ _ hR2 hP1 hP2 hS) (fun q => absurd rfl q)
set_option maxHeartbeats 4000000 in
set_option maxRecDepth 100000 in
theorem law_c27 {p : Program} {l : Launch} {e : Env} {s : State} {m : MethodId} {below : List Frame} {meth : Method} {c : Code} {H : Heap} {locs : List Loc} {Q : State → Prop} {ls : Array Slot} {E1 E2 : EN} {b L : Nat} {xs : Nat → Int32} (C : LC p s m meth c b L xs E1 E2) {Rl : ST → ST → Prop} (S : SIMS Rl) {i : Nat} {x3 : Int32} (hi : i + 4 ≤ L) (ex3 : x3 = nI i) {σ τ : ST} (hR : Rl σ τ) (hl : lv_has ls 4 [(0, .ref b), (1, .ref (ea E1 0)), (2, .ref (ea E2 0)), (3, .int x3)]) (hP1 : va_P (eD E1) vwCl (xW E1 σ) H) (hP2 : va_P (eD E2) vwCl (mW E2 τ) H) (hS : va_S (lawA s) s.heap H locs) (kk : ∀ (σ τ : ST) (H : Heap) (locs : List Loc), Rl σ τ → va_P (eD E1) vwCl (xW E1 σ) H → va_P (eD E2) vwCl (mW E2 τ) H → va_S (lawA s) s.heap H locs → W p l e room_1 s m #[Value.ref b] below meth c H locs 70 1905 Q (F0 m 987 ls [])) : W p l e room_1 s m #[Value.ref b] below meth c H locs 70 1905 Q (F0 m 892 ls []) := by
  obtain ⟨hx, hb, hml, hown, hts, hrt, hlk, hX, hbl, hL, hD1, hD2, hs1, hs2, hdis, hK1, hK2, k1, k2⟩ := id C
  have hbA : ¬ lawA s b := Nat.not_le.mpr hbl
  obtain ⟨r, σ2, τ2, e1, e2, hR2⟩ := S.2.2.2.2.2.2.2.2.2.2.2.2.2.2.2.2.2.2.2.2.2.2.2.2.2.2.2.1  σ τ hR
  refine lv_aload_n hx hb dL_law_892 rfl (lv_at hl 1 rfl) ?_
  refine law_xi (F1 := (r, σ2)) C hP2 hS (va_runV (As := []) (rest := []) ⟨hx, hb, hml, hown, hts⟩ (kX4_judge l E1 hD1  σ (r, σ2) e1) (cwV 0 hts (gU_V u_883 u_884 u_885 u_2 u_886) rfl rfl rfl q_X4_judge ⟨Nat.le_of_ble_eq_true rfl, Nat.le_of_ble_eq_true rfl⟩) (law_pre1 C hP1 hS) rfl rfl hl.1 rfl (lv_room (Nat.le_of_ble_eq_true rfl)) dL_law_893 ⟨Nat.le_of_ble_eq_true rfl, Nat.le_of_ble_eq_true rfl⟩) (fun H locs hP1 hP2 hS => ?_)
  refine lv_aload_n hx hb dL_law_896 rfl (lv_at hl 2 rfl) ?_
  refine law_mi (F1 := (r, τ2)) C hP1 hS (va_runV (As := []) (rest := [.int r]) ⟨hx, hb, hml, hown, hts⟩ (kX5_judge l E2 hD2  τ (r, τ2) e2) (cwV 0 hts (gU_V u_887 u_888 u_889 u_5 u_890) rfl rfl rfl q_X5_judge ⟨Nat.le_of_ble_eq_true rfl, Nat.le_of_ble_eq_true rfl⟩) (law_pre2 C hP2 hS) rfl rfl hl.1 rfl (lv_room (Nat.le_of_ble_eq_true rfl)) dL_law_897 ⟨Nat.le_of_ble_eq_true rfl, Nat.le_of_ble_eq_true rfl⟩) (fun H locs hP1 hP2 hS => ?_)
  exact lv_icmp_eq (tgt := 987) hx hb dL_law_900 (by decide) (fun _ => kk σ2 τ2 _ _ hR2 hP1 hP2 hS) (fun q => absurd rfl q)
set_option maxHeartbeats 4000000 in
set_option maxRecDepth 100000 in
theorem law_c28 {p : Program} {l : Launch} {e : Env} {s : State} {m : MethodId} {below : List Frame} {meth : Method} {c : Code} {H : Heap} {locs : List Loc} {Q : State → Prop} {ls : Array Slot} {E1 E2 : EN} {b L : Nat} {xs : Nat → Int32} (C : LC p s m meth c b L xs E1 E2) {Rl : ST → ST → Prop} (S : SIMS Rl) {i : Nat} {x3 : Int32} (hi : i + 4 ≤ L) (ex3 : x3 = nI i) {σ τ : ST} (hR : Rl σ τ) (hl : lv_has ls 4 [(0, .ref b), (1, .ref (ea E1 0)), (2, .ref (ea E2 0)), (3, .int x3)]) (hP1 : va_P (eD E1) vwCl (xW E1 σ) H) (hP2 : va_P (eD E2) vwCl (mW E2 τ) H) (hS : va_S (lawA s) s.heap H locs) (kk : ∀ (σ τ : ST) (H : Heap) (locs : List Loc), Rl σ τ → va_P (eD E1) vwCl (xW E1 σ) H → va_P (eD E2) vwCl (mW E2 τ) H → va_S (lawA s) s.heap H locs → W p l e room_1 s m #[Value.ref b] below meth c H locs 70 1905 Q (F0 m 987 ls [])) : W p l e room_1 s m #[Value.ref b] below meth c H locs 70 1905 Q (F0 m 905 ls []) := by
  obtain ⟨hx, hb, hml, hown, hts, hrt, hlk, hX, hbl, hL, hD1, hD2, hs1, hs2, hdis, hK1, hK2, k1, k2⟩ := id C
  have hbA : ¬ lawA s b := Nat.not_le.mpr hbl
  obtain ⟨r, σ2, τ2, e1, e2, hR2⟩ := S.2.2.2.2.2.2.2.2.2.2.2.2.2.2.2.2.2.2.2.2.2.2.2.2.2.2.2.2.1 (xs (Int32.toNatClampNeg (x3 + 1))) (xs (Int32.toNatClampNeg (x3 + 2))) σ τ hR
  refine lv_aload_n hx hb dL_law_905 rfl (lv_at hl 1 rfl) ?_
  refine lv_aload_n hx hb dL_law_906 rfl (lv_at hl 0 rfl) ?_
  refine lv_iload_n hx hb dL_law_907 rfl (lv_at hl 3 rfl) ?_
  refine lv_iconst (v := 1) hx hb dL_law_908 (by decide) ?_
  refine lv_iadd hx hb dL_law_909 ?_
  refine va_sld hx hb hX hbl hbA hS (law_in hi hL ex3 (j := 1) (by decide)) dL_law_910 ?_
  refine lv_aload_n hx hb dL_law_911 rfl (lv_at hl 0 rfl) ?_
  refine lv_iload_n hx hb dL_law_912 rfl (lv_at hl 3 rfl) ?_
  refine lv_iconst (v := 2) hx hb dL_law_913 (by decide) ?_
  refine lv_iadd hx hb dL_law_914 ?_
  refine va_sld hx hb hX hbl hbA hS (law_in hi hL ex3 (j := 2) (by decide)) dL_law_915 ?_
  refine law_xi (F1 := (r, σ2)) C hP2 hS (va_runV (As := [.int (xs (Int32.toNatClampNeg (x3 + 1))), .int (xs (Int32.toNatClampNeg (x3 + 2)))]) (rest := []) ⟨hx, hb, hml, hown, hts⟩ (kX4_lots l E1 hD1 (xs (Int32.toNatClampNeg (x3 + 1))) (xs (Int32.toNatClampNeg (x3 + 2))) σ (r, σ2) e1) (cwV 2 hts (gU_V u_891 u_892 u_893 u_2 u_894) rfl rfl rfl q_X4_lots ⟨Nat.le_of_ble_eq_true rfl, Nat.le_of_ble_eq_true rfl⟩) (law_pre1 C hP1 hS) rfl rfl hl.1 rfl (lv_room (Nat.le_of_ble_eq_true rfl)) dL_law_916 ⟨Nat.le_of_ble_eq_true rfl, Nat.le_of_ble_eq_true rfl⟩) (fun H locs hP1 hP2 hS => ?_)
  refine lv_aload_n hx hb dL_law_919 rfl (lv_at hl 2 rfl) ?_
  refine lv_aload_n hx hb dL_law_920 rfl (lv_at hl 0 rfl) ?_
  refine lv_iload_n hx hb dL_law_921 rfl (lv_at hl 3 rfl) ?_
  refine lv_iconst (v := 1) hx hb dL_law_922 (by decide) ?_
  refine lv_iadd hx hb dL_law_923 ?_
  refine va_sld hx hb hX hbl hbA hS (law_in hi hL ex3 (j := 1) (by decide)) dL_law_924 ?_
  refine lv_aload_n hx hb dL_law_925 rfl (lv_at hl 0 rfl) ?_
  refine lv_iload_n hx hb dL_law_926 rfl (lv_at hl 3 rfl) ?_
  refine lv_iconst (v := 2) hx hb dL_law_927 (by decide) ?_
  refine lv_iadd hx hb dL_law_928 ?_
  refine va_sld hx hb hX hbl hbA hS (law_in hi hL ex3 (j := 2) (by decide)) dL_law_929 ?_
  refine law_mi (F1 := (r, τ2)) C hP1 hS (va_runV (As := [.int (xs (Int32.toNatClampNeg (x3 + 1))), .int (xs (Int32.toNatClampNeg (x3 + 2)))]) (rest := [.int r]) ⟨hx, hb, hml, hown, hts⟩ (kX5_lots l E2 hD2 (xs (Int32.toNatClampNeg (x3 + 1))) (xs (Int32.toNatClampNeg (x3 + 2))) τ (r, τ2) e2) (cwV 2 hts (gU_V u_902 u_903 u_904 u_5 u_905) rfl rfl rfl q_X5_lots ⟨Nat.le_of_ble_eq_true rfl, Nat.le_of_ble_eq_true rfl⟩) (law_pre2 C hP2 hS) rfl rfl hl.1 rfl (lv_room (Nat.le_of_ble_eq_true rfl)) dL_law_930 ⟨Nat.le_of_ble_eq_true rfl, Nat.le_of_ble_eq_true rfl⟩) (fun H locs hP1 hP2 hS => ?_)
  exact lv_icmp_eq (tgt := 987) hx hb dL_law_933 (by decide) (fun _ => kk σ2 τ2 _ _ hR2 hP1 hP2 hS) (fun q => absurd rfl q)
set_option maxHeartbeats 4000000 in
set_option maxRecDepth 100000 in
theorem law_c29 {p : Program} {l : Launch} {e : Env} {s : State} {m : MethodId} {below : List Frame} {meth : Method} {c : Code} {H : Heap} {locs : List Loc} {Q : State → Prop} {ls : Array Slot} {E1 E2 : EN} {b L : Nat} {xs : Nat → Int32} (C : LC p s m meth c b L xs E1 E2) {Rl : ST → ST → Prop} (S : SIMS Rl) {i : Nat} {x3 : Int32} (hi : i + 4 ≤ L) (ex3 : x3 = nI i) {σ τ : ST} (hR : Rl σ τ) (hl : lv_has ls 4 [(0, .ref b), (1, .ref (ea E1 0)), (2, .ref (ea E2 0)), (3, .int x3)]) (hP1 : va_P (eD E1) vwCl (xW E1 σ) H) (hP2 : va_P (eD E2) vwCl (mW E2 τ) H) (hS : va_S (lawA s) s.heap H locs) (kk : ∀ (σ τ : ST) (H : Heap) (locs : List Loc), Rl σ τ → va_P (eD E1) vwCl (xW E1 σ) H → va_P (eD E2) vwCl (mW E2 τ) H → va_S (lawA s) s.heap H locs → W p l e room_1 s m #[Value.ref b] below meth c H locs 70 1905 Q (F0 m 987 ls [])) : W p l e room_1 s m #[Value.ref b] below meth c H locs 70 1905 Q (F0 m 938 ls []) := by
  obtain ⟨hx, hb, hml, hown, hts, hrt, hlk, hX, hbl, hL, hD1, hD2, hs1, hs2, hdis, hK1, hK2, k1, k2⟩ := id C
  have hbA : ¬ lawA s b := Nat.not_le.mpr hbl
  obtain ⟨r, σ2, τ2, e1, e2, hR2⟩ := S.2.2.2.2.2.2.2.2.2.2.2.2.2.2.2.2.2.2.2.2.2.2.2.2.2.2.2.2.2.1  σ τ hR
  refine lv_aload_n hx hb dL_law_938 rfl (lv_at hl 1 rfl) ?_
  refine law_xi (F1 := (r, σ2)) C hP2 hS (va_runV (As := []) (rest := []) ⟨hx, hb, hml, hown, hts⟩ (kX4_image l E1 hD1  σ (r, σ2) e1) (cwV 0 hts (gU_V u_906 u_907 u_908 u_2 u_909) rfl rfl rfl q_X4_image ⟨Nat.le_of_ble_eq_true rfl, Nat.le_of_ble_eq_true rfl⟩) (law_pre1 C hP1 hS) rfl rfl hl.1 rfl (lv_room (Nat.le_of_ble_eq_true rfl)) dL_law_939 ⟨Nat.le_of_ble_eq_true rfl, Nat.le_of_ble_eq_true rfl⟩) (fun H locs hP1 hP2 hS => ?_)
  refine lv_aload_n hx hb dL_law_942 rfl (lv_at hl 2 rfl) ?_
  refine law_mi (F1 := (r, τ2)) C hP1 hS (va_runV (As := []) (rest := [.int r]) ⟨hx, hb, hml, hown, hts⟩ (kX5_image l E2 hD2  τ (r, τ2) e2) (cwV 0 hts (gU_V u_910 u_911 u_912 u_5 u_913) rfl rfl rfl q_X5_image ⟨Nat.le_of_ble_eq_true rfl, Nat.le_of_ble_eq_true rfl⟩) (law_pre2 C hP2 hS) rfl rfl hl.1 rfl (lv_room (Nat.le_of_ble_eq_true rfl)) dL_law_943 ⟨Nat.le_of_ble_eq_true rfl, Nat.le_of_ble_eq_true rfl⟩) (fun H locs hP1 hP2 hS => ?_)
  exact lv_icmp_eq (tgt := 987) hx hb dL_law_946 (by decide) (fun _ => kk σ2 τ2 _ _ hR2 hP1 hP2 hS) (fun q => absurd rfl q)
set_option maxHeartbeats 4000000 in
set_option maxRecDepth 100000 in
theorem law_c30 {p : Program} {l : Launch} {e : Env} {s : State} {m : MethodId} {below : List Frame} {meth : Method} {c : Code} {H : Heap} {locs : List Loc} {Q : State → Prop} {ls : Array Slot} {E1 E2 : EN} {b L : Nat} {xs : Nat → Int32} (C : LC p s m meth c b L xs E1 E2) {Rl : ST → ST → Prop} (S : SIMS Rl) {i : Nat} {x3 : Int32} (hi : i + 4 ≤ L) (ex3 : x3 = nI i) {σ τ : ST} (hR : Rl σ τ) (hl : lv_has ls 4 [(0, .ref b), (1, .ref (ea E1 0)), (2, .ref (ea E2 0)), (3, .int x3)]) (hP1 : va_P (eD E1) vwCl (xW E1 σ) H) (hP2 : va_P (eD E2) vwCl (mW E2 τ) H) (hS : va_S (lawA s) s.heap H locs) (kk : ∀ (σ τ : ST) (H : Heap) (locs : List Loc), Rl σ τ → va_P (eD E1) vwCl (xW E1 σ) H → va_P (eD E2) vwCl (mW E2 τ) H → va_S (lawA s) s.heap H locs → W p l e room_1 s m #[Value.ref b] below meth c H locs 70 1905 Q (F0 m 987 ls [])) : W p l e room_1 s m #[Value.ref b] below meth c H locs 70 1905 Q (F0 m 951 ls []) := by
  obtain ⟨hx, hb, hml, hown, hts, hrt, hlk, hX, hbl, hL, hD1, hD2, hs1, hs2, hdis, hK1, hK2, k1, k2⟩ := id C
  have hbA : ¬ lawA s b := Nat.not_le.mpr hbl
  obtain ⟨r, σ2, τ2, e1, e2, hR2⟩ := S.2.2.2.2.2.2.2.2.2.2.2.2.2.2.2.2.2.2.2.2.2.2.2.2.2.2.2.2.2.2.1  σ τ hR
  refine lv_aload_n hx hb dL_law_951 rfl (lv_at hl 1 rfl) ?_
  refine law_xi (F1 := (r, σ2)) C hP2 hS (va_runV (As := []) (rest := []) ⟨hx, hb, hml, hown, hts⟩ (kX4_on l E1 hD1  σ (r, σ2) e1) (cwV 0 hts (gU_V u_915 u_916 u_917 u_2 u_918) rfl rfl rfl q_X4_on ⟨Nat.le_of_ble_eq_true rfl, Nat.le_of_ble_eq_true rfl⟩) (law_pre1 C hP1 hS) rfl rfl hl.1 rfl (lv_room (Nat.le_of_ble_eq_true rfl)) dL_law_952 ⟨Nat.le_of_ble_eq_true rfl, Nat.le_of_ble_eq_true rfl⟩) (fun H locs hP1 hP2 hS => ?_)
  refine lv_aload_n hx hb dL_law_955 rfl (lv_at hl 2 rfl) ?_
  refine law_mi (F1 := (r, τ2)) C hP1 hS (va_runV (As := []) (rest := [.int r]) ⟨hx, hb, hml, hown, hts⟩ (kX5_on l E2 hD2  τ (r, τ2) e2) (cwV 0 hts (gU_V u_919 u_920 u_921 u_5 u_922) rfl rfl rfl q_X5_on ⟨Nat.le_of_ble_eq_true rfl, Nat.le_of_ble_eq_true rfl⟩) (law_pre2 C hP2 hS) rfl rfl hl.1 rfl (lv_room (Nat.le_of_ble_eq_true rfl)) dL_law_956 ⟨Nat.le_of_ble_eq_true rfl, Nat.le_of_ble_eq_true rfl⟩) (fun H locs hP1 hP2 hS => ?_)
  exact lv_icmp_eq (tgt := 987) hx hb dL_law_959 (by decide) (fun _ => kk σ2 τ2 _ _ hR2 hP1 hP2 hS) (fun q => absurd rfl q)
set_option maxHeartbeats 4000000 in
set_option maxRecDepth 100000 in
theorem law_c31 {p : Program} {l : Launch} {e : Env} {s : State} {m : MethodId} {below : List Frame} {meth : Method} {c : Code} {H : Heap} {locs : List Loc} {Q : State → Prop} {ls : Array Slot} {E1 E2 : EN} {b L : Nat} {xs : Nat → Int32} (C : LC p s m meth c b L xs E1 E2) {Rl : ST → ST → Prop} (S : SIMS Rl) {i : Nat} {x3 : Int32} (hi : i + 4 ≤ L) (ex3 : x3 = nI i) {σ τ : ST} (hR : Rl σ τ) (hl : lv_has ls 4 [(0, .ref b), (1, .ref (ea E1 0)), (2, .ref (ea E2 0)), (3, .int x3)]) (hP1 : va_P (eD E1) vwCl (xW E1 σ) H) (hP2 : va_P (eD E2) vwCl (mW E2 τ) H) (hS : va_S (lawA s) s.heap H locs) (kk : ∀ (σ τ : ST) (H : Heap) (locs : List Loc), Rl σ τ → va_P (eD E1) vwCl (xW E1 σ) H → va_P (eD E2) vwCl (mW E2 τ) H → va_S (lawA s) s.heap H locs → W p l e room_1 s m #[Value.ref b] below meth c H locs 70 1905 Q (F0 m 987 ls [])) : W p l e room_1 s m #[Value.ref b] below meth c H locs 70 1905 Q (F0 m 964 ls []) := by
  obtain ⟨hx, hb, hml, hown, hts, hrt, hlk, hX, hbl, hL, hD1, hD2, hs1, hs2, hdis, hK1, hK2, k1, k2⟩ := id C
  have hbA : ¬ lawA s b := Nat.not_le.mpr hbl
  obtain ⟨r, σ2, τ2, e1, e2, hR2⟩ := S.2.2.2.2.2.2.2.2.2.2.2.2.2.2.2.2.2.2.2.2.2.2.2.2.2.2.2.2.2.2.2 (xs (Int32.toNatClampNeg (x3 + 1))) σ τ hR
  refine lv_aload_n hx hb dL_law_964 rfl (lv_at hl 1 rfl) ?_
  refine lv_aload_n hx hb dL_law_965 rfl (lv_at hl 0 rfl) ?_
  refine lv_iload_n hx hb dL_law_966 rfl (lv_at hl 3 rfl) ?_
  refine lv_iconst (v := 1) hx hb dL_law_967 (by decide) ?_
  refine lv_iadd hx hb dL_law_968 ?_
  refine va_sld hx hb hX hbl hbA hS (law_in hi hL ex3 (j := 1) (by decide)) dL_law_969 ?_
  refine law_xi (F1 := (r, σ2)) C hP2 hS (va_runV (As := [.int (xs (Int32.toNatClampNeg (x3 + 1)))]) (rest := []) ⟨hx, hb, hml, hown, hts⟩ (kX4_count l E1 hD1 (xs (Int32.toNatClampNeg (x3 + 1))) σ (r, σ2) e1) (cwV 1 hts (gU_V u_923 u_924 u_925 u_2 u_926) rfl rfl rfl q_X4_count ⟨Nat.le_of_ble_eq_true rfl, Nat.le_of_ble_eq_true rfl⟩) (law_pre1 C hP1 hS) rfl rfl hl.1 rfl (lv_room (Nat.le_of_ble_eq_true rfl)) dL_law_970 ⟨Nat.le_of_ble_eq_true rfl, Nat.le_of_ble_eq_true rfl⟩) (fun H locs hP1 hP2 hS => ?_)
  refine lv_aload_n hx hb dL_law_973 rfl (lv_at hl 2 rfl) ?_
  refine lv_aload_n hx hb dL_law_974 rfl (lv_at hl 0 rfl) ?_
  refine lv_iload_n hx hb dL_law_975 rfl (lv_at hl 3 rfl) ?_
  refine lv_iconst (v := 1) hx hb dL_law_976 (by decide) ?_
  refine lv_iadd hx hb dL_law_977 ?_
  refine va_sld hx hb hX hbl hbA hS (law_in hi hL ex3 (j := 1) (by decide)) dL_law_978 ?_
  refine law_mi (F1 := (r, τ2)) C hP1 hS (va_runV (As := [.int (xs (Int32.toNatClampNeg (x3 + 1)))]) (rest := [.int r]) ⟨hx, hb, hml, hown, hts⟩ (kX5_count l E2 hD2 (xs (Int32.toNatClampNeg (x3 + 1))) τ (r, τ2) e2) (cwV 1 hts (gU_V u_932 u_933 u_934 u_5 u_935) rfl rfl rfl q_X5_count ⟨Nat.le_of_ble_eq_true rfl, Nat.le_of_ble_eq_true rfl⟩) (law_pre2 C hP2 hS) rfl rfl hl.1 rfl (lv_room (Nat.le_of_ble_eq_true rfl)) dL_law_979 ⟨Nat.le_of_ble_eq_true rfl, Nat.le_of_ble_eq_true rfl⟩) (fun H locs hP1 hP2 hS => ?_)
  exact lv_icmp_eq (tgt := 987) hx hb dL_law_982 (by decide) (fun _ => kk σ2 τ2 _ _ hR2 hP1 hP2 hS) (fun q => absurd rfl q)
theorem law_step {x3 : Int32} {i L : Nat} (hL : L ≤ 2048) (ex : x3 = nI i) (hi : i ≤ L) (h : ¬ Int32.ofNat L - 4 < x3) : i + 4 ≤ L := by
  subst ex
  have e1 : (Int32.ofNat L - 4).toInt = (L : Int) - 4 := by
    rw [show (4 : Int32) = nI 4 from rfl, show Int32.ofNat L = nI L from rfl, pk_sub_toInt (by omega) (by omega)]
    rfl
  have e2 : (nI i).toInt = (i : Int) := nI_toInt (by omega)
  rw [Int32.lt_iff_toInt_lt, e1, e2] at h
  omega
theorem law_31 (x : Int32) : ∃ j : Nat, j < 32 ∧ x &&& 31 = nI j := pk_andE x 5 (by decide)
theorem law_cases {j : Nat} (h : j < 32) : j = 0 ∨ j = 1 ∨ j = 2 ∨ j = 3 ∨ j = 4 ∨ j = 5 ∨ j = 6 ∨ j = 7 ∨ j = 8 ∨ j = 9 ∨ j = 10 ∨ j = 11 ∨ j = 12 ∨ j = 13 ∨ j = 14 ∨ j = 15 ∨ j = 16 ∨ j = 17 ∨ j = 18 ∨ j = 19 ∨ j = 20 ∨ j = 21 ∨ j = 22 ∨ j = 23 ∨ j = 24 ∨ j = 25 ∨ j = 26 ∨ j = 27 ∨ j = 28 ∨ j = 29 ∨ j = 30 ∨ j = 31 := by omega
set_option maxHeartbeats 8000000 in
set_option maxRecDepth 100000 in
theorem law_loop {p : Program} {l : Launch} {e : Env} {s : State} {m : MethodId} {below : List Frame} {meth : Method} {c : Code} {E1 E2 : EN} {b L : Nat} {xs : Nat → Int32} (C : LC p s m meth c b L xs E1 E2) {Rl : ST → ST → Prop} (S : SIMS Rl) : ∀ (n i : Nat) (x3 : Int32), i ≤ L → L < i + n → x3 = nI i → ∀ (σ τ : ST), Rl σ τ → ∀ (H : Heap) (locs : List Loc) (ls : Array Slot), lv_has ls 4 [(0, .ref b), (1, .ref (ea E1 0)), (2, .ref (ea E2 0)), (3, .int x3)] → va_P (eD E1) vwCl (xW E1 σ) H → va_P (eD E2) vwCl (mW E2 τ) H → va_S (lawA s) s.heap H locs → W p l e room_1 s m #[Value.ref b] below meth c H locs 70 1905 (lw_Z below #[Value.ref b] s) (F0 m 18 ls []) := by
  obtain ⟨hx, hb, hml, hown, hts, hrt, hlk, hX, hbl, hL, hD1, hD2, hs1, hs2, hdis, hK1, hK2, k1, k2⟩ := id C
  have hbA : ¬ lawA s b := Nat.not_le.mpr hbl
  intro n
  induction n with
  | zero => intro i x3 h1 h2; omega
  | succ n ih =>
    intro i x3 h1 h2 ex3 σ τ hR H locs ls hl hP1 hP2 hS
    refine lv_iload_n hx hb dL_law_18 rfl (lv_at hl 3 rfl) ?_
    refine lv_aload_n hx hb dL_law_19 rfl (lv_at hl 0 rfl) ?_
    refine va_slen hx hb hX hbl hbA hS dL_law_20 ?_
    refine lv_iconst (v := 4) hx hb dL_law_21 (by decide) ?_
    refine lv_isub hx hb dL_law_22 ?_
    refine lv_icmp_gt (tgt := 993) hx hb dL_law_23 (by decide) (fun _ => ?_) (fun c1 => ?_)
    · refine lv_iconst (v := 1) hx hb dL_law_993 (by decide) ?_
      exact va_forget (fun q h => hS.2.2 q h) (lw_ret hx hb hrt hlk dL_law_994)
    · have hi4 : i + 4 ≤ L := law_step hL ex3 (by omega) c1
      have h0 : vp_in x3 L := by rw [ex3]; exact vp_in_nI (by omega) (by omega)
      refine lv_aload_n hx hb dL_law_26 rfl (lv_at hl 0 rfl) ?_
      refine lv_iload_n hx hb dL_law_27 rfl (lv_at hl 3 rfl) ?_
      refine va_sld hx hb hX hbl hbA hS h0 dL_law_28 ?_
      refine lv_bipush (v := 31) hx hb dL_law_29 (by decide) ?_
      refine lv_iand hx hb dL_law_31 ?_
      have knext : ∀ (σ τ : ST) (H : Heap) (locs : List Loc), Rl σ τ → va_P (eD E1) vwCl (xW E1 σ) H → va_P (eD E2) vwCl (mW E2 τ) H → va_S (lawA s) s.heap H locs → W p l e room_1 s m #[Value.ref b] below meth c H locs 70 1905 (lw_Z below #[Value.ref b] s) (F0 m 987 ls []) := by
        intro σ τ H locs hR hP1 hP2 hS
        refine lv_iinc (v := x3 + 4) (lv' := [(3, .int (x3 + 4)), (0, .ref b), (1, .ref (ea E1 0)), (2, .ref (ea E2 0))]) hx hb dL_law_987 hl (k := 3) rfl (by rfl) (by decide) rfl (fun ls hl => ?_)
        refine lv_goto (tgt := 18) hx hb dL_law_990 (by decide) ?_
        exact ih (i + 4) (x3 + 4) (by omega) (by omega) (by rw [ex3, show nI (i + 4) = nI i + nI 4 from by unfold nI; rw [Int32.ofNat_add]]; rfl) σ τ hR H locs ls (lv_sub hl [1, 2, 3, 0] rfl) hP1 hP2 hS
      by_cases q0 : xs x3.toNatClampNeg &&& 31 = 0
      · refine z_tabIn (tgt := 176) hx hb q0 dL_law_32 (by decide) (by decide) rfl (by decide) ?_
        exact law_c0 C S hi4 ex3 hR hl hP1 hP2 hS knext
      by_cases q1 : xs x3.toNatClampNeg &&& 31 = 1
      · refine z_tabIn (tgt := 199) hx hb q1 dL_law_32 (by decide) (by decide) rfl (by decide) ?_
        exact law_c1 C S hi4 ex3 hR hl hP1 hP2 hS knext
      by_cases q2 : xs x3.toNatClampNeg &&& 31 = 2
      · refine z_tabIn (tgt := 212) hx hb q2 dL_law_32 (by decide) (by decide) rfl (by decide) ?_
        exact law_c2 C S hi4 ex3 hR hl hP1 hP2 hS knext
      by_cases q3 : xs x3.toNatClampNeg &&& 31 = 3
      · refine z_tabIn (tgt := 245) hx hb q3 dL_law_32 (by decide) (by decide) rfl (by decide) ?_
        exact law_c3 C S hi4 ex3 hR hl hP1 hP2 hS knext
      by_cases q4 : xs x3.toNatClampNeg &&& 31 = 4
      · refine z_tabIn (tgt := 278) hx hb q4 dL_law_32 (by decide) (by decide) rfl (by decide) ?_
        exact law_c4 C S hi4 ex3 hR hl hP1 hP2 hS knext
      by_cases q5 : xs x3.toNatClampNeg &&& 31 = 5
      · refine z_tabIn (tgt := 311) hx hb q5 dL_law_32 (by decide) (by decide) rfl (by decide) ?_
        exact law_c5 C S hi4 ex3 hR hl hP1 hP2 hS knext
      by_cases q6 : xs x3.toNatClampNeg &&& 31 = 6
      · refine z_tabIn (tgt := 344) hx hb q6 dL_law_32 (by decide) (by decide) rfl (by decide) ?_
        exact law_c6 C S hi4 ex3 hR hl hP1 hP2 hS knext
      by_cases q7 : xs x3.toNatClampNeg &&& 31 = 7
      · refine z_tabIn (tgt := 387) hx hb q7 dL_law_32 (by decide) (by decide) rfl (by decide) ?_
        exact law_c7 C S hi4 ex3 hR hl hP1 hP2 hS knext
      by_cases q8 : xs x3.toNatClampNeg &&& 31 = 8
      · refine z_tabIn (tgt := 430) hx hb q8 dL_law_32 (by decide) (by decide) rfl (by decide) ?_
        exact law_c8 C S hi4 ex3 hR hl hP1 hP2 hS knext
      by_cases q9 : xs x3.toNatClampNeg &&& 31 = 9
      · refine z_tabIn (tgt := 453) hx hb q9 dL_law_32 (by decide) (by decide) rfl (by decide) ?_
        exact law_c9 C S hi4 ex3 hR hl hP1 hP2 hS knext
      by_cases q10 : xs x3.toNatClampNeg &&& 31 = 10
      · refine z_tabIn (tgt := 477) hx hb q10 dL_law_32 (by decide) (by decide) rfl (by decide) ?_
        exact law_c10 C S hi4 ex3 hR hl hP1 hP2 hS knext
      by_cases q11 : xs x3.toNatClampNeg &&& 31 = 11
      · refine z_tabIn (tgt := 501) hx hb q11 dL_law_32 (by decide) (by decide) rfl (by decide) ?_
        exact law_c11 C S hi4 ex3 hR hl hP1 hP2 hS knext
      by_cases q12 : xs x3.toNatClampNeg &&& 31 = 12
      · refine z_tabIn (tgt := 534) hx hb q12 dL_law_32 (by decide) (by decide) rfl (by decide) ?_
        exact law_c12 C S hi4 ex3 hR hl hP1 hP2 hS knext
      by_cases q13 : xs x3.toNatClampNeg &&& 31 = 13
      · refine z_tabIn (tgt := 557) hx hb q13 dL_law_32 (by decide) (by decide) rfl (by decide) ?_
        exact law_c13 C S hi4 ex3 hR hl hP1 hP2 hS knext
      by_cases q14 : xs x3.toNatClampNeg &&& 31 = 14
      · refine z_tabIn (tgt := 591) hx hb q14 dL_law_32 (by decide) (by decide) rfl (by decide) ?_
        exact law_c14 C S hi4 ex3 hR hl hP1 hP2 hS knext
      by_cases q15 : xs x3.toNatClampNeg &&& 31 = 15
      · refine z_tabIn (tgt := 625) hx hb q15 dL_law_32 (by decide) (by decide) rfl (by decide) ?_
        exact law_c15 C S hi4 ex3 hR hl hP1 hP2 hS knext
      by_cases q16 : xs x3.toNatClampNeg &&& 31 = 16
      · refine z_tabIn (tgt := 638) hx hb q16 dL_law_32 (by decide) (by decide) rfl (by decide) ?_
        exact law_c16 C S hi4 ex3 hR hl hP1 hP2 hS knext
      by_cases q17 : xs x3.toNatClampNeg &&& 31 = 17
      · refine z_tabIn (tgt := 651) hx hb q17 dL_law_32 (by decide) (by decide) rfl (by decide) ?_
        exact law_c17 C S hi4 ex3 hR hl hP1 hP2 hS knext
      by_cases q18 : xs x3.toNatClampNeg &&& 31 = 18
      · refine z_tabIn (tgt := 664) hx hb q18 dL_law_32 (by decide) (by decide) rfl (by decide) ?_
        exact law_c18 C S hi4 ex3 hR hl hP1 hP2 hS knext
      by_cases q19 : xs x3.toNatClampNeg &&& 31 = 19
      · refine z_tabIn (tgt := 677) hx hb q19 dL_law_32 (by decide) (by decide) rfl (by decide) ?_
        exact law_c19 C S hi4 ex3 hR hl hP1 hP2 hS knext
      by_cases q20 : xs x3.toNatClampNeg &&& 31 = 20
      · refine z_tabIn (tgt := 690) hx hb q20 dL_law_32 (by decide) (by decide) rfl (by decide) ?_
        exact law_c20 C S hi4 ex3 hR hl hP1 hP2 hS knext
      by_cases q21 : xs x3.toNatClampNeg &&& 31 = 21
      · refine z_tabIn (tgt := 714) hx hb q21 dL_law_32 (by decide) (by decide) rfl (by decide) ?_
        exact law_c21 C S hi4 ex3 hR hl hP1 hP2 hS knext
      by_cases q22 : xs x3.toNatClampNeg &&& 31 = 22
      · refine z_tabIn (tgt := 747) hx hb q22 dL_law_32 (by decide) (by decide) rfl (by decide) ?_
        exact law_c22 C S hi4 ex3 hR hl hP1 hP2 hS knext
      by_cases q23 : xs x3.toNatClampNeg &&& 31 = 23
      · refine z_tabIn (tgt := 770) hx hb q23 dL_law_32 (by decide) (by decide) rfl (by decide) ?_
        exact law_c23 C S hi4 ex3 hR hl hP1 hP2 hS knext
      by_cases q24 : xs x3.toNatClampNeg &&& 31 = 24
      · refine z_tabIn (tgt := 813) hx hb q24 dL_law_32 (by decide) (by decide) rfl (by decide) ?_
        exact law_c24 C S hi4 ex3 hR hl hP1 hP2 hS knext
      by_cases q25 : xs x3.toNatClampNeg &&& 31 = 25
      · refine z_tabIn (tgt := 856) hx hb q25 dL_law_32 (by decide) (by decide) rfl (by decide) ?_
        exact law_c25 C S hi4 ex3 hR hl hP1 hP2 hS knext
      by_cases q26 : xs x3.toNatClampNeg &&& 31 = 26
      · refine z_tabIn (tgt := 879) hx hb q26 dL_law_32 (by decide) (by decide) rfl (by decide) ?_
        exact law_c26 C S hi4 ex3 hR hl hP1 hP2 hS knext
      by_cases q27 : xs x3.toNatClampNeg &&& 31 = 27
      · refine z_tabIn (tgt := 892) hx hb q27 dL_law_32 (by decide) (by decide) rfl (by decide) ?_
        exact law_c27 C S hi4 ex3 hR hl hP1 hP2 hS knext
      by_cases q28 : xs x3.toNatClampNeg &&& 31 = 28
      · refine z_tabIn (tgt := 905) hx hb q28 dL_law_32 (by decide) (by decide) rfl (by decide) ?_
        exact law_c28 C S hi4 ex3 hR hl hP1 hP2 hS knext
      by_cases q29 : xs x3.toNatClampNeg &&& 31 = 29
      · refine z_tabIn (tgt := 938) hx hb q29 dL_law_32 (by decide) (by decide) rfl (by decide) ?_
        exact law_c29 C S hi4 ex3 hR hl hP1 hP2 hS knext
      by_cases q30 : xs x3.toNatClampNeg &&& 31 = 30
      · refine z_tabIn (tgt := 951) hx hb q30 dL_law_32 (by decide) (by decide) rfl (by decide) ?_
        exact law_c30 C S hi4 ex3 hR hl hP1 hP2 hS knext
      by_cases q31 : xs x3.toNatClampNeg &&& 31 = 31
      · refine z_tabIn (tgt := 964) hx hb q31 dL_law_32 (by decide) (by decide) rfl (by decide) ?_
        exact law_c31 C S hi4 ex3 hR hl hP1 hP2 hS knext
      exact absurd (law_31 (xs x3.toNatClampNeg)) (fun h => by
        obtain ⟨j, hj, e⟩ := h
        rcases law_cases hj with rfl | rfl | rfl | rfl | rfl | rfl | rfl | rfl | rfl | rfl | rfl | rfl | rfl | rfl | rfl | rfl | rfl | rfl | rfl | rfl | rfl | rfl | rfl | rfl | rfl | rfl | rfl | rfl | rfl | rfl | rfl | rfl
        · exact q0 (e.trans (by decide))
        · exact q1 (e.trans (by decide))
        · exact q2 (e.trans (by decide))
        · exact q3 (e.trans (by decide))
        · exact q4 (e.trans (by decide))
        · exact q5 (e.trans (by decide))
        · exact q6 (e.trans (by decide))
        · exact q7 (e.trans (by decide))
        · exact q8 (e.trans (by decide))
        · exact q9 (e.trans (by decide))
        · exact q10 (e.trans (by decide))
        · exact q11 (e.trans (by decide))
        · exact q12 (e.trans (by decide))
        · exact q13 (e.trans (by decide))
        · exact q14 (e.trans (by decide))
        · exact q15 (e.trans (by decide))
        · exact q16 (e.trans (by decide))
        · exact q17 (e.trans (by decide))
        · exact q18 (e.trans (by decide))
        · exact q19 (e.trans (by decide))
        · exact q20 (e.trans (by decide))
        · exact q21 (e.trans (by decide))
        · exact q22 (e.trans (by decide))
        · exact q23 (e.trans (by decide))
        · exact q24 (e.trans (by decide))
        · exact q25 (e.trans (by decide))
        · exact q26 (e.trans (by decide))
        · exact q27 (e.trans (by decide))
        · exact q28 (e.trans (by decide))
        · exact q29 (e.trans (by decide))
        · exact q30 (e.trans (by decide))
        · exact q31 (e.trans (by decide)))
