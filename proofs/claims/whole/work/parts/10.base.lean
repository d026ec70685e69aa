/-! ===== states, environments, contracts in one form; steps that carry the pure answer along ===== -/
/-- a state: ints, longs, arrays, by their numbers -/
abbrev ST : Type := (Nat → Int32) × (Nat → Int64) × (Nat → Nat → Int32)
def gI (σ : ST) (k : Nat) : Int32 := σ.1 k
def gL (σ : ST) (k : Nat) : Int64 := σ.2.1 k
def gA (σ : ST) (k : Nat) : Nat → Int32 := σ.2.2 k
def sI (σ : ST) (k : Nat) (v : Int32) : ST := (va_up σ.1 k v, σ.2.1, σ.2.2)
def sL (σ : ST) (k : Nat) (v : Int64) : ST := (σ.1, va_up σ.2.1 k v, σ.2.2)
def sA (σ : ST) (k : Nat) (f : Nat → Int32) : ST := (σ.1, σ.2.1, va_up σ.2.2 k f)
def jmin (x y : Int32) : Int32 := if y < x then y else x
def jmax (x y : Int32) : Int32 := if x < y then y else x
def jmaxl (x y : Int64) : Int64 := if y < x then x else y
def jabsl (x : Int64) : Int64 := if 0 < x then x else -x
def bnd {α β : Type} (v : α) (k : α → Option β) : Option β := k v
def ald {β : Type} (f : Nat → Int32) (n : Nat) (i : Int32) (k : Int32 → Option β) : Option β := if i < 0 ∨ n ≤ i.toNatClampNeg then none else k (f i.toNatClampNeg)
def ast {β : Type} (σ : ST) (q n : Nat) (i x : Int32) (k : ST → Option β) : Option β := if i < 0 ∨ n ≤ i.toNatClampNeg then none else k (sA σ q (upd (gA σ q) i.toNatClampNeg x))
def cpy {β : Type} (σ : ST) (q0 n0 : Nat) (sp : Int32) (q1 n1 : Nat) (dp n : Int32) (k : ST → Option β) : Option β := if sp < 0 ∨ dp < 0 ∨ n < 0 ∨ n0 < sp.toNatClampNeg + n.toNatClampNeg ∨ n1 < dp.toNatClampNeg + n.toNatClampNeg then none else k (sA σ q1 (va_cpy (gA σ q0) (gA σ q1) sp.toNatClampNeg dp.toNatClampNeg n.toNatClampNeg))
def dvi {β : Type} (x y : Int32) (k : Int32 → Option β) : Option β := if y = 0 then none else k (x / y)
def rmi {β : Type} (x y : Int32) (k : Int32 → Option β) : Option β := if y = 0 then none else k (x - x / y * y)
def dvl {β : Type} (x y : Int64) (k : Int64 → Option β) : Option β := if y = 0 then none else k (x / y)
def rml {β : Type} (x y : Int64) (k : Int64 → Option β) : Option β := if y = 0 then none else k (x - x / y * y)
def bz {β : Type} (x : Int32) (k : Option β) : Option β := if x = 0 ∨ x = 1 then k else none
def cali {β : Type} (f : Option (Int32 × ST)) (k : Int32 → ST → Option β) : Option β := match f with
  | none => none
  | some q => k q.1 q.2
def call {β : Type} (f : Option (Int64 × ST)) (k : Int64 → ST → Option β) : Option β := match f with
  | none => none
  | some q => k q.1 q.2
def calv {β : Type} (f : Option ST) (k : ST → Option β) : Option β := match f with
  | none => none
  | some q => k q
def cals {β : Type} (f : Option (Nat × ST)) (k : Nat → ST → Option β) : Option β := match f with
  | none => none
  | some q => k q.1 q.2
/-- the fuel of every loop -/
def FU : Nat := 1000
/-- the surroundings: classes' numbers, cells' addresses, array classes, what may change, the Strings' and their bytes' addresses -/
abbrev EN : Type := va_G × (Nat → Nat) × (ClassId × ClassId × ClassId) × (Nat → Prop) × (Nat → Nat) × (Nat → Nat)
abbrev eD (E : EN) : va_G := E.1
abbrev ea (E : EN) : Nat → Nat := E.2.1
abbrev eI (E : EN) : ClassId := E.2.2.1.1
abbrev eZ (E : EN) : ClassId := E.2.2.1.2.1
abbrev eC (E : EN) : ClassId := E.2.2.1.2.2
abbrev eA (E : EN) : Nat → Prop := E.2.2.2.1
abbrev eK (E : EN) : Nat → Nat := E.2.2.2.2.1
abbrev eV (E : EN) : Nat → Nat := E.2.2.2.2.2
def eT (E : EN) : List (ClassId × FieldType) := [(eI E, .int), (eZ E, .boolean), (eC E, .char)]
def nJS : Nat := 7
def lenJS : List Nat := [4, 6, 9, 4, 2, 0, 6]
def bytJS : List (List Int32) := [[107, 48, 48, 59], [48, 48, 48, 48, 48, 59], [48, 48, 48, 48, 48, 48, 48, 48, 59], [48, 48, 48, 59], [48, 59], [], [112, 119, 98, 104, 107, 110]]
def strLen (j : Nat) : Int32 := Int32.ofNat (lenJS.getD j 0)
def strB (j : Nat) : Nat → Int32 := fun k => (bytJS.getD j []).getD k 0
def sg {β : Type} (j : Nat) (K : Option β) : Option β := if j < nJS then K else none
def gch {β : Type} (x : Int32) (K : Option β) : Option β := if (x.toUInt32 % 65536).toInt32 = x then K else none
/-- the Strings' places in the class file -/
def poJS : List Nat := [19, 21, 23, 25, 27, 29, 31]
def txJS : List String := ["k00;", "00000;", "00000000;", "000;", "0;", "", "pwbhkn"]
/-- what is known of the machine at a method's start, beside its own cells -/
def sK (E : EN) (U : State) : Prop := vk_S nJS lenJS bytJS (eK E) (eV E) (eA E) U U.heap ∧ (∀ i : Nat, i < nJS → vk_R RX1 (poJS.getD i 0) (txJS.getD i "") (eK E i) U) ∧ va_Z "java/lang/String" "COMPACT_STRINGS" "Z" (.int 1) (eA E) U U.heap ∧ va_Zq "jdk/internal/util/Preconditions" "SIOOBE_FORMATTER" "Ljava/util/function/BiFunction;" (eA E) U U.heap
def xK (E : EN) (U : State) : Prop := va_K (eD E) vwCl (eT E) U ∧ sK E U
theorem xK_mv {E : EN} {s U : State} {H : Heap} {locs : List Loc} (h : xK E s) (hS : va_S (eA E) s.heap H locs) (hU : U.heap = H) (hW : s.WarmedH U.vm) : xK E U := by
  obtain ⟨h1, h2, h3, h4, h5⟩ := h
  refine ⟨va_K.moved hW.alike h1, ?_, fun i hi => vk_R.warm hW (h3 i hi), ?_, ?_⟩
  · rw [hU]; exact (vk_S.moved hW.alike h2).kept hS.2.1
  · rw [hU]; exact (va_Z.moved hW.alike h4).kept hS.2.1
  · rw [hU]; exact (va_Zq.moved hW.alike h5).kept hS.2.1
theorem xK_calling {E : EN} {U : State} {g : JFrame} {mk : MethodId} {a : Array Value} (h : xK E U) : xK E (U.calling g mk a) := by
  obtain ⟨h1, h2, h3, h4, h5⟩ := h
  exact ⟨va_K.moved (u := U) (U := U.calling g mk a) (Vm.Alike.refl U.vm) h1, vk_S.moved (u := U) (U := U.calling g mk a) (Vm.Alike.refl U.vm) h2, fun i hi => vk_R.same (u := U) (U := U.calling g mk a) rfl (h3 i hi), va_Z.moved (u := U) (U := U.calling g mk a) (Vm.Alike.refl U.vm) h4, va_Zq.moved (u := U) (U := U.calling g mk a) (Vm.Alike.refl U.vm) h5⟩
/-- a contract's start, and its ends -/
def zPc (E : EN) (wf : EN → ST → va_W) (av : List Value) (σ : ST) : Array Value → State → Prop := va_Pc av (fun U => va_P (eD E) vwCl (wf E σ) U.heap ∧ xK E U)
def zQi (E : EN) (wf : EN → ST → va_W) (F : Int32 × ST) : Array Value → State → Outcome → State → Prop := va_Qi (fun (r : Int32) (u : ST) => (r, u) = F) (fun u t => va_P (eD E) vwCl (wf E u) t.heap) (eA E)
def zQl (E : EN) (wf : EN → ST → va_W) (F : Int64 × ST) : Array Value → State → Outcome → State → Prop := va_Ql (fun (r : Int64) (u : ST) => (r, u) = F) (fun u t => va_P (eD E) vwCl (wf E u) t.heap) (eA E)
def zQv (E : EN) (wf : EN → ST → va_W) (F : ST) : Array Value → State → Outcome → State → Prop := va_Qv (fun (u : ST) => u = F) (fun u t => va_P (eD E) vwCl (wf E u) t.heap) (eA E)
/-- what a method's walk has at hand -/
def zC (E : EN) (wf : EN → ST → va_W) (p : Program) (s : State) (m : MethodId) (args : Array Value) (meth : Method) (c : Code) (cc : ByteArray) (nL : Nat) (own : String) (ret : Option FieldType) (Ts : List Cond) : Prop := p.tables.exec = Jvm.exec ∧ c.code = cc ∧ c.maxLocals = nL ∧ s.vm.findClass own = some m.cls ∧ (∀ w ∈ Ts, w.before args s = true) ∧ meth.sig.returnType = ret ∧ meth.locks = false ∧ xK E s ∧ (∀ σ, va_D (eA E) (wf E σ))
abbrev zWi (E : EN) (wf : EN → ST → va_W) (p : Program) (l : Launch) (e : Env) (R : Room) (s : State) (m : MethodId) (args : Array Value) (below : List Frame) (meth : Method) (c : Code) (F : Int32 × ST) (H : Heap) (locs : List Loc) (g : JFrame) : Prop := W p l e R s m args below meth c H locs 0 0 (MQ below (zQi E wf F) args s 0 0 (eA E)) g
abbrev zWl (E : EN) (wf : EN → ST → va_W) (p : Program) (l : Launch) (e : Env) (R : Room) (s : State) (m : MethodId) (args : Array Value) (below : List Frame) (meth : Method) (c : Code) (F : Int64 × ST) (H : Heap) (locs : List Loc) (g : JFrame) : Prop := W p l e R s m args below meth c H locs 0 0 (MQ below (zQl E wf F) args s 0 0 (eA E)) g
abbrev zWv (E : EN) (wf : EN → ST → va_W) (p : Program) (l : Launch) (e : Env) (R : Room) (s : State) (m : MethodId) (args : Array Value) (below : List Frame) (meth : Method) (c : Code) (F : ST) (H : Heap) (locs : List Loc) (g : JFrame) : Prop := W p l e R s m args below meth c H locs 0 0 (MQ below (zQv E wf F) args s 0 0 (eA E)) g
def zQs (E : EN) (wf : EN → ST → va_W) (F : Nat × ST) : Array Value → State → Outcome → State → Prop := va_Qr (fun (u : ST) => u = F.2) (fun u a t => a = eK E F.1 ∧ va_P (eD E) vwCl (wf E u) t.heap) (eA E)
abbrev zWs (E : EN) (wf : EN → ST → va_W) (p : Program) (l : Launch) (e : Env) (R : Room) (s : State) (m : MethodId) (args : Array Value) (below : List Frame) (meth : Method) (c : Code) (F : Nat × ST) (H : Heap) (locs : List Loc) (g : JFrame) : Prop := W p l e R s m args below meth c H locs 0 0 (MQ below (zQs E wf F) args s 0 0 (eA E)) g
theorem z_hp {D : va_G} {cl : List vw_C} {ws : va_W} {t : State} {H : Heap} (ht : t.heap = H) (hP : va_P D cl ws H) : va_P D cl ws t.heap := by rw [ht]; exact hP
section ZSteps
variable {p : Program} {l : Launch} {e : Env} {R : Room} {s : State} {m : MethodId} {args : Array Value} {below : List Frame} {meth : Method} {c : Code} {H : Heap} {locs : List Loc} {cells slots : Nat} {Q : State → Prop} {cc : ByteArray} {pc : Nat} {ls : Array Slot} {rest : List Value} {β : Type}
theorem z_in {α : Type} {i : Int32} {n : Nat} {K : Option α} {F : α} (h : (if i < 0 ∨ n ≤ i.toNatClampNeg then none else K) = some F) : vp_in i n ∧ K = some F := by
  by_cases c : i < 0 ∨ n ≤ i.toNatClampNeg
  · rw [if_pos c] at h; cases h
  · rw [if_neg c] at h; exact ⟨c, h⟩
theorem z_if_eq (hx : p.tables.exec = Jvm.exec) (hb : c.code = cc) {x : Int32} {off : Int} {tgt : Nat} (hdg : decode cc pc = .ok (.ifCond .eq off, 3)) (ht : (pc : Int) + off = (tgt : Int)) {A B Z : Option β} (hE : (if x = 0 then A else B) = Z) (kt : A = Z → W p l e R s m args below meth c H locs cells slots Q (F0 m tgt ls rest)) (kf : B = Z → W p l e R s m args below meth c H locs cells slots Q (F0 m (pc + 3) ls rest)) : W p l e R s m args below meth c H locs cells slots Q (F0 m pc ls (.int x :: rest)) :=
  lv_if_eq hx hb hdg ht (fun c => kt (by rw [← hE, if_pos c])) (fun c => kf (by rw [← hE, if_neg c]))
theorem z_if_ne (hx : p.tables.exec = Jvm.exec) (hb : c.code = cc) {x : Int32} {off : Int} {tgt : Nat} (hdg : decode cc pc = .ok (.ifCond .ne off, 3)) (ht : (pc : Int) + off = (tgt : Int)) {A B Z : Option β} (hE : (if x = 0 then B else A) = Z) (kt : A = Z → W p l e R s m args below meth c H locs cells slots Q (F0 m tgt ls rest)) (kf : B = Z → W p l e R s m args below meth c H locs cells slots Q (F0 m (pc + 3) ls rest)) : W p l e R s m args below meth c H locs cells slots Q (F0 m pc ls (.int x :: rest)) :=
  lv_if_ne hx hb hdg ht (fun c => kt (by rw [← hE, if_neg c])) (fun c => kf (by rw [← hE, if_pos c]))
theorem z_if_lt (hx : p.tables.exec = Jvm.exec) (hb : c.code = cc) {x : Int32} {off : Int} {tgt : Nat} (hdg : decode cc pc = .ok (.ifCond .lt off, 3)) (ht : (pc : Int) + off = (tgt : Int)) {A B Z : Option β} (hE : (if x < 0 then A else B) = Z) (kt : A = Z → W p l e R s m args below meth c H locs cells slots Q (F0 m tgt ls rest)) (kf : B = Z → W p l e R s m args below meth c H locs cells slots Q (F0 m (pc + 3) ls rest)) : W p l e R s m args below meth c H locs cells slots Q (F0 m pc ls (.int x :: rest)) :=
  lv_if_lt hx hb hdg ht (fun c => kt (by rw [← hE, if_pos c])) (fun c => kf (by rw [← hE, if_neg c]))
theorem z_if_ge (hx : p.tables.exec = Jvm.exec) (hb : c.code = cc) {x : Int32} {off : Int} {tgt : Nat} (hdg : decode cc pc = .ok (.ifCond .ge off, 3)) (ht : (pc : Int) + off = (tgt : Int)) {A B Z : Option β} (hE : (if 0 ≤ x then A else B) = Z) (kt : A = Z → W p l e R s m args below meth c H locs cells slots Q (F0 m tgt ls rest)) (kf : B = Z → W p l e R s m args below meth c H locs cells slots Q (F0 m (pc + 3) ls rest)) : W p l e R s m args below meth c H locs cells slots Q (F0 m pc ls (.int x :: rest)) :=
  lv_if_ge hx hb hdg ht (fun c => kt (by rw [← hE, if_pos c])) (fun c => kf (by rw [← hE, if_neg c]))
theorem z_if_gt (hx : p.tables.exec = Jvm.exec) (hb : c.code = cc) {x : Int32} {off : Int} {tgt : Nat} (hdg : decode cc pc = .ok (.ifCond .gt off, 3)) (ht : (pc : Int) + off = (tgt : Int)) {A B Z : Option β} (hE : (if 0 < x then A else B) = Z) (kt : A = Z → W p l e R s m args below meth c H locs cells slots Q (F0 m tgt ls rest)) (kf : B = Z → W p l e R s m args below meth c H locs cells slots Q (F0 m (pc + 3) ls rest)) : W p l e R s m args below meth c H locs cells slots Q (F0 m pc ls (.int x :: rest)) :=
  lv_if_gt hx hb hdg ht (fun c => kt (by rw [← hE, if_pos c])) (fun c => kf (by rw [← hE, if_neg c]))
theorem z_if_le (hx : p.tables.exec = Jvm.exec) (hb : c.code = cc) {x : Int32} {off : Int} {tgt : Nat} (hdg : decode cc pc = .ok (.ifCond .le off, 3)) (ht : (pc : Int) + off = (tgt : Int)) {A B Z : Option β} (hE : (if x ≤ 0 then A else B) = Z) (kt : A = Z → W p l e R s m args below meth c H locs cells slots Q (F0 m tgt ls rest)) (kf : B = Z → W p l e R s m args below meth c H locs cells slots Q (F0 m (pc + 3) ls rest)) : W p l e R s m args below meth c H locs cells slots Q (F0 m pc ls (.int x :: rest)) :=
  lv_if_le hx hb hdg ht (fun c => kt (by rw [← hE, if_pos c])) (fun c => kf (by rw [← hE, if_neg c]))
theorem z_icmp_eq (hx : p.tables.exec = Jvm.exec) (hb : c.code = cc) {x y : Int32} {off : Int} {tgt : Nat} (hdg : decode cc pc = .ok (.if_icmp .eq off, 3)) (ht : (pc : Int) + off = (tgt : Int)) {A B Z : Option β} (hE : (if x = y then A else B) = Z) (kt : A = Z → W p l e R s m args below meth c H locs cells slots Q (F0 m tgt ls rest)) (kf : B = Z → W p l e R s m args below meth c H locs cells slots Q (F0 m (pc + 3) ls rest)) : W p l e R s m args below meth c H locs cells slots Q (F0 m pc ls (.int y :: .int x :: rest)) :=
  lv_icmp_eq hx hb hdg ht (fun c => kt (by rw [← hE, if_pos c])) (fun c => kf (by rw [← hE, if_neg c]))
theorem z_icmp_ne (hx : p.tables.exec = Jvm.exec) (hb : c.code = cc) {x y : Int32} {off : Int} {tgt : Nat} (hdg : decode cc pc = .ok (.if_icmp .ne off, 3)) (ht : (pc : Int) + off = (tgt : Int)) {A B Z : Option β} (hE : (if x = y then B else A) = Z) (kt : A = Z → W p l e R s m args below meth c H locs cells slots Q (F0 m tgt ls rest)) (kf : B = Z → W p l e R s m args below meth c H locs cells slots Q (F0 m (pc + 3) ls rest)) : W p l e R s m args below meth c H locs cells slots Q (F0 m pc ls (.int y :: .int x :: rest)) :=
  lv_icmp_ne hx hb hdg ht (fun c => kt (by rw [← hE, if_neg c])) (fun c => kf (by rw [← hE, if_pos c]))
theorem z_icmp_lt (hx : p.tables.exec = Jvm.exec) (hb : c.code = cc) {x y : Int32} {off : Int} {tgt : Nat} (hdg : decode cc pc = .ok (.if_icmp .lt off, 3)) (ht : (pc : Int) + off = (tgt : Int)) {A B Z : Option β} (hE : (if x < y then A else B) = Z) (kt : A = Z → W p l e R s m args below meth c H locs cells slots Q (F0 m tgt ls rest)) (kf : B = Z → W p l e R s m args below meth c H locs cells slots Q (F0 m (pc + 3) ls rest)) : W p l e R s m args below meth c H locs cells slots Q (F0 m pc ls (.int y :: .int x :: rest)) :=
  lv_icmp_lt hx hb hdg ht (fun c => kt (by rw [← hE, if_pos c])) (fun c => kf (by rw [← hE, if_neg c]))
theorem z_icmp_ge (hx : p.tables.exec = Jvm.exec) (hb : c.code = cc) {x y : Int32} {off : Int} {tgt : Nat} (hdg : decode cc pc = .ok (.if_icmp .ge off, 3)) (ht : (pc : Int) + off = (tgt : Int)) {A B Z : Option β} (hE : (if y ≤ x then A else B) = Z) (kt : A = Z → W p l e R s m args below meth c H locs cells slots Q (F0 m tgt ls rest)) (kf : B = Z → W p l e R s m args below meth c H locs cells slots Q (F0 m (pc + 3) ls rest)) : W p l e R s m args below meth c H locs cells slots Q (F0 m pc ls (.int y :: .int x :: rest)) :=
  lv_icmp_ge hx hb hdg ht (fun c => kt (by rw [← hE, if_pos c])) (fun c => kf (by rw [← hE, if_neg c]))
theorem z_icmp_gt (hx : p.tables.exec = Jvm.exec) (hb : c.code = cc) {x y : Int32} {off : Int} {tgt : Nat} (hdg : decode cc pc = .ok (.if_icmp .gt off, 3)) (ht : (pc : Int) + off = (tgt : Int)) {A B Z : Option β} (hE : (if y < x then A else B) = Z) (kt : A = Z → W p l e R s m args below meth c H locs cells slots Q (F0 m tgt ls rest)) (kf : B = Z → W p l e R s m args below meth c H locs cells slots Q (F0 m (pc + 3) ls rest)) : W p l e R s m args below meth c H locs cells slots Q (F0 m pc ls (.int y :: .int x :: rest)) :=
  lv_icmp_gt hx hb hdg ht (fun c => kt (by rw [← hE, if_pos c])) (fun c => kf (by rw [← hE, if_neg c]))
theorem z_icmp_le (hx : p.tables.exec = Jvm.exec) (hb : c.code = cc) {x y : Int32} {off : Int} {tgt : Nat} (hdg : decode cc pc = .ok (.if_icmp .le off, 3)) (ht : (pc : Int) + off = (tgt : Int)) {A B Z : Option β} (hE : (if x ≤ y then A else B) = Z) (kt : A = Z → W p l e R s m args below meth c H locs cells slots Q (F0 m tgt ls rest)) (kf : B = Z → W p l e R s m args below meth c H locs cells slots Q (F0 m (pc + 3) ls rest)) : W p l e R s m args below meth c H locs cells slots Q (F0 m pc ls (.int y :: .int x :: rest)) :=
  lv_icmp_le hx hb hdg ht (fun c => kt (by rw [← hE, if_pos c])) (fun c => kf (by rw [← hE, if_neg c]))
theorem z_istore_n (hx : p.tables.exec = Jvm.exec) (hb : c.code = cc) {k : Fin 4} {i nL : Nat} {x : Int32} {lv : List (Nat × Value)} (lv' : Int32 → List (Nat × Value)) {K : Int32 → Option β} {Z : Option β} (hdg : decode cc pc = .ok (.istore_n k, 1)) (hi : (k : Nat) = i) (h : lv_has ls nL lv) (hn : i < nL) (hl : (i, Value.int x) :: lv.filter (fun q => !(q.1 == i) && !(q.1 + 1 == i && q.2.category == 2)) = lv' x) (hE : bnd x K = Z)
    (kk : ∀ (y : Int32) (ls' : Array Slot), lv_has ls' nL (lv' y) → K y = Z → W p l e R s m args below meth c H locs cells slots Q (F0 m (pc + 1) ls' rest)) : W p l e R s m args below meth c H locs cells slots Q (F0 m pc ls (.int x :: rest)) :=
  lv_istore_n hx hb hdg hi h hn hl (fun ls' h' => kk x ls' h' hE)
theorem z_istore (hx : p.tables.exec = Jvm.exec) (hb : c.code = cc) {i nL : Nat} {x : Int32} {lv : List (Nat × Value)} (lv' : Int32 → List (Nat × Value)) {K : Int32 → Option β} {Z : Option β} (hdg : decode cc pc = .ok (.istore i, 2)) (h : lv_has ls nL lv) (hn : i < nL) (hl : (i, Value.int x) :: lv.filter (fun q => !(q.1 == i) && !(q.1 + 1 == i && q.2.category == 2)) = lv' x) (hE : bnd x K = Z)
    (kk : ∀ (y : Int32) (ls' : Array Slot), lv_has ls' nL (lv' y) → K y = Z → W p l e R s m args below meth c H locs cells slots Q (F0 m (pc + 2) ls' rest)) : W p l e R s m args below meth c H locs cells slots Q (F0 m pc ls (.int x :: rest)) :=
  lv_istore hx hb hdg h hn hl (fun ls' h' => kk x ls' h' hE)
theorem z_lstore_n (hx : p.tables.exec = Jvm.exec) (hb : c.code = cc) {k : Fin 4} {i nL : Nat} {x : Int64} {lv : List (Nat × Value)} (lv' : Int64 → List (Nat × Value)) {K : Int64 → Option β} {Z : Option β} (hdg : decode cc pc = .ok (.lstore_n k, 1)) (hi : (k : Nat) = i) (h : lv_has ls nL lv) (hn : i + 1 < nL) (hl : (i, Value.long x) :: lv.filter (fun q => !(q.1 == i) && (!(q.1 == i + 1) && !(q.1 + 1 == i && q.2.category == 2))) = lv' x) (hE : bnd x K = Z)
    (kk : ∀ (y : Int64) (ls' : Array Slot), lv_has ls' nL (lv' y) → K y = Z → W p l e R s m args below meth c H locs cells slots Q (F0 m (pc + 1) ls' rest)) : W p l e R s m args below meth c H locs cells slots Q (F0 m pc ls (.long x :: rest)) :=
  lv_lstore_n hx hb hdg hi h hn hl (fun ls' h' => kk x ls' h' hE)
theorem z_lstore (hx : p.tables.exec = Jvm.exec) (hb : c.code = cc) {i nL : Nat} {x : Int64} {lv : List (Nat × Value)} (lv' : Int64 → List (Nat × Value)) {K : Int64 → Option β} {Z : Option β} (hdg : decode cc pc = .ok (.lstore i, 2)) (h : lv_has ls nL lv) (hn : i + 1 < nL) (hl : (i, Value.long x) :: lv.filter (fun q => !(q.1 == i) && (!(q.1 == i + 1) && !(q.1 + 1 == i && q.2.category == 2))) = lv' x) (hE : bnd x K = Z)
    (kk : ∀ (y : Int64) (ls' : Array Slot), lv_has ls' nL (lv' y) → K y = Z → W p l e R s m args below meth c H locs cells slots Q (F0 m (pc + 2) ls' rest)) : W p l e R s m args below meth c H locs cells slots Q (F0 m pc ls (.long x :: rest)) :=
  lv_lstore hx hb hdg h hn hl (fun ls' h' => kk x ls' h' hE)
theorem z_iinc (hx : p.tables.exec = Jvm.exec) (hb : c.code = cc) {i nL k : Nat} {n : Int} {x v : Int32} {lv : List (Nat × Value)} (lv' : Int32 → List (Nat × Value)) {K : Int32 → Option β} {Z : Option β} (hdg : decode cc pc = .ok (.iinc i n, 3)) (h : lv_has ls nL lv) (hk : lv[k]? = some (i, .int x)) (hv : x + Int32.ofInt n = v) (hn : i < nL) (hl : (i, Value.int v) :: lv.filter (fun q => !(q.1 == i) && !(q.1 + 1 == i && q.2.category == 2)) = lv' v) (hE : bnd v K = Z)
    (kk : ∀ (y : Int32) (ls' : Array Slot), lv_has ls' nL (lv' y) → K y = Z → W p l e R s m args below meth c H locs cells slots Q (F0 m (pc + 3) ls' rest)) : W p l e R s m args below meth c H locs cells slots Q (F0 m pc ls rest) :=
  lv_iinc hx hb hdg h hk hv hn hl (fun ls' h' => kk v ls' h' hE)
theorem z_idiv (hx : p.tables.exec = Jvm.exec) (hb : c.code = cc) {x y : Int32} (hdg : decode cc pc = .ok (.idiv, 1)) {K : Int32 → Option β} {F : β} (hE : dvi x y K = some F) (k : ∀ v : Int32, K v = some F → W p l e R s m args below meth c H locs cells slots Q (F0 m (pc + 1) ls (.int v :: rest))) : W p l e R s m args below meth c H locs cells slots Q (F0 m pc ls (.int y :: .int x :: rest)) := by
  by_cases h : y = 0
  · rw [dvi, if_pos h] at hE; cases hE
  · rw [dvi, if_neg h] at hE; exact lv_idiv hx hb hdg h (k _ hE)
theorem z_irem (hx : p.tables.exec = Jvm.exec) (hb : c.code = cc) {x y : Int32} (hdg : decode cc pc = .ok (.irem, 1)) {K : Int32 → Option β} {F : β} (hE : rmi x y K = some F) (k : ∀ v : Int32, K v = some F → W p l e R s m args below meth c H locs cells slots Q (F0 m (pc + 1) ls (.int v :: rest))) : W p l e R s m args below meth c H locs cells slots Q (F0 m pc ls (.int y :: .int x :: rest)) := by
  by_cases h : y = 0
  · rw [rmi, if_pos h] at hE; cases hE
  · rw [rmi, if_neg h] at hE; exact lv_irem hx hb hdg h (k _ hE)
theorem z_ldiv (hx : p.tables.exec = Jvm.exec) (hb : c.code = cc) {x y : Int64} (hdg : decode cc pc = .ok (.ldiv, 1)) {K : Int64 → Option β} {F : β} (hE : dvl x y K = some F) (k : ∀ v : Int64, K v = some F → W p l e R s m args below meth c H locs cells slots Q (F0 m (pc + 1) ls (.long v :: rest))) : W p l e R s m args below meth c H locs cells slots Q (F0 m pc ls (.long y :: .long x :: rest)) := by
  by_cases h : y = 0
  · rw [dvl, if_pos h] at hE; cases hE
  · rw [dvl, if_neg h] at hE; exact lv_ldiv hx hb hdg h (k _ hE)
theorem z_lrem (hx : p.tables.exec = Jvm.exec) (hb : c.code = cc) {x y : Int64} (hdg : decode cc pc = .ok (.lrem, 1)) {K : Int64 → Option β} {F : β} (hE : rml x y K = some F) (k : ∀ v : Int64, K v = some F → W p l e R s m args below meth c H locs cells slots Q (F0 m (pc + 1) ls (.long v :: rest))) : W p l e R s m args below meth c H locs cells slots Q (F0 m pc ls (.long y :: .long x :: rest)) := by
  by_cases h : y = 0
  · rw [rml, if_pos h] at hE; cases hE
  · rw [rml, if_neg h] at hE; exact lv_lrem hx hb hdg h (k _ hE)
theorem z_out {x : Int32} {lo hi : Int} (h : ∀ k : Int, lo ≤ k → k ≤ hi → ¬ x.toInt = k) : x.toInt < lo ∨ hi < x.toInt := by
  by_cases h1 : x.toInt < lo
  · exact Or.inl h1
  · by_cases h2 : hi < x.toInt
    · exact Or.inr h2
    · exact absurd rfl (h x.toInt (by omega) (by omega))
theorem z_ne {x : Int32} {k : Int32} (h : ¬ x = k) : ¬ x.toInt = k.toInt := fun q => h (Int32.toInt_inj.mp q)
theorem z_bz {x : Int32} {K : Option β} {F : β} (h : bz x K = some F) : narrow .boolean (.int x) = .int x ∧ K = some F := by
  unfold bz at h
  by_cases c : x = 0 ∨ x = 1
  · rw [if_pos c] at h
    refine ⟨?_, h⟩
    rcases c with c | c <;> rw [c] <;> rfl
  · rw [if_neg c] at h; cases h
theorem z_tabIn (hx : p.tables.exec = Jvm.exec) (hb : c.code = cc) {x k : Int32} (q : x = k) {dflt lo hi : Int} {offs : Array Int} {len : Nat} {off : Int} {tgt : Nat} (hdg : decode cc pc = .ok (.tableswitch dflt lo hi offs, len)) (h1 : ¬ k.toInt < lo) (h2 : ¬ hi < k.toInt) (ho : offs[(k.toInt - lo).toNat]? = some off) (ht : (pc : Int) + off = (tgt : Int)) (kk : W p l e R s m args below meth c H locs cells slots Q (F0 m tgt ls rest)) : W p l e R s m args below meth c H locs cells slots Q (F0 m pc ls (.int x :: rest)) := by
  rw [q]; exact lv_tableIn hx hb hdg h1 h2 ho ht kk
theorem z_lookIn (hx : p.tables.exec = Jvm.exec) (hb : c.code = cc) {x k : Int32} (q : x = k) {dflt : Int} {ps : Array (Int × Int)} {len : Nat} {off : Int} {tgt : Nat} (hdg : decode cc pc = .ok (.lookupswitch dflt ps, len)) (hp : (ps.toList.zip (ps.toList.drop 1)).all (fun (a, next) => a.1 < next.1) = true) (ho : Op.lookupswitch.offset ps.toList dflt k.toInt = off) (ht : (pc : Int) + off = (tgt : Int)) (kk : W p l e R s m args below meth c H locs cells slots Q (F0 m tgt ls rest)) : W p l e R s m args below meth c H locs cells slots Q (F0 m pc ls (.int x :: rest)) := by
  rw [q]; exact lv_lookup hx hb hdg hp ho ht kk
variable {E : EN} {wf : EN → ST → va_W} {σ : ST}
theorem z_iret {F : Int32 × ST} {v : Int32} (hx : p.tables.exec = Jvm.exec) (hb : c.code = cc) (hr : meth.sig.returnType = some .int) (hlk : meth.locks = false) (hP : va_P (eD E) vwCl (wf E σ) H) (hS : va_S (eA E) s.heap H locs) (hdg : decode cc pc = .ok (.ireturn, 1)) (hE : some (v, σ) = some F) : zWi E wf p l e R s m args below meth c F H locs (F0 m pc ls [.int v]) := by
  cases hE
  exact W.iret (v := v) hx hb hr (fun t ht hW => ⟨⟨v, σ, rfl, rfl, z_hp ht hP⟩, hS.F ht⟩) hS.2.2 hdg hlk
theorem z_zret {F : Int32 × ST} {v : Int32} (hx : p.tables.exec = Jvm.exec) (hb : c.code = cc) (hr : meth.sig.returnType = some .boolean) (hlk : meth.locks = false) (hn : narrow .boolean (.int v) = .int v) (hP : va_P (eD E) vwCl (wf E σ) H) (hS : va_S (eA E) s.heap H locs) (hdg : decode cc pc = .ok (.ireturn, 1)) (hE : some (v, σ) = some F) : zWi E wf p l e R s m args below meth c F H locs (F0 m pc ls [.int v]) := by
  cases hE
  exact W.zret (v := v) hx hb hr hn (fun t ht hW => ⟨⟨v, σ, rfl, rfl, z_hp ht hP⟩, hS.F ht⟩) hS.2.2 hdg hlk
theorem z_nret {F : Int32 × ST} {v : Int32} {ty : FieldType} (hx : p.tables.exec = Jvm.exec) (hb : c.code = cc) (hr : meth.sig.returnType = some ty) (hlk : meth.locks = false) (hn : narrow ty (.int v) = .int v) (hP : va_P (eD E) vwCl (wf E σ) H) (hS : va_S (eA E) s.heap H locs) (hdg : decode cc pc = .ok (.ireturn, 1)) (hE : some (v, σ) = some F) : zWi E wf p l e R s m args below meth c F H locs (F0 m pc ls [.int v]) := by
  cases hE
  exact W.zret (v := v) hx hb hr hn (fun t ht hW => ⟨⟨v, σ, rfl, rfl, z_hp ht hP⟩, hS.F ht⟩) hS.2.2 hdg hlk
theorem z_sret {F : Nat × ST} {j : Nat} (hx : p.tables.exec = Jvm.exec) (hb : c.code = cc) (hr : meth.sig.returnType = some (.object "java/lang/String")) (hlk : meth.locks = false) (hP : va_P (eD E) vwCl (wf E σ) H) (hS : va_S (eA E) s.heap H locs) (hdg : decode cc pc = .ok (.areturn, 1)) (hE : some (j, σ) = some F) : zWs E wf p l e R s m args below meth c F H locs (F0 m pc ls [.ref (eK E j)]) := by
  cases hE
  exact W.aret (v := .ref (eK E j)) hx hb hr (Or.inl ⟨_, rfl⟩) (Or.inr ⟨_, rfl⟩) (fun t ht hW => ⟨⟨σ, _, rfl, rfl, rfl, z_hp ht hP⟩, hS.F ht⟩) hS.2.2 hdg hlk
theorem z_gch {x : Int32} {K : Option β} {F : β} (h : gch x K = some F) : narrow .char (.int x) = .int x ∧ K = some F := by
  unfold gch at h
  by_cases q : (x.toUInt32 % 65536).toInt32 = x
  · rw [if_pos q] at h; exact ⟨by have z := pk_nc x; rw [q] at z; exact z, h⟩
  · rw [if_neg q] at h; cases h
theorem z_sg {j : Nat} {K : Option β} {F : β} (h : sg j K = some F) : j < nJS ∧ K = some F := by
  unfold sg at h
  by_cases q : j < nJS
  · rw [if_pos q] at h; exact ⟨q, h⟩
  · rw [if_neg q] at h; cases h
theorem z_strb (hx : p.tables.exec = Jvm.exec) (hb : c.code = cc) {j : Nat} (hK : xK E s) (hj : j < nJS) (hS : va_S (eA E) s.heap H locs) {i : Int32} (hdg : decode cc pc = .ok (.baload, 1)) {K : Int32 → Option β} {F : β} (hE : ald (strB j) (lenJS.getD j 0) i K = some F) (k : ∀ v : Int32, K v = some F → W p l e R s m args below meth c H locs cells slots Q (F0 m (pc + 1) ls (.int v :: rest))) : W p l e R s m args below meth c H locs cells slots Q (F0 m pc ls (.int i :: .ref (eV E j) :: rest)) :=
  va_tb hx hb (hK.2.1.1 j hj).2.2.2 hS (z_in hE).1 (v := .int (strB j i.toNatClampNeg)) rfl hdg (k _ (z_in hE).2)
theorem z_lret {F : Int64 × ST} {v : Int64} (hx : p.tables.exec = Jvm.exec) (hb : c.code = cc) (hr : meth.sig.returnType = some .long) (hlk : meth.locks = false) (hP : va_P (eD E) vwCl (wf E σ) H) (hS : va_S (eA E) s.heap H locs) (hdg : decode cc pc = .ok (.lreturn, 1)) (hE : some (v, σ) = some F) : zWl E wf p l e R s m args below meth c F H locs (F0 m pc ls [.long v]) := by
  cases hE
  exact W.lret (v := v) hx hb hr (fun t ht hW => ⟨⟨v, σ, rfl, rfl, z_hp ht hP⟩, hS.F ht⟩) hS.2.2 hdg hlk
theorem z_vret {F : ST} (hx : p.tables.exec = Jvm.exec) (hb : c.code = cc) (hr : meth.sig.returnType = none) (hlk : meth.locks = false) (hP : va_P (eD E) vwCl (wf E σ) H) (hS : va_S (eA E) s.heap H locs) (hdg : decode cc pc = .ok (.return_, 1)) (hE : some σ = some F) : zWv E wf p l e R s m args below meth c F H locs (F0 m pc ls []) := by
  cases hE
  exact W.vret hx hb hr (fun t ht hW => ⟨⟨σ, rfl, rfl, z_hp ht hP⟩, hS.F ht⟩) hS.2.2 hdg hlk
theorem z_blind {E : EN} {wf : EN → ST → va_W} {av : List Value} {σ : ST} : FrameBlind (zPc E wf av σ) := fun a U g mk q => by obtain ⟨q0, q1, q2⟩ := q; exact ⟨q0, q1, xK_calling q2⟩
variable {y : MethodName} {bytes : ByteArray} {maxL nL n index : Nat} {ret : Option FieldType} {ws : List Cond} {rm : Room} {Ts : List Cond} {own C : String} {b : Addr} {As : List Value} {st : List Value}
theorem z_preV (hK : xK E s) (hP : va_P (eD E) vwCl (wf E σ) H) (hS : va_S (eA E) s.heap H locs) {ci q0 : Nat} {q : vw_C} {fs : List Value} (hc : vwCl[ci]? = some q) (he : (wf E σ)[q0]? = some (b, .inr (ci, fs))) (hC : q.1 = C) : PreV s H C b (zPc E wf (.ref b :: As) σ) As :=
  ⟨z_blind, by rw [← hC]; exact va_recv hK.1 hP hc he, fun U hU hW => ⟨rfl, z_hp hU hP, xK_mv hK hS hU hW⟩⟩
theorem z_preVs (hK : xK E s) (hP : va_P (eD E) vwCl (wf E σ) H) (hS : va_S (eA E) s.heap H locs) {j : Nat} (hj : j < nJS) : PreV s H RJ0 (eK E j) (zPc E wf (.ref (eK E j) :: As) σ) As :=
  ⟨z_blind, vk_recv hK.2.1 hj hS, fun U hU hW => ⟨rfl, z_hp hU hP, xK_mv hK hS hU hW⟩⟩
theorem z_preS (hK : xK E s) (hP : va_P (eD E) vwCl (wf E σ) H) (hS : va_S (eA E) s.heap H locs) : PreS s H (zPc E wf As σ) As :=
  ⟨z_blind, fun U hU hW => ⟨rfl, z_hp hU hP, xK_mv hK hS hU hW⟩⟩
theorem z_cali {K : Int32 → ST → Option β} {F : β} {f : Option (Int32 × ST)} (hE : cali f K = some F) : ∃ F1, f = some F1 ∧ K F1.1 F1.2 = some F := by
  cases f with
  | none => cases hE
  | some q => exact ⟨q, rfl, hE⟩
theorem z_call {K : Int64 → ST → Option β} {F : β} {f : Option (Int64 × ST)} (hE : call f K = some F) : ∃ F1, f = some F1 ∧ K F1.1 F1.2 = some F := by
  cases f with
  | none => cases hE
  | some q => exact ⟨q, rfl, hE⟩
theorem z_cals {K : Nat → ST → Option β} {F : β} {f : Option (Nat × ST)} (hE : cals f K = some F) : ∃ F1, f = some F1 ∧ K F1.1 F1.2 = some F := by
  cases f with
  | none => cases hE
  | some q => exact ⟨q, rfl, hE⟩
theorem z_gos {f : Option (Nat × ST)} {av : Array Value} {K : Nat → ST → Option β} {F : β} (hS : va_S (eA E) s.heap H locs) (hE : cals f K = some F) (hr : ∀ F1 : Nat × ST, f = some F1 → va_Run p l e R s m args below meth c H locs cells slots 0 0 (F0 m pc ls st) rest (zQs E wf F1 av) (eA E)) (kk : ∀ (r : Nat) (σ1 : ST) (H1 : Heap) (locs1 : List Loc), va_P (eD E) vwCl (wf E σ1) H1 → va_S (eA E) s.heap H1 locs1 → K r σ1 = some F → W p l e R s m args below meth c H1 locs1 cells slots Q (F0 m (pc + 3) ls (.ref (eK E r) :: rest))) : W p l e R s m args below meth c H locs cells slots Q (F0 m pc ls st) := by
  obtain ⟨F1, h1, hE⟩ := z_cals hE
  refine va_callr (hr F1 h1) hS (fun q _ h => h) (fun q h => h) (fun u ra t H1 locs1 ht hvm hw hB hz1 hk1 hS1 => ?_)
  obtain ⟨rfl, hB⟩ := hB
  rw [hw, ht] at hB
  exact kk F1.1 F1.2 H1 locs1 hB hS1 hE
theorem z_calv {K : ST → Option β} {F : β} {f : Option ST} (hE : calv f K = some F) : ∃ F1, f = some F1 ∧ K F1 = some F := by
  cases f with
  | none => cases hE
  | some q => exact ⟨q, rfl, hE⟩
theorem z_goi {f : Option (Int32 × ST)} {av : Array Value} {K : Int32 → ST → Option β} {F : β} (hS : va_S (eA E) s.heap H locs) (hE : cali f K = some F) (hr : ∀ F1 : Int32 × ST, f = some F1 → va_Run p l e R s m args below meth c H locs cells slots 0 0 (F0 m pc ls st) rest (zQi E wf F1 av) (eA E)) (kk : ∀ (r : Int32) (σ1 : ST) (H1 : Heap) (locs1 : List Loc), va_P (eD E) vwCl (wf E σ1) H1 → va_S (eA E) s.heap H1 locs1 → K r σ1 = some F → W p l e R s m args below meth c H1 locs1 cells slots Q (F0 m (pc + 3) ls (.int r :: rest))) : W p l e R s m args below meth c H locs cells slots Q (F0 m pc ls st) := by
  obtain ⟨F1, h1, hE⟩ := z_cali hE
  refine va_calli (hr F1 h1) hS (fun q _ h => h) (fun q h => h) (fun r u t H1 locs1 ht hvm hw hB hz1 hk1 hS1 => ?_)
  subst hw
  rw [ht] at hB
  exact kk r u H1 locs1 hB hS1 hE
theorem z_gol {f : Option (Int64 × ST)} {av : Array Value} {K : Int64 → ST → Option β} {F : β} (hS : va_S (eA E) s.heap H locs) (hE : call f K = some F) (hr : ∀ F1 : Int64 × ST, f = some F1 → va_Run p l e R s m args below meth c H locs cells slots 0 0 (F0 m pc ls st) rest (zQl E wf F1 av) (eA E)) (kk : ∀ (r : Int64) (σ1 : ST) (H1 : Heap) (locs1 : List Loc), va_P (eD E) vwCl (wf E σ1) H1 → va_S (eA E) s.heap H1 locs1 → K r σ1 = some F → W p l e R s m args below meth c H1 locs1 cells slots Q (F0 m (pc + 3) ls (.long r :: rest))) : W p l e R s m args below meth c H locs cells slots Q (F0 m pc ls st) := by
  obtain ⟨F1, h1, hE⟩ := z_call hE
  refine va_calll (hr F1 h1) hS (fun q _ h => h) (fun q h => h) (fun r u t H1 locs1 ht hvm hw hB hz1 hk1 hS1 => ?_)
  subst hw
  rw [ht] at hB
  exact kk r u H1 locs1 hB hS1 hE
theorem z_gov {f : Option (ST)} {av : Array Value} {K : ST → Option β} {F : β} (hS : va_S (eA E) s.heap H locs) (hE : calv f K = some F) (hr : ∀ F1 : ST, f = some F1 → va_Run p l e R s m args below meth c H locs cells slots 0 0 (F0 m pc ls st) rest (zQv E wf F1 av) (eA E)) (kk : ∀ (σ1 : ST) (H1 : Heap) (locs1 : List Loc), va_P (eD E) vwCl (wf E σ1) H1 → va_S (eA E) s.heap H1 locs1 → K σ1 = some F → W p l e R s m args below meth c H1 locs1 cells slots Q (F0 m (pc + 3) ls rest)) : W p l e R s m args below meth c H locs cells slots Q (F0 m pc ls st) := by
  obtain ⟨F1, h1, hE⟩ := z_calv hE
  refine va_callv (hr F1 h1) hS (fun q _ h => h) (fun q h => h) (fun u t H1 locs1 ht hvm hw hB hz1 hk1 hS1 => ?_)
  subst hw
  rw [ht] at hB
  exact kk u H1 locs1 hB hS1 hE
end ZSteps
