section CWorld
/-- the class's state: int fields by slot; spindles; cuts; bin's frames; bin's reel; the pool of Loads (kind 0) and their rows (kind 1) by address: addresses, kind, sort, number, frames' address, length, contents -/
def cS : Type := (Nat → Int32) × (Nat → Option Nat) × (Nat → Int32) × (Nat → Int64) × Option Nat × List Nat × (Nat → Nat) × (Nat → Int32) × (Nat → Int32) × (Nat → Option Nat) × (Nat → Nat) × (Nat → Nat → Int64)
def cS.fi (C : cS) : Nat → Int32 := C.1
def cS.sp (C : cS) : Nat → Option Nat := C.2.1
def cS.cu (C : cS) : Nat → Int32 := C.2.2.1
def cS.bf (C : cS) : Nat → Int64 := C.2.2.2.1
def cS.br (C : cS) : Option Nat := C.2.2.2.2.1
def cS.L (C : cS) : List Nat := C.2.2.2.2.2.1
def cS.kd (C : cS) : Nat → Nat := C.2.2.2.2.2.2.1
def cS.so (C : cS) : Nat → Int32 := C.2.2.2.2.2.2.2.1
def cS.nu (C : cS) : Nat → Int32 := C.2.2.2.2.2.2.2.2.1
def cS.fr (C : cS) : Nat → Option Nat := C.2.2.2.2.2.2.2.2.2.1
def cS.ln (C : cS) : Nat → Nat := C.2.2.2.2.2.2.2.2.2.2.1
def cS.ar (C : cS) : Nat → Nat → Int64 := C.2.2.2.2.2.2.2.2.2.2.2
def cS.ld (C : cS) (a : Nat) : Prop := a ∈ C.L ∧ C.kd a = 0
def cS.aw (C : cS) (a : Nat) : Prop := a ∈ C.L ∧ C.kd a = 1
def cS.si (C : cS) (k : Nat) (v : Int32) : cS := (upd C.fi k v, C.sp, C.cu, C.bf, C.br, C.L, C.kd, C.so, C.nu, C.fr, C.ln, C.ar)
def cS.ssp (C : cS) (k : Nat) (r : Option Nat) : cS := (C.fi, va_up C.sp k r, C.cu, C.bf, C.br, C.L, C.kd, C.so, C.nu, C.fr, C.ln, C.ar)
def cS.scu (C : cS) (k : Nat) (v : Int32) : cS := (C.fi, C.sp, upd C.cu k v, C.bf, C.br, C.L, C.kd, C.so, C.nu, C.fr, C.ln, C.ar)
def cS.ccu (C : cS) (sp dp n : Nat) : cS := (C.fi, C.sp, va_cpy C.cu C.cu sp dp n, C.bf, C.br, C.L, C.kd, C.so, C.nu, C.fr, C.ln, C.ar)
def cS.cpb (C : cS) (b sp dp n : Nat) : cS := (C.fi, C.sp, C.cu, va_cpy (C.ar b) C.bf sp dp n, C.br, C.L, C.kd, C.so, C.nu, C.fr, C.ln, C.ar)
def cS.sbr (C : cS) (r : Option Nat) : cS := (C.fi, C.sp, C.cu, C.bf, r, C.L, C.kd, C.so, C.nu, C.fr, C.ln, C.ar)
def cS.sar (C : cS) (b : Nat) (g : Nat → Int64) : cS := (C.fi, C.sp, C.cu, C.bf, C.br, C.L, C.kd, C.so, C.nu, C.fr, C.ln, va_up C.ar b g)
def cS.sal (C : cS) (b k : Nat) (v : Int64) : cS := C.sar b (vp_updL (C.ar b) k v)
def cS.cbp (C : cS) (b sp dp n : Nat) : cS := C.sar b (va_cpy C.bf (C.ar b) sp dp n)
def cS.cpp (C : cS) (a b sp dp n : Nat) : cS := C.sar b (va_cpy (C.ar a) (C.ar b) sp dp n)
def cS.nl (C : cS) (q : Nat) : cS := (C.fi, C.sp, C.cu, C.bf, C.br, C.L ++ [q], va_up C.kd q 0, va_up C.so q 0, va_up C.nu q 0, va_up C.fr q none, C.ln, C.ar)
def cS.na (C : cS) (q n : Nat) (f : Nat → Int64) : cS := (C.fi, C.sp, C.cu, C.bf, C.br, C.L ++ [q], va_up C.kd q 1, C.so, C.nu, C.fr, va_up C.ln q n, va_up C.ar q f)
def cS.slo (C : cS) (q : Nat) (v : Int32) : cS := (C.fi, C.sp, C.cu, C.bf, C.br, C.L, C.kd, va_up C.so q v, C.nu, C.fr, C.ln, C.ar)
def cS.sln (C : cS) (q : Nat) (v : Int32) : cS := (C.fi, C.sp, C.cu, C.bf, C.br, C.L, C.kd, C.so, va_up C.nu q v, C.fr, C.ln, C.ar)
def cS.slf (C : cS) (q : Nat) (r : Option Nat) : cS := (C.fi, C.sp, C.cu, C.bf, C.br, C.L, C.kd, C.so, C.nu, va_up C.fr q r, C.ln, C.ar)
def pF (cJ : ClassId) (C : cS) (a : Nat) : va_E := if C.kd a = 0 then .inr (0, [.int (C.so a), .int (C.nu a), va_rf (C.fr a)]) else .inl (cJ, C.ln a, .inr (.inl (C.ar a)))
def cfs (h : Nat → Nat) (C : cS) : List Value := [.ref (h 1), .ref (h 2), .int (C.fi 2), .ref (h 3), va_rf C.br, .int (C.fi 5), .int (C.fi 6), .int (C.fi 7), .int (C.fi 8), .int (C.fi 9), .int (C.fi 10), .int (C.fi 11), .int (C.fi 12), .int (C.fi 13)]
def cX (cI cJ cO : ClassId) (h : Nat → Nat) (C : cS) : va_W := [(h 0, .inr (1, cfs h C)), (h 1, .inl (cO, 8, .inr (.inr (.inr (.inr C.sp))))), (h 2, .inl (cI, 80, .inl C.cu)), (h 3, .inl (cJ, 24, .inr (.inl C.bf)))]
def cW (cI cJ cO : ClassId) (h : Nat → Nat) (C : cS) : va_W := cX cI cJ cO h C ++ va_pl C.L (pF cJ C)
def tysC (cI cJ cO : ClassId) : List (ClassId × FieldType) := [(cI, .int), (cJ, .long), (cO, .object RX0)]
def cG (D : va_G) (cI cJ cO : ClassId) (h : Nat → Nat) (A : Nat → Prop) (s : State) (H0 H : Heap) (locs : List Loc) (C : cS) : Prop :=
  va_K D vwCl (tysC cI cJ cO) s ∧ va_P D vwCl (cW cI cJ cO h C) H ∧ va_D A (cW cI cJ cO h C) ∧ va_S A H0 H locs ∧ (∀ q, H0.size ≤ q → A q) ∧ va_Nw (.castable "[J" "java/lang/Cloneable") s
def cPc (D : va_G) (cI cJ cO : ClassId) (h : Nat → Nat) (C : cS) (sz : Nat) (As : List Value) : Array Value → State → Prop :=
  va_Pc As (fun U => U.heap.size = sz ∧ va_P D vwCl (cW cI cJ cO h C) U.heap ∧ va_K D vwCl (tysC cI cJ cO) U ∧ va_D (fun _ => True) (cW cI cJ cO h C) ∧ va_Nw (.castable "[J" "java/lang/Cloneable") U)
def cB (D : va_G) (cI cJ cO : ClassId) (h : Nat → Nat) (A : Nat → Prop) (u : cS) (t : State) : Prop := va_P D vwCl (cW cI cJ cO h u) t.heap ∧ va_K D vwCl (tysC cI cJ cO) t ∧ va_D A (cW cI cJ cO h u)
def cMi (l : Launch) (D : va_G) (cI cJ cO : ClassId) (h : Nat → Nat) (y : MethodName) (ws : List Cond) (rm : Room) (mc ms : Nat) (As : List Value) (K : Int32 → cS → Prop) (C : cS) : Prop :=
  ∀ sz : Nat, Met l y ws rm (cPc D cI cJ cO h C sz As) (va_Qi K (cB D cI cJ cO h (va_A (cW cI cJ cO h C) sz)) (va_A (cW cI cJ cO h C) sz)) mc ms (va_A (cW cI cJ cO h C) sz)
def cMl (l : Launch) (D : va_G) (cI cJ cO : ClassId) (h : Nat → Nat) (y : MethodName) (ws : List Cond) (rm : Room) (mc ms : Nat) (As : List Value) (K : Int64 → cS → Prop) (C : cS) : Prop :=
  ∀ sz : Nat, Met l y ws rm (cPc D cI cJ cO h C sz As) (va_Ql K (cB D cI cJ cO h (va_A (cW cI cJ cO h C) sz)) (va_A (cW cI cJ cO h C) sz)) mc ms (va_A (cW cI cJ cO h C) sz)
def cMv (l : Launch) (D : va_G) (cI cJ cO : ClassId) (h : Nat → Nat) (y : MethodName) (ws : List Cond) (rm : Room) (mc ms : Nat) (As : List Value) (K : cS → Prop) (C : cS) : Prop :=
  ∀ sz : Nat, Met l y ws rm (cPc D cI cJ cO h C sz As) (va_Qv K (cB D cI cJ cO h (va_A (cW cI cJ cO h C) sz)) (va_A (cW cI cJ cO h C) sz)) mc ms (va_A (cW cI cJ cO h C) sz)
def cMq (l : Launch) (D : va_G) (cI cJ cO : ClassId) (h : Nat → Nat) (y : MethodName) (ws : List Cond) (rm : Room) (mc ms : Nat) (As : List Value) (K : Option Nat → cS → Prop) (C : cS) : Prop :=
  ∀ sz : Nat, Met l y ws rm (cPc D cI cJ cO h C sz As) (va_Qq K (cB D cI cJ cO h (va_A (cW cI cJ cO h C) sz)) (va_A (cW cI cJ cO h C) sz)) mc ms (va_A (cW cI cJ cO h C) sz)
def cInt : List Nat := [2, 5, 6, 7, 8, 9, 10, 11, 12, 13]
theorem c_pf {k : Nat} (hk : k ∈ cInt) : k < 14 ∧ (TX1 k).2.2.2 = false ∧ parseFieldDescriptor (TX1 k).2.2.1 = some .int ∧ ∀ (h : Nat → Nat) (C : cS) (v : Int32), (cfs h C).set k (.int v) = cfs h (C.si k v) := by
  simp only [cInt, List.mem_cons, List.not_mem_nil, or_false] at hk
  rcases hk with rfl | rfl | rfl | rfl | rfl | rfl | rfl | rfl | rfl | rfl <;> exact ⟨by decide, rfl, tyX1_ok _ (by decide), fun _ _ _ => rfl⟩
section Rows
variable {p : Program} {l : Launch} {e : Env} {R : Room} {s : State} {m : MethodId} {args : Array Value} {below : List Frame} {meth : Method} {c : Code} {H H0 : Heap} {locs : List Loc} {cells slots : Nat} {Q : State → Prop} {cc : ByteArray} {nL pc : Nat} {ls : Array Slot} {rest st0 : List Value} {Ts : List Cond} {D : va_G} {cI cJ cO : ClassId} {h : Nat → Nat} {A : Nat → Prop} {C : cS} {own : String}
theorem c_ldk {a : Nat} (ha : C.ld a) : ∃ k : Nat, (cW cI cJ cO h C)[k]? = some (a, pF cJ C a) ∧ (cW cI cJ cO h C)[k]? = some (a, .inr (0, [.int (C.so a), .int (C.nu a), va_rf (C.fr a)])) := by
  obtain ⟨k, hk⟩ := va_pl_get (X := cX cI cJ cO h C) (f := pF cJ C) ha.1
  exact ⟨k, hk, by rw [show pF cJ C a = .inr (0, [.int (C.so a), .int (C.nu a), va_rf (C.fr a)]) from if_pos ha.2] at hk; exact hk⟩
theorem c_awk {a : Nat} (ha : C.aw a) : ∃ k : Nat, (cW cI cJ cO h C)[k]? = some (a, pF cJ C a) ∧ (cW cI cJ cO h C)[k]? = some (a, .inl (cJ, C.ln a, .inr (.inl (C.ar a)))) := by
  obtain ⟨k, hk⟩ := va_pl_get (X := cX cI cJ cO h C) (f := pF cJ C) ha.1
  exact ⟨k, hk, by rw [show pF cJ C a = .inl (cJ, C.ln a, .inr (.inl (C.ar a))) from if_neg (by rw [ha.2]; decide)] at hk; exact hk⟩
theorem c_aws {a k : Nat} (ha : C.aw a) (hD : va_D A (cW cI cJ cO h C)) (hk : (cW cI cJ cO h C)[k]? = some (a, pF cJ C a)) (g : Nat → Int64) : (cW cI cJ cO h C).set k (a, .inl (cJ, C.ln a, .inr (.inl g))) = cW cI cJ cO h (C.sar a g) := by
  refine (va_pl_set (X := cX cI cJ cO h C) (L := C.L) (f := pF cJ C) hD ha.1 hk).trans ?_
  have e : va_up (pF cJ C) a (.inl (cJ, C.ln a, .inr (.inl g))) = pF cJ (C.sar a g) := by
    funext b
    by_cases hb : b = a
    · subst hb
      rw [va_up_self]
      show _ = (if C.kd b = 0 then _ else (Sum.inl (cJ, C.ln b, Sum.inr (Sum.inl (va_up C.ar b g b))) : va_E))
      rw [if_neg (by rw [ha.2]; decide), va_up_self]
    · rw [va_up_ne _ _ hb]
      show (if C.kd b = 0 then _ else _) = (if C.kd b = 0 then _ else (Sum.inl (cJ, C.ln b, Sum.inr (Sum.inl (va_up C.ar a g b))) : va_E))
      rw [va_up_ne _ _ hb]
      rfl
  rw [e]
  rfl
theorem c_get (F : CallFix p m c cc nL s args Ts RX1) (hin : ∀ w ∈ u_ws RX1 TX1 14, w ∈ Ts) (I : cG D cI cJ cO h A s H0 H locs C) (k : Nat) (hk : k < 14) {v : Value} (hv : (cfs h C)[k]? = some v) {index : Nat} (hlink : (Cond.fieldLink RX1 index (TX1 k).1 (TX1 k).2.1 (TX1 k).2.2.1).before args s = true) (hdg : decode cc pc = .ok (.getfield index, 3))
    (kk : W p l e R s m args below meth c H locs cells slots Q (F0 m (pc + 3) ls (v :: rest))) : W p l e R s m args below meth c H locs cells slots Q (F0 m pc ls (.ref (h 0) :: rest)) :=
  va_get (D := D) (cl := vwCl) (ci := 1) (C := RX1) (T := TX1) (N := 14) (ws := cW cI cJ cO h C) F.1 F.2.1 F.2.2.2.2 hin F.2.2.2.1 I.1 I.2.1 0 rfl rfl k hk hlink (fun _ q => q) hv hdg kk
theorem c_put (F : CallFix p m c cc nL s args Ts RX1) (hin : ∀ w ∈ u_ws RX1 TX1 14, w ∈ Ts) (I : cG D cI cJ cO h A s H0 H locs C) (k : Nat) (hk : k ∈ cInt) {v : Int32} {index : Nat} (hlink : (Cond.fieldLink RX1 index (TX1 k).1 (TX1 k).2.1 (TX1 k).2.2.1).before args s = true) (hdg : decode cc pc = .ok (.putfield index, 3))
    (kk : ∀ (H1 : Heap) (locs1 : List Loc), cG D cI cJ cO h A s H0 H1 locs1 (C.si k v) → W p l e R s m args below meth c H1 locs1 cells slots Q (F0 m (pc + 3) ls rest)) : W p l e R s m args below meth c H locs cells slots Q (F0 m pc ls (.int v :: .ref (h 0) :: rest)) := by
  obtain ⟨h1, h2, h3, h4⟩ := c_pf hk
  refine va_put (D := D) (cl := vwCl) (ci := 1) (C := RX1) (T := TX1) (N := 14) (ws := cW cI cJ cO h C) (fs := cfs h C) F.1 F.2.1 F.2.2.2.2 hin tyX1 tyX1_ok nmX1 F.2.2.2.1 I.1 I.2.1 I.2.2.1 I.2.2.2.1 0 rfl rfl k h1 hlink (fun _ q => q) h2 h3 rfl rfl h1 hdg (fun H1 locs1 hP hD hS => kk H1 locs1 ⟨I.1, ?_, ?_, hS, I.2.2.2.2⟩)
  · rw [h4] at hP; exact hP
  · rw [h4] at hD; exact hD
theorem c_putq {r : Option Nat} (F : CallFix p m c cc nL s args Ts RX1) (hin : ∀ w ∈ u_ws RX1 TX1 14, w ∈ Ts) (I : cG D cI cJ cO h A s H0 H locs C) {index : Nat} (hlink : (Cond.fieldLink RX1 index "CuttingTable" "binReel" "LCuttingTable$Load;").before args s = true) (hdg : decode cc pc = .ok (.putfield index, 3))
    (kk : ∀ (H1 : Heap) (locs1 : List Loc), cG D cI cJ cO h A s H0 H1 locs1 (C.sbr r) → W p l e R s m args below meth c H1 locs1 cells slots Q (F0 m (pc + 3) ls rest)) : W p l e R s m args below meth c H locs cells slots Q (F0 m pc ls (va_rf r :: .ref (h 0) :: rest)) := by
  refine va_put (D := D) (cl := vwCl) (ci := 1) (C := RX1) (T := TX1) (N := 14) (ws := cW cI cJ cO h C) (fs := cfs h C) (ty := .object "CuttingTable$Load") (v := va_rf r) F.1 F.2.1 F.2.2.2.2 hin tyX1 tyX1_ok nmX1 F.2.2.2.1 I.1 I.2.1 I.2.2.1 I.2.2.2.1 0 rfl rfl 4 (by decide) hlink (fun _ q => q) rfl (tyX1_ok 4 (by decide)) (by cases r <;> rfl) (by cases r <;> rfl) (by show 4 < 14; decide) hdg (fun H1 locs1 hP hD hS => kk H1 locs1 ⟨I.1, hP, hD, hS, I.2.2.2.2⟩)
theorem c_lget (F : CallFix p m c cc nL s args Ts RX1) (hin : ∀ w ∈ u_ws RX0 TX0 3, w ∈ Ts) (I : cG D cI cJ cO h A s H0 H locs C) {a : Nat} (ha : C.ld a) (k : Nat) (hk : k < 3) {v : Value} (hv : ([.int (C.so a), .int (C.nu a), va_rf (C.fr a)] : List Value)[k]? = some v) {index : Nat} (hlink : (Cond.fieldLink RX1 index (TX0 k).1 (TX0 k).2.1 (TX0 k).2.2.1).before args s = true) (hdg : decode cc pc = .ok (.getfield index, 3))
    (kk : W p l e R s m args below meth c H locs cells slots Q (F0 m (pc + 3) ls (v :: rest))) : W p l e R s m args below meth c H locs cells slots Q (F0 m pc ls (.ref a :: rest)) := by
  obtain ⟨q0, -, hq⟩ := c_ldk (cI := cI) (cJ := cJ) (cO := cO) (h := h) ha
  exact va_get (D := D) (cl := vwCl) (ci := 0) (C := RX0) (T := TX0) (N := 3) (ws := cW cI cJ cO h C) F.1 F.2.1 F.2.2.2.2 hin F.2.2.2.1 I.1 I.2.1 q0 hq rfl k hk hlink (fun _ q => q) hv hdg kk
theorem c_iald (F : CallFix p m c cc nL s args Ts own) (I : cG D cI cJ cO h A s H0 H locs C) {i : Int32} (hi : vp_in i 80) (hdg : decode cc pc = .ok (.iaload, 1))
    (kk : W p l e R s m args below meth c H locs cells slots Q (F0 m (pc + 1) ls (.int (C.cu i.toNatClampNeg) :: rest))) : W p l e R s m args below meth c H locs cells slots Q (F0 m pc ls (.int i :: .ref (h 2) :: rest)) :=
  va_iald (ws := cW cI cJ cO h C) F.1 F.2.1 I.1 I.2.1 2 0 rfl rfl hi hdg kk
theorem c_iast (F : CallFix p m c cc nL s args Ts own) (I : cG D cI cJ cO h A s H0 H locs C) {i x : Int32} (hi : vp_in i 80) (hdg : decode cc pc = .ok (.iastore, 1))
    (kk : ∀ (H1 : Heap) (locs1 : List Loc), cG D cI cJ cO h A s H0 H1 locs1 (C.scu i.toNatClampNeg x) → W p l e R s m args below meth c H1 locs1 cells slots Q (F0 m (pc + 1) ls rest)) : W p l e R s m args below meth c H locs cells slots Q (F0 m pc ls (.int x :: .int i :: .ref (h 2) :: rest)) :=
  va_iast (ws := cW cI cJ cO h C) F.1 F.2.1 I.1 I.2.1 I.2.2.1 I.2.2.2.1 2 0 rfl rfl hi hdg (fun H1 locs1 hP hD hS => kk H1 locs1 ⟨I.1, hP, hD, hS, I.2.2.2.2⟩)
theorem c_lald (F : CallFix p m c cc nL s args Ts own) (I : cG D cI cJ cO h A s H0 H locs C) {a : Nat} (ha : C.aw a) {i : Int32} (hi : vp_in i (C.ln a)) (hdg : decode cc pc = .ok (.laload, 1))
    (kk : W p l e R s m args below meth c H locs cells slots Q (F0 m (pc + 1) ls (.long (C.ar a i.toNatClampNeg) :: rest))) : W p l e R s m args below meth c H locs cells slots Q (F0 m pc ls (.int i :: .ref a :: rest)) := by
  obtain ⟨q0, -, hq⟩ := c_awk (cI := cI) (cJ := cJ) (cO := cO) (h := h) ha
  exact va_lald (ws := cW cI cJ cO h C) F.1 F.2.1 I.1 I.2.1 q0 1 hq rfl hi hdg kk
theorem c_last (F : CallFix p m c cc nL s args Ts own) (I : cG D cI cJ cO h A s H0 H locs C) {a : Nat} (ha : C.aw a) {i : Int32} {x : Int64} (hi : vp_in i (C.ln a)) (hdg : decode cc pc = .ok (.lastore, 1))
    (kk : ∀ (H1 : Heap) (locs1 : List Loc), cG D cI cJ cO h A s H0 H1 locs1 (C.sal a i.toNatClampNeg x) → W p l e R s m args below meth c H1 locs1 cells slots Q (F0 m (pc + 1) ls rest)) : W p l e R s m args below meth c H locs cells slots Q (F0 m pc ls (.long x :: .int i :: .ref a :: rest)) := by
  obtain ⟨q0, hp, hq⟩ := c_awk (cI := cI) (cJ := cJ) (cO := cO) (h := h) ha
  refine va_last (ws := cW cI cJ cO h C) F.1 F.2.1 I.1 I.2.1 I.2.2.1 I.2.2.2.1 q0 1 hq rfl hi hdg (fun H1 locs1 hP hD hS => kk H1 locs1 ⟨I.1, ?_, ?_, hS, I.2.2.2.2⟩)
  · rw [c_aws ha I.2.2.1 hp] at hP; exact hP
  · rw [c_aws ha I.2.2.1 hp] at hD; exact hD
theorem c_alen (F : CallFix p m c cc nL s args Ts own) (I : cG D cI cJ cO h A s H0 H locs C) {a : Nat} (ha : C.aw a) (hdg : decode cc pc = .ok (.arraylength, 1))
    (kk : W p l e R s m args below meth c H locs cells slots Q (F0 m (pc + 1) ls (.int (nI (C.ln a)) :: rest))) : W p l e R s m args below meth c H locs cells slots Q (F0 m pc ls (.ref a :: rest)) := by
  obtain ⟨q0, -, hq⟩ := c_awk (cI := cI) (cJ := cJ) (cO := cO) (h := h) ha
  exact va_alen (ws := cW cI cJ cO h C) (ty := .long) F.1 F.2.1 I.1 I.2.1 q0 1 hq rfl rfl hdg kk
theorem c_aald (F : CallFix p m c cc nL s args Ts own) (I : cG D cI cJ cO h A s H0 H locs C) {i : Int32} (hi : vp_in i 8) (hdg : decode cc pc = .ok (.aaload, 1))
    (kk : W p l e R s m args below meth c H locs cells slots Q (F0 m (pc + 1) ls (va_rf (C.sp i.toNatClampNeg) :: rest))) : W p l e R s m args below meth c H locs cells slots Q (F0 m pc ls (.int i :: .ref (h 1) :: rest)) :=
  va_aldq (ws := cW cI cJ cO h C) (C := RX0) F.1 F.2.1 I.1 I.2.1 1 2 rfl rfl hi hdg kk
theorem c_aast (F : CallFix p m c cc nL s args Ts own) (I : cG D cI cJ cO h A s H0 H locs C) {a : Nat} (ha : C.ld a) {i : Int32} (hi : vp_in i 8) (hdg : decode cc pc = .ok (.aastore, 1))
    (kk : ∀ (H1 : Heap) (locs1 : List Loc), cG D cI cJ cO h A s H0 H1 locs1 (C.ssp i.toNatClampNeg (some a)) → W p l e R s m args below meth c H1 locs1 cells slots Q (F0 m (pc + 1) ls rest)) : W p l e R s m args below meth c H locs cells slots Q (F0 m pc ls (.ref a :: .int i :: .ref (h 1) :: rest)) := by
  obtain ⟨q0, -, hq⟩ := c_ldk (cI := cI) (cJ := cJ) (cO := cO) (h := h) ha
  exact va_astq (ws := cW cI cJ cO h C) (r := (RX0, TX0, 3)) F.1 F.2.1 I.1 I.2.1 I.2.2.1 I.2.2.2.1 1 2 q0 0 rfl rfl hq rfl hi hdg (fun H1 locs1 hP hD hS => kk H1 locs1 ⟨I.1, hP, hD, hS, I.2.2.2.2⟩)
theorem c_aastN (F : CallFix p m c cc nL s args Ts own) (I : cG D cI cJ cO h A s H0 H locs C) {i : Int32} (hi : vp_in i 8) (hdg : decode cc pc = .ok (.aastore, 1))
    (kk : ∀ (H1 : Heap) (locs1 : List Loc), cG D cI cJ cO h A s H0 H1 locs1 (C.ssp i.toNatClampNeg none) → W p l e R s m args below meth c H1 locs1 cells slots Q (F0 m (pc + 1) ls rest)) : W p l e R s m args below meth c H locs cells slots Q (F0 m pc ls (.null :: .int i :: .ref (h 1) :: rest)) :=
  va_astqN (ws := cW cI cJ cO h C) (C := RX0) F.1 F.2.1 I.1 I.2.1 I.2.2.1 I.2.2.2.1 1 2 rfl rfl hi hdg (fun H1 locs1 hP hD hS => kk H1 locs1 ⟨I.1, hP, hD, hS, I.2.2.2.2⟩)
theorem c_reti {K : Int32 → cS → Prop} (F : CallFix p m c cc nL s args Ts own) (hr : meth.sig.returnType = some .int) (hlk : meth.locks = false) (I : cG D cI cJ cO h A s s.heap H locs C) {v : Int32} (hdg : decode cc pc = .ok (.ireturn, 1)) (hK : K v C) : W p l e R s m args below meth c H locs cells slots (MQ below (va_Qi K (cB D cI cJ cO h A) A) args s cells slots A) (F0 m pc ls [.int v]) :=
  W.iret (v := v) F.1 F.2.1 hr (fun t ht hW => ⟨⟨v, C, rfl, hK, by rw [ht]; exact I.2.1, va_K.moved hW.alike I.1, I.2.2.1⟩, I.2.2.2.1.F ht⟩) I.2.2.2.1.2.2 hdg hlk
theorem c_retz {K : Int32 → cS → Prop} (F : CallFix p m c cc nL s args Ts own) (hr : meth.sig.returnType = some .boolean) (hlk : meth.locks = false) (I : cG D cI cJ cO h A s s.heap H locs C) {v : Int32} (hdg : decode cc pc = .ok (.ireturn, 1)) (hK : K v C ∧ narrow .boolean (.int v) = .int v) : W p l e R s m args below meth c H locs cells slots (MQ below (va_Qi K (cB D cI cJ cO h A) A) args s cells slots A) (F0 m pc ls [.int v]) :=
  W.zret (v := v) F.1 F.2.1 hr hK.2 (fun t ht hW => ⟨⟨v, C, rfl, hK.1, by rw [ht]; exact I.2.1, va_K.moved hW.alike I.1, I.2.2.1⟩, I.2.2.2.1.F ht⟩) I.2.2.2.1.2.2 hdg hlk
theorem c_retl {K : Int64 → cS → Prop} (F : CallFix p m c cc nL s args Ts own) (hr : meth.sig.returnType = some .long) (hlk : meth.locks = false) (I : cG D cI cJ cO h A s s.heap H locs C) {v : Int64} (hdg : decode cc pc = .ok (.lreturn, 1)) (hK : K v C) : W p l e R s m args below meth c H locs cells slots (MQ below (va_Ql K (cB D cI cJ cO h A) A) args s cells slots A) (F0 m pc ls [.long v]) :=
  W.lret (v := v) F.1 F.2.1 hr (fun t ht hW => ⟨⟨v, C, rfl, hK, by rw [ht]; exact I.2.1, va_K.moved hW.alike I.1, I.2.2.1⟩, I.2.2.2.1.F ht⟩) I.2.2.2.1.2.2 hdg hlk
theorem c_retv {K : cS → Prop} (F : CallFix p m c cc nL s args Ts own) (hr : meth.sig.returnType = none) (hlk : meth.locks = false) (I : cG D cI cJ cO h A s s.heap H locs C) (hdg : decode cc pc = .ok (.return_, 1)) (hK : K C) : W p l e R s m args below meth c H locs cells slots (MQ below (va_Qv K (cB D cI cJ cO h A) A) args s cells slots A) (F0 m pc ls []) :=
  W.vret F.1 F.2.1 hr (fun t ht hW => ⟨⟨C, rfl, hK, by rw [ht]; exact I.2.1, va_K.moved hW.alike I.1, I.2.2.1⟩, I.2.2.2.1.F ht⟩) I.2.2.2.1.2.2 hdg hlk
theorem c_retq {K : Option Nat → cS → Prop} {v : Option Nat} (F : CallFix p m c cc nL s args Ts own) {n9 : String} (hr : meth.sig.returnType = some (.object n9)) (hlk : meth.locks = false) (I : cG D cI cJ cO h A s s.heap H locs C) (hdg : decode cc pc = .ok (.areturn, 1)) (hK : K v C) : W p l e R s m args below meth c H locs cells slots (MQ below (va_Qq K (cB D cI cJ cO h A) A) args s cells slots A) (F0 m pc ls [va_rf v]) :=
  W.aret (v := va_rf v) F.1 F.2.1 hr (Or.inl ⟨n9, rfl⟩) (va_rf_or v) (fun t ht hW => ⟨⟨v, C, rfl, hK, by rw [ht]; exact I.2.1, va_K.moved hW.alike I.1, I.2.2.1⟩, I.2.2.2.1.F ht⟩) I.2.2.2.1.2.2 hdg hlk
theorem c_free (I : cG D cI cJ cO h A s H0 H locs C) : ∀ q, va_A (cW cI cJ cO h C) H.size q → A q := by
  intro q hq
  rcases hq with ⟨k, e, hk⟩ | hq
  · exact I.2.2.1.2 k _ hk
  · exact I.2.2.2.2.1 q (Nat.le_trans I.2.2.2.1.1 hq)
theorem c_blind {As : List Value} {sz : Nat} : FrameBlind (cPc D cI cJ cO h C sz As) := fun a U g mk q => by
  obtain ⟨q0, q1, qP, qK, qD, qN⟩ := q
  exact ⟨q0, q1, qP, va_K.moved (u := U) (U := U.calling g mk a) (Vm.Alike.refl U.vm) qK, qD, va_Nw.same (u := U) (U := U.calling g mk a) rfl rfl qN⟩
theorem c_pre (I : cG D cI cJ cO h A s H0 H locs C) (As : List Value) : ∀ U : State, U.heap = H → s.WarmedH U.vm → cPc D cI cJ cO h C H.size As As.toArray U :=
  fun U hU hW => ⟨rfl, by rw [hU], by rw [hU]; exact I.2.1, va_K.moved hW.alike I.1, I.2.2.1.weaken (fun _ _ _ _ => trivial), va_Nw.warmC hW I.2.2.2.2.2⟩
theorem c_recv (I : cG D cI cJ cO h A s H0 H locs C) : ∃ cell : Cell, H[h 0]? = some cell ∧ cell.vm.isStatics = false ∧ s.vm.findClass RX1 = some cell.cls :=
  va_recv (q0 := 0) (ci := 1) (q := (RX1, TX1, 14)) (fs := cfs h C) (ws := cW cI cJ cO h C) I.1 I.2.1 rfl rfl
theorem c_back (I : cG D cI cJ cO h A s H0 H locs C) {u : cS} {t : State} {H1 : Heap} {locs1 : List Loc} (ht : t.heap = H1) (hvm : s.vm.Alike t.vm) (hB : cB D cI cJ cO h (va_A (cW cI cJ cO h C) H.size) u t) (hS : va_S A H0 H1 locs1) : cG D cI cJ cO h A s H0 H1 locs1 u := by
  obtain ⟨hP, -, hD⟩ := hB
  rw [ht] at hP
  exact ⟨I.1, hP, hD.weaken (fun k q hk hq => c_free I _ hq), hS, I.2.2.2.2⟩
theorem c_start {y : MethodName} {ws ws' : List Cond} {maxL : Nat} {rm : Room} {mc ms : Nat} {As : List Value} {Qc : (Nat → Prop) → Array Value → State → Outcome → State → Prop} {rt : Option FieldType} {R0 : String} (hy : plainName y.cls = true) (hw : ws = Cond.code y cc maxL rt :: ws') (hy2 : y.cls = R0) (hA : (lg_sl As).length ≤ maxL)
    (body : ∀ (p : Program) (e : Env) (s : State) (m : MethodId) (below : List Frame) (meth : Method) (c : Code) (A : Nat → Prop) (ls : Array Slot), CallFix p m c cc maxL s As.toArray ws R0 → meth.sig.returnType = rt → meth.locks = false → cG D cI cJ cO h A s s.heap s.heap [] C → lv_has ls maxL (lv_args 0 As) → (∀ sz, y.name = "<init>" → sz = s.heap.size → meth.name = "<init>") → W p l e rm s m As.toArray below meth c s.heap [] 0 0 (MQ below (Qc A) As.toArray s mc ms A) (F0 m 0 ls [])) :
    ∀ sz : Nat, Met l y ws rm (cPc D cI cJ cO h C sz As) (Qc (va_A (cW cI cJ cO h C) sz)) mc ms (va_A (cW cI cJ cO h C) sz) := by
  intro sz
  refine Met.ofW (cc := cc) (maxL := maxL) (ret := rt) hy hw ?_
  intro p e s m args below meth c s₁ B hml hv
  obtain ⟨rfl, hsz, hP, hK, hD0, hN⟩ := hv
  have hown : s.vm.findClass R0 = some m.cls := hy2 ▸ findClass_of_methodNamed B.named
  subst hsz
  have hl := lv_entry As (n := maxL) hA
  rw [lg_entry_eq]
  exact body p e s m below meth c _ _ ⟨B.exec, B.bytes, hml, hown, atoms_spec (ws := ws) B.pre⟩ B.returns B.notSynchronized ⟨hK, hP, hD0.self (sz := s.heap.size), va_S.rf, fun q hq => Or.inr hq, hN⟩ hl (fun _ hn _ => by rw [← hn]; exact (name_of_methodNamed B.named B.method).1)
theorem c_starti {y : MethodName} {ws ws' : List Cond} {maxL : Nat} {rm : Room} {mc ms : Nat} {As : List Value} {K : Int32 → cS → Prop} {rt : Option FieldType} {R0 : String} (hy : plainName y.cls = true) (hw : ws = Cond.code y cc maxL rt :: ws') (hy2 : y.cls = R0) (hA : (lg_sl As).length ≤ maxL)
    (body : ∀ (p : Program) (e : Env) (s : State) (m : MethodId) (below : List Frame) (meth : Method) (c : Code) (A : Nat → Prop) (ls : Array Slot), CallFix p m c cc maxL s As.toArray ws R0 → meth.sig.returnType = rt → meth.locks = false → cG D cI cJ cO h A s s.heap s.heap [] C → lv_has ls maxL (lv_args 0 As) → (∀ sz, y.name = "<init>" → sz = s.heap.size → meth.name = "<init>") → W p l e rm s m As.toArray below meth c s.heap [] 0 0 (MQ below (va_Qi K (cB D cI cJ cO h A) A) As.toArray s mc ms A) (F0 m 0 ls [])) :
    cMi l D cI cJ cO h y ws rm mc ms As K C := c_start (Qc := fun A => va_Qi K (cB D cI cJ cO h A) A) hy hw hy2 hA body
theorem c_startl {y : MethodName} {ws ws' : List Cond} {maxL : Nat} {rm : Room} {mc ms : Nat} {As : List Value} {K : Int64 → cS → Prop} {rt : Option FieldType} {R0 : String} (hy : plainName y.cls = true) (hw : ws = Cond.code y cc maxL rt :: ws') (hy2 : y.cls = R0) (hA : (lg_sl As).length ≤ maxL)
    (body : ∀ (p : Program) (e : Env) (s : State) (m : MethodId) (below : List Frame) (meth : Method) (c : Code) (A : Nat → Prop) (ls : Array Slot), CallFix p m c cc maxL s As.toArray ws R0 → meth.sig.returnType = rt → meth.locks = false → cG D cI cJ cO h A s s.heap s.heap [] C → lv_has ls maxL (lv_args 0 As) → (∀ sz, y.name = "<init>" → sz = s.heap.size → meth.name = "<init>") → W p l e rm s m As.toArray below meth c s.heap [] 0 0 (MQ below (va_Ql K (cB D cI cJ cO h A) A) As.toArray s mc ms A) (F0 m 0 ls [])) :
    cMl l D cI cJ cO h y ws rm mc ms As K C := c_start (Qc := fun A => va_Ql K (cB D cI cJ cO h A) A) hy hw hy2 hA body
theorem c_startv {y : MethodName} {ws ws' : List Cond} {maxL : Nat} {rm : Room} {mc ms : Nat} {As : List Value} {K : cS → Prop} {rt : Option FieldType} {R0 : String} (hy : plainName y.cls = true) (hw : ws = Cond.code y cc maxL rt :: ws') (hy2 : y.cls = R0) (hA : (lg_sl As).length ≤ maxL)
    (body : ∀ (p : Program) (e : Env) (s : State) (m : MethodId) (below : List Frame) (meth : Method) (c : Code) (A : Nat → Prop) (ls : Array Slot), CallFix p m c cc maxL s As.toArray ws R0 → meth.sig.returnType = rt → meth.locks = false → cG D cI cJ cO h A s s.heap s.heap [] C → lv_has ls maxL (lv_args 0 As) → (∀ sz, y.name = "<init>" → sz = s.heap.size → meth.name = "<init>") → W p l e rm s m As.toArray below meth c s.heap [] 0 0 (MQ below (va_Qv K (cB D cI cJ cO h A) A) As.toArray s mc ms A) (F0 m 0 ls [])) :
    cMv l D cI cJ cO h y ws rm mc ms As K C := c_start (Qc := fun A => va_Qv K (cB D cI cJ cO h A) A) hy hw hy2 hA body
theorem c_startq {y : MethodName} {ws ws' : List Cond} {maxL : Nat} {rm : Room} {mc ms : Nat} {As : List Value} {K : Option Nat → cS → Prop} {rt : Option FieldType} {R0 : String} (hy : plainName y.cls = true) (hw : ws = Cond.code y cc maxL rt :: ws') (hy2 : y.cls = R0) (hA : (lg_sl As).length ≤ maxL)
    (body : ∀ (p : Program) (e : Env) (s : State) (m : MethodId) (below : List Frame) (meth : Method) (c : Code) (A : Nat → Prop) (ls : Array Slot), CallFix p m c cc maxL s As.toArray ws R0 → meth.sig.returnType = rt → meth.locks = false → cG D cI cJ cO h A s s.heap s.heap [] C → lv_has ls maxL (lv_args 0 As) → (∀ sz, y.name = "<init>" → sz = s.heap.size → meth.name = "<init>") → W p l e rm s m As.toArray below meth c s.heap [] 0 0 (MQ below (va_Qq K (cB D cI cJ cO h A) A) As.toArray s mc ms A) (F0 m 0 ls [])) :
    cMq l D cI cJ cO h y ws rm mc ms As K C := c_start (Qc := fun A => va_Qq K (cB D cI cJ cO h A) A) hy hw hy2 hA body
section Calls
variable {y : MethodName} {ws : List Cond} {rm : Room} {bytes : ByteArray} {maxL index n mc ms : Nat} {ret : Option FieldType} {As : List Value}
theorem c_calli {K : Int32 → cS → Prop} (F : CallFix p m c cc nL s args Ts own) (I : cG D cI cJ cO h A s H0 H locs C) (hM : cMi l D cI cJ cO h y ws rm mc ms (.ref (h 0) :: As) K C) (cw : CallW R s args own RX1 index y bytes maxL ret ws rm mc ms n) (hn : As.length = n) (hsize : ls.size = nL) (hstack : st0 = As.reverse ++ .ref (h 0) :: rest) (hW : (rest.map fun v => v.category).sum ≤ 8) (hdg : decode cc pc = .ok (.invokevirtual index, 3)) (hf : cells + mc ≤ R.cells ∧ slots + ms ≤ R.slots)
    (kk : ∀ (r : Int32) (u : cS) (H1 : Heap) (locs1 : List Loc), K r u → cG D cI cJ cO h A s H0 H1 locs1 u → W p l e R s m args below meth c H1 locs1 (cells + mc) (slots + ms) Q (F0 m (pc + 3) ls (.int r :: rest))) : W p l e R s m args below meth c H locs cells slots Q (F0 m pc ls st0) :=
  va_calli (va_runV F (hM H.size) cw ⟨c_blind, c_recv I, c_pre I _⟩ rfl hn hsize hstack (lv_room hW) hdg hf) I.2.2.2.1 (fun q _ hq => c_free I q hq) (c_free I) (fun r u t H1 locs1 ht hvm hw hB hz hk hS => kk r u H1 locs1 hw (c_back I ht hvm hB hS))
theorem c_calll {K : Int64 → cS → Prop} (F : CallFix p m c cc nL s args Ts own) (I : cG D cI cJ cO h A s H0 H locs C) (hM : cMl l D cI cJ cO h y ws rm mc ms (.ref (h 0) :: As) K C) (cw : CallW R s args own RX1 index y bytes maxL ret ws rm mc ms n) (hn : As.length = n) (hsize : ls.size = nL) (hstack : st0 = As.reverse ++ .ref (h 0) :: rest) (hW : (rest.map fun v => v.category).sum ≤ 8) (hdg : decode cc pc = .ok (.invokevirtual index, 3)) (hf : cells + mc ≤ R.cells ∧ slots + ms ≤ R.slots)
    (kk : ∀ (r : Int64) (u : cS) (H1 : Heap) (locs1 : List Loc), K r u → cG D cI cJ cO h A s H0 H1 locs1 u → W p l e R s m args below meth c H1 locs1 (cells + mc) (slots + ms) Q (F0 m (pc + 3) ls (.long r :: rest))) : W p l e R s m args below meth c H locs cells slots Q (F0 m pc ls st0) :=
  va_calll (va_runV F (hM H.size) cw ⟨c_blind, c_recv I, c_pre I _⟩ rfl hn hsize hstack (lv_room hW) hdg hf) I.2.2.2.1 (fun q _ hq => c_free I q hq) (c_free I) (fun r u t H1 locs1 ht hvm hw hB hz hk hS => kk r u H1 locs1 hw (c_back I ht hvm hB hS))
theorem c_callq {K : Option Nat → cS → Prop} (F : CallFix p m c cc nL s args Ts own) (I : cG D cI cJ cO h A s H0 H locs C) (hM : cMq l D cI cJ cO h y ws rm mc ms (.ref (h 0) :: As) K C) (cw : CallW R s args own RX1 index y bytes maxL ret ws rm mc ms n) (hn : As.length = n) (hsize : ls.size = nL) (hstack : st0 = As.reverse ++ .ref (h 0) :: rest) (hW : (rest.map fun v => v.category).sum ≤ 8) (hdg : decode cc pc = .ok (.invokevirtual index, 3)) (hf : cells + mc ≤ R.cells ∧ slots + ms ≤ R.slots)
    (kk : ∀ (r : Option Nat) (u : cS) (H1 : Heap) (locs1 : List Loc), K r u → cG D cI cJ cO h A s H0 H1 locs1 u → W p l e R s m args below meth c H1 locs1 (cells + mc) (slots + ms) Q (F0 m (pc + 3) ls (va_rf r :: rest))) : W p l e R s m args below meth c H locs cells slots Q (F0 m pc ls st0) :=
  va_callq (va_runV F (hM H.size) cw ⟨c_blind, c_recv I, c_pre I _⟩ rfl hn hsize hstack (lv_room hW) hdg hf) I.2.2.2.1 (fun q _ hq => c_free I q hq) (c_free I) (fun r u t H1 locs1 ht hvm hw hB hz hk hS => kk r u H1 locs1 hw (c_back I ht hvm hB hS))
theorem c_callv {K : cS → Prop} (F : CallFix p m c cc nL s args Ts own) (I : cG D cI cJ cO h A s H0 H locs C) (hM : cMv l D cI cJ cO h y ws rm mc ms (.ref (h 0) :: As) K C) (cw : CallW R s args own RX1 index y bytes maxL ret ws rm mc ms n) (hn : As.length = n) (hsize : ls.size = nL) (hstack : st0 = As.reverse ++ .ref (h 0) :: rest) (hW : (rest.map fun v => v.category).sum ≤ 8) (hdg : decode cc pc = .ok (.invokevirtual index, 3)) (hf : cells + mc ≤ R.cells ∧ slots + ms ≤ R.slots)
    (kk : ∀ (u : cS) (H1 : Heap) (locs1 : List Loc), K u → cG D cI cJ cO h A s H0 H1 locs1 u → W p l e R s m args below meth c H1 locs1 (cells + mc) (slots + ms) Q (F0 m (pc + 3) ls rest)) : W p l e R s m args below meth c H locs cells slots Q (F0 m pc ls st0) :=
  va_callv (va_runV F (hM H.size) cw ⟨c_blind, c_recv I, c_pre I _⟩ rfl hn hsize hstack (lv_room hW) hdg hf) I.2.2.2.1 (fun q _ hq => c_free I q hq) (c_free I) (fun u t H1 locs1 ht hvm hw hB hz hk hS => kk u H1 locs1 hw (c_back I ht hvm hB hS))
theorem c_callSi {K : Int32 → cS → Prop} (F : CallFix p m c cc nL s args Ts own) (I : cG D cI cJ cO h A s H0 H locs C) (hM : cMi l D cI cJ cO h y ws rm mc ms As K C) (cw : CallB R s args own index y bytes maxL ret ws rm mc ms n ∧ (Cond.static y).before args s = true) (hn : As.length = n) (hsize : ls.size = nL) (hstack : st0 = As.reverse ++ rest) (hW : (rest.map fun v => v.category).sum ≤ 8) (hdg : decode cc pc = .ok (.invokestatic index, 3)) (hf : cells + mc ≤ R.cells ∧ slots + ms ≤ R.slots)
    (kk : ∀ (r : Int32) (u : cS) (H1 : Heap) (locs1 : List Loc), K r u → cG D cI cJ cO h A s H0 H1 locs1 u → W p l e R s m args below meth c H1 locs1 (cells + mc) (slots + ms) Q (F0 m (pc + 3) ls (.int r :: rest))) : W p l e R s m args below meth c H locs cells slots Q (F0 m pc ls st0) :=
  va_calli (va_runS F (hM H.size) cw ⟨c_blind, c_pre I _⟩ rfl hn hsize hstack (lv_room hW) hdg hf) I.2.2.2.1 (fun q _ hq => c_free I q hq) (c_free I) (fun r u t H1 locs1 ht hvm hw hB hz hk hS => kk r u H1 locs1 hw (c_back I ht hvm hB hS))
theorem c_callSv {K : cS → Prop} (F : CallFix p m c cc nL s args Ts own) (I : cG D cI cJ cO h A s H0 H locs C) (hM : cMv l D cI cJ cO h y ws rm mc ms As K C) (cw : CallB R s args own index y bytes maxL ret ws rm mc ms n ∧ (Cond.static y).before args s = true) (hn : As.length = n) (hsize : ls.size = nL) (hstack : st0 = As.reverse ++ rest) (hW : (rest.map fun v => v.category).sum ≤ 8) (hdg : decode cc pc = .ok (.invokestatic index, 3)) (hf : cells + mc ≤ R.cells ∧ slots + ms ≤ R.slots)
    (kk : ∀ (u : cS) (H1 : Heap) (locs1 : List Loc), K u → cG D cI cJ cO h A s H0 H1 locs1 u → W p l e R s m args below meth c H1 locs1 (cells + mc) (slots + ms) Q (F0 m (pc + 3) ls rest)) : W p l e R s m args below meth c H locs cells slots Q (F0 m pc ls st0) :=
  va_callv (va_runS F (hM H.size) cw ⟨c_blind, c_pre I _⟩ rfl hn hsize hstack (lv_room hW) hdg hf) I.2.2.2.1 (fun q _ hq => c_free I q hq) (c_free I) (fun u t H1 locs1 ht hvm hw hB hz hk hS => kk u H1 locs1 hw (c_back I ht hvm hB hS))
theorem c_callI {K : cS → Prop} {o : Nat} (F : CallFix p m c cc nL s args Ts own) (I : cG D cI cJ cO h A s H0 H locs C) (hM : cMv l D cI cJ cO h y ws rm mc ms (.ref o :: As) K C) (cw : CallB R s args own index y bytes maxL none ws rm mc ms n ∧ y.name = "<init>" ∧ (Cond.instanceMethod y).before args s = true) (hn : As.length = n) (hsize : ls.size = nL) (hstack : st0 = As.reverse ++ .ref o :: rest) (hW : (rest.map fun v => v.category).sum ≤ 8) (hdg : decode cc pc = .ok (.invokespecial index, 3)) (hf : cells + mc ≤ R.cells ∧ slots + ms ≤ R.slots)
    (kk : ∀ (u : cS) (H1 : Heap) (locs1 : List Loc), K u → cG D cI cJ cO h A s H0 H1 locs1 u → W p l e R s m args below meth c H1 locs1 (cells + mc) (slots + ms) Q (F0 m (pc + 3) ls rest)) : W p l e R s m args below meth c H locs cells slots Q (F0 m pc ls st0) :=
  va_callv (va_runI F (hM H.size) cw ⟨c_blind, c_pre I _⟩ rfl hn hsize hstack (lv_room hW) hdg hf) I.2.2.2.1 (fun q _ hq => c_free I q hq) (c_free I) (fun u t H1 locs1 ht hvm hw hB hz hk hS => kk u H1 locs1 hw (c_back I ht hvm hB hS))
end Calls
end Rows
end CWorld
