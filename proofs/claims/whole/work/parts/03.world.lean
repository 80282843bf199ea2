section MWorld
/-- the reference's numbers: int fields by slot; int arrays, long arrays by their place in the world -/
def mS : Type := (Nat → Int32) × (Nat → Nat → Int32) × (Nat → Nat → Int64)
def mS.fi (S : mS) (k : Nat) : Int32 := S.1 k
def mS.ia (S : mS) (j : Nat) : Nat → Int32 := S.2.1 j
def mS.la (S : mS) (j : Nat) : Nat → Int64 := S.2.2 j
def mS.si (S : mS) (k : Nat) (v : Int32) : mS := (upd S.1 k v, S.2.1, S.2.2)
def mS.sa (S : mS) (j k : Nat) (v : Int32) : mS := (S.1, va_up S.2.1 j (upd (S.2.1 j) k v), S.2.2)
def mS.sl (S : mS) (j k : Nat) (v : Int64) : mS := (S.1, S.2.1, va_up S.2.2 j (vp_updL (S.2.2 j) k v))
def mfs (h : Nat → Nat) (S : mS) : List Value := [.ref (h 1), .ref (h 2), .ref (h 3), .int (S.fi 3), .ref (h 4), .ref (h 5), .ref (h 6), .int (S.fi 7), .ref (h 7), .ref (h 8), .int (S.fi 10), .ref (h 9), .int (S.fi 12), .ref (h 10), .int (S.fi 14), .int (S.fi 15), .int (S.fi 16), .ref (h 11), .int (S.fi 18), .int (S.fi 19), .int (S.fi 20), .int (S.fi 21), .int (S.fi 22), .int (S.fi 23)]
def mW (cI cJ : ClassId) (h : Nat → Nat) (S : mS) : va_W := [(h 0, .inr (2, mfs h S)), (h 1, .inl (cI, 513, .inl (S.ia 1))), (h 2, .inl (cI, 513, .inl (S.ia 2))), (h 3, .inl (cJ, 12312, .inr (.inl (S.la 3)))), (h 4, .inl (cI, 8, .inl (S.ia 4))), (h 5, .inl (cI, 8, .inl (S.ia 5))), (h 6, .inl (cI, 513, .inl (S.ia 6))), (h 7, .inl (cI, 513, .inl (S.ia 7))), (h 8, .inl (cI, 513, .inl (S.ia 8))), (h 9, .inl (cI, 80, .inl (S.ia 9))), (h 10, .inl (cJ, 24, .inr (.inl (S.la 10)))), (h 11, .inl (cJ, 24, .inr (.inl (S.la 11))))]
def tysM (cI cJ : ClassId) : List (ClassId × FieldType) := [(cI, .int), (cJ, .long)]
def mI (D : va_G) (cI cJ : ClassId) (h : Nat → Nat) (A : Nat → Prop) (s : State) (H0 H : Heap) (locs : List Loc) (S : mS) : Prop :=
  va_K D vwCl (tysM cI cJ) s ∧ va_P D vwCl (mW cI cJ h S) H ∧ va_D A (mW cI cJ h S) ∧ va_S A H0 H locs ∧ ∀ q, H0.size ≤ q → A q
def mInt : List Nat := [3, 7, 10, 12, 14, 15, 16, 18, 19, 20, 21, 22, 23]
theorem m_pf {k : Nat} (hk : k ∈ mInt) : k < 24 ∧ (TX2 k).2.2.2 = false ∧ parseFieldDescriptor (TX2 k).2.2.1 = some .int ∧ (∀ (h : Nat → Nat) (S : mS), (mfs h S)[k]? = some (.int (S.fi k))) ∧ ∀ (h : Nat → Nat) (S : mS) (v : Int32), (mfs h S).set k (.int v) = mfs h (S.si k v) := by
  simp only [mInt, List.mem_cons, List.not_mem_nil, or_false] at hk
  rcases hk with rfl | rfl | rfl | rfl | rfl | rfl | rfl | rfl | rfl | rfl | rfl | rfl | rfl <;> exact ⟨by decide, rfl, tyX2_ok _ (by decide), fun _ _ => rfl, fun _ _ _ => rfl⟩
def mIa : List (Nat × Nat) := [(1, 513), (2, 513), (4, 8), (5, 8), (6, 513), (7, 513), (8, 513), (9, 80)]
def mLa : List (Nat × Nat) := [(3, 12312), (10, 24), (11, 24)]
theorem m_ia {j n : Nat} (hj : (j, n) ∈ mIa) (cI cJ : ClassId) (h : Nat → Nat) (S : mS) : (mW cI cJ h S)[j]? = some (h j, .inl (cI, n, .inl (S.ia j))) ∧ ∀ (k : Nat) (v : Int32), (mW cI cJ h S).set j (h j, .inl (cI, n, .inl (upd (S.ia j) k v))) = mW cI cJ h (S.sa j k v) := by
  simp only [mIa, List.mem_cons, List.not_mem_nil, or_false, Prod.mk.injEq] at hj
  rcases hj with ⟨rfl, rfl⟩ | ⟨rfl, rfl⟩ | ⟨rfl, rfl⟩ | ⟨rfl, rfl⟩ | ⟨rfl, rfl⟩ | ⟨rfl, rfl⟩ | ⟨rfl, rfl⟩ | ⟨rfl, rfl⟩ <;> exact ⟨rfl, fun _ _ => rfl⟩
theorem m_la {j n : Nat} (hj : (j, n) ∈ mLa) (cI cJ : ClassId) (h : Nat → Nat) (S : mS) : (mW cI cJ h S)[j]? = some (h j, .inl (cJ, n, .inr (.inl (S.la j)))) ∧ ∀ (k : Nat) (v : Int64), (mW cI cJ h S).set j (h j, .inl (cJ, n, .inr (.inl (vp_updL (S.la j) k v)))) = mW cI cJ h (S.sl j k v) := by
  simp only [mLa, List.mem_cons, List.not_mem_nil, or_false, Prod.mk.injEq] at hj
  rcases hj with ⟨rfl, rfl⟩ | ⟨rfl, rfl⟩ | ⟨rfl, rfl⟩ <;> exact ⟨rfl, fun _ _ => rfl⟩
def mPc (D : va_G) (cI cJ : ClassId) (h : Nat → Nat) (S : mS) (sz : Nat) (As : List Value) : Array Value → State → Prop :=
  va_Pc As (fun U => U.heap.size = sz ∧ va_P D vwCl (mW cI cJ h S) U.heap ∧ va_K D vwCl (tysM cI cJ) U ∧ va_D (fun _ => True) (mW cI cJ h S))
def mB (D : va_G) (cI cJ : ClassId) (h : Nat → Nat) (A : Nat → Prop) (u : mS) (t : State) : Prop := va_P D vwCl (mW cI cJ h u) t.heap ∧ va_K D vwCl (tysM cI cJ) t ∧ va_D A (mW cI cJ h u)
/-- a contract of a method of the reference: int, long, void -/
def mMi (l : Launch) (D : va_G) (cI cJ : ClassId) (h : Nat → Nat) (y : MethodName) (ws : List Cond) (rm : Room) (As : List Value) (K : Int32 → mS → Prop) (S : mS) : Prop :=
  ∀ sz : Nat, Met l y ws rm (mPc D cI cJ h S sz As) (va_Qi K (mB D cI cJ h (va_A (mW cI cJ h S) sz)) (va_A (mW cI cJ h S) sz)) 0 0 (va_A (mW cI cJ h S) sz)
def mMl (l : Launch) (D : va_G) (cI cJ : ClassId) (h : Nat → Nat) (y : MethodName) (ws : List Cond) (rm : Room) (As : List Value) (K : Int64 → mS → Prop) (S : mS) : Prop :=
  ∀ sz : Nat, Met l y ws rm (mPc D cI cJ h S sz As) (va_Ql K (mB D cI cJ h (va_A (mW cI cJ h S) sz)) (va_A (mW cI cJ h S) sz)) 0 0 (va_A (mW cI cJ h S) sz)
def mMv (l : Launch) (D : va_G) (cI cJ : ClassId) (h : Nat → Nat) (y : MethodName) (ws : List Cond) (rm : Room) (As : List Value) (K : mS → Prop) (S : mS) : Prop :=
  ∀ sz : Nat, Met l y ws rm (mPc D cI cJ h S sz As) (va_Qv K (mB D cI cJ h (va_A (mW cI cJ h S) sz)) (va_A (mW cI cJ h S) sz)) 0 0 (va_A (mW cI cJ h S) sz)
/-- a contract of a static method that touches no heap -/
def sMi (l : Launch) (y : MethodName) (ws : List Cond) (rm : Room) (As : List Value) (K : Int32 → Prop) : Prop := Met l y ws rm (va_Pc As (fun _ => True)) (vp_Si K) 0 0 (fun _ => False)
def sMl (l : Launch) (y : MethodName) (ws : List Cond) (rm : Room) (As : List Value) (K : Int64 → Prop) : Prop := Met l y ws rm (va_Pc As (fun _ => True)) (vp_Sl K) 0 0 (fun _ => False)
section Rows
variable {p : Program} {l : Launch} {e : Env} {R : Room} {s : State} {m : MethodId} {args : Array Value} {below : List Frame} {meth : Method} {c : Code} {H H0 : Heap} {locs : List Loc} {cells slots : Nat} {Q : State → Prop} {cc : ByteArray} {nL pc : Nat} {ls : Array Slot} {rest st0 : List Value} {Ts : List Cond} {D : va_G} {cI cJ : ClassId} {h : Nat → Nat} {A : Nat → Prop} {S : mS} {own : String}
theorem m_get (F : CallFix p m c cc nL s args Ts RX2) (hin : ∀ w ∈ u_ws RX2 TX2 24, w ∈ Ts) (I : mI D cI cJ h A s H0 H locs S) (k : Nat) (hk : k < 24) {v : Value} (hv : (mfs h S)[k]? = some v) {index : Nat} (hlink : (Cond.fieldLink RX2 index (TX2 k).1 (TX2 k).2.1 (TX2 k).2.2.1).before args s = true) (hdg : decode cc pc = .ok (.getfield index, 3))
    (kk : W p l e R s m args below meth c H locs cells slots Q (F0 m (pc + 3) ls (v :: rest))) : W p l e R s m args below meth c H locs cells slots Q (F0 m pc ls (.ref (h 0) :: rest)) :=
  va_get (D := D) (cl := vwCl) (ci := 2) (C := RX2) (T := TX2) (N := 24) (ws := mW cI cJ h S) F.1 F.2.1 F.2.2.2.2 hin F.2.2.2.1 I.1 I.2.1 0 rfl rfl k hk hlink (fun _ q => q) hv hdg kk
theorem m_put (F : CallFix p m c cc nL s args Ts RX2) (hin : ∀ w ∈ u_ws RX2 TX2 24, w ∈ Ts) (I : mI D cI cJ h A s H0 H locs S) (k : Nat) (hk : k ∈ mInt) {v : Int32} {index : Nat} (hlink : (Cond.fieldLink RX2 index (TX2 k).1 (TX2 k).2.1 (TX2 k).2.2.1).before args s = true) (hdg : decode cc pc = .ok (.putfield index, 3))
    (kk : ∀ (H1 : Heap) (locs1 : List Loc), mI D cI cJ h A s H0 H1 locs1 (S.si k v) → W p l e R s m args below meth c H1 locs1 cells slots Q (F0 m (pc + 3) ls rest)) : W p l e R s m args below meth c H locs cells slots Q (F0 m pc ls (.int v :: .ref (h 0) :: rest)) := by
  obtain ⟨h1, h2, h3, -, h4⟩ := m_pf hk
  refine va_put (D := D) (cl := vwCl) (ci := 2) (C := RX2) (T := TX2) (N := 24) (ws := mW cI cJ h S) (fs := mfs h S) F.1 F.2.1 F.2.2.2.2 hin tyX2 tyX2_ok nmX2 F.2.2.2.1 I.1 I.2.1 I.2.2.1 I.2.2.2.1 0 rfl rfl k h1 hlink (fun _ q => q) h2 h3 rfl rfl h1 hdg (fun H1 locs1 hP hD hS => kk H1 locs1 ⟨I.1, ?_, ?_, hS, I.2.2.2.2⟩)
  · rw [h4] at hP; exact hP
  · rw [h4] at hD; exact hD
theorem m_iald (F : CallFix p m c cc nL s args Ts RX2) (I : mI D cI cJ h A s H0 H locs S) (j n : Nat) (hj : (j, n) ∈ mIa) {i : Int32} (hi : vp_in i n) (hdg : decode cc pc = .ok (.iaload, 1))
    (kk : W p l e R s m args below meth c H locs cells slots Q (F0 m (pc + 1) ls (.int (S.ia j i.toNatClampNeg) :: rest))) : W p l e R s m args below meth c H locs cells slots Q (F0 m pc ls (.int i :: .ref (h j) :: rest)) :=
  va_iald F.1 F.2.1 I.1 I.2.1 j 0 (m_ia hj cI cJ h S).1 rfl hi hdg kk
theorem m_iast (F : CallFix p m c cc nL s args Ts RX2) (I : mI D cI cJ h A s H0 H locs S) (j n : Nat) (hj : (j, n) ∈ mIa) {i x : Int32} (hi : vp_in i n) (hdg : decode cc pc = .ok (.iastore, 1))
    (kk : ∀ (H1 : Heap) (locs1 : List Loc), mI D cI cJ h A s H0 H1 locs1 (S.sa j i.toNatClampNeg x) → W p l e R s m args below meth c H1 locs1 cells slots Q (F0 m (pc + 1) ls rest)) : W p l e R s m args below meth c H locs cells slots Q (F0 m pc ls (.int x :: .int i :: .ref (h j) :: rest)) := by
  refine va_iast F.1 F.2.1 I.1 I.2.1 I.2.2.1 I.2.2.2.1 j 0 (m_ia hj cI cJ h S).1 rfl hi hdg (fun H1 locs1 hP hD hS => kk H1 locs1 ⟨I.1, ?_, ?_, hS, I.2.2.2.2⟩)
  · rw [(m_ia hj cI cJ h S).2] at hP; exact hP
  · rw [(m_ia hj cI cJ h S).2] at hD; exact hD
theorem m_lald (F : CallFix p m c cc nL s args Ts RX2) (I : mI D cI cJ h A s H0 H locs S) (j n : Nat) (hj : (j, n) ∈ mLa) {i : Int32} (hi : vp_in i n) (hdg : decode cc pc = .ok (.laload, 1))
    (kk : W p l e R s m args below meth c H locs cells slots Q (F0 m (pc + 1) ls (.long (S.la j i.toNatClampNeg) :: rest))) : W p l e R s m args below meth c H locs cells slots Q (F0 m pc ls (.int i :: .ref (h j) :: rest)) :=
  va_lald F.1 F.2.1 I.1 I.2.1 j 1 (m_la hj cI cJ h S).1 rfl hi hdg kk
theorem m_last (F : CallFix p m c cc nL s args Ts RX2) (I : mI D cI cJ h A s H0 H locs S) (j n : Nat) (hj : (j, n) ∈ mLa) {i : Int32} {x : Int64} (hi : vp_in i n) (hdg : decode cc pc = .ok (.lastore, 1))
    (kk : ∀ (H1 : Heap) (locs1 : List Loc), mI D cI cJ h A s H0 H1 locs1 (S.sl j i.toNatClampNeg x) → W p l e R s m args below meth c H1 locs1 cells slots Q (F0 m (pc + 1) ls rest)) : W p l e R s m args below meth c H locs cells slots Q (F0 m pc ls (.long x :: .int i :: .ref (h j) :: rest)) := by
  refine va_last F.1 F.2.1 I.1 I.2.1 I.2.2.1 I.2.2.2.1 j 1 (m_la hj cI cJ h S).1 rfl hi hdg (fun H1 locs1 hP hD hS => kk H1 locs1 ⟨I.1, ?_, ?_, hS, I.2.2.2.2⟩)
  · rw [(m_la hj cI cJ h S).2] at hP; exact hP
  · rw [(m_la hj cI cJ h S).2] at hD; exact hD
theorem m_reti {K : Int32 → mS → Prop} (F : CallFix p m c cc nL s args Ts own) (hr : meth.sig.returnType = some .int) (hlk : meth.locks = false) (I : mI D cI cJ h A s s.heap H locs S) {v : Int32} (hdg : decode cc pc = .ok (.ireturn, 1)) (hK : K v S) : W p l e R s m args below meth c H locs cells slots (MQ below (va_Qi K (mB D cI cJ h A) A) args s cells slots A) (F0 m pc ls [.int v]) :=
  W.iret (v := v) F.1 F.2.1 hr (fun t ht hW => ⟨⟨v, S, rfl, hK, by rw [ht]; exact I.2.1, va_K.moved hW.alike I.1, I.2.2.1⟩, I.2.2.2.1.F ht⟩) I.2.2.2.1.2.2 hdg hlk
theorem m_retz {K : Int32 → mS → Prop} (F : CallFix p m c cc nL s args Ts own) (hr : meth.sig.returnType = some .boolean) (hlk : meth.locks = false) (I : mI D cI cJ h A s s.heap H locs S) {v : Int32} (hdg : decode cc pc = .ok (.ireturn, 1)) (hK : K v S ∧ narrow .boolean (.int v) = .int v) : W p l e R s m args below meth c H locs cells slots (MQ below (va_Qi K (mB D cI cJ h A) A) args s cells slots A) (F0 m pc ls [.int v]) :=
  W.zret (v := v) F.1 F.2.1 hr hK.2 (fun t ht hW => ⟨⟨v, S, rfl, hK.1, by rw [ht]; exact I.2.1, va_K.moved hW.alike I.1, I.2.2.1⟩, I.2.2.2.1.F ht⟩) I.2.2.2.1.2.2 hdg hlk
theorem m_retl {K : Int64 → mS → Prop} (F : CallFix p m c cc nL s args Ts own) (hr : meth.sig.returnType = some .long) (hlk : meth.locks = false) (I : mI D cI cJ h A s s.heap H locs S) {v : Int64} (hdg : decode cc pc = .ok (.lreturn, 1)) (hK : K v S) : W p l e R s m args below meth c H locs cells slots (MQ below (va_Ql K (mB D cI cJ h A) A) args s cells slots A) (F0 m pc ls [.long v]) :=
  W.lret (v := v) F.1 F.2.1 hr (fun t ht hW => ⟨⟨v, S, rfl, hK, by rw [ht]; exact I.2.1, va_K.moved hW.alike I.1, I.2.2.1⟩, I.2.2.2.1.F ht⟩) I.2.2.2.1.2.2 hdg hlk
theorem m_retv {K : mS → Prop} (F : CallFix p m c cc nL s args Ts own) (hr : meth.sig.returnType = none) (hlk : meth.locks = false) (I : mI D cI cJ h A s s.heap H locs S) (hdg : decode cc pc = .ok (.return_, 1)) (hK : K S) : W p l e R s m args below meth c H locs cells slots (MQ below (va_Qv K (mB D cI cJ h A) A) args s cells slots A) (F0 m pc ls []) :=
  W.vret F.1 F.2.1 hr (fun t ht hW => ⟨⟨S, rfl, hK, by rw [ht]; exact I.2.1, va_K.moved hW.alike I.1, I.2.2.1⟩, I.2.2.2.1.F ht⟩) I.2.2.2.1.2.2 hdg hlk
theorem s_reti {K : Int32 → Prop} (F : CallFix p m c cc nL s args Ts own) (hr : meth.sig.returnType = some .int) (hlk : meth.locks = false) {v : Int32} (hdg : decode cc pc = .ok (.ireturn, 1)) (hK : K v) : W p l e R s m args below meth c s.heap [] cells slots (MQ below (vp_Si K) args s cells slots (fun _ => False)) (F0 m pc ls [.int v]) :=
  W.iret (v := v) F.1 F.2.1 hr (fun t ht _ => ⟨v, rfl, hK, ht⟩) (fun _ q => by cases q) hdg hlk
theorem s_retz {K : Int32 → Prop} (F : CallFix p m c cc nL s args Ts own) (hr : meth.sig.returnType = some .boolean) (hlk : meth.locks = false) {v : Int32} (hdg : decode cc pc = .ok (.ireturn, 1)) (hK : K v ∧ narrow .boolean (.int v) = .int v) : W p l e R s m args below meth c s.heap [] cells slots (MQ below (vp_Si K) args s cells slots (fun _ => False)) (F0 m pc ls [.int v]) :=
  W.zret (v := v) F.1 F.2.1 hr hK.2 (fun t ht _ => ⟨v, rfl, hK.1, ht⟩) (fun _ q => by cases q) hdg hlk
theorem s_retl {K : Int64 → Prop} (F : CallFix p m c cc nL s args Ts own) (hr : meth.sig.returnType = some .long) (hlk : meth.locks = false) {v : Int64} (hdg : decode cc pc = .ok (.lreturn, 1)) (hK : K v) : W p l e R s m args below meth c s.heap [] cells slots (MQ below (vp_Sl K) args s cells slots (fun _ => False)) (F0 m pc ls [.long v]) :=
  W.lret (v := v) F.1 F.2.1 hr (fun t ht _ => ⟨v, rfl, hK, ht⟩) (fun _ q => by cases q) hdg hlk
theorem m_free (I : mI D cI cJ h A s H0 H locs S) : ∀ q, va_A (mW cI cJ h S) H.size q → A q := by
  intro q hq
  rcases hq with ⟨k, e, hk⟩ | hq
  · exact I.2.2.1.2 k _ hk
  · exact I.2.2.2.2 q (Nat.le_trans I.2.2.2.1.1 hq)
theorem m_blind {As : List Value} {sz : Nat} : FrameBlind (mPc D cI cJ h S sz As) := fun a U g mk q => by
  obtain ⟨q0, q1, qP, qK, qD⟩ := q
  exact ⟨q0, q1, qP, va_K.moved (u := U) (U := U.calling g mk a) (Vm.Alike.refl U.vm) qK, qD⟩
theorem m_pre (I : mI D cI cJ h A s H0 H locs S) (As : List Value) : ∀ U : State, U.heap = H → s.WarmedH U.vm → mPc D cI cJ h S H.size As As.toArray U :=
  fun U hU hW => ⟨rfl, by rw [hU], by rw [hU]; exact I.2.1, va_K.moved hW.alike I.1, I.2.2.1.weaken (fun _ _ _ _ => trivial)⟩
theorem m_recv (I : mI D cI cJ h A s H0 H locs S) : ∃ cell : Cell, H[h 0]? = some cell ∧ cell.vm.isStatics = false ∧ s.vm.findClass RX2 = some cell.cls :=
  va_recv (q0 := 0) (ci := 2) (q := (RX2, TX2, 24)) (fs := mfs h S) I.1 I.2.1 rfl rfl
theorem m_back (I : mI D cI cJ h A s H0 H locs S) {u : mS} {t : State} {H1 : Heap} {locs1 : List Loc} (ht : t.heap = H1) (hvm : s.vm.Alike t.vm) (hB : mB D cI cJ h (va_A (mW cI cJ h S) H.size) u t) (hS : va_S A H0 H1 locs1) : mI D cI cJ h A s H0 H1 locs1 u := by
  obtain ⟨hP, -, hD⟩ := hB
  rw [ht] at hP
  exact ⟨I.1, hP, hD.weaken (fun k q hk hq => m_free I _ hq), hS, I.2.2.2.2⟩
theorem m_start {y : MethodName} {ws ws' : List Cond} {maxL : Nat} {rm : Room} {As : List Value} {Qc : (Nat → Prop) → Array Value → State → Outcome → State → Prop} {rt : Option FieldType} (hy : plainName y.cls = true) (hw : ws = Cond.code y cc maxL rt :: ws') (hy2 : y.cls = RX2) (hA : (lg_sl As).length ≤ maxL)
    (body : ∀ (p : Program) (e : Env) (s : State) (m : MethodId) (below : List Frame) (meth : Method) (c : Code) (A : Nat → Prop) (ls : Array Slot), CallFix p m c cc maxL s As.toArray ws RX2 → meth.sig.returnType = rt → meth.locks = false → mI D cI cJ h A s s.heap s.heap [] S → lv_has ls maxL (lv_args 0 As) → W p l e rm s m As.toArray below meth c s.heap [] 0 0 (MQ below (Qc A) As.toArray s 0 0 A) (F0 m 0 ls [])) :
    ∀ sz : Nat, Met l y ws rm (mPc D cI cJ h S sz As) (Qc (va_A (mW cI cJ h S) sz)) 0 0 (va_A (mW cI cJ h S) sz) := by
  intro sz
  refine Met.ofW (cc := cc) (maxL := maxL) (ret := rt) hy hw ?_
  intro p e s m args below meth c s₁ B hml hv
  obtain ⟨rfl, hsz, hP, hK, hD0⟩ := hv
  have hown : s.vm.findClass RX2 = some m.cls := hy2 ▸ findClass_of_methodNamed B.named
  subst hsz
  have hl := lv_entry As (n := maxL) hA
  rw [lg_entry_eq]
  exact body p e s m below meth c _ _ ⟨B.exec, B.bytes, hml, hown, atoms_spec (ws := ws) B.pre⟩ B.returns B.notSynchronized ⟨hK, hP, hD0.self (sz := s.heap.size), va_S.rf, fun q hq => Or.inr hq⟩ hl
theorem s_start {y : MethodName} {ws ws' : List Cond} {maxL : Nat} {rm : Room} {As : List Value} {Qc : Array Value → State → Outcome → State → Prop} {rt : Option FieldType} {R0 : String} (hy : plainName y.cls = true) (hw : ws = Cond.code y cc maxL rt :: ws') (hy2 : y.cls = R0) (hA : (lg_sl As).length ≤ maxL)
    (body : ∀ (p : Program) (e : Env) (s : State) (m : MethodId) (below : List Frame) (meth : Method) (c : Code) (ls : Array Slot), CallFix p m c cc maxL s As.toArray ws R0 → meth.sig.returnType = rt → meth.locks = false → lv_has ls maxL (lv_args 0 As) → W p l e rm s m As.toArray below meth c s.heap [] 0 0 (MQ below Qc As.toArray s 0 0 (fun _ => False)) (F0 m 0 ls [])) :
    Met l y ws rm (va_Pc As (fun _ => True)) Qc 0 0 (fun _ => False) := by
  refine Met.ofW (cc := cc) (maxL := maxL) (ret := rt) hy hw ?_
  intro p e s m args below meth c s₁ B hml hv
  obtain ⟨rfl, -⟩ := hv
  have hown : s.vm.findClass R0 = some m.cls := hy2 ▸ findClass_of_methodNamed B.named
  have hl := lv_entry As (n := maxL) hA
  rw [lg_entry_eq]
  exact body p e s m below meth c _ ⟨B.exec, B.bytes, hml, hown, atoms_spec (ws := ws) B.pre⟩ B.returns B.notSynchronized hl
theorem m_starti {y : MethodName} {ws ws' : List Cond} {maxL : Nat} {rm : Room} {As : List Value} {K : Int32 → mS → Prop} {rt : Option FieldType} (hy : plainName y.cls = true) (hw : ws = Cond.code y cc maxL rt :: ws') (hy2 : y.cls = RX2) (hA : (lg_sl As).length ≤ maxL)
    (body : ∀ (p : Program) (e : Env) (s : State) (m : MethodId) (below : List Frame) (meth : Method) (c : Code) (A : Nat → Prop) (ls : Array Slot), CallFix p m c cc maxL s As.toArray ws RX2 → meth.sig.returnType = rt → meth.locks = false → mI D cI cJ h A s s.heap s.heap [] S → lv_has ls maxL (lv_args 0 As) → W p l e rm s m As.toArray below meth c s.heap [] 0 0 (MQ below (va_Qi K (mB D cI cJ h A) A) As.toArray s 0 0 A) (F0 m 0 ls [])) :
    mMi l D cI cJ h y ws rm As K S := m_start (Qc := fun A => va_Qi K (mB D cI cJ h A) A) hy hw hy2 hA body
theorem m_startl {y : MethodName} {ws ws' : List Cond} {maxL : Nat} {rm : Room} {As : List Value} {K : Int64 → mS → Prop} {rt : Option FieldType} (hy : plainName y.cls = true) (hw : ws = Cond.code y cc maxL rt :: ws') (hy2 : y.cls = RX2) (hA : (lg_sl As).length ≤ maxL)
    (body : ∀ (p : Program) (e : Env) (s : State) (m : MethodId) (below : List Frame) (meth : Method) (c : Code) (A : Nat → Prop) (ls : Array Slot), CallFix p m c cc maxL s As.toArray ws RX2 → meth.sig.returnType = rt → meth.locks = false → mI D cI cJ h A s s.heap s.heap [] S → lv_has ls maxL (lv_args 0 As) → W p l e rm s m As.toArray below meth c s.heap [] 0 0 (MQ below (va_Ql K (mB D cI cJ h A) A) As.toArray s 0 0 A) (F0 m 0 ls [])) :
    mMl l D cI cJ h y ws rm As K S := m_start (Qc := fun A => va_Ql K (mB D cI cJ h A) A) hy hw hy2 hA body
theorem m_startv {y : MethodName} {ws ws' : List Cond} {maxL : Nat} {rm : Room} {As : List Value} {K : mS → Prop} {rt : Option FieldType} (hy : plainName y.cls = true) (hw : ws = Cond.code y cc maxL rt :: ws') (hy2 : y.cls = RX2) (hA : (lg_sl As).length ≤ maxL)
    (body : ∀ (p : Program) (e : Env) (s : State) (m : MethodId) (below : List Frame) (meth : Method) (c : Code) (A : Nat → Prop) (ls : Array Slot), CallFix p m c cc maxL s As.toArray ws RX2 → meth.sig.returnType = rt → meth.locks = false → mI D cI cJ h A s s.heap s.heap [] S → lv_has ls maxL (lv_args 0 As) → W p l e rm s m As.toArray below meth c s.heap [] 0 0 (MQ below (va_Qv K (mB D cI cJ h A) A) As.toArray s 0 0 A) (F0 m 0 ls [])) :
    mMv l D cI cJ h y ws rm As K S := m_start (Qc := fun A => va_Qv K (mB D cI cJ h A) A) hy hw hy2 hA body
section Calls
variable {y : MethodName} {ws : List Cond} {rm : Room} {bytes : ByteArray} {maxL index n : Nat} {ret : Option FieldType} {As : List Value}
theorem m_calli {K : Int32 → mS → Prop} (F : CallFix p m c cc nL s args Ts own) (I : mI D cI cJ h A s H0 H locs S) (hM : mMi l D cI cJ h y ws rm (.ref (h 0) :: As) K S) (cw : CallW R s args own RX2 index y bytes maxL ret ws rm 0 0 n) (hn : As.length = n) (hsize : ls.size = nL) (hstack : st0 = As.reverse ++ .ref (h 0) :: rest) (hW : (rest.map fun v => v.category).sum ≤ 8) (hdg : decode cc pc = .ok (.invokevirtual index, 3)) (hf : cells ≤ R.cells ∧ slots ≤ R.slots)
    (kk : ∀ (r : Int32) (u : mS) (H1 : Heap) (locs1 : List Loc), K r u → mI D cI cJ h A s H0 H1 locs1 u → W p l e R s m args below meth c H1 locs1 cells slots Q (F0 m (pc + 3) ls (.int r :: rest))) : W p l e R s m args below meth c H locs cells slots Q (F0 m pc ls st0) :=
  va_calli (va_runV F (hM H.size) cw ⟨m_blind, m_recv I, m_pre I _⟩ rfl hn hsize hstack (lv_room hW) hdg hf) I.2.2.2.1 (fun q _ hq => m_free I q hq) (m_free I) (fun r u t H1 locs1 ht hvm hw hB hz hk hS => kk r u H1 locs1 hw (m_back I ht hvm hB hS))
theorem m_calll {K : Int64 → mS → Prop} (F : CallFix p m c cc nL s args Ts own) (I : mI D cI cJ h A s H0 H locs S) (hM : mMl l D cI cJ h y ws rm (.ref (h 0) :: As) K S) (cw : CallW R s args own RX2 index y bytes maxL ret ws rm 0 0 n) (hn : As.length = n) (hsize : ls.size = nL) (hstack : st0 = As.reverse ++ .ref (h 0) :: rest) (hW : (rest.map fun v => v.category).sum ≤ 8) (hdg : decode cc pc = .ok (.invokevirtual index, 3)) (hf : cells ≤ R.cells ∧ slots ≤ R.slots)
    (kk : ∀ (r : Int64) (u : mS) (H1 : Heap) (locs1 : List Loc), K r u → mI D cI cJ h A s H0 H1 locs1 u → W p l e R s m args below meth c H1 locs1 cells slots Q (F0 m (pc + 3) ls (.long r :: rest))) : W p l e R s m args below meth c H locs cells slots Q (F0 m pc ls st0) :=
  va_calll (va_runV F (hM H.size) cw ⟨m_blind, m_recv I, m_pre I _⟩ rfl hn hsize hstack (lv_room hW) hdg hf) I.2.2.2.1 (fun q _ hq => m_free I q hq) (m_free I) (fun r u t H1 locs1 ht hvm hw hB hz hk hS => kk r u H1 locs1 hw (m_back I ht hvm hB hS))
theorem m_callv {K : mS → Prop} (F : CallFix p m c cc nL s args Ts own) (I : mI D cI cJ h A s H0 H locs S) (hM : mMv l D cI cJ h y ws rm (.ref (h 0) :: As) K S) (cw : CallW R s args own RX2 index y bytes maxL ret ws rm 0 0 n) (hn : As.length = n) (hsize : ls.size = nL) (hstack : st0 = As.reverse ++ .ref (h 0) :: rest) (hW : (rest.map fun v => v.category).sum ≤ 8) (hdg : decode cc pc = .ok (.invokevirtual index, 3)) (hf : cells ≤ R.cells ∧ slots ≤ R.slots)
    (kk : ∀ (u : mS) (H1 : Heap) (locs1 : List Loc), K u → mI D cI cJ h A s H0 H1 locs1 u → W p l e R s m args below meth c H1 locs1 cells slots Q (F0 m (pc + 3) ls rest)) : W p l e R s m args below meth c H locs cells slots Q (F0 m pc ls st0) :=
  va_callv (va_runV F (hM H.size) cw ⟨m_blind, m_recv I, m_pre I _⟩ rfl hn hsize hstack (lv_room hW) hdg hf) I.2.2.2.1 (fun q _ hq => m_free I q hq) (m_free I) (fun u t H1 locs1 ht hvm hw hB hz hk hS => kk u H1 locs1 hw (m_back I ht hvm hB hS))
theorem s_calli {K : Int32 → Prop} (F : CallFix p m c cc nL s args Ts own) (hM : sMi l y ws rm As K) (cw : CallB R s args own index y bytes maxL ret ws rm 0 0 n ∧ (Cond.static y).before args s = true) (hn : As.length = n) (hsize : ls.size = nL) (hstack : st0 = As.reverse ++ rest) (hW : (rest.map fun v => v.category).sum ≤ 8) (hdg : decode cc pc = .ok (.invokestatic index, 3)) (hf : cells ≤ R.cells ∧ slots ≤ R.slots)
    (kk : ∀ r : Int32, K r → W p l e R s m args below meth c H locs cells slots Q (F0 m (pc + 3) ls (.int r :: rest))) : W p l e R s m args below meth c H locs cells slots Q (F0 m pc ls st0) :=
  vp_callSi (W.runS F hM cw ⟨fun _ _ _ _ q => ⟨q.1, trivial⟩, fun _ _ _ => ⟨rfl, trivial⟩⟩ rfl hn hsize hstack (lv_room hW) hdg hf) kk
theorem s_calll {K : Int64 → Prop} (F : CallFix p m c cc nL s args Ts own) (hM : sMl l y ws rm As K) (cw : CallB R s args own index y bytes maxL ret ws rm 0 0 n ∧ (Cond.static y).before args s = true) (hn : As.length = n) (hsize : ls.size = nL) (hstack : st0 = As.reverse ++ rest) (hW : (rest.map fun v => v.category).sum ≤ 8) (hdg : decode cc pc = .ok (.invokestatic index, 3)) (hf : cells ≤ R.cells ∧ slots ≤ R.slots)
    (kk : ∀ r : Int64, K r → W p l e R s m args below meth c H locs cells slots Q (F0 m (pc + 3) ls (.long r :: rest))) : W p l e R s m args below meth c H locs cells slots Q (F0 m pc ls st0) :=
  vp_callSl (W.runS F hM cw ⟨fun _ _ _ _ q => ⟨q.1, trivial⟩, fun _ _ _ => ⟨rfl, trivial⟩⟩ rfl hn hsize hstack (lv_room hW) hdg hf) kk
end Calls
end Rows
end MWorld
