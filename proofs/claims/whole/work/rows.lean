section
-- ===== PART A: goes FIRST, ahead of the names: the tables' words, and 'selects' of the private methods out of them =====
/-- a private method of a class that the tables say can be made, by its rows of tables_1 -/
def lw_okq (q : MethodName × Nat) : Prop := (q.1.cls ≠ "java/lang/invoke/MethodHandle" ∧ q.1.cls ≠ "java/lang/invoke/VarHandle") ∧ Cond.instantiable q.1.cls q.2 ∈ tables_1 ∧ Cond.privateMethod q.1 ∈ tables_1 ∧ Cond.instanceMethod q.1 ∈ tables_1
theorem lw_p0 : lw_okq (⟨"CuttingTable", "settle", "(III)I"⟩, 14) := ⟨⟨by decide +kernel, by decide +kernel⟩, List.mem_of_getElem? (i := 11) (by decide +kernel), List.mem_of_getElem? (i := 73) (by decide +kernel), List.mem_of_getElem? (i := 74) (by decide +kernel)⟩
theorem lw_p1 : lw_okq (⟨"CuttingTable", "refusalOfReel", "(I)I"⟩, 14) := ⟨⟨by decide +kernel, by decide +kernel⟩, List.mem_of_getElem? (i := 11) (by decide +kernel), List.mem_of_getElem? (i := 107) (by decide +kernel), List.mem_of_getElem? (i := 108) (by decide +kernel)⟩
theorem lw_p2 : lw_okq (⟨"CuttingTable", "refusalOfFrame", "(IZI)I"⟩, 14) := ⟨⟨by decide +kernel, by decide +kernel⟩, List.mem_of_getElem? (i := 11) (by decide +kernel), List.mem_of_getElem? (i := 126) (by decide +kernel), List.mem_of_getElem? (i := 127) (by decide +kernel)⟩
theorem lw_p3 : lw_okq (⟨"CuttingTable", "emptyBin", "()V"⟩, 14) := ⟨⟨by decide +kernel, by decide +kernel⟩, List.mem_of_getElem? (i := 11) (by decide +kernel), List.mem_of_getElem? (i := 136) (by decide +kernel), List.mem_of_getElem? (i := 137) (by decide +kernel)⟩
theorem lw_p4 : lw_okq (⟨"CuttingTable", "newShot", "(II)J"⟩, 14) := ⟨⟨by decide +kernel, by decide +kernel⟩, List.mem_of_getElem? (i := 11) (by decide +kernel), List.mem_of_getElem? (i := 144) (by decide +kernel), List.mem_of_getElem? (i := 145) (by decide +kernel)⟩
theorem lw_p5 : lw_okq (⟨"CuttingTable", "doSplice", "(IIIJI)I"⟩, 14) := ⟨⟨by decide +kernel, by decide +kernel⟩, List.mem_of_getElem? (i := 11) (by decide +kernel), List.mem_of_getElem? (i := 162) (by decide +kernel), List.mem_of_getElem? (i := 163) (by decide +kernel)⟩
theorem lw_p6 : lw_okq (⟨"CuttingTable", "refusalOfPair", "(II)I"⟩, 14) := ⟨⟨by decide +kernel, by decide +kernel⟩, List.mem_of_getElem? (i := 11) (by decide +kernel), List.mem_of_getElem? (i := 166) (by decide +kernel), List.mem_of_getElem? (i := 167) (by decide +kernel)⟩
theorem lw_p7 : lw_okq (⟨"CuttingTable", "fillBin", "(LCuttingTable$Load;II)V"⟩, 14) := ⟨⟨by decide +kernel, by decide +kernel⟩, List.mem_of_getElem? (i := 11) (by decide +kernel), List.mem_of_getElem? (i := 176) (by decide +kernel), List.mem_of_getElem? (i := 177) (by decide +kernel)⟩
theorem lw_p8 : lw_okq (⟨"CuttingTable", "refusalOfGap", "(III)I"⟩, 14) := ⟨⟨by decide +kernel, by decide +kernel⟩, List.mem_of_getElem? (i := 11) (by decide +kernel), List.mem_of_getElem? (i := 187) (by decide +kernel), List.mem_of_getElem? (i := 188) (by decide +kernel)⟩
theorem lw_p9 : lw_okq (⟨"CuttingTable", "playCut", "(I)I"⟩, 14) := ⟨⟨by decide +kernel, by decide +kernel⟩, List.mem_of_getElem? (i := 11) (by decide +kernel), List.mem_of_getElem? (i := 210) (by decide +kernel), List.mem_of_getElem? (i := 211) (by decide +kernel)⟩
theorem lw_p10 : lw_okq (⟨"CuttingTable", "loadOn", "(I)LCuttingTable$Load;"⟩, 14) := ⟨⟨by decide +kernel, by decide +kernel⟩, List.mem_of_getElem? (i := 11) (by decide +kernel), List.mem_of_getElem? (i := 226) (by decide +kernel), List.mem_of_getElem? (i := 227) (by decide +kernel)⟩
theorem lw_p11 : lw_okq (⟨"CuttingTable", "lowestWith", "(LCuttingTable$Load;)I"⟩, 14) := ⟨⟨by decide +kernel, by decide +kernel⟩, List.mem_of_getElem? (i := 11) (by decide +kernel), List.mem_of_getElem? (i := 230) (by decide +kernel), List.mem_of_getElem? (i := 231) (by decide +kernel)⟩
theorem lw_p12 : lw_okq (⟨"java/lang/Throwable", "fillInStackTrace", "(I)Ljava/lang/Throwable;"⟩, 6) := ⟨⟨by decide +kernel, by decide +kernel⟩, List.mem_of_getElem? (i := 291) (by decide +kernel), List.mem_of_getElem? (i := 289) (by decide +kernel), List.mem_of_getElem? (i := 290) (by decide +kernel)⟩
theorem lw_p13 : lw_okq (⟨"CuttingTableModel", "begin", "()V"⟩, 24) := ⟨⟨by decide +kernel, by decide +kernel⟩, List.mem_of_getElem? (i := 342) (by decide +kernel), List.mem_of_getElem? (i := 429) (by decide +kernel), List.mem_of_getElem? (i := 430) (by decide +kernel)⟩
theorem lw_p14 : lw_okq (⟨"CuttingTableModel", "told", "(I)I"⟩, 24) := ⟨⟨by decide +kernel, by decide +kernel⟩, List.mem_of_getElem? (i := 342) (by decide +kernel), List.mem_of_getElem? (i := 436) (by decide +kernel), List.mem_of_getElem? (i := 437) (by decide +kernel)⟩
theorem lw_p15 : lw_okq (⟨"CuttingTableModel", "newReel", "(II)I"⟩, 24) := ⟨⟨by decide +kernel, by decide +kernel⟩, List.mem_of_getElem? (i := 342) (by decide +kernel), List.mem_of_getElem? (i := 440) (by decide +kernel), List.mem_of_getElem? (i := 441) (by decide +kernel)⟩
def lw_privs_1 : List (MethodName × Nat) := [(⟨"CuttingTable", "settle", "(III)I"⟩, 14), (⟨"CuttingTable", "refusalOfReel", "(I)I"⟩, 14), (⟨"CuttingTable", "refusalOfFrame", "(IZI)I"⟩, 14), (⟨"CuttingTable", "emptyBin", "()V"⟩, 14), (⟨"CuttingTable", "newShot", "(II)J"⟩, 14), (⟨"CuttingTable", "doSplice", "(IIIJI)I"⟩, 14), (⟨"CuttingTable", "refusalOfPair", "(II)I"⟩, 14), (⟨"CuttingTable", "fillBin", "(LCuttingTable$Load;II)V"⟩, 14), (⟨"CuttingTable", "refusalOfGap", "(III)I"⟩, 14), (⟨"CuttingTable", "playCut", "(I)I"⟩, 14), (⟨"CuttingTable", "loadOn", "(I)LCuttingTable$Load;"⟩, 14), (⟨"CuttingTable", "lowestWith", "(LCuttingTable$Load;)I"⟩, 14), (⟨"java/lang/Throwable", "fillInStackTrace", "(I)Ljava/lang/Throwable;"⟩, 6), (⟨"CuttingTableModel", "begin", "()V"⟩, 24), (⟨"CuttingTableModel", "told", "(I)I"⟩, 24), (⟨"CuttingTableModel", "newReel", "(II)I"⟩, 24)]
theorem lw_r1 : ∀ q ∈ lw_privs_1, lw_okq q := List.forall_mem_cons.mpr ⟨lw_p0, List.forall_mem_cons.mpr ⟨lw_p1, List.forall_mem_cons.mpr ⟨lw_p2, List.forall_mem_cons.mpr ⟨lw_p3, List.forall_mem_cons.mpr ⟨lw_p4, List.forall_mem_cons.mpr ⟨lw_p5, List.forall_mem_cons.mpr ⟨lw_p6, List.forall_mem_cons.mpr ⟨lw_p7, List.forall_mem_cons.mpr ⟨lw_p8, List.forall_mem_cons.mpr ⟨lw_p9, List.forall_mem_cons.mpr ⟨lw_p10, List.forall_mem_cons.mpr ⟨lw_p11, List.forall_mem_cons.mpr ⟨lw_p12, List.forall_mem_cons.mpr ⟨lw_p13, List.forall_mem_cons.mpr ⟨lw_p14, List.forall_mem_cons.mpr ⟨lw_p15, fun _ h => absurd h List.not_mem_nil⟩⟩⟩⟩⟩⟩⟩⟩⟩⟩⟩⟩⟩⟩⟩⟩
theorem lw_p16 : lw_okq (⟨"CuttingTableModel", "lay", "(III)V"⟩, 24) := ⟨⟨by decide +kernel, by decide +kernel⟩, List.mem_of_getElem? (i := 342) (by decide +kernel), List.mem_of_getElem? (i := 448) (by decide +kernel), List.mem_of_getElem? (i := 449) (by decide +kernel)⟩
theorem lw_p17 : lw_okq (⟨"CuttingTableModel", "noReel", "(I)I"⟩, 24) := ⟨⟨by decide +kernel, by decide +kernel⟩, List.mem_of_getElem? (i := 342) (by decide +kernel), List.mem_of_getElem? (i := 464) (by decide +kernel), List.mem_of_getElem? (i := 465) (by decide +kernel)⟩
theorem lw_p18 : lw_okq (⟨"CuttingTableModel", "bears", "(IJ)Z"⟩, 24) := ⟨⟨by decide +kernel, by decide +kernel⟩, List.mem_of_getElem? (i := 342) (by decide +kernel), List.mem_of_getElem? (i := 484) (by decide +kernel), List.mem_of_getElem? (i := 485) (by decide +kernel)⟩
theorem lw_p19 : lw_okq (⟨"CuttingTableModel", "spliced", "(IJIJJ)I"⟩, 24) := ⟨⟨by decide +kernel, by decide +kernel⟩, List.mem_of_getElem? (i := 342) (by decide +kernel), List.mem_of_getElem? (i := 492) (by decide +kernel), List.mem_of_getElem? (i := 493) (by decide +kernel)⟩
theorem lw_p20 : lw_okq (⟨"CuttingTableModel", "goes", "(III)V"⟩, 24) := ⟨⟨by decide +kernel, by decide +kernel⟩, List.mem_of_getElem? (i := 342) (by decide +kernel), List.mem_of_getElem? (i := 499) (by decide +kernel), List.mem_of_getElem? (i := 500) (by decide +kernel)⟩
theorem lw_p21 : lw_okq (⟨"CuttingTableModel", "noGap", "(III)I"⟩, 24) := ⟨⟨by decide +kernel, by decide +kernel⟩, List.mem_of_getElem? (i := 342) (by decide +kernel), List.mem_of_getElem? (i := 523) (by decide +kernel), List.mem_of_getElem? (i := 524) (by decide +kernel)⟩
def lw_privs_2 : List (MethodName × Nat) := [(⟨"CuttingTableModel", "lay", "(III)V"⟩, 24), (⟨"CuttingTableModel", "noReel", "(I)I"⟩, 24), (⟨"CuttingTableModel", "bears", "(IJ)Z"⟩, 24), (⟨"CuttingTableModel", "spliced", "(IJIJJ)I"⟩, 24), (⟨"CuttingTableModel", "goes", "(III)V"⟩, 24), (⟨"CuttingTableModel", "noGap", "(III)I"⟩, 24)]
theorem lw_r2 : ∀ q ∈ lw_privs_2, lw_okq q := List.forall_mem_cons.mpr ⟨lw_p16, List.forall_mem_cons.mpr ⟨lw_p17, List.forall_mem_cons.mpr ⟨lw_p18, List.forall_mem_cons.mpr ⟨lw_p19, List.forall_mem_cons.mpr ⟨lw_p20, List.forall_mem_cons.mpr ⟨lw_p21, fun _ h => absurd h List.not_mem_nil⟩⟩⟩⟩⟩⟩
def lw_privs : List (MethodName × Nat) := lw_privs_1 ++ (lw_privs_2)
def lw_tbl : List Cond := k2_sels lw_privs ++ tables_1
theorem lw_privs_ok : ∀ q ∈ lw_privs, lw_okq q := by
  show ∀ q ∈ lw_privs_1 ++ (lw_privs_2), lw_okq q
  exact List.forall_mem_append.mpr ⟨lw_r1, lw_r2⟩
/-! ===== BEGIN words of one list among another's, by their places ===== -/
theorem goodIn_r {big : List Cond} (ws : List Cond) (ps : List Nat) (hp : ws = ps.filterMap (fun i => big[i]?)) (h : ws.all goodWord = true) : GoodIn big ws := by
  intro w hw
  have h1 := List.all_eq_true.mp h w hw
  rw [hp] at hw
  obtain ⟨i, -, hi⟩ := List.mem_filterMap.mp hw
  have hm : w ∈ big := by first | exact List.mem_of_getElem? hi | exact List.getElem?_mem hi
  exact ⟨hm, good_of_word h1⟩
theorem goodIn_app {big a b : List Cond} (ha : GoodIn big a) (hb : GoodIn big b) : GoodIn big (a ++ b) := fun w h => (List.mem_append.mp h).elim (ha w) (hb w)
theorem goodIn_ca {big a b : List Cond} {c : Cond} (ha : GoodIn big (c :: a)) (hb : GoodIn big b) : GoodIn big (c :: (a ++ b)) := fun w h => (List.mem_cons.mp h).elim (fun e => ha w (List.mem_cons.mpr (Or.inl e))) (fun h => (List.mem_append.mp h).elim (fun h => ha w (List.mem_cons.mpr (Or.inr h))) (hb w))
theorem goodIn_sub {big ws : List Cond} (hm : ∀ w ∈ ws, w ∈ big) (h : ws.all goodWord = true) : GoodIn big ws := fun w hw => ⟨hm w hw, good_of_word (List.all_eq_true.mp h w hw)⟩
/-! ===== END ===== -/

/-! ===== BEGIN exceptions that leave a method, and their catching by the caller (launches without stack traces) ===== -/
section VXA
/-! The laws vx_back, vx_callV, vx_callS, vx_callSW, vx_throw0, vx_throwS follow proofs of the library, with one case more: JvmDerived/Free/Laws.lean (Back.of_free), Shelf42/LK1.lean (callV, callS), Shelf/KitTraced.lean (throwNew0V, throwNewS). -/
/-- where a method has thrown q: the class by its name, the cell, what was written, the world -/
def vx_T (XC : String → State → State → Prop) (st : State) (q : Addr) (t : State) (mc ms : Nat) (free : Addr → Prop) : Prop :=
  ∃ (E : String) (ce : Cell) (L : List Loc), XC E st t ∧ t.heap[q]? = some ce ∧ ce.vm = .none ∧ st.vm.findClass E = some ce.cls ∧ st.WarmedH t.vm ∧ st.sameButNew ({ t with vm := st.vm } : State) L mc ms ∧ ∀ z ∈ L, free z.base
def vx_Q (Qc : Array Value → State → Outcome → State → Prop) (XC : String → State → State → Prop) (mc ms : Nat) (free : Addr → Prop) : Array Value → State → Outcome → State → Prop := fun a st o t =>
  (Qc a st o t ∧ ∃ L, FrameEnd st o t L mc ms ∧ ∀ q ∈ L, free q.base) ∨ ∃ q, o = .threw q ∧ vx_T XC st q t mc ms free
/-- a callee that returns or throws -/
def vx_Met (l : Launch) (y : MethodName) (ws : List Cond) (rm : Room) (Pc : Array Value → State → Prop) (Qc : Array Value → State → Outcome → State → Prop) (XC : String → State → State → Prop) (mc ms : Nat) (free : Addr → Prop) : Prop :=
  MetFree l y (headSpec ws rm) Pc (fun _ _ _ _ _ => True) (vx_Q Qc XC mc ms free)
def vx_Post (XC : String → State → State → Prop) (mc ms : Nat) (free : Addr → Prop) : Pt → Array Value → Addr → Pt → Prop := fun A a q B =>
  ∃ (g : JFrame) (mk : MethodId) (t : State) (L : List Loc) (E : String) (ce : Cell), B.U.heap = t.heap ∧ B.U.vm = t.vm ∧ XC E (A.U.calling g mk a) t ∧ t.heap[q]? = some ce ∧ ce.vm = .none ∧ A.U.vm.findClass E = some ce.cls ∧ B.locs = A.locs ++ L ∧ (∀ z ∈ L, free z.base) ∧ B.cells = A.cells + mc ∧ B.slots = A.slots + ms
def vx_Back (l : Launch) (R : Room) (p : Program) (e : Env) (below : List Frame) (s : State) (sargs : Array Value) (y : MethodName) (len W9 : Nat)
    (Pre : Pt → Array Value → Prop) (Post : Pt → Array Value → Option Value → Pt → Prop) (PostX : Pt → Array Value → Addr → Pt → Prop) : Prop :=
  ∀ (m : MethodId) (meth : Method) (c : Code) (A : Pt) (g : JFrame) (ig : Instr) (mk : MethodId) (a : Array Value),
    Stand p l e R s m sargs below meth c A.U A.locs A.cells A.slots → g.method = m → g.locals.size = c.maxLocals → decode c.code g.pc = .ok (ig, len) →
    2 * g.monitorRoom + (g.stack.map fun v => v.category).sum ≤ W9 → A.U.methodNamed? y = some mk → Pre A a →
    (∃ (v : Option Value) (B : Pt), Stand p l e R s m sargs below meth c B.U B.locs B.cells B.slots ∧ Post A a v B ∧
      Steps p.tables e below (doInvoke e (A.U.setTop g) [] mk a).1 (B.U.setTop { g with pc := g.pc + len, stack := v.toList ++ g.stack })) ∨
    (∃ (q : Addr) (B : Pt), Stand p l e R s m sargs below meth c B.U B.locs B.cells B.slots ∧ PostX A a q B ∧
      Steps p.tables e below (doInvoke e (A.U.setTop g) [] mk a).1 ((B.U.setTop g).pushFrame (.throwing q)))
section Payer
variable {l : Launch} {R : Room} {p : Program} {e : Env} {below : List Frame} {s : State} {sargs : Array Value} {y : MethodName} {len W9 : Nat}
theorem vx_back {ws : List Cond} {rm : Room} {Pc : Array Value → State → Prop} {Qc : Array Value → State → Outcome → State → Prop} {XC : String → State → State → Prop} {mc ms : Nat} {free : Addr → Prop} {bytes : ByteArray} {maxL : Nat} {ret : Option FieldType}
    (hM : vx_Met l y ws rm Pc Qc XC mc ms free) (hblind : FrameBlind Pc) (hrc : rm.cells = mc) (hrs : rm.slots = ms)
    (hframes : rm.frames + 1 ≤ R.frames) (hlocals : W9 + (maxL + 11) + rm.locals ≤ R.locals)
    (hws : ∀ w ∈ ws, ∀ a' U, s.WarmedH U.vm → w.before a' U = true) (hcode : Cond.code y bytes maxL ret ∈ ws) (hinit : ∀ a' U, s.WarmedH U.vm → (Cond.initialized y.cls).before a' U = true) :
    vx_Back l R p e below s sargs y len W9 (PreOf R mc ms Pc) (PostOf Qc mc ms free) (vx_Post XC mc ms free) := by
  intro m meth c A g ig mk a X hg hsize hdg hW hn hp
  have h1 : (headSpec ws rm).pre.before a A.U = true := atoms_intro fun w hw => hws w hw _ _ X.warmed
  have h2 : (Cond.code y bytes maxL ret).before a A.U = true := hws _ hcode _ _ X.warmed
  have h3 : (Cond.initialized y.cls).before a A.U = true := hinit _ _ X.warmed
  have h4 : A.cells + (headSpec ws rm).room.cells ≤ R.cells := by rw [show (headSpec ws rm).room.cells = mc from hrc]; exact hp.1
  have h5 : A.slots + (headSpec ws rm).room.slots ≤ R.slots := by rw [show (headSpec ws rm).room.slots = ms from hrs]; exact hp.2.1
  have hPc : Pc a (A.U.calling g mk a) := hblind _ _ _ _ hp.2.2
  obtain ⟨U, Ls, c0, s0⟩ := A
  dsimp only [Pt.U, Pt.locs, Pt.cells, Pt.slots] at h1 h2 h3 h4 h5 X hn hPc ⊢
  obtain ⟨methY, cY, hmY, hcY, -, hlY, -, -, -, -⟩ := Cond.code_spec hn h2
  obtain ⟨kY, hkY, -⟩ := className_of_methodNamed hn
  have hinitY : kY.init = .initialized := Cond.initialized_spec (findClass_of_methodNamed hn) hkY h3
  have h : At U g.method c below := by rw [hg]; exact X.here
  have hlocals9 : W9 + (maxL + 11) + (headSpec ws rm).room.locals ≤ R.locals := hlocals
  have happ : (headSpec ws rm).appliesLoose y e.platform (U.calling g mk a) = true :=
    Spec.appliesLoose_calling (g := g) h hdg hn hkY hinitY
      (X.room_calling (g := g) (R' := (headSpec ws rm).room) hsize hmY hcY hframes (by rw [hlY]; omega) h4 h5) h1
  obtain ⟨mid, hmid⟩ := h.above
  have hfr : (U.setTop g).frames = (.java g :: mid) ++ below := by rw [State.frames_setTop' g h.top, hmid]; rfl
  obtain ⟨o, s₂, hsteps, -, hend, hq⟩ := Steps.callFree hM p X.admits X.cas X.clock (acts := []) hfr happ hPc trivial
  have hq' : vx_Q Qc XC mc ms free a (U.calling g mk a) o s₂ := hq
  rw [State.frames_setTop' g h.top] at hend
  obtain ⟨g₀, hg0⟩ := Option.isSome_iff_exists.mp h.top
  obtain ⟨r, hr⟩ := State.topJava?_eq_some.mp hg0
  have hr' : (({ U with heap := s₂.heap, slotsUsed := s₂.slotsUsed } : State).setVm s₂.vm).frames = .java g₀ :: r := hr
  rcases hq' with ⟨hqc, L, hfe, hL⟩ | ⟨q, rfl, E, ce, L, hx, hce, hcv, hcl, hW₂, hsm, hL⟩
  · obtain ⟨⟨v, rfl⟩, hW₂, e2, q2, q3, q4, q5, q6⟩ := id hfe
    have e3 : s₂ = ({ (U.calling g mk a).setFrames s₂.frames with heap := s₂.heap, slotsUsed := s₂.slotsUsed } : State).setVm s₂.vm := by
      have : s₂ = ({ s₂ with vm := (U.calling g mk a).vm } : State).setVm s₂.vm := rfl
      rw [e2] at this
      exact this
    obtain ⟨c₂, i₂, len₂, hc₂, hd₂, hf₂⟩ := hend
    have hW' : U.WarmedH s₂.vm := hW₂
    have hcc : c₂ = c := by
      have h1 : s₂.code? g.method = U.code? g.method := by
        rw [State.code?_eq, State.code?_eq, hW'.alike.method?]
      exact Option.some.inj (hc₂.symm.trans (h1.trans h.code))
    subst hcc
    have hlen : len₂ = len := by rw [hdg] at hd₂; cases hd₂; rfl
    subst hlen
    have hs₂ : s₂ = (({ U with heap := s₂.heap, slotsUsed := s₂.slotsUsed } : State).setVm s₂.vm).setTop { g with pc := g.pc + len₂, stack := v.toList ++ g.stack } := by
      refine e3.trans ?_
      rw [hf₂, State.calling_eq h.top, State.setFrames_setFrames, State.setTop_of_frames _ hr', hr]
      rfl
    have hsame : U.sameButNew ({ U with heap := s₂.heap, slotsUsed := s₂.slotsUsed } : State) L mc ms := by
      refine ⟨?_, q2, q3, q4, q5, q6⟩
      obtain ⟨t, ht, -⟩ := State.frames_cons hr
      show ({ U with heap := s₂.heap, slotsUsed := s₂.slotsUsed } : State) = { U.setFrames U.frames with heap := s₂.heap, slotsUsed := s₂.slotsUsed }
      rw [State.setFrames_self ht]
    subst hg
    refine Or.inl ⟨v, ⟨(({ U with heap := s₂.heap, slotsUsed := s₂.slotsUsed } : State).setVm s₂.vm), Ls ++ L, c0 + mc, s0 + ms⟩,
      ⟨X.admits, X.cas, X.clock, X.frames, X.room, X.hears, X.method, X.code, (X.here.setHeapUsed s₂.heap s₂.slotsUsed).setVm hW'.alike, X.tail, State.WarmedH.trans X.warmed hW', X.limits, X.bytes, X.same.trans (hsame.setVm s.vm)⟩,
      ⟨g, mk, s₂, L, rfl, rfl, hqc, rfl, hL, rfl, rfl⟩, ?_⟩
    show Steps p.tables e below _ ((({ U with heap := s₂.heap, slotsUsed := s₂.slotsUsed } : State).setVm s₂.vm).setTop { g with pc := g.pc + len₂, stack := v.toList ++ g.stack })
    rw [← hs₂]
    exact hsteps
  · obtain ⟨e2, q2, q3, q4, q5, q6⟩ := id hsm
    have e3 : s₂ = ({ (U.calling g mk a).setFrames s₂.frames with heap := s₂.heap, slotsUsed := s₂.slotsUsed } : State).setVm s₂.vm := by
      have : s₂ = ({ s₂ with vm := (U.calling g mk a).vm } : State).setVm s₂.vm := rfl
      rw [e2] at this
      exact this
    have hf₂ : s₂.frames = .throwing q :: .java g :: U.frames.tail := hend
    have hW' : U.WarmedH s₂.vm := hW₂
    have hs₂ : s₂ = ((({ U with heap := s₂.heap, slotsUsed := s₂.slotsUsed } : State).setVm s₂.vm).setTop g).pushFrame (.throwing q) := by
      refine e3.trans ?_
      rw [hf₂, State.calling_eq h.top, State.setFrames_setFrames, State.pushFrame, State.frames_setTop _ hr', State.setTop_of_frames _ hr', State.setFrames_setFrames, hr]
      rfl
    have hsame : U.sameButNew ({ U with heap := s₂.heap, slotsUsed := s₂.slotsUsed } : State) L mc ms := by
      refine ⟨?_, q2, q3, q4, q5, q6⟩
      obtain ⟨t, ht, -⟩ := State.frames_cons hr
      show ({ U with heap := s₂.heap, slotsUsed := s₂.slotsUsed } : State) = { U.setFrames U.frames with heap := s₂.heap, slotsUsed := s₂.slotsUsed }
      rw [State.setFrames_self ht]
    subst hg
    refine Or.inr ⟨q, ⟨(({ U with heap := s₂.heap, slotsUsed := s₂.slotsUsed } : State).setVm s₂.vm), Ls ++ L, c0 + mc, s0 + ms⟩,
      ⟨X.admits, X.cas, X.clock, X.frames, X.room, X.hears, X.method, X.code, (X.here.setHeapUsed s₂.heap s₂.slotsUsed).setVm hW'.alike, X.tail, State.WarmedH.trans X.warmed hW', X.limits, X.bytes, X.same.trans (hsame.setVm s.vm)⟩,
      ⟨g, mk, s₂, L, E, ce, rfl, rfl, hx, hce, hcv, hcl, rfl, hL, rfl, rfl⟩, ?_⟩
    show Steps p.tables e below _ (((({ U with heap := s₂.heap, slotsUsed := s₂.slotsUsed } : State).setVm s₂.vm).setTop g).pushFrame (.throwing q))
    rw [← hs₂]
    exact hsteps
end Payer
section Calls
variable {p : Program} {l : Launch} {e : Env} {R : Room} {s : State} {m : MethodId} {args : Array Value} {below : List Frame} {meth : Method} {c : Code} {T : State} {locs : List Loc} {cells slots : Nat}
theorem vx_callV (X : Stand p l e R s m args below meth c T locs cells slots) (hexec : p.tables.exec = Jvm.exec) {own C : String} {index : Nat} {y : MethodName} {bytes : ByteArray} {maxL : Nat} {ret : Option FieldType}
    (hown : s.vm.findClass own = some m.cls) (hlink : (Cond.methodLink own index y).before args s = true) (hinst : (Cond.instanceMethod y).before args s = true) (hsel : (Cond.selects C y y).before args s = true)
    (hcode : (Cond.code y bytes maxL ret).before args s = true) (hy : y.cls ≠ "java/lang/invoke/MethodHandle" ∧ y.cls ≠ "java/lang/invoke/VarHandle")
    {W9 : Nat} {Pre : Pt → Array Value → Prop} {Post : Pt → Array Value → Option Value → Pt → Prop} {PostX : Pt → Array Value → Addr → Pt → Prop} (hK : vx_Back l R p e below s args y 3 W9 Pre Post PostX)
    {b : Addr} {cellB : Cell} (hcell : T.heap[b]? = some cellB) (hobj : cellB.vm.isStatics = false) (hcls : s.vm.findClass C = some cellB.cls)
    {g : JFrame} (hg : g.method = m) (hsize : g.locals.size = c.maxLocals) {argsL rest : List Value} (hlen : ∀ sig, parseMethodDescriptor y.desc = some sig → argsL.length = sig.parameters.length)
    (hstack : g.stack = argsL.reverse ++ .ref b :: rest) (hW : 2 * g.monitorRoom + (rest.map fun v => v.category).sum ≤ W9) (hdg : decode c.code g.pc = .ok (.invokevirtual index, 3))
    (hpre : ∀ vm₁, s.WarmedH vm₁ → Pre ⟨T.setVm vm₁, locs, cells, slots⟩ (Value.ref b :: argsL).toArray) :
    (∃ (v : Option Value) (vm₁ : Vm) (B : Pt), s.WarmedH vm₁ ∧ Stand p l e R s m args below meth c B.U B.locs B.cells B.slots ∧ Post ⟨T.setVm vm₁, locs, cells, slots⟩ (Value.ref b :: argsL).toArray v B ∧
      ∀ target, Steps p.tables e below (B.U.setTop { g with pc := g.pc + 3, stack := v.toList ++ rest }) target → Steps p.tables e below (T.setTop g) target) ∨
    (∃ (q : Addr) (vm₁ : Vm) (B : Pt), s.WarmedH vm₁ ∧ Stand p l e R s m args below meth c B.U B.locs B.cells B.slots ∧ PostX ⟨T.setVm vm₁, locs, cells, slots⟩ (Value.ref b :: argsL).toArray q B ∧
      Steps p.tables e below (T.setTop g) ((B.U.setTop { g with stack := rest }).pushFrame (.throwing q))) := by
  obtain ⟨mk, methM, hnamed, hmethM, hstM, habM⟩ := Cond.instanceMethod_spec hinst
  obtain ⟨methM', cM, hmethM', -, -, -, -, -, -, hsigM⟩ := Cond.code_spec hnamed hcode
  cases hmethM.symm.trans hmethM'
  obtain ⟨c2, r2, m2, q1, q2, q3, q4, kP, hkP, hkPi⟩ := Cond.selects_spec hsel
  cases hcls.symm.trans q1
  cases (State.methodFound?_of_named hnamed hy).symm.trans q2
  cases hnamed.symm.trans q3
  have hselP : selectMethod e.platform s.vm cellB.cls mk = .method mk := by rw [Launch.admits_selectMethod X.admits]; exact q4
  obtain ⟨vm₁, X₁, hstep₁⟩ := X.invokevirtual hexec hown hlink hnamed hmethM hstM hkP hkPi hy (a := b) (cell := cellB) hcell
    (fun z h => by rw [h] at hobj; cases hobj) hselP hmethM habM hkP hkPi (g := g) hg (argsL := argsL) (rest := rest) (hlen _ hsigM) hstack hdg
  rcases hK m meth c ⟨T.setVm vm₁, locs, cells, slots⟩ { g with stack := rest } (.invokevirtual index) mk (Value.ref b :: argsL).toArray X₁ hg hsize hdg hW (X₁.named hnamed) (hpre vm₁ X₁.warmed) with ⟨v, B, X', hpost, hsteps⟩ | ⟨q, B, X', hpost, hsteps⟩
  · exact Or.inl ⟨v, vm₁, B, X₁.warmed, X', hpost, fun target h => hstep₁ _ fun acts => by rw [doInvoke_state]; exact hsteps.trans h⟩
  · exact Or.inr ⟨q, vm₁, B, X₁.warmed, X', hpost, hstep₁ _ fun acts => by rw [doInvoke_state]; exact hsteps⟩
theorem vx_callS (X : Stand p l e R s m args below meth c T locs cells slots) (hexec : p.tables.exec = Jvm.exec) {own : String} {index : Nat} {y : MethodName} {bytes : ByteArray} {maxL : Nat} {ret : Option FieldType}
    (hown : s.vm.findClass own = some m.cls) (hlink : (Cond.methodLink own index y).before args s = true) (hstat : (Cond.static y).before args s = true) (hinit : (Cond.initialized y.cls).before args s = true)
    (hcode : (Cond.code y bytes maxL ret).before args s = true) (hy : y.cls ≠ "java/lang/invoke/MethodHandle" ∧ y.cls ≠ "java/lang/invoke/VarHandle")
    {W9 : Nat} {Pre : Pt → Array Value → Prop} {Post : Pt → Array Value → Option Value → Pt → Prop} {PostX : Pt → Array Value → Addr → Pt → Prop} (hK : vx_Back l R p e below s args y 3 W9 Pre Post PostX)
    {g : JFrame} (hg : g.method = m) (hsize : g.locals.size = c.maxLocals) {argsL rest : List Value} (hlen : ∀ sig, parseMethodDescriptor y.desc = some sig → argsL.length = sig.parameters.length)
    (hstack : g.stack = argsL.reverse ++ rest) (hW : 2 * g.monitorRoom + (rest.map fun v => v.category).sum ≤ W9) (hdg : decode c.code g.pc = .ok (.invokestatic index, 3))
    (hpre : ∀ vm₁, s.WarmedH vm₁ → Pre ⟨T.setVm vm₁, locs, cells, slots⟩ argsL.toArray) :
    (∃ (v : Option Value) (vm₁ : Vm) (B : Pt), s.WarmedH vm₁ ∧ Stand p l e R s m args below meth c B.U B.locs B.cells B.slots ∧ Post ⟨T.setVm vm₁, locs, cells, slots⟩ argsL.toArray v B ∧
      ∀ target, Steps p.tables e below (B.U.setTop { g with pc := g.pc + 3, stack := v.toList ++ rest }) target → Steps p.tables e below (T.setTop g) target) ∨
    (∃ (q : Addr) (vm₁ : Vm) (B : Pt), s.WarmedH vm₁ ∧ Stand p l e R s m args below meth c B.U B.locs B.cells B.slots ∧ PostX ⟨T.setVm vm₁, locs, cells, slots⟩ argsL.toArray q B ∧
      Steps p.tables e below (T.setTop g) ((B.U.setTop { g with stack := rest }).pushFrame (.throwing q))) := by
  obtain ⟨mk, hnamed⟩ := Cond.code_named hcode
  obtain ⟨methM, cM, hmethM, -, -, -, -, -, -, hsigM⟩ := Cond.code_spec hnamed hcode
  have hstatic : methM.isStatic = true := Cond.static_spec hnamed hmethM hstat
  obtain ⟨kP, hkP, -⟩ := className_of_methodNamed hnamed
  have hinitP : kP.init = .initialized := Cond.initialized_spec (findClass_of_methodNamed hnamed) hkP hinit
  obtain ⟨vm₁, X₁, hstep₁⟩ := X.invokestatic hexec hown hlink hnamed hmethM hstatic hkP hinitP hy (g := g) hg (argsL := argsL) (rest := rest) (hlen _ hsigM) hstack hdg
  rcases hK m meth c ⟨T.setVm vm₁, locs, cells, slots⟩ { g with stack := rest } (.invokestatic index) mk argsL.toArray X₁ hg hsize hdg hW (X₁.named hnamed) (hpre vm₁ X₁.warmed) with ⟨v, B, X', hpost, hsteps⟩ | ⟨q, B, X', hpost, hsteps⟩
  · exact Or.inl ⟨v, vm₁, B, X₁.warmed, X', hpost, fun target h => hstep₁ _ fun acts => by rw [doInvoke_state]; exact hsteps.trans h⟩
  · exact Or.inr ⟨q, vm₁, B, X₁.warmed, X', hpost, hstep₁ _ fun acts => by rw [doInvoke_state]; exact hsteps⟩
end Calls
theorem vx_cls {s : State} {T : State} {vm₁ : Vm} {E : String} {k : ClassId} (hW : s.WarmedH vm₁) (h : (T.setVm vm₁).vm.findClass E = some k) : s.vm.findClass E = some k := by
  have h1 : vm₁.findClass E = some k := h
  rw [hW.alike.findClass] at h1
  exact h1
/-- the method's frame g, with q thrown over it -/
def vx_W (p : Program) (l : Launch) (e : Env) (R : Room) (s : State) (m : MethodId) (args : Array Value) (below : List Frame) (meth : Method) (c : Code) (H : Heap) (locs : List Loc) (cells slots : Nat) (Q : State → Prop) (g : JFrame) (q : Addr) : Prop :=
  ∀ T : State, T.heap = H → Stand p l e R s m args below meth c T locs cells slots → ∃ t, Steps p.tables e below ((T.setTop g).pushFrame (.throwing q)) t ∧ Q t
def vx_Run (p : Program) (l : Launch) (e : Env) (R : Room) (s : State) (m : MethodId) (args : Array Value) (below : List Frame) (meth : Method) (c : Code) (H : Heap) (locs : List Loc) (cells slots mc ms : Nat) (g : JFrame) (rest : List Value) (Qa : State → Outcome → State → Prop) (XC : String → State → State → Prop) (free : Addr → Prop) : Prop :=
  ∀ T : State, T.heap = H → Stand p l e R s m args below meth c T locs cells slots →
    (∃ (v : Option Value) (st₀ t T' : State) (L : List Loc), st₀.heap = H ∧ Stand p l e R s m args below meth c T' (locs ++ L) (cells + mc) (slots + ms) ∧ (∀ q ∈ L, free q.base) ∧ T'.heap = t.heap ∧ T'.vm = t.vm ∧ Qa st₀ (.returned v) t ∧
      Goes p e below T g T' { g with pc := g.pc + 3, stack := v.toList ++ rest }) ∨
    (∃ (q : Addr) (st₀ t T' : State) (L : List Loc) (E : String) (ce : Cell), st₀.heap = H ∧ Stand p l e R s m args below meth c T' (locs ++ L) (cells + mc) (slots + ms) ∧ (∀ z ∈ L, free z.base) ∧ T'.heap = t.heap ∧ T'.vm = t.vm ∧ XC E st₀ t ∧ t.heap[q]? = some ce ∧ ce.vm = .none ∧ s.vm.findClass E = some ce.cls ∧
      Steps p.tables e below (T.setTop g) ((T'.setTop { g with stack := rest }).pushFrame (.throwing q)))
def vx_X {S : Type} (px : S → Prop) (B : String → S → State → Prop) (A : Nat → Prop) : String → State → State → Prop := fun E st t => ∃ u : S, px u ∧ B E u t ∧ va_F A st t
section Runs
variable {p : Program} {l : Launch} {e : Env} {R : Room} {s : State} {m : MethodId} {args : Array Value} {below : List Frame} {meth : Method} {c : Code} {H : Heap} {locs : List Loc} {cells slots : Nat}
variable {y : MethodName} {bytes cc : ByteArray} {maxL nL mc ms n index : Nat} {ret : Option FieldType} {ws : List Cond} {rm : Room} {Pc : Array Value → State → Prop} {Qc : Array Value → State → Outcome → State → Prop} {XC : String → State → State → Prop} {free : Addr → Prop} {Ts : List Cond} {own C : String} {b : Addr} {As rest : List Value} {g : JFrame}
theorem vx_callBack (cb : CallB R s args own index y bytes maxL ret ws rm mc ms n) (hM : vx_Met l y ws rm Pc Qc XC mc ms free) (hbl : FrameBlind Pc) : vx_Back l R p e below s args y 3 8 (PreOf R mc ms Pc) (PostOf Qc mc ms free) (vx_Post XC mc ms free) := by
  obtain ⟨hrc, hrs, hfr, hlo, hws, hcw, -, hini, -⟩ := cb
  exact vx_back (bytes := bytes) (maxL := maxL) (ret := ret) hM hbl hrc hrs hfr hlo hws hcw (fun a' U hW => word_at hW (Or.inl (by first | rfl | simp [Cond.onTables, Cond.keeps, Cond.steady])) hini)
theorem vx_runV (S : CallFix p m c cc nL s args Ts own) (hM : vx_Met l y ws rm Pc Qc XC mc ms free) (cw : CallW R s args own C index y bytes maxL ret ws rm mc ms n) (hp : PreV s H C b Pc As)
    (hg : g.method = m) (hn : As.length = n) (hsize : g.locals.size = nL) (hstack : g.stack = As.reverse ++ .ref b :: rest) (hW : 2 * g.monitorRoom + (rest.map fun v => v.category).sum ≤ 8) (hdg : decode cc g.pc = .ok (.invokevirtual index, 3)) (hf : cells + mc ≤ R.cells ∧ slots + ms ≤ R.slots) :
    vx_Run p l e R s m args below meth c H locs cells slots mc ms g rest (Qc (Value.ref b :: As).toArray) XC free := by
  have hK : vx_Back l R p e below s args y 3 8 (PreOf R mc ms Pc) (PostOf Qc mc ms free) (vx_Post XC mc ms free) := vx_callBack cw.1 hM hp.1
  obtain ⟨⟨-, -, -, -, -, -, hcode, -, hy, hlen, hl⟩, hin, hse⟩ := cw
  obtain ⟨hx, hb, hml, ho, -⟩ := S
  obtain ⟨-, ⟨cellB, hcB, hoB, hclB⟩, hPc⟩ := hp
  intro T hT X
  rcases vx_callV X hx (C := C) (bytes := bytes) (maxL := maxL) (ret := ret) ho hl hin hse hcode hy hK (by rw [hT]; exact hcB) hoB hclB hg (hsize.trans hml.symm) (argsL := As) (rest := rest) (fun sig h => hn.trans (hlen sig h)) hstack hW (by rw [hb]; exact hdg)
    (fun vm₁ hW₁ => ⟨hf.1, hf.2, hPc (T.setVm vm₁) hT hW₁⟩) with ⟨v, vm₁, ⟨U', l2, c2, s2⟩, hW₁, X', ⟨g', mk, t, L, e1, e2, hq, h1, hL, h2, h3⟩, st⟩ | ⟨q, vm₁, ⟨U', l2, c2, s2⟩, hW₁, X', ⟨g', mk, t, L, E, ce, e1, e2, hq, hce, hcv, hcl, h1, hL, h2, h3⟩, st⟩
  · dsimp only [Pt.U, Pt.locs, Pt.cells, Pt.slots] at X' e1 e2 h1 h2 h3 st
    subst h1; subst h2; subst h3
    exact Or.inl ⟨v, (T.setVm vm₁).calling g' mk (Value.ref b :: As).toArray, t, U', L, hT, X', hL, e1, e2, hq, st⟩
  · dsimp only [Pt.U, Pt.locs, Pt.cells, Pt.slots] at X' e1 e2 h1 h2 h3 st hcl
    subst h1; subst h2; subst h3
    exact Or.inr ⟨q, (T.setVm vm₁).calling g' mk (Value.ref b :: As).toArray, t, U', L, E, ce, hT, X', hL, e1, e2, hq, hce, hcv, vx_cls hW₁ hcl, st⟩
theorem vx_runS (S : CallFix p m c cc nL s args Ts own) (hM : vx_Met l y ws rm Pc Qc XC mc ms free) (cw : CallB R s args own index y bytes maxL ret ws rm mc ms n ∧ (Cond.static y).before args s = true) (hp : PreS s H Pc As)
    (hg : g.method = m) (hn : As.length = n) (hsize : g.locals.size = nL) (hstack : g.stack = As.reverse ++ rest) (hW : 2 * g.monitorRoom + (rest.map fun v => v.category).sum ≤ 8) (hdg : decode cc g.pc = .ok (.invokestatic index, 3)) (hf : cells + mc ≤ R.cells ∧ slots + ms ≤ R.slots) :
    vx_Run p l e R s m args below meth c H locs cells slots mc ms g rest (Qc As.toArray) XC free := by
  have hK : vx_Back l R p e below s args y 3 8 (PreOf R mc ms Pc) (PostOf Qc mc ms free) (vx_Post XC mc ms free) := vx_callBack cw.1 hM hp.1
  obtain ⟨⟨-, -, -, -, -, -, hcode, hini, hy, hlen, hl⟩, hstt⟩ := cw
  obtain ⟨hx, hb, hml, ho, -⟩ := S
  intro T hT X
  rcases vx_callS X hx (bytes := bytes) (maxL := maxL) (ret := ret) ho hl hstt hini hcode hy hK hg (hsize.trans hml.symm) (argsL := As) (rest := rest) (fun sig h => hn.trans (hlen sig h)) hstack hW (by rw [hb]; exact hdg)
    (fun vm₁ hW₁ => ⟨hf.1, hf.2, hp.2 (T.setVm vm₁) hT hW₁⟩) with ⟨v, vm₁, ⟨U', l2, c2, s2⟩, hW₁, X', ⟨g', mk, t, L, e1, e2, hq, h1, hL, h2, h3⟩, st⟩ | ⟨q, vm₁, ⟨U', l2, c2, s2⟩, hW₁, X', ⟨g', mk, t, L, E, ce, e1, e2, hq, hce, hcv, hcl, h1, hL, h2, h3⟩, st⟩
  · dsimp only [Pt.U, Pt.locs, Pt.cells, Pt.slots] at X' e1 e2 h1 h2 h3 st
    subst h1; subst h2; subst h3
    exact Or.inl ⟨v, (T.setVm vm₁).calling g' mk As.toArray, t, U', L, hT, X', hL, e1, e2, hq, st⟩
  · dsimp only [Pt.U, Pt.locs, Pt.cells, Pt.slots] at X' e1 e2 h1 h2 h3 st hcl
    subst h1; subst h2; subst h3
    exact Or.inr ⟨q, (T.setVm vm₁).calling g' mk As.toArray, t, U', L, E, ce, hT, X', hL, e1, e2, hq, hce, hcv, vx_cls hW₁ hcl, st⟩
end Runs
section Rows
variable {p : Program} {l : Launch} {e : Env} {R : Room} {s : State} {m : MethodId} {args : Array Value} {below : List Frame} {meth : Method} {c : Code} {H : Heap} {locs : List Loc} {cells slots : Nat} {Q : State → Prop}
variable {mc ms : Nat} {free : Addr → Prop} {A0 A1 : Nat → Prop} {H0 : Heap} {a : Array Value} {pc : Nat} {ls : Array Slot} {st0 rest : List Value}
theorem vx_keep {st₀ t T' : State} {L : List Loc} (h0 : st₀.heap = H) (e1 : T'.heap = t.heap) (hS : va_S A0 H0 H locs) (hA : ∀ q, q < H.size → A1 q → A0 q) (hf : ∀ q, free q → A0 q) (hL : ∀ q ∈ L, free q.base) (hF : va_F A1 st₀ t) :
    H.size ≤ T'.heap.size ∧ (∀ q : Nat, q < H.size → ¬ A1 q → T'.heap[q]? = H[q]?) ∧ va_S A0 H0 T'.heap (locs ++ L) := by
  obtain ⟨hz, hk⟩ := hF
  rw [h0] at hz hk
  exact ⟨by rw [e1]; exact hz, fun q h1 h2 => by rw [e1]; exact hk q h1 h2,
    ⟨Nat.le_trans hS.1 (by rw [e1]; exact hz), fun q h1 h2 => by rw [e1, hk q (Nat.lt_of_lt_of_le h1 hS.1) (fun z => h2 (hA q (Nat.lt_of_lt_of_le h1 hS.1) z))]; exact hS.2.1 q h1 h2, fun q hq => by
      rcases List.mem_append.mp hq with h | h
      · exact hS.2.2 q h
      · exact hf _ (hL q h)⟩⟩
theorem vx_calli {S SX : Type} {post : Int32 → S → Prop} {px : SX → Prop} {B : S → State → Prop} {BX : String → SX → State → Prop} {AX : Nat → Prop} (hr : vx_Run p l e R s m args below meth c H locs cells slots mc ms (F0 m pc ls st0) rest (va_Qi post B A1 a) (vx_X px BX AX) free) (hS : va_S A0 H0 H locs) (hA : ∀ q, q < H.size → A1 q → A0 q) (hf : ∀ q, free q → A0 q) (hAX : ∀ q, q < H.size → AX q → A0 q)
    (kx : ∀ (E : String) (ce : Cell) (q9 : Addr) (u : SX) (t : State) (H1 : Heap) (locs1 : List Loc), t.heap = H1 → s.vm.Alike t.vm → px u → BX E u t → H.size ≤ H1.size → (∀ q : Nat, q < H.size → ¬ AX q → H1[q]? = H[q]?) → va_S A0 H0 H1 locs1 → H1[q9]? = some ce → ce.vm = .none → s.vm.findClass E = some ce.cls → vx_W p l e R s m args below meth c H1 locs1 (cells + mc) (slots + ms) Q (F0 m pc ls rest) q9)
    (kk : ∀ (r : Int32) (u : S) (t : State) (H1 : Heap) (locs1 : List Loc), t.heap = H1 → s.vm.Alike t.vm → post r u → B u t → H.size ≤ H1.size → (∀ q : Nat, q < H.size → ¬ A1 q → H1[q]? = H[q]?) → va_S A0 H0 H1 locs1 → W p l e R s m args below meth c H1 locs1 (cells + mc) (slots + ms) Q (F0 m (pc + 3) ls (.int r :: rest))) : W p l e R s m args below meth c H locs cells slots Q (F0 m pc ls st0) := by
  intro T hT X
  rcases hr T hT X with ⟨v, st₀, t, T', L, h0, X', hL, e1, e2, ⟨⟨r, u, hv, hp, hb⟩, hF⟩, st⟩ | ⟨q, st₀, t, T', L, E, ce, h0, X', hL, e1, e2, ⟨u, hp, hb, hF⟩, hce, hcv, hcl, st⟩
  · cases hv
    obtain ⟨k1, k2, k3⟩ := vx_keep h0 e1 hS hA hf hL hF
    obtain ⟨t2, a1, b1⟩ := kk r u t T'.heap (locs ++ L) e1.symm (by rw [← e2]; exact X'.warmed.alike) hp hb k1 k2 k3 T' rfl X'
    exact ⟨t2, st t2 a1, b1⟩
  · obtain ⟨k1, k2, k3⟩ := vx_keep h0 e1 hS hAX hf hL hF
    obtain ⟨t2, a1, b1⟩ := kx E ce q u t T'.heap (locs ++ L) e1.symm (by rw [← e2]; exact X'.warmed.alike) hp hb k1 k2 k3 (by rw [e1]; exact hce) hcv hcl T' rfl X'
    exact ⟨t2, st.trans a1, b1⟩
theorem vx_calll {S SX : Type} {post : Int64 → S → Prop} {px : SX → Prop} {B : S → State → Prop} {BX : String → SX → State → Prop} {AX : Nat → Prop} (hr : vx_Run p l e R s m args below meth c H locs cells slots mc ms (F0 m pc ls st0) rest (va_Ql post B A1 a) (vx_X px BX AX) free) (hS : va_S A0 H0 H locs) (hA : ∀ q, q < H.size → A1 q → A0 q) (hf : ∀ q, free q → A0 q) (hAX : ∀ q, q < H.size → AX q → A0 q)
    (kx : ∀ (E : String) (ce : Cell) (q9 : Addr) (u : SX) (t : State) (H1 : Heap) (locs1 : List Loc), t.heap = H1 → s.vm.Alike t.vm → px u → BX E u t → H.size ≤ H1.size → (∀ q : Nat, q < H.size → ¬ AX q → H1[q]? = H[q]?) → va_S A0 H0 H1 locs1 → H1[q9]? = some ce → ce.vm = .none → s.vm.findClass E = some ce.cls → vx_W p l e R s m args below meth c H1 locs1 (cells + mc) (slots + ms) Q (F0 m pc ls rest) q9)
    (kk : ∀ (r : Int64) (u : S) (t : State) (H1 : Heap) (locs1 : List Loc), t.heap = H1 → s.vm.Alike t.vm → post r u → B u t → H.size ≤ H1.size → (∀ q : Nat, q < H.size → ¬ A1 q → H1[q]? = H[q]?) → va_S A0 H0 H1 locs1 → W p l e R s m args below meth c H1 locs1 (cells + mc) (slots + ms) Q (F0 m (pc + 3) ls (.long r :: rest))) : W p l e R s m args below meth c H locs cells slots Q (F0 m pc ls st0) := by
  intro T hT X
  rcases hr T hT X with ⟨v, st₀, t, T', L, h0, X', hL, e1, e2, ⟨⟨r, u, hv, hp, hb⟩, hF⟩, st⟩ | ⟨q, st₀, t, T', L, E, ce, h0, X', hL, e1, e2, ⟨u, hp, hb, hF⟩, hce, hcv, hcl, st⟩
  · cases hv
    obtain ⟨k1, k2, k3⟩ := vx_keep h0 e1 hS hA hf hL hF
    obtain ⟨t2, a1, b1⟩ := kk r u t T'.heap (locs ++ L) e1.symm (by rw [← e2]; exact X'.warmed.alike) hp hb k1 k2 k3 T' rfl X'
    exact ⟨t2, st t2 a1, b1⟩
  · obtain ⟨k1, k2, k3⟩ := vx_keep h0 e1 hS hAX hf hL hF
    obtain ⟨t2, a1, b1⟩ := kx E ce q u t T'.heap (locs ++ L) e1.symm (by rw [← e2]; exact X'.warmed.alike) hp hb k1 k2 k3 (by rw [e1]; exact hce) hcv hcl T' rfl X'
    exact ⟨t2, st.trans a1, b1⟩
theorem vx_callf {S SX : Type} {post : UInt32 → S → Prop} {px : SX → Prop} {B : S → State → Prop} {BX : String → SX → State → Prop} {AX : Nat → Prop} (hr : vx_Run p l e R s m args below meth c H locs cells slots mc ms (F0 m pc ls st0) rest (va_Qf post B A1 a) (vx_X px BX AX) free) (hS : va_S A0 H0 H locs) (hA : ∀ q, q < H.size → A1 q → A0 q) (hf : ∀ q, free q → A0 q) (hAX : ∀ q, q < H.size → AX q → A0 q)
    (kx : ∀ (E : String) (ce : Cell) (q9 : Addr) (u : SX) (t : State) (H1 : Heap) (locs1 : List Loc), t.heap = H1 → s.vm.Alike t.vm → px u → BX E u t → H.size ≤ H1.size → (∀ q : Nat, q < H.size → ¬ AX q → H1[q]? = H[q]?) → va_S A0 H0 H1 locs1 → H1[q9]? = some ce → ce.vm = .none → s.vm.findClass E = some ce.cls → vx_W p l e R s m args below meth c H1 locs1 (cells + mc) (slots + ms) Q (F0 m pc ls rest) q9)
    (kk : ∀ (r : UInt32) (u : S) (t : State) (H1 : Heap) (locs1 : List Loc), t.heap = H1 → s.vm.Alike t.vm → post r u → B u t → H.size ≤ H1.size → (∀ q : Nat, q < H.size → ¬ A1 q → H1[q]? = H[q]?) → va_S A0 H0 H1 locs1 → W p l e R s m args below meth c H1 locs1 (cells + mc) (slots + ms) Q (F0 m (pc + 3) ls (.float r :: rest))) : W p l e R s m args below meth c H locs cells slots Q (F0 m pc ls st0) := by
  intro T hT X
  rcases hr T hT X with ⟨v, st₀, t, T', L, h0, X', hL, e1, e2, ⟨⟨r, u, hv, hp, hb⟩, hF⟩, st⟩ | ⟨q, st₀, t, T', L, E, ce, h0, X', hL, e1, e2, ⟨u, hp, hb, hF⟩, hce, hcv, hcl, st⟩
  · cases hv
    obtain ⟨k1, k2, k3⟩ := vx_keep h0 e1 hS hA hf hL hF
    obtain ⟨t2, a1, b1⟩ := kk r u t T'.heap (locs ++ L) e1.symm (by rw [← e2]; exact X'.warmed.alike) hp hb k1 k2 k3 T' rfl X'
    exact ⟨t2, st t2 a1, b1⟩
  · obtain ⟨k1, k2, k3⟩ := vx_keep h0 e1 hS hAX hf hL hF
    obtain ⟨t2, a1, b1⟩ := kx E ce q u t T'.heap (locs ++ L) e1.symm (by rw [← e2]; exact X'.warmed.alike) hp hb k1 k2 k3 (by rw [e1]; exact hce) hcv hcl T' rfl X'
    exact ⟨t2, st.trans a1, b1⟩
theorem vx_calld {S SX : Type} {post : UInt64 → S → Prop} {px : SX → Prop} {B : S → State → Prop} {BX : String → SX → State → Prop} {AX : Nat → Prop} (hr : vx_Run p l e R s m args below meth c H locs cells slots mc ms (F0 m pc ls st0) rest (va_Qd post B A1 a) (vx_X px BX AX) free) (hS : va_S A0 H0 H locs) (hA : ∀ q, q < H.size → A1 q → A0 q) (hf : ∀ q, free q → A0 q) (hAX : ∀ q, q < H.size → AX q → A0 q)
    (kx : ∀ (E : String) (ce : Cell) (q9 : Addr) (u : SX) (t : State) (H1 : Heap) (locs1 : List Loc), t.heap = H1 → s.vm.Alike t.vm → px u → BX E u t → H.size ≤ H1.size → (∀ q : Nat, q < H.size → ¬ AX q → H1[q]? = H[q]?) → va_S A0 H0 H1 locs1 → H1[q9]? = some ce → ce.vm = .none → s.vm.findClass E = some ce.cls → vx_W p l e R s m args below meth c H1 locs1 (cells + mc) (slots + ms) Q (F0 m pc ls rest) q9)
    (kk : ∀ (r : UInt64) (u : S) (t : State) (H1 : Heap) (locs1 : List Loc), t.heap = H1 → s.vm.Alike t.vm → post r u → B u t → H.size ≤ H1.size → (∀ q : Nat, q < H.size → ¬ A1 q → H1[q]? = H[q]?) → va_S A0 H0 H1 locs1 → W p l e R s m args below meth c H1 locs1 (cells + mc) (slots + ms) Q (F0 m (pc + 3) ls (.double r :: rest))) : W p l e R s m args below meth c H locs cells slots Q (F0 m pc ls st0) := by
  intro T hT X
  rcases hr T hT X with ⟨v, st₀, t, T', L, h0, X', hL, e1, e2, ⟨⟨r, u, hv, hp, hb⟩, hF⟩, st⟩ | ⟨q, st₀, t, T', L, E, ce, h0, X', hL, e1, e2, ⟨u, hp, hb, hF⟩, hce, hcv, hcl, st⟩
  · cases hv
    obtain ⟨k1, k2, k3⟩ := vx_keep h0 e1 hS hA hf hL hF
    obtain ⟨t2, a1, b1⟩ := kk r u t T'.heap (locs ++ L) e1.symm (by rw [← e2]; exact X'.warmed.alike) hp hb k1 k2 k3 T' rfl X'
    exact ⟨t2, st t2 a1, b1⟩
  · obtain ⟨k1, k2, k3⟩ := vx_keep h0 e1 hS hAX hf hL hF
    obtain ⟨t2, a1, b1⟩ := kx E ce q u t T'.heap (locs ++ L) e1.symm (by rw [← e2]; exact X'.warmed.alike) hp hb k1 k2 k3 (by rw [e1]; exact hce) hcv hcl T' rfl X'
    exact ⟨t2, st.trans a1, b1⟩
theorem vx_callv {S SX : Type} {post : S → Prop} {px : SX → Prop} {B : S → State → Prop} {BX : String → SX → State → Prop} {AX : Nat → Prop} (hr : vx_Run p l e R s m args below meth c H locs cells slots mc ms (F0 m pc ls st0) rest (va_Qv post B A1 a) (vx_X px BX AX) free) (hS : va_S A0 H0 H locs) (hA : ∀ q, q < H.size → A1 q → A0 q) (hf : ∀ q, free q → A0 q) (hAX : ∀ q, q < H.size → AX q → A0 q)
    (kx : ∀ (E : String) (ce : Cell) (q9 : Addr) (u : SX) (t : State) (H1 : Heap) (locs1 : List Loc), t.heap = H1 → s.vm.Alike t.vm → px u → BX E u t → H.size ≤ H1.size → (∀ q : Nat, q < H.size → ¬ AX q → H1[q]? = H[q]?) → va_S A0 H0 H1 locs1 → H1[q9]? = some ce → ce.vm = .none → s.vm.findClass E = some ce.cls → vx_W p l e R s m args below meth c H1 locs1 (cells + mc) (slots + ms) Q (F0 m pc ls rest) q9)
    (kk : ∀ (u : S) (t : State) (H1 : Heap) (locs1 : List Loc), t.heap = H1 → s.vm.Alike t.vm → post u → B u t → H.size ≤ H1.size → (∀ q : Nat, q < H.size → ¬ A1 q → H1[q]? = H[q]?) → va_S A0 H0 H1 locs1 → W p l e R s m args below meth c H1 locs1 (cells + mc) (slots + ms) Q (F0 m (pc + 3) ls (rest))) : W p l e R s m args below meth c H locs cells slots Q (F0 m pc ls st0) := by
  intro T hT X
  rcases hr T hT X with ⟨v, st₀, t, T', L, h0, X', hL, e1, e2, ⟨⟨u, hv, hp, hb⟩, hF⟩, st⟩ | ⟨q, st₀, t, T', L, E, ce, h0, X', hL, e1, e2, ⟨u, hp, hb, hF⟩, hce, hcv, hcl, st⟩
  · cases hv
    obtain ⟨k1, k2, k3⟩ := vx_keep h0 e1 hS hA hf hL hF
    obtain ⟨t2, a1, b1⟩ := kk u t T'.heap (locs ++ L) e1.symm (by rw [← e2]; exact X'.warmed.alike) hp hb k1 k2 k3 T' rfl X'
    exact ⟨t2, st t2 a1, b1⟩
  · obtain ⟨k1, k2, k3⟩ := vx_keep h0 e1 hS hAX hf hL hF
    obtain ⟨t2, a1, b1⟩ := kx E ce q u t T'.heap (locs ++ L) e1.symm (by rw [← e2]; exact X'.warmed.alike) hp hb k1 k2 k3 (by rw [e1]; exact hce) hcv hcl T' rfl X'
    exact ⟨t2, st.trans a1, b1⟩
/-- caught by the row x of this method's table; the rows ahead don't take it -/
theorem vx_catch {own name : String} {E : String} {ce : Cell} {q : Addr} (hown : s.vm.findClass own = some m.cls) (pre : List ExceptionTableEntry) (x : ExceptionTableEntry) (suf : List ExceptionTableEntry) (hsplit : c.exceptionTable.toList = pre ++ x :: suf)
    (hpass : ∀ z ∈ pre, covers z pc = false ∨ (z.catchType ≠ 0 ∧ ∃ nm : String, (Cond.classLink own z.catchType nm).before args s = true ∧ va_Nc E nm s)) (hx : covers x pc = true) (h0 : x.catchType ≠ 0)
    (hlink : (Cond.classLink own x.catchType name).before args s = true) (hcast : (Cond.castable E name).before args s = true) (hcell : H[q]? = some ce) (hv : ce.vm = .none) (hcl : s.vm.findClass E = some ce.cls)
    (kk : W p l e R s m args below meth c H locs cells slots Q (F0 m x.handlerPc ls [.ref q])) : vx_W p l e R s m args below meth c H locs cells slots Q (F0 m pc ls rest) q := by
  intro T hT X
  have hpl : e.platform.magicAccessors = ({} : Platform).magicAccessors := by rw [X.admits.platform]
  obtain ⟨c3, c4, hc3, hc4, hasg⟩ := Cond.castable_spec hcast
  cases Option.some.inj (hc3.symm.trans hcl)
  obtain ⟨c5, hc5, hcl5⟩ := Cond.classLink_spec hown hlink e.platform hpl
  cases Option.some.inj (hc4.symm.trans hc5)
  obtain ⟨vm', X', st⟩ := Jvm.Stand.thenCaughtThrough X q (g := F0 m pc ls rest) rfl (Steps.refl _) (by rw [hT]; exact hcell) (by rw [hv]; rfl) (by obtain ⟨k9, h9, -⟩ := Vm.findClass_spec hcl; exact ⟨k9, h9⟩) pre x suf hsplit
    (fun z hz => by
      rcases hpass z hz with h | ⟨hz0, nm, hl1, hn1⟩
      · exact Or.inl h
      · obtain ⟨c6, hc6, hcl6⟩ := Cond.classLink_spec hown hl1 e.platform hpl
        obtain ⟨a8, b8, h1, h2, h3⟩ := hn1
        cases Option.some.inj (h1.symm.trans hcl)
        cases Option.some.inj (h2.symm.trans hc6)
        exact Or.inr ⟨hz0, _, hcl6, h3⟩) hx (Or.inr ⟨h0, c4, hcl5, hasg⟩)
  obtain ⟨t, a1, b1⟩ := kk (T.setVm vm') hT X'
  exact ⟨t, st.trans a1, b1⟩
end Rows
section Ends
variable {p : Program} {l : Launch} {e : Env} {R : Room} {s : State} {m : MethodId} {args : Array Value} {below : List Frame} {meth : Method} {c : Code} {H : Heap} {locs : List Loc} {cells slots : Nat} {Q : State → Prop}
variable {mc ms : Nat} {free : Addr → Prop} {A0 A1 : Nat → Prop} {H0 : Heap} {a : Array Value} {ls : Array Slot} {st0 rest : List Value}
variable {Qc : Array Value → State → Outcome → State → Prop} {XC : String → State → State → Prop}
/-- what a body that may throw owes at its end -/
def vx_MQ (below : List Frame) (Qc : Array Value → State → Outcome → State → Prop) (XC : String → State → State → Prop) (a : Array Value) (s : State) (mc ms : Nat) (free : Addr → Prop) : State → Prop := fun t =>
  ∃ o, t.status = .running ∧ Ended t below o ∧ vx_Q Qc XC mc ms free a s o t
theorem vx_ret {g : JFrame} {mc ms : Nat} (k : W p l e R s m args below meth c H locs cells slots (MQ below Qc args s mc ms free) g) : W p l e R s m args below meth c H locs cells slots (vx_MQ below Qc XC args s mc ms free) g := by
  intro T hT X
  obtain ⟨t, a1, o, b1, b2, b3, b4⟩ := k T hT X
  exact ⟨t, a1, o, b1, b2, Or.inl ⟨b3, b4⟩⟩
/-- not caught here: it goes on to the caller -/
theorem vx_widen {g : JFrame} {q : Addr} {k n : Nat} (h1 : cells ≤ k) (h2 : slots ≤ n) (kk : vx_W p l e R s m args below meth c H locs k n Q g q) : vx_W p l e R s m args below meth c H locs cells slots Q g q := fun T hT X => kk T hT (stand_widen X h1 h2)
theorem vx_out {pc : Nat} {E : String} {ce : Cell} {q : Addr} {mc ms : Nat} (hout : ∀ x ∈ c.exceptionTable.toList, covers x pc = false) (hlocks : meth.locks = false) (hcell : H[q]? = some ce) (hv : ce.vm = .none) (hcl : s.vm.findClass E = some ce.cls)
    (hx : ∀ t : State, t.heap = H → s.vm.Alike t.vm → XC E s t) (hf : ∀ z ∈ locs, free z.base) (hc : cells ≤ mc) (hs : slots ≤ ms) :
    vx_W p l e R s m args below meth c H locs cells slots (vx_MQ below Qc XC args s mc ms free) (F0 m pc ls rest) q := by
  intro T hT X
  obtain ⟨st1, hrun, hend, hW, hsm⟩ := X.leaveThrown q (g := F0 m pc ls rest) rfl rfl rfl hout hlocks
  have hcell9 : (T.setFrames (.throwing q :: below)).heap[q]? = some ce := by
    show T.heap[q]? = some ce
    rw [hT]; exact hcell
  exact ⟨_, st1, .threw q, hrun, hend, Or.inr ⟨q, rfl, E, ce, locs, hx _ hT hW.alike, hcell9, hv, hcl, hW, hsm.mono hc hs, hf⟩⟩
theorem vx_frame {U : State} {k n : Nat} (h : s.sameButNew ({ U with vm := s.vm } : State) locs k n) : s.heap.size ≤ U.heap.size ∧ ∀ q : Nat, q < s.heap.size → (∀ z ∈ locs, z.base ≠ q) → U.heap[q]? = s.heap[q]? := by
  obtain ⟨-, h2, -, -, -, h6⟩ := h
  refine ⟨h2, fun q hq hz => ?_⟩
  obtain ⟨c9, e1, e2, e3, e4⟩ := h6 q _ (Array.getElem?_eq_getElem hq)
  have hs : c9.slots = (s.heap[q]).slots := Array.ext_getElem? fun i => e4 i fun hm => hz _ hm rfl
  have h9 : c9 = s.heap[q] := by
    rw [hs] at e2
    exact e2
  have e5 : U.heap[q]? = some c9 := e1
  rw [e5, h9, Array.getElem?_eq_getElem hq]
/-- the words of a throw but the four that speak of the heap -/
def vx_no (w : Cond) : Bool := decide (w ≠ .isRef (.static Bundle.tN "UNASSIGNED_STACK" Bundle.steD)) && decide (w ≠ .isRef (.static Bundle.tN "SUPPRESSED_SENTINEL" Bundle.listD)) && decide (w ≠ .laysStatic Bundle.tN "UNASSIGNED_STACK" Bundle.steD) && decide (w ≠ .laysStatic Bundle.tN "SUPPRESSED_SENTINEL" Bundle.listD)
def vx_at0 (own : String) (ic : Nat) (X : String) (names : List String) : List Cond := (Bundle.ownAtoms0 own ic X names).filter vx_no
def vx_atS (own : String) (ic : Nat) (X : String) (names : List String) : List Cond := (Bundle.ownAtoms own ic X names).filter vx_no
/-- a word that the tables alone decide, or a good one -/
def vx_ot (w : Cond) : Bool := w.onTables || goodWord w
theorem vx_ot_at {args a' : Array Value} {s U : State} {w : Cond} (hW : s.WarmedH U.vm) (hvm : s.vm = U.vm) (hg : vx_ot w = true) (h : w.before args s = true) : w.before a' U = true := by
  simp only [vx_ot, Bool.or_eq_true] at hg
  rcases hg with hg | hg
  · exact va_tabs hg hvm h
  · exact word_at hW (good_of_word hg) h
/-- a list's words: the good ones out of the method's own list, the others by premises of their own -/
theorem vx_hat {args : Array Value} {s : State} {L B : List Cond} (h1 : ∀ w ∈ L.filter goodWord, w.before args s = true) (h2 : ∀ w ∈ L.filter (fun w => !goodWord w), w ∈ B) (h3 : ∀ w ∈ B, w.before args s = true) : ∀ w ∈ L, w.before args s = true := by
  intro w hw
  by_cases g : goodWord w = true
  · exact h1 w (List.mem_filter.mpr ⟨hw, g⟩)
  · refine h3 w (h2 w (List.mem_filter.mpr ⟨hw, ?_⟩))
    show (!goodWord w) = true
    cases hgw : goodWord w
    · rfl
    · exact absurd hgw g
theorem vx_c {args : Array Value} {s : State} {w : Cond} {B : List Cond} (h : w.before args s = true) (t : ∀ w ∈ B, w.before args s = true) : ∀ w' ∈ w :: B, w'.before args s = true := fun w' h' => (List.mem_cons.mp h').elim (fun e => by rw [e]; exact h) (t w')
theorem vx_n {args : Array Value} {s : State} : ∀ w ∈ ([] : List Cond), w.before args s = true := fun _ h => nomatch h
theorem vx_own {args : Array Value} {s : State} {L : List Cond} (h1 : ∀ w ∈ L.filter vx_no, w.before args s = true)
    (hU : (Cond.isRef (.static Bundle.tN "UNASSIGNED_STACK" Bundle.steD)).before args s = true) (hN : (Cond.isRef (.static Bundle.tN "SUPPRESSED_SENTINEL" Bundle.listD)).before args s = true)
    (lU : (Cond.laysStatic Bundle.tN "UNASSIGNED_STACK" Bundle.steD).before args s = true) (lN : (Cond.laysStatic Bundle.tN "SUPPRESSED_SENTINEL" Bundle.listD).before args s = true) : ∀ w ∈ L, w.before args s = true := by
  intro w hw
  by_cases e1 : w = .isRef (.static Bundle.tN "UNASSIGNED_STACK" Bundle.steD)
  · rw [e1]; exact hU
  · by_cases e2 : w = .isRef (.static Bundle.tN "SUPPRESSED_SENTINEL" Bundle.listD)
    · rw [e2]; exact hN
    · by_cases e3 : w = .laysStatic Bundle.tN "UNASSIGNED_STACK" Bundle.steD
      · rw [e3]; exact lU
      · by_cases e4 : w = .laysStatic Bundle.tN "SUPPRESSED_SENTINEL" Bundle.listD
        · rw [e4]; exact lN
        · exact h1 w (List.mem_filter.mpr ⟨hw, by unfold vx_no; rw [decide_eq_true e1, decide_eq_true e2, decide_eq_true e3, decide_eq_true e4]; rfl⟩)
/-- where a static field lies, its class's statics cell in H -/
def vx_L (C n d : String) (A : Nat → Prop) (U : State) (H : Heap) : Prop := ∃ (c : ClassId) (k : Class) (i : Nat) (f : Field) (a : Nat) (cell : Cell), U.vm.findClass C = some c ∧ U.fieldFound? C n d = some (c, k, i, f) ∧ f.isStatic = true ∧ k.statics = some a ∧ H[a]? = some cell ∧ cell.vm.isStatics = true ∧ cell.cls = c ∧ f.slot < cell.slots.size ∧ k.staticTypes[f.slot]? = some f.type ∧ ¬ A a
theorem vx_L.moved {C n d : String} {A : Nat → Prop} {u U : State} {H : Heap} (hvm : u.vm.Alike U.vm) (h : vx_L C n d A u H) : vx_L C n d A U H := by
  obtain ⟨c, k, i, f, a, cell, h1, h2, h3, h4, h5, h6, h7, h8, h9, h10⟩ := h
  obtain ⟨k', hi', he⟩ := State.fieldFound?_setVm hvm h2
  exact ⟨c, k', i, f, a, cell, by rw [hvm.findClass]; exact h1, hi', h3, by rw [he]; exact h4, h5, h6, h7, h8, by rw [he]; exact h9, h10⟩
theorem vx_L.kept {C n d : String} {A : Nat → Prop} {U : State} {H H1 : Heap} (h : vx_L C n d A U H) (hq : ∀ a : Nat, a < H.size → ¬ A a → H1[a]? = H[a]?) : vx_L C n d A U H1 := by
  obtain ⟨c, k, i, f, a, cell, h1, h2, h3, h4, h5, h6, h7, h8, h9, h10⟩ := h
  exact ⟨c, k, i, f, a, cell, h1, h2, h3, h4, by rw [hq a (Array.getElem?_eq_some_iff.mp h5).1 h10]; exact h5, h6, h7, h8, h9, h10⟩
theorem vx_L.narrow {C n d : String} {A B : Nat → Prop} {U : State} {H : Heap} (h : vx_L C n d A U H) (hAB : ∀ q, B q → A q) : vx_L C n d B U H := by
  obtain ⟨c, k, i, f, a, cell, h1, h2, h3, h4, h5, h6, h7, h8, h9, h10⟩ := h
  exact ⟨c, k, i, f, a, cell, h1, h2, h3, h4, h5, h6, h7, h8, h9, fun z => h10 (hAB _ z)⟩
theorem vx_L.word {C n d : String} {A : Nat → Prop} {s : State} {args : Array Value} (h : vx_L C n d A s s.heap) : (Cond.laysStatic C n d).before args s = true := by
  obtain ⟨c, k, i, f, a, cell, h1, h2, h3, h4, h5, h6, h7, h8, h9, -⟩ := h
  show (Cond.laysStatic C n d).holds args s none s [] = true
  exact Cond.laysStatic_of h1 h2 h3 h4 h5 h6 h7 h8 h9
/-- .. and what it holds: null or some reference -/
def vx_Zq (C n d : String) (A : Nat → Prop) (U : State) (H : Heap) : Prop := va_Zq C n d A U H ∧ vx_L C n d A U H
theorem vx_Zq.moved {C n d : String} {A : Nat → Prop} {u U : State} {H : Heap} (hvm : u.vm.Alike U.vm) (h : vx_Zq C n d A u H) : vx_Zq C n d A U H := ⟨va_Zq.moved hvm h.1, vx_L.moved hvm h.2⟩
theorem vx_Zq.kept {C n d : String} {A : Nat → Prop} {U : State} {H H1 : Heap} (h : vx_Zq C n d A U H) (hq : ∀ a : Nat, a < H.size → ¬ A a → H1[a]? = H[a]?) : vx_Zq C n d A U H1 := ⟨va_Zq.kept h.1 hq, vx_L.kept h.2 hq⟩
theorem vx_Zq.narrow {C n d : String} {A B : Nat → Prop} {U : State} {H : Heap} (h : vx_Zq C n d A U H) (hAB : ∀ q, B q → A q) : vx_Zq C n d B U H := ⟨va_Zq.narrow h.1 hAB, vx_L.narrow h.2 hAB⟩
theorem vx_Zqof {args : Array Value} {s : State} {C n d : String} {A : Nat → Prop} (hl : (Cond.laysStatic C n d).before args s = true) (hini : (Cond.initialized C).before args s = true) (h : (Cond.isRef (.static C n d)).before args s = true) (hA : ∀ a : Nat, a < s.heap.size → ¬ A a) : vx_Zq C n d A s s.heap := by
  refine ⟨va_Zqof hl hini h hA, ?_⟩
  obtain ⟨c, k, i, f, a, cell, h1, h2, h3, h4, h5, h6, h7, h8, h9⟩ := Cond.laysStatic_spec hl
  exact ⟨c, k, i, f, a, cell, h1, h2, h3, h4, h5, h6, h7, h8, h9, hA a (Array.getElem?_eq_some_iff.mp h5).1⟩
theorem vx_isRef {C n d : String} {v : Value} {A : Nat → Prop} {s : State} {args : Array Value} (h : va_Z C n d v A s s.heap) (hv : v.isRef = true) : (Cond.isRef (.static C n d)).before args s = true := by
  obtain ⟨cf, kf, fi, f, a, cell, h1, h2, h3, h4, h5, h6, h7, -⟩ := h
  have he : (Term.static C n d).eval args s none [] s = some v := by
    simp [Term.eval, State.fieldNamed?, h1, h2, h4, h5, h6, h7]
  simp only [Cond.before, Cond.holds, Cond.value, he]
  cases v <;> simp_all [Value.isRef]
theorem vx_isRefq {C n d : String} {A : Nat → Prop} {s : State} {args : Array Value} (h : va_Zq C n d A s s.heap) : (Cond.isRef (.static C n d)).before args s = true := by
  rcases h with h | ⟨t, h⟩
  · exact vx_isRef h rfl
  · exact vx_isRef h rfl
/-- the same frame, seen from here: as if the method were called anew in this heap -/
theorem vx_rebase {T : State} (X : Stand p l e R s m args below meth c T locs cells slots) {R' : Room} (hf : R'.frames ≤ R.frames) (hl : R'.locals ≤ R.locals) (hc : cells + R'.cells ≤ R.cells) (hs : slots + R'.slots ≤ R.slots) :
    Stand p l e R' ((T.setVm s.vm).setFrames (.invoking m args :: below)) m args below meth c T [] 0 0 := by
  have htop : (T.setVm s.vm).topJava?.isSome := X.here.top
  have hF : ((T.setVm s.vm).setFrames (.invoking m args :: below)).frames = .invoking m args :: below := State.frames_setFrames _ (State.cur_lt_of_top htop)
  obtain ⟨g₀, hg0⟩ := Option.isSome_iff_exists.mp htop
  obtain ⟨r, hr⟩ := State.topJava?_eq_some.mp hg0
  have hl9 : e.platform.stackLimits (T.setVm s.vm).me = e.platform.stackLimits s.me := X.limits
  have hb9 : (T.setVm s.vm).me.stackBytes = s.me.stackBytes := X.bytes
  refine ⟨X.admits, X.cas, X.clock, hF, ?_, X.hears, X.method, X.code, X.here, X.tail, X.warmed, ?_, ?_, ?_⟩
  · have h := X.room
    have hU : ((T.setVm s.vm).setFrames (.invoking m args :: below)).localsInUse = s.localsInUse := by
      rw [State.localsInUse_invoking hF (meth := meth) (c := c) X.method X.code, State.localsInUse_invoking X.frames X.method X.code]
    simp only [State.hasRoom, Bool.and_eq_true, decide_eq_true_eq] at h ⊢
    obtain ⟨⟨⟨⟨h1, h2, h3, h4, h5, h6⟩, h7⟩, h8⟩, h9⟩ := h
    rw [X.frames, List.length_cons] at h2 h3
    have q1 := X.heapSize
    have q2 := X.used
    simp only [hF, hU, List.length_cons, State.stackLimits_setFrames, State.stackBytes_setFrames, hl9, hb9]
    refine ⟨⟨⟨⟨by omega, by omega, by omega, by omega, by omega, h6⟩, ?_⟩, ?_⟩, X.book⟩
    · show T.heap.size + R'.cells ≤ e.platform.maxCells
      omega
    · show T.slotsUsed + R'.slots ≤ e.platform.maxSlots
      omega
  · rw [State.stackLimits_setFrames]; rfl
  · rw [State.stackBytes_setFrames]; rfl
  · refine ⟨?_, Nat.le_refl _, Nat.le_refl _, ?_, ?_, fun a c9 h9 => ⟨c9, h9, rfl, rfl, fun _ _ => rfl⟩⟩
    · obtain ⟨t, ht, -⟩ := State.frames_cons hr
      show T.setVm s.vm = { ((T.setVm s.vm).setFrames (.invoking m args :: below)).setFrames (T.setVm s.vm).frames with heap := T.heap, slotsUsed := T.slotsUsed }
      rw [State.setFrames_setFrames, State.setFrames_self ht]
      rfl
    · show T.slotsUsed = T.slotsUsed + ((T.heap.toList.drop T.heap.size).map (·.slots.size)).sum
      rw [List.drop_eq_nil_of_le (Nat.le_of_eq Array.length_toList)]
      rfl
    · show ((T.heap.toList.drop T.heap.size).map (·.slots.size)).sum ≤ 0
      rw [List.drop_eq_nil_of_le (Nat.le_of_eq Array.length_toList)]
      exact Nat.le_refl _
/-- 'throw new E()': new; dup; invokespecial; athrow -/
theorem vx_throw0 {cc : ByteArray} {pc : Nat} (hexec : p.tables.exec = Jvm.exec) (hb : c.code = cc) (hl : l.stackTraces = false) {own cls : String} {names : List String} {ik ic mc ms : Nat} {A : Nat → Prop}
    (hown : s.vm.findClass own = some m.cls) (hcls : Bundle.fit cls = true) (hnames : ∀ n ∈ names, Bundle.fit n = true)
    (hk : (Cond.classLink own ik cls).before args s = true) (hini : (Cond.initialized cls).before args s = true) (hat : ∀ w ∈ vx_at0 own ic cls names, w.before args s = true)
    (hgood : ∀ w ∈ Cond.classLink own ik cls :: Cond.initialized cls :: vx_at0 own ic cls names, vx_ot w = true)
    (hU : vx_Zq Bundle.tN "UNASSIGNED_STACK" Bundle.steD A s s.heap) (hN : vx_Zq Bundle.tN "SUPPRESSED_SENTINEL" Bundle.listD A s s.heap) (hS : va_S A s.heap H locs) (hsize : ls.size = c.maxLocals)
    (d0 : decode cc pc = .ok (.new ik, 3)) (d3 : decode cc (pc + 3) = .ok (.dup, 1)) (d4 : decode cc (pc + 4) = .ok (.invokespecial ic, 3)) (d7 : decode cc (pc + 7) = .ok (.athrow, 1))
    (hout : ∀ x ∈ c.exceptionTable.toList, covers x (pc + 7) = false)
    (hRframes : names.length + 3 < R.frames) (hRlocals : (rest.map fun v => v.category).sum + (13 * (names.length + 1) + 42) ≤ R.locals) (hRcells : cells + 1 ≤ R.cells) (hRslots : slots + 6 ≤ R.slots) (hlocks : meth.locks = false)
    (hx : ∀ t : State, s.vm.Alike t.vm → H.size ≤ t.heap.size → (∀ q : Nat, q < H.size → t.heap[q]? = H[q]?) → XC cls s t)
    (hf : ∀ z ∈ locs, free z.base) (hc : cells + 1 ≤ mc) (hs : slots + 6 ≤ ms) :
    W p l e R s m args below meth c H locs cells slots (vx_MQ below Qc XC args s mc ms free) (F0 m pc ls rest) := by
  intro T hT X
  have htr : e.platform.stackTraces = false := (show e.platform.stackTraces = l.stackTraces by rw [X.admits.platform]).trans hl
  have Y := vx_rebase X (R' := { frames := R.frames, locals := R.locals, cells := 1, slots := 6 }) (Nat.le_refl _) (Nat.le_refl _) hRcells hRslots
  obtain ⟨s', hA⟩ : ∃ z, z = (T.setVm s.vm).setFrames (.invoking m args :: below) := ⟨_, rfl⟩
  rw [← hA] at Y
  have hvm : s'.vm = s.vm := by rw [hA]; rfl
  have hhp : s'.heap = H := by rw [hA]; exact hT
  have hW0 : s.WarmedH s'.vm := by rw [hvm]; exact State.WarmedH.refl s
  have hat' : ∀ w ∈ vx_at0 own ic cls names, w.before args s' = true := fun w hw => vx_ot_at hW0 hvm.symm (hgood w (List.mem_cons_of_mem _ (List.mem_cons_of_mem _ hw))) (hat w hw)
  have hk' : (Cond.classLink own ik cls).before args s' = true := vx_ot_at hW0 hvm.symm (hgood _ List.mem_cons_self) hk
  have hini' : (Cond.initialized cls).before args s' = true := vx_ot_at hW0 hvm.symm (hgood _ (List.mem_cons_of_mem _ List.mem_cons_self)) hini
  have hU' : vx_Zq Bundle.tN "UNASSIGNED_STACK" Bundle.steD A s' s'.heap := by rw [hhp]; exact vx_Zq.moved hW0.alike (hU.kept hS.2.1)
  have hN' : vx_Zq Bundle.tN "SUPPRESSED_SENTINEL" Bundle.listD A s' s'.heap := by rw [hhp]; exact vx_Zq.moved hW0.alike (hN.kept hS.2.1)
  have h : ∀ w ∈ Bundle.ownAtoms0 own ic cls names, w.before args s' = true := vx_own hat' (vx_isRefq hU'.1) (vx_isRefq hN'.1) hU'.2.word hN'.2.word
  have hown' : s'.vm.findClass own = some m.cls := by rw [hvm]; exact hown
  have hins : (Cond.instantiable cls 6).before args s' = true := h _ (by simp [Bundle.ownAtoms0])
  obtain ⟨vm₁, cX, kX, hfX, hkX, -, -, X₁, st1⟩ := Y.newCold hexec (own := own) (C := cls) (index := ik) (n := 6) hown' hk' hins hini'
    (g := F0 m pc ls rest) rfl (by rw [hb]; exact d0) (Nat.le_refl _) (Nat.le_refl _)
  generalize hT1 : (T.setVm vm₁).pushCell { cls := cX, slots := kX.instanceTypes.map defaultValue, vm := .none } = T1 at X₁ st1
  have hcat : (Value.ref T.heap.size).category = 1 := rfl
  have hcellA : T1.heap[T.heap.size]? = some (freshCell cX kX) := by rw [← hT1]; exact State.heap_pushCell_size _ _
  have d3' : decode c.code (pc + 3) = .ok (.dup, 1) := by rw [hb]; exact d3
  obtain ⟨U, hsteps, hrun, hend, hW, hsame, ce, hce, hO⟩ := X₁.ctorThrow0 hexec htr (own := own) (cls := cls) (names := names) (ic := ic) hown' hcls hnames h (fun x hx => nomatch hx) hfX hkX hcellA (by rw [hhp, hT]; exact Nat.le_refl _)
    (g := { method := m, pc := pc + 4, locals := ls, stack := .ref T.heap.size :: .ref T.heap.size :: rest, locked := none }) rfl hsize rfl rfl (rest := rest) rfl
    (by rw [hb]; exact d4) (by rw [hb]; exact d7) hout hRframes (by simp only [List.map_cons, List.sum_cons, hcat]; omega) hlocks
  obtain ⟨f1, f2⟩ := vx_frame hsame
  rw [hhp] at f1 f2
  have hWs : s.WarmedH U.vm := State.WarmedH.trans hW0 hW
  have hcl : s.vm.findClass cls = some ce.cls := by
    have h9 := hO.cls
    rw [hvm] at h9
    exact h9
  have hall : s.sameButNew ({ U with vm := s.vm } : State) locs mc ms := by
    subst hA
    obtain ⟨e1, e2⟩ := hsame
    rw [State.setFrames_setFrames] at e1
    have h2 : (T.setVm s.vm).sameButNew ({ U with vm := s.vm } : State) [] (0 + 1) (0 + 6) := ⟨e1, e2⟩
    have h3 := X.same.trans h2
    rw [List.append_nil] at h3
    exact h3.mono hc hs
  refine ⟨U, ?_, .threw T.heap.size, hrun, hend, Or.inr ⟨T.heap.size, rfl, cls, ce, locs, hx U hWs.alike f1 (fun q hq => f2 q hq (fun z hz => nomatch hz)), hce, hO.vm, hcl, hWs, hall, hf⟩⟩
  refine st1 _ ?_
  show Steps p.tables e below (T1.setTop { method := m, pc := pc + 3, locals := ls, stack := .ref T.heap.size :: rest, locked := none }) _
  jvm_step X₁.here [X₁.here.top, hexec, d3', Value.category]
  exact hsteps
/-- 'throw new E("text")': new; dup; ldc; invokespecial; athrow -/
theorem vx_throwS {cc : ByteArray} {pc : Nat} (hexec : p.tables.exec = Jvm.exec) (hb : c.code = cc) (hl : l.stackTraces = false) {own cls text : String} {names : List String} {ik is ic mc ms sa : Nat} {A : Nat → Prop}
    (hown : s.vm.findClass own = some m.cls) (hcls : Bundle.fit cls = true) (hnames : ∀ n ∈ names, Bundle.fit n = true)
    (hk : (Cond.classLink own ik cls).before args s = true) (hini : (Cond.initialized cls).before args s = true) (hstr : vk_R own is text sa s) (hat : ∀ w ∈ vx_atS own ic cls names, w.before args s = true)
    (hgood : ∀ w ∈ Cond.classLink own ik cls :: Cond.initialized cls :: vx_atS own ic cls names, vx_ot w = true)
    (hU : vx_Zq Bundle.tN "UNASSIGNED_STACK" Bundle.steD A s s.heap) (hN : vx_Zq Bundle.tN "SUPPRESSED_SENTINEL" Bundle.listD A s s.heap) (hS : va_S A s.heap H locs) (hsize : ls.size = c.maxLocals)
    (d0 : decode cc pc = .ok (.new ik, 3)) (d3 : decode cc (pc + 3) = .ok (.dup, 1)) (d4 : decode cc (pc + 4) = .ok (.ldc is, 2)) (d6 : decode cc (pc + 6) = .ok (.invokespecial ic, 3)) (d9 : decode cc (pc + 9) = .ok (.athrow, 1))
    (hout : ∀ x ∈ c.exceptionTable.toList, covers x (pc + 9) = false)
    (hRframes : names.length + 3 < R.frames) (hRlocals : (rest.map fun v => v.category).sum + (13 * (names.length + 1) + 43) ≤ R.locals) (hRcells : cells + 1 ≤ R.cells) (hRslots : slots + 6 ≤ R.slots) (hlocks : meth.locks = false)
    (hx : ∀ t : State, s.vm.Alike t.vm → H.size ≤ t.heap.size → (∀ q : Nat, q < H.size → t.heap[q]? = H[q]?) → XC cls s t)
    (hf : ∀ z ∈ locs, free z.base) (hc : cells + 1 ≤ mc) (hs : slots + 6 ≤ ms) :
    W p l e R s m args below meth c H locs cells slots (vx_MQ below Qc XC args s mc ms free) (F0 m pc ls rest) := by
  intro T hT X
  have htr : e.platform.stackTraces = false := (show e.platform.stackTraces = l.stackTraces by rw [X.admits.platform]).trans hl
  have Y := vx_rebase X (R' := { frames := R.frames, locals := R.locals, cells := 1, slots := 6 }) (Nat.le_refl _) (Nat.le_refl _) hRcells hRslots
  obtain ⟨s', hA⟩ : ∃ z, z = (T.setVm s.vm).setFrames (.invoking m args :: below) := ⟨_, rfl⟩
  rw [← hA] at Y
  have hvm : s'.vm = s.vm := by rw [hA]; rfl
  have hhp : s'.heap = H := by rw [hA]; exact hT
  have hW0 : s.WarmedH s'.vm := by rw [hvm]; exact State.WarmedH.refl s
  have hat' : ∀ w ∈ vx_atS own ic cls names, w.before args s' = true := fun w hw => vx_ot_at hW0 hvm.symm (hgood w (List.mem_cons_of_mem _ (List.mem_cons_of_mem _ hw))) (hat w hw)
  have hk' : (Cond.classLink own ik cls).before args s' = true := vx_ot_at hW0 hvm.symm (hgood _ List.mem_cons_self) hk
  have hini' : (Cond.initialized cls).before args s' = true := vx_ot_at hW0 hvm.symm (hgood _ (List.mem_cons_of_mem _ List.mem_cons_self)) hini
  have hU' : vx_Zq Bundle.tN "UNASSIGNED_STACK" Bundle.steD A s' s'.heap := by rw [hhp]; exact vx_Zq.moved hW0.alike (hU.kept hS.2.1)
  have hN' : vx_Zq Bundle.tN "SUPPRESSED_SENTINEL" Bundle.listD A s' s'.heap := by rw [hhp]; exact vx_Zq.moved hW0.alike (hN.kept hS.2.1)
  have h : ∀ w ∈ Bundle.ownAtoms own ic cls names, w.before args s' = true := vx_own hat' (vx_isRefq hU'.1) (vx_isRefq hN'.1) hU'.2.word hN'.2.word
  have hown' : s'.vm.findClass own = some m.cls := by rw [hvm]; exact hown
  have hins : (Cond.instantiable cls 6).before args s' = true := h _ (by simp [Bundle.ownAtoms])
  obtain ⟨vm₁, cX, kX, hfX, hkX, -, -, X₁, st1⟩ := Y.newCold hexec (own := own) (C := cls) (index := ik) (n := 6) hown' hk' hins hini'
    (g := F0 m pc ls rest) rfl (by rw [hb]; exact d0) (Nat.le_refl _) (Nat.le_refl _)
  generalize hT1 : (T.setVm vm₁).pushCell { cls := cX, slots := kX.instanceTypes.map defaultValue, vm := .none } = T1 at X₁ st1
  have hcat : (Value.ref T.heap.size).category = 1 := rfl
  have hcellA : T1.heap[T.heap.size]? = some (freshCell cX kX) := by rw [← hT1]; exact State.heap_pushCell_size _ _
  have d3' : decode c.code (pc + 3) = .ok (.dup, 1) := by rw [hb]; exact d3
  have d4' : decode c.code (pc + 4) = .ok (.ldc is, 2) := by rw [hb]; exact d4
  have hstr' : vk_R own is text sa s' := vk_R.warm hW0 hstr
  obtain ⟨U, hsteps, hrun, hend, hW, hsame, ce, hce, hO⟩ := X₁.ctorThrowS hexec htr (own := own) (cls := cls) (names := names) (ic := ic) hown' hcls hnames h (fun x hx => nomatch hx) hfX hkX hcellA (by rw [hhp, hT]; exact Nat.le_refl _) (msg := .ref sa) rfl
    (g := { method := m, pc := pc + 6, locals := ls, stack := .ref sa :: .ref T.heap.size :: .ref T.heap.size :: rest, locked := none }) rfl hsize rfl rfl (rest := rest) rfl
    (by rw [hb]; exact d6) (by rw [hb]; exact d9) hout hRframes (by simp only [List.map_cons, List.sum_cons, hcat]; omega) hlocks
  obtain ⟨f1, f2⟩ := vx_frame hsame
  rw [hhp] at f1 f2
  have hWs : s.WarmedH U.vm := State.WarmedH.trans hW0 hW
  have hcl : s.vm.findClass cls = some ce.cls := by
    have h9 := hO.cls
    rw [hvm] at h9
    exact h9
  have hall : s.sameButNew ({ U with vm := s.vm } : State) locs mc ms := by
    subst hA
    obtain ⟨e1, e2⟩ := hsame
    rw [State.setFrames_setFrames] at e1
    have h2 : (T.setVm s.vm).sameButNew ({ U with vm := s.vm } : State) [] (0 + 1) (0 + 6) := ⟨e1, e2⟩
    have h3 := X.same.trans h2
    rw [List.append_nil] at h3
    exact h3.mono hc hs
  refine ⟨U, ?_, .threw T.heap.size, hrun, hend, Or.inr ⟨T.heap.size, rfl, cls, ce, locs, hx U hWs.alike f1 (fun q hq => f2 q hq (fun z hz => nomatch hz)), hce, hO.vm, hcl, hWs, hall, hf⟩⟩
  refine st1 _ ?_
  show Steps p.tables e below (T1.setTop { method := m, pc := pc + 3, locals := ls, stack := .ref T.heap.size :: rest, locked := none }) _
  jvm_step X₁.here [X₁.here.top, hexec, d3', Value.category]
  exact X₁.ldcString hexec (own := own) (text := text) (index := is) (a := sa) hown' hstr'.1 hstr'.2
    (g := { method := m, pc := pc + 4, locals := ls, stack := .ref T.heap.size :: .ref T.heap.size :: rest, locked := none }) rfl d4' _ hsteps
/-- 'throw new E("text")', the text by a wide index -/
theorem vx_throwSW {cc : ByteArray} {pc : Nat} (hexec : p.tables.exec = Jvm.exec) (hb : c.code = cc) (hl : l.stackTraces = false) {own cls text : String} {names : List String} {ik is ic mc ms sa : Nat} {A : Nat → Prop}
    (hown : s.vm.findClass own = some m.cls) (hcls : Bundle.fit cls = true) (hnames : ∀ n ∈ names, Bundle.fit n = true)
    (hk : (Cond.classLink own ik cls).before args s = true) (hini : (Cond.initialized cls).before args s = true) (hstr : vk_R own is text sa s) (hat : ∀ w ∈ vx_atS own ic cls names, w.before args s = true)
    (hgood : ∀ w ∈ Cond.classLink own ik cls :: Cond.initialized cls :: vx_atS own ic cls names, vx_ot w = true)
    (hU : vx_Zq Bundle.tN "UNASSIGNED_STACK" Bundle.steD A s s.heap) (hN : vx_Zq Bundle.tN "SUPPRESSED_SENTINEL" Bundle.listD A s s.heap) (hS : va_S A s.heap H locs) (hsize : ls.size = c.maxLocals)
    (d0 : decode cc pc = .ok (.new ik, 3)) (d3 : decode cc (pc + 3) = .ok (.dup, 1)) (d4 : decode cc (pc + 4) = .ok (.ldc_w is, 3)) (d7 : decode cc (pc + 7) = .ok (.invokespecial ic, 3)) (d10 : decode cc (pc + 10) = .ok (.athrow, 1))
    (hout : ∀ x ∈ c.exceptionTable.toList, covers x (pc + 10) = false)
    (hRframes : names.length + 3 < R.frames) (hRlocals : (rest.map fun v => v.category).sum + (13 * (names.length + 1) + 43) ≤ R.locals) (hRcells : cells + 1 ≤ R.cells) (hRslots : slots + 6 ≤ R.slots) (hlocks : meth.locks = false)
    (hx : ∀ t : State, s.vm.Alike t.vm → H.size ≤ t.heap.size → (∀ q : Nat, q < H.size → t.heap[q]? = H[q]?) → XC cls s t)
    (hf : ∀ z ∈ locs, free z.base) (hc : cells + 1 ≤ mc) (hs : slots + 6 ≤ ms) :
    W p l e R s m args below meth c H locs cells slots (vx_MQ below Qc XC args s mc ms free) (F0 m pc ls rest) := by
  intro T hT X
  have htr : e.platform.stackTraces = false := (show e.platform.stackTraces = l.stackTraces by rw [X.admits.platform]).trans hl
  have Y := vx_rebase X (R' := { frames := R.frames, locals := R.locals, cells := 1, slots := 6 }) (Nat.le_refl _) (Nat.le_refl _) hRcells hRslots
  obtain ⟨s', hA⟩ : ∃ z, z = (T.setVm s.vm).setFrames (.invoking m args :: below) := ⟨_, rfl⟩
  rw [← hA] at Y
  have hvm : s'.vm = s.vm := by rw [hA]; rfl
  have hhp : s'.heap = H := by rw [hA]; exact hT
  have hW0 : s.WarmedH s'.vm := by rw [hvm]; exact State.WarmedH.refl s
  have hat' : ∀ w ∈ vx_atS own ic cls names, w.before args s' = true := fun w hw => vx_ot_at hW0 hvm.symm (hgood w (List.mem_cons_of_mem _ (List.mem_cons_of_mem _ hw))) (hat w hw)
  have hk' : (Cond.classLink own ik cls).before args s' = true := vx_ot_at hW0 hvm.symm (hgood _ List.mem_cons_self) hk
  have hini' : (Cond.initialized cls).before args s' = true := vx_ot_at hW0 hvm.symm (hgood _ (List.mem_cons_of_mem _ List.mem_cons_self)) hini
  have hU' : vx_Zq Bundle.tN "UNASSIGNED_STACK" Bundle.steD A s' s'.heap := by rw [hhp]; exact vx_Zq.moved hW0.alike (hU.kept hS.2.1)
  have hN' : vx_Zq Bundle.tN "SUPPRESSED_SENTINEL" Bundle.listD A s' s'.heap := by rw [hhp]; exact vx_Zq.moved hW0.alike (hN.kept hS.2.1)
  have h : ∀ w ∈ Bundle.ownAtoms own ic cls names, w.before args s' = true := vx_own hat' (vx_isRefq hU'.1) (vx_isRefq hN'.1) hU'.2.word hN'.2.word
  have hown' : s'.vm.findClass own = some m.cls := by rw [hvm]; exact hown
  have hins : (Cond.instantiable cls 6).before args s' = true := h _ (by simp [Bundle.ownAtoms])
  obtain ⟨vm₁, cX, kX, hfX, hkX, -, -, X₁, st1⟩ := Y.newCold hexec (own := own) (C := cls) (index := ik) (n := 6) hown' hk' hins hini'
    (g := F0 m pc ls rest) rfl (by rw [hb]; exact d0) (Nat.le_refl _) (Nat.le_refl _)
  generalize hT1 : (T.setVm vm₁).pushCell { cls := cX, slots := kX.instanceTypes.map defaultValue, vm := .none } = T1 at X₁ st1
  have hcat : (Value.ref T.heap.size).category = 1 := rfl
  have hcellA : T1.heap[T.heap.size]? = some (freshCell cX kX) := by rw [← hT1]; exact State.heap_pushCell_size _ _
  have d3' : decode c.code (pc + 3) = .ok (.dup, 1) := by rw [hb]; exact d3
  have d4' : decode c.code (pc + 4) = .ok (.ldc_w is, 3) := by rw [hb]; exact d4
  have hstr' : vk_R own is text sa s' := vk_R.warm hW0 hstr
  obtain ⟨U, hsteps, hrun, hend, hW, hsame, ce, hce, hO⟩ := X₁.ctorThrowS hexec htr (own := own) (cls := cls) (names := names) (ic := ic) hown' hcls hnames h (fun x hx => nomatch hx) hfX hkX hcellA (by rw [hhp, hT]; exact Nat.le_refl _) (msg := .ref sa) rfl
    (g := { method := m, pc := pc + 7, locals := ls, stack := .ref sa :: .ref T.heap.size :: .ref T.heap.size :: rest, locked := none }) rfl hsize rfl rfl (rest := rest) rfl
    (by rw [hb]; exact d7) (by rw [hb]; exact d10) hout hRframes (by simp only [List.map_cons, List.sum_cons, hcat]; omega) hlocks
  obtain ⟨f1, f2⟩ := vx_frame hsame
  rw [hhp] at f1 f2
  have hWs : s.WarmedH U.vm := State.WarmedH.trans hW0 hW
  have hcl : s.vm.findClass cls = some ce.cls := by
    have h9 := hO.cls
    rw [hvm] at h9
    exact h9
  have hall : s.sameButNew ({ U with vm := s.vm } : State) locs mc ms := by
    subst hA
    obtain ⟨e1, e2⟩ := hsame
    rw [State.setFrames_setFrames] at e1
    have h2 : (T.setVm s.vm).sameButNew ({ U with vm := s.vm } : State) [] (0 + 1) (0 + 6) := ⟨e1, e2⟩
    have h3 := X.same.trans h2
    rw [List.append_nil] at h3
    exact h3.mono hc hs
  refine ⟨U, ?_, .threw T.heap.size, hrun, hend, Or.inr ⟨T.heap.size, rfl, cls, ce, locs, hx U hWs.alike f1 (fun q hq => f2 q hq (fun z hz => nomatch hz)), hce, hO.vm, hcl, hWs, hall, hf⟩⟩
  refine st1 _ ?_
  show Steps p.tables e below (T1.setTop { method := m, pc := pc + 3, locals := ls, stack := .ref T.heap.size :: rest, locked := none }) _
  jvm_step X₁.here [X₁.here.top, hexec, d3', Value.category]
  exact X₁.ldcStringW hexec (own := own) (text := text) (index := is) (a := sa) hown' hstr'.1 hstr'.2
    (g := { method := m, pc := pc + 4, locals := ls, stack := .ref T.heap.size :: .ref T.heap.size :: rest, locked := none }) rfl d4' _ hsteps
end Ends
section Bodies
variable {l : Launch}
theorem vx_ofW {y : MethodName} {ws ws' : List Cond} {rm : Room} {Pc : Array Value → State → Prop} {Qc : Array Value → State → Outcome → State → Prop} {XC : String → State → State → Prop} {mc ms : Nat} {free : Addr → Prop} {cc : ByteArray} {maxL : Nat} {ret : Option FieldType}
    (hy : plainName y.cls = true) (hw : ws = Cond.code y cc maxL ret :: ws')
    (body : ∀ p e s m args below meth c s₁, BodyLoose p l y (headSpec ws rm) cc maxL ret e s m args below meth c s₁ → c.maxLocals = maxL → (∀ x ∈ c.exceptionTable.toList, False) → Pc args s →
      W p l e (headSpec ws rm).room s m args below meth c s.heap [] 0 0 (vx_MQ below Qc XC args s mc ms free) (entryFrame m args maxL)) : vx_Met l y ws rm Pc Qc XC mc ms free := by
  refine MetFree.of_bodyS (code := cc) (maxLocals := maxL) (ret := ret) hy ?_ ?_
  · intro args s m h hn
    obtain ⟨meth, c, h1, h2, h3, h4, h5, h6, -, -⟩ := Cond.code_spec hn (atoms_spec (ws := ws) h _ (by rw [hw]; exact List.mem_cons_self))
    exact ⟨meth, c, h1, h2, h3, h4, h5, h6⟩
  · intro p e s m args below meth c s₁ B hml hP _
    have hh0 : s₁.heap = s.heap := by rw [B.state]; rfl
    have ht : ∀ x ∈ c.exceptionTable.toList, False := by
      obtain ⟨meth9, c9, h1, h2, -, -, -, -, h7, -⟩ := Cond.code_spec B.named (atoms_spec (ws := ws) B.pre _ (by rw [hw]; exact List.mem_cons_self))
      cases Option.some.inj (h1.symm.trans B.method)
      cases Option.some.inj (h2.symm.trans (Stand.of_body B).code)
      intro x hx
      rw [Array.isEmpty_iff.mp h7] at hx
      cases hx
    obtain ⟨t, a1, o, b1, b2, b3⟩ := body p e s m args below meth c s₁ B hml ht hP s₁ hh0 (Stand.of_body B)
    exact ⟨t, o, a1, b1, b2, b3⟩
/-- the table of a body with handlers -/
theorem vx_table {p : Program} {x y : MethodName} {S : Spec} {cc bytes : ByteArray} {maxL maxL' : Nat} {ret ret' : Option FieldType} {e : Env} {s s₁ : State} {m : MethodId} {args : Array Value} {below : List Frame} {meth : Method} {c : Code} {hh : List (Nat × Nat × Nat × Nat)}
    (B : BodyLoose p l y S cc maxL ret e s m args below meth c s₁) (h : (Cond.codeWith y bytes maxL' ret' hh).before args s = true) : c.exceptionTable.toList = tableOf hh := by
  obtain ⟨m9, meth9, c9, hn9, h1, h2, -, -, h6, -⟩ := Cond.codeWith_spec h
  cases Option.some.inj (hn9.symm.trans B.named)
  cases Option.some.inj (h1.symm.trans B.method)
  cases Option.some.inj (h2.symm.trans (Stand.of_body B).code)
  rw [← h6, table_eq]
end Bodies
end VXA
/-! ===== END ===== -/
/-! ===== BEGIN a static call of a method with an exception table ===== -/
section VXS
variable {p : Program} {l : Launch} {e : Env} {R : Room} {s : State} {m : MethodId} {args : Array Value} {below : List Frame} {meth : Method} {c : Code} {T : State} {H : Heap} {locs : List Loc} {cells slots : Nat}
abbrev vx_CSW (R : Room) (s : State) (args : Array Value) (own : String) (index : Nat) (y : MethodName) (bytes : ByteArray) (maxL : Nat) (ret : Option FieldType) (hh : List (Nat × Nat × Nat × Nat)) (ws : List Cond) (rm : Room) (mc ms n : Nat) : Prop :=
  (rm.cells = mc ∧ rm.slots = ms ∧ rm.frames + 1 ≤ R.frames ∧ 8 + (maxL + 11) + rm.locals ≤ R.locals ∧ (∀ w ∈ ws, ∀ (a' : Array Value) (U : State), s.WarmedH U.vm → w.before a' U = true) ∧ Cond.codeWith y bytes maxL ret hh ∈ ws) ∧
  (Cond.codeWith y bytes maxL ret hh).before args s = true ∧ (Cond.initialized y.cls).before args s = true ∧ (y.cls ≠ "java/lang/invoke/MethodHandle" ∧ y.cls ≠ "java/lang/invoke/VarHandle") ∧
  (∀ sig, parseMethodDescriptor y.desc = some sig → n = sig.parameters.length) ∧ (Cond.methodLink own index y).before args s = true ∧ (Cond.static y).before args s = true
theorem vx_cwSW {own : String} {index maxL mc ms : Nat} {y : MethodName} {bytes : ByteArray} {ret : Option FieldType} {hh : List (Nat × Nat × Nat × Nat)} {Ts ws ws' : List Cond} {rm : Room} (n : Nat) (ht : ∀ w ∈ Ts, w.before args s = true) (hT : GoodIn Ts (va_wsS own index y ws)) (hw : ws = Cond.codeWith y bytes maxL ret hh :: ws') (hrc : rm.cells = mc) (hrs : rm.slots = ms)
    (hd : y.cls ≠ "java/lang/invoke/MethodHandle" ∧ y.cls ≠ "java/lang/invoke/VarHandle" ∧ (parseMethodDescriptor y.desc).map (fun d => d.parameters.length) = some n) (hR : rm.frames + 1 ≤ R.frames ∧ 8 + (maxL + 11) + rm.locals ≤ R.locals) :
    vx_CSW R s args own index y bytes maxL ret hh ws rm mc ms n := by
  have ok : ∀ w ∈ va_wsS own index y ws, w.before args s = true := fun w h => ht w (hT w h).1
  have hG : GoodIn Ts ws := fun w h => hT w (by unfold va_wsS; exact List.mem_append_right _ h)
  have hc : Cond.codeWith y bytes maxL ret hh ∈ ws := by rw [hw]; exact List.mem_cons_self
  refine ⟨⟨hrc, hrs, hR.1, hR.2, pay_in ht hG, hc⟩, ht _ (hG _ hc).1, ok _ (by simp [va_wsS]), ⟨hd.1, hd.2.1⟩, fun sig h => ?_, ok _ (by simp [va_wsS]), ok _ (by simp [va_wsS])⟩
  have h2 := hd.2.2
  rw [h] at h2
  exact (Option.some.inj h2).symm
theorem vx_callSW (X : Stand p l e R s m args below meth c T locs cells slots) (hexec : p.tables.exec = Jvm.exec) {own : String} {index : Nat} {y : MethodName} {bytes : ByteArray} {maxL : Nat} {ret : Option FieldType} {hh : List (Nat × Nat × Nat × Nat)}
    (hown : s.vm.findClass own = some m.cls) (hlink : (Cond.methodLink own index y).before args s = true) (hstat : (Cond.static y).before args s = true) (hinit : (Cond.initialized y.cls).before args s = true)
    (hcode : (Cond.codeWith y bytes maxL ret hh).before args s = true) (hy : y.cls ≠ "java/lang/invoke/MethodHandle" ∧ y.cls ≠ "java/lang/invoke/VarHandle")
    {W9 : Nat} {Pre : Pt → Array Value → Prop} {Post : Pt → Array Value → Option Value → Pt → Prop} (hK : Back l R p e below s args y 3 W9 Pre Post)
    {g : JFrame} (hg : g.method = m) (hsize : g.locals.size = c.maxLocals) {argsL rest : List Value} (hlen : ∀ sig, parseMethodDescriptor y.desc = some sig → argsL.length = sig.parameters.length)
    (hstack : g.stack = argsL.reverse ++ rest) (hW : 2 * g.monitorRoom + (rest.map fun v => v.category).sum ≤ W9) (hdg : decode c.code g.pc = .ok (.invokestatic index, 3))
    (hpre : ∀ vm₁, s.WarmedH vm₁ → Pre ⟨T.setVm vm₁, locs, cells, slots⟩ argsL.toArray) :
    ∃ (v : Option Value) (vm₁ : Vm) (B : Pt), s.WarmedH vm₁ ∧ Stand p l e R s m args below meth c B.U B.locs B.cells B.slots ∧ Post ⟨T.setVm vm₁, locs, cells, slots⟩ argsL.toArray v B ∧
      ∀ target, Steps p.tables e below (B.U.setTop { g with pc := g.pc + 3, stack := v.toList ++ rest }) target → Steps p.tables e below (T.setTop g) target := by
  obtain ⟨mk, methM, cM, hnamed, hmethM, -, -, -, -, -, -, hsigM⟩ := Cond.codeWith_spec hcode
  have hstatic : methM.isStatic = true := Cond.static_spec hnamed hmethM hstat
  obtain ⟨kP, hkP, -⟩ := className_of_methodNamed hnamed
  have hinitP : kP.init = .initialized := Cond.initialized_spec (findClass_of_methodNamed hnamed) hkP hinit
  obtain ⟨vm₁, X₁, hstep₁⟩ := X.invokestatic hexec hown hlink hnamed hmethM hstatic hkP hinitP hy (g := g) hg (argsL := argsL) (rest := rest) (hlen _ hsigM) hstack hdg
  obtain ⟨v, B, X', hpost, hsteps⟩ := hK m meth c ⟨T.setVm vm₁, locs, cells, slots⟩ { g with stack := rest } (.invokestatic index) mk argsL.toArray X₁ hg hsize hdg hW (X₁.named hnamed) (hpre vm₁ X₁.warmed)
  exact ⟨v, vm₁, B, X₁.warmed, X', hpost, fun target h => hstep₁ _ fun acts => by rw [doInvoke_state]; exact hsteps.trans h⟩
theorem vx_runSW {y : MethodName} {bytes cc : ByteArray} {maxL nL mc ms n index : Nat} {ret : Option FieldType} {hh : List (Nat × Nat × Nat × Nat)} {ws : List Cond} {rm : Room} {Pc : Array Value → State → Prop} {Qc : Array Value → State → Outcome → State → Prop} {free : Addr → Prop} {Ts : List Cond} {own : String} {As rest : List Value} {g : JFrame}
    (S : CallFix p m c cc nL s args Ts own) (hM : Met l y ws rm Pc Qc mc ms free) (cw : vx_CSW R s args own index y bytes maxL ret hh ws rm mc ms n) (hp : PreS s H Pc As)
    (hg : g.method = m) (hn : As.length = n) (hsize : g.locals.size = nL) (hstack : g.stack = As.reverse ++ rest) (hW : 2 * g.monitorRoom + (rest.map fun v => v.category).sum ≤ 8) (hdg : decode cc g.pc = .ok (.invokestatic index, 3)) (hf : cells + mc ≤ R.cells ∧ slots + ms ≤ R.slots) :
    va_Run p l e R s m args below meth c H locs cells slots mc ms g rest (Qc As.toArray) (free) := by
  obtain ⟨⟨hrc, hrs, hfr, hlo, hws, hcw⟩, hcode, hini, hy, hlen, hl, hstt⟩ := cw
  have hK : Back l R p e below s args y 3 8 (PreOf R mc ms Pc) (PostOf Qc mc ms free) := va_backW (hh := hh) (bytes := bytes) (maxL := maxL) (ret := ret) hM hp.1 hrc hrs hfr hlo hws hcw (fun a' U hW => word_at hW (Or.inl (by first | rfl | simp [Cond.onTables, Cond.keeps, Cond.steady])) hini)
  obtain ⟨hx, hb, hml, ho, -⟩ := S
  intro T hT X
  obtain ⟨v, vm₁, ⟨U', l2, c2, s2⟩, hW₁, X', ⟨g', mk, t, L, e1, e2, hq, h1, hL, h2, h3⟩, st⟩ := vx_callSW X hx (hh := hh) (bytes := bytes) (maxL := maxL) (ret := ret) ho hl hstt hini hcode hy hK hg (hsize.trans hml.symm) (argsL := As) (rest := rest) (fun sig h => hn.trans (hlen sig h)) hstack hW (by rw [hb]; exact hdg)
    (fun vm₁ hW₁ => ⟨hf.1, hf.2, hp.2 (T.setVm vm₁) hT hW₁⟩)
  dsimp only [Pt.U, Pt.locs, Pt.cells, Pt.slots] at X' e1 e2 h1 h2 h3 st
  subst h1; subst h2; subst h3
  exact ⟨v, (T.setVm vm₁).calling g' mk As.toArray, t, U', L, hT, X', hL, e1, e2, hq, st⟩
/-- not caught here, past rows that name other classes: it goes on to the caller -/
theorem vx_outP {p : Program} {l : Launch} {e : Env} {R : Room} {s : State} {m : MethodId} {args : Array Value} {below : List Frame} {meth : Method} {c : Code} {H : Heap} {locs : List Loc} {cells slots : Nat} {free : Addr → Prop} {ls : Array Slot} {rest : List Value} {Qc : Array Value → State → Outcome → State → Prop} {XC : String → State → State → Prop}
    {pc : Nat} {own E : String} {ce : Cell} {q : Addr} {mc ms : Nat} (hown : s.vm.findClass own = some m.cls) (hlocks : meth.locks = false)
    (hpass : ∀ z ∈ c.exceptionTable.toList, covers z pc = false ∨ (z.catchType ≠ 0 ∧ ∃ nm : String, (Cond.classLink own z.catchType nm).before args s = true ∧ va_Nc E nm s)) (hcell : H[q]? = some ce) (hv : ce.vm = .none) (hcl : s.vm.findClass E = some ce.cls)
    (hx : ∀ t : State, t.heap = H → s.vm.Alike t.vm → XC E s t) (hf : ∀ z ∈ locs, free z.base) (hc : cells ≤ mc) (hs : slots ≤ ms) :
    vx_W p l e R s m args below meth c H locs cells slots (vx_MQ below Qc XC args s mc ms free) (F0 m pc ls rest) q := by
  intro T hT X
  have hpl : e.platform.magicAccessors = ({} : Platform).magicAccessors := by rw [X.admits.platform]
  obtain ⟨vm', hW', X', st⟩ := Jvm.Stand.outThrough X hlocks q (g := F0 m pc ls rest) rfl rfl rfl (cell := ce) (by rw [hT]; exact hcell) (by rw [hv]; rfl)
    (by obtain ⟨k9, h9, -⟩ := Vm.findClass_spec hcl; exact ⟨k9, h9⟩) (fun z hz => by
      rcases hpass z hz with h | ⟨hz0, nm, hl1, hn1⟩
      · exact Or.inl h
      · obtain ⟨c6, hc6, hcl6⟩ := Cond.classLink_spec hown hl1 e.platform hpl
        obtain ⟨a8, b8, h1, h2, h3⟩ := hn1
        cases Option.some.inj (h1.symm.trans hcl)
        cases Option.some.inj (h2.symm.trans hc6)
        exact Or.inr ⟨hz0, _, hcl6, h3⟩)
  obtain ⟨g₀, hfr⟩ := X'.frames_eq
  have hcell9 : ((T.setVm vm').setFrames (.throwing q :: below)).heap[q]? = some ce := by
    show T.heap[q]? = some ce
    rw [hT]; exact hcell
  have hend : Ended ((T.setVm vm').setFrames (.throwing q :: below)) below (.threw q) := State.frames_setFrames _ (State.cur_lt_of_frames hfr)
  refine ⟨(T.setVm vm').setFrames (.throwing q :: below), ?_, .threw q, X'.here.running, hend, Or.inr ⟨q, rfl, E, ce, locs, hx _ hT (X'.ends _).1.alike, hcell9, hv, hcl, (X'.ends _).1, (X'.ends _).2.mono hc hs, hf⟩⟩
  rw [X.pushThrowing_eq]
  exact st
/-- a thing of a world lies in the heap -/
theorem vx_lt {D : va_G} {cl : List vw_C} {ws : va_W} {H1 : Heap} (h : va_P D cl ws H1) {k : Nat} {q : Nat × va_E} (hk : ws[k]? = some q) : q.1 < H1.size := (h k q hk).lt
end VXS
/-! ===== END ===== -/
/-! ===== BEGIN methods with a table of their own: called by a name, returning or throwing ===== -/
section VXH
/-! vx_backW, vx_callVX, vx_callSX, vx_callVW, vx_runVW, vx_runVX, vx_runSX, vx_ofWH follow the same proofs as their sisters above (Free/Laws.lean, Shelf42/LK1.lean); vx_outP calls Shelf42/NT130.lean (outThrough). -/
section
variable {l : Launch} {R : Room} {p : Program} {e : Env} {below : List Frame} {s : State} {sargs : Array Value} {y : MethodName} {len W9 : Nat}
theorem vx_backW {ws : List Cond} {rm : Room} {Pc : Array Value → State → Prop} {Qc : Array Value → State → Outcome → State → Prop} {XC : String → State → State → Prop} {mc ms : Nat} {free : Addr → Prop} {bytes : ByteArray} {maxL : Nat} {ret : Option FieldType} {hh : List (Nat × Nat × Nat × Nat)}
    (hM : vx_Met l y ws rm Pc Qc XC mc ms free) (hblind : FrameBlind Pc) (hrc : rm.cells = mc) (hrs : rm.slots = ms)
    (hframes : rm.frames + 1 ≤ R.frames) (hlocals : W9 + (maxL + 11) + rm.locals ≤ R.locals)
    (hws : ∀ w ∈ ws, ∀ a' U, s.WarmedH U.vm → w.before a' U = true) (hcode : Cond.codeWith y bytes maxL ret hh ∈ ws) (hinit : ∀ a' U, s.WarmedH U.vm → (Cond.initialized y.cls).before a' U = true) :
    vx_Back l R p e below s sargs y len W9 (PreOf R mc ms Pc) (PostOf Qc mc ms free) (vx_Post XC mc ms free) := by
  intro m meth c A g ig mk a X hg hsize hdg hW hn hp
  have h1 : (headSpec ws rm).pre.before a A.U = true := atoms_intro fun w hw => hws w hw _ _ X.warmed
  have h2 : (Cond.codeWith y bytes maxL ret hh).before a A.U = true := hws _ hcode _ _ X.warmed
  have h3 : (Cond.initialized y.cls).before a A.U = true := hinit _ _ X.warmed
  have h4 : A.cells + (headSpec ws rm).room.cells ≤ R.cells := by rw [show (headSpec ws rm).room.cells = mc from hrc]; exact hp.1
  have h5 : A.slots + (headSpec ws rm).room.slots ≤ R.slots := by rw [show (headSpec ws rm).room.slots = ms from hrs]; exact hp.2.1
  have hPc : Pc a (A.U.calling g mk a) := hblind _ _ _ _ hp.2.2
  obtain ⟨U, Ls, c0, s0⟩ := A
  dsimp only [Pt.U, Pt.locs, Pt.cells, Pt.slots] at h1 h2 h3 h4 h5 X hn hPc ⊢
  obtain ⟨m9, methY, cY, hn9, hmY, hcY, -, hlY, -⟩ := Cond.codeWith_spec h2
  cases Option.some.inj (hn9.symm.trans hn)
  obtain ⟨kY, hkY, -⟩ := className_of_methodNamed hn
  have hinitY : kY.init = .initialized := Cond.initialized_spec (findClass_of_methodNamed hn) hkY h3
  have h : At U g.method c below := by rw [hg]; exact X.here
  have hlocals9 : W9 + (maxL + 11) + (headSpec ws rm).room.locals ≤ R.locals := hlocals
  have happ : (headSpec ws rm).appliesLoose y e.platform (U.calling g mk a) = true :=
    Spec.appliesLoose_calling (g := g) h hdg hn hkY hinitY
      (X.room_calling (g := g) (R' := (headSpec ws rm).room) hsize hmY hcY hframes (by rw [hlY]; omega) h4 h5) h1
  obtain ⟨mid, hmid⟩ := h.above
  have hfr : (U.setTop g).frames = (.java g :: mid) ++ below := by rw [State.frames_setTop' g h.top, hmid]; rfl
  obtain ⟨o, s₂, hsteps, -, hend, hq⟩ := Steps.callFree hM p X.admits X.cas X.clock (acts := []) hfr happ hPc trivial
  have hq' : vx_Q Qc XC mc ms free a (U.calling g mk a) o s₂ := hq
  rw [State.frames_setTop' g h.top] at hend
  obtain ⟨g₀, hg0⟩ := Option.isSome_iff_exists.mp h.top
  obtain ⟨r, hr⟩ := State.topJava?_eq_some.mp hg0
  have hr' : (({ U with heap := s₂.heap, slotsUsed := s₂.slotsUsed } : State).setVm s₂.vm).frames = .java g₀ :: r := hr
  rcases hq' with ⟨hqc, L, hfe, hL⟩ | ⟨q, rfl, E, ce, L, hx, hce, hcv, hcl, hW₂, hsm, hL⟩
  · obtain ⟨⟨v, rfl⟩, hW₂, e2, q2, q3, q4, q5, q6⟩ := id hfe
    have e3 : s₂ = ({ (U.calling g mk a).setFrames s₂.frames with heap := s₂.heap, slotsUsed := s₂.slotsUsed } : State).setVm s₂.vm := by
      have : s₂ = ({ s₂ with vm := (U.calling g mk a).vm } : State).setVm s₂.vm := rfl
      rw [e2] at this
      exact this
    obtain ⟨c₂, i₂, len₂, hc₂, hd₂, hf₂⟩ := hend
    have hW' : U.WarmedH s₂.vm := hW₂
    have hcc : c₂ = c := by
      have h1 : s₂.code? g.method = U.code? g.method := by
        rw [State.code?_eq, State.code?_eq, hW'.alike.method?]
      exact Option.some.inj (hc₂.symm.trans (h1.trans h.code))
    subst hcc
    have hlen : len₂ = len := by rw [hdg] at hd₂; cases hd₂; rfl
    subst hlen
    have hs₂ : s₂ = (({ U with heap := s₂.heap, slotsUsed := s₂.slotsUsed } : State).setVm s₂.vm).setTop { g with pc := g.pc + len₂, stack := v.toList ++ g.stack } := by
      refine e3.trans ?_
      rw [hf₂, State.calling_eq h.top, State.setFrames_setFrames, State.setTop_of_frames _ hr', hr]
      rfl
    have hsame : U.sameButNew ({ U with heap := s₂.heap, slotsUsed := s₂.slotsUsed } : State) L mc ms := by
      refine ⟨?_, q2, q3, q4, q5, q6⟩
      obtain ⟨t, ht, -⟩ := State.frames_cons hr
      show ({ U with heap := s₂.heap, slotsUsed := s₂.slotsUsed } : State) = { U.setFrames U.frames with heap := s₂.heap, slotsUsed := s₂.slotsUsed }
      rw [State.setFrames_self ht]
    subst hg
    refine Or.inl ⟨v, ⟨(({ U with heap := s₂.heap, slotsUsed := s₂.slotsUsed } : State).setVm s₂.vm), Ls ++ L, c0 + mc, s0 + ms⟩,
      ⟨X.admits, X.cas, X.clock, X.frames, X.room, X.hears, X.method, X.code, (X.here.setHeapUsed s₂.heap s₂.slotsUsed).setVm hW'.alike, X.tail, State.WarmedH.trans X.warmed hW', X.limits, X.bytes, X.same.trans (hsame.setVm s.vm)⟩,
      ⟨g, mk, s₂, L, rfl, rfl, hqc, rfl, hL, rfl, rfl⟩, ?_⟩
    show Steps p.tables e below _ ((({ U with heap := s₂.heap, slotsUsed := s₂.slotsUsed } : State).setVm s₂.vm).setTop { g with pc := g.pc + len₂, stack := v.toList ++ g.stack })
    rw [← hs₂]
    exact hsteps
  · obtain ⟨e2, q2, q3, q4, q5, q6⟩ := id hsm
    have e3 : s₂ = ({ (U.calling g mk a).setFrames s₂.frames with heap := s₂.heap, slotsUsed := s₂.slotsUsed } : State).setVm s₂.vm := by
      have : s₂ = ({ s₂ with vm := (U.calling g mk a).vm } : State).setVm s₂.vm := rfl
      rw [e2] at this
      exact this
    have hf₂ : s₂.frames = .throwing q :: .java g :: U.frames.tail := hend
    have hW' : U.WarmedH s₂.vm := hW₂
    have hs₂ : s₂ = ((({ U with heap := s₂.heap, slotsUsed := s₂.slotsUsed } : State).setVm s₂.vm).setTop g).pushFrame (.throwing q) := by
      refine e3.trans ?_
      rw [hf₂, State.calling_eq h.top, State.setFrames_setFrames, State.pushFrame, State.frames_setTop _ hr', State.setTop_of_frames _ hr', State.setFrames_setFrames, hr]
      rfl
    have hsame : U.sameButNew ({ U with heap := s₂.heap, slotsUsed := s₂.slotsUsed } : State) L mc ms := by
      refine ⟨?_, q2, q3, q4, q5, q6⟩
      obtain ⟨t, ht, -⟩ := State.frames_cons hr
      show ({ U with heap := s₂.heap, slotsUsed := s₂.slotsUsed } : State) = { U.setFrames U.frames with heap := s₂.heap, slotsUsed := s₂.slotsUsed }
      rw [State.setFrames_self ht]
    subst hg
    refine Or.inr ⟨q, ⟨(({ U with heap := s₂.heap, slotsUsed := s₂.slotsUsed } : State).setVm s₂.vm), Ls ++ L, c0 + mc, s0 + ms⟩,
      ⟨X.admits, X.cas, X.clock, X.frames, X.room, X.hears, X.method, X.code, (X.here.setHeapUsed s₂.heap s₂.slotsUsed).setVm hW'.alike, X.tail, State.WarmedH.trans X.warmed hW', X.limits, X.bytes, X.same.trans (hsame.setVm s.vm)⟩,
      ⟨g, mk, s₂, L, E, ce, rfl, rfl, hx, hce, hcv, hcl, rfl, hL, rfl, rfl⟩, ?_⟩
    show Steps p.tables e below _ (((({ U with heap := s₂.heap, slotsUsed := s₂.slotsUsed } : State).setVm s₂.vm).setTop g).pushFrame (.throwing q))
    rw [← hs₂]
    exact hsteps
end
variable {p : Program} {l : Launch} {e : Env} {R : Room} {s : State} {m : MethodId} {args : Array Value} {below : List Frame} {meth : Method} {c : Code} {T : State} {H : Heap} {locs : List Loc} {cells slots : Nat}
theorem vx_callVX (X : Stand p l e R s m args below meth c T locs cells slots) (hexec : p.tables.exec = Jvm.exec) {own C : String} {index : Nat} {y : MethodName} {bytes : ByteArray} {maxL : Nat} {ret : Option FieldType} {hh : List (Nat × Nat × Nat × Nat)}
    (hown : s.vm.findClass own = some m.cls) (hlink : (Cond.methodLink own index y).before args s = true) (hinst : (Cond.instanceMethod y).before args s = true) (hsel : (Cond.selects C y y).before args s = true)
    (hcode : (Cond.codeWith y bytes maxL ret hh).before args s = true) (hy : y.cls ≠ "java/lang/invoke/MethodHandle" ∧ y.cls ≠ "java/lang/invoke/VarHandle")
    {W9 : Nat} {Pre : Pt → Array Value → Prop} {Post : Pt → Array Value → Option Value → Pt → Prop} {PostX : Pt → Array Value → Addr → Pt → Prop} (hK : vx_Back l R p e below s args y 3 W9 Pre Post PostX)
    {b : Addr} {cellB : Cell} (hcell : T.heap[b]? = some cellB) (hobj : cellB.vm.isStatics = false) (hcls : s.vm.findClass C = some cellB.cls)
    {g : JFrame} (hg : g.method = m) (hsize : g.locals.size = c.maxLocals) {argsL rest : List Value} (hlen : ∀ sig, parseMethodDescriptor y.desc = some sig → argsL.length = sig.parameters.length)
    (hstack : g.stack = argsL.reverse ++ .ref b :: rest) (hW : 2 * g.monitorRoom + (rest.map fun v => v.category).sum ≤ W9) (hdg : decode c.code g.pc = .ok (.invokevirtual index, 3))
    (hpre : ∀ vm₁, s.WarmedH vm₁ → Pre ⟨T.setVm vm₁, locs, cells, slots⟩ (Value.ref b :: argsL).toArray) :
    (∃ (v : Option Value) (vm₁ : Vm) (B : Pt), s.WarmedH vm₁ ∧ Stand p l e R s m args below meth c B.U B.locs B.cells B.slots ∧ Post ⟨T.setVm vm₁, locs, cells, slots⟩ (Value.ref b :: argsL).toArray v B ∧
      ∀ target, Steps p.tables e below (B.U.setTop { g with pc := g.pc + 3, stack := v.toList ++ rest }) target → Steps p.tables e below (T.setTop g) target) ∨
    (∃ (q : Addr) (vm₁ : Vm) (B : Pt), s.WarmedH vm₁ ∧ Stand p l e R s m args below meth c B.U B.locs B.cells B.slots ∧ PostX ⟨T.setVm vm₁, locs, cells, slots⟩ (Value.ref b :: argsL).toArray q B ∧
      Steps p.tables e below (T.setTop g) ((B.U.setTop { g with stack := rest }).pushFrame (.throwing q))) := by
  obtain ⟨mk, methM, hnamed, hmethM, hstM, habM⟩ := Cond.instanceMethod_spec hinst
  obtain ⟨m8, methM', cM, hn8, hmethM', -, -, -, -, -, -, hsigM⟩ := Cond.codeWith_spec hcode
  cases Option.some.inj (hn8.symm.trans hnamed)
  cases hmethM.symm.trans hmethM'
  obtain ⟨c2, r2, m2, q1, q2, q3, q4, kP, hkP, hkPi⟩ := Cond.selects_spec hsel
  cases hcls.symm.trans q1
  cases (State.methodFound?_of_named hnamed hy).symm.trans q2
  cases hnamed.symm.trans q3
  have hselP : selectMethod e.platform s.vm cellB.cls mk = .method mk := by rw [Launch.admits_selectMethod X.admits]; exact q4
  obtain ⟨vm₁, X₁, hstep₁⟩ := X.invokevirtual hexec hown hlink hnamed hmethM hstM hkP hkPi hy (a := b) (cell := cellB) hcell
    (fun z h => by rw [h] at hobj; cases hobj) hselP hmethM habM hkP hkPi (g := g) hg (argsL := argsL) (rest := rest) (hlen _ hsigM) hstack hdg
  rcases hK m meth c ⟨T.setVm vm₁, locs, cells, slots⟩ { g with stack := rest } (.invokevirtual index) mk (Value.ref b :: argsL).toArray X₁ hg hsize hdg hW (X₁.named hnamed) (hpre vm₁ X₁.warmed) with ⟨v, B, X', hpost, hsteps⟩ | ⟨q, B, X', hpost, hsteps⟩
  · exact Or.inl ⟨v, vm₁, B, X₁.warmed, X', hpost, fun target h => hstep₁ _ fun acts => by rw [doInvoke_state]; exact hsteps.trans h⟩
  · exact Or.inr ⟨q, vm₁, B, X₁.warmed, X', hpost, hstep₁ _ fun acts => by rw [doInvoke_state]; exact hsteps⟩
theorem vx_callSX (X : Stand p l e R s m args below meth c T locs cells slots) (hexec : p.tables.exec = Jvm.exec) {own : String} {index : Nat} {y : MethodName} {bytes : ByteArray} {maxL : Nat} {ret : Option FieldType} {hh : List (Nat × Nat × Nat × Nat)}
    (hown : s.vm.findClass own = some m.cls) (hlink : (Cond.methodLink own index y).before args s = true) (hstat : (Cond.static y).before args s = true) (hinit : (Cond.initialized y.cls).before args s = true)
    (hcode : (Cond.codeWith y bytes maxL ret hh).before args s = true) (hy : y.cls ≠ "java/lang/invoke/MethodHandle" ∧ y.cls ≠ "java/lang/invoke/VarHandle")
    {W9 : Nat} {Pre : Pt → Array Value → Prop} {Post : Pt → Array Value → Option Value → Pt → Prop} {PostX : Pt → Array Value → Addr → Pt → Prop} (hK : vx_Back l R p e below s args y 3 W9 Pre Post PostX)
    {g : JFrame} (hg : g.method = m) (hsize : g.locals.size = c.maxLocals) {argsL rest : List Value} (hlen : ∀ sig, parseMethodDescriptor y.desc = some sig → argsL.length = sig.parameters.length)
    (hstack : g.stack = argsL.reverse ++ rest) (hW : 2 * g.monitorRoom + (rest.map fun v => v.category).sum ≤ W9) (hdg : decode c.code g.pc = .ok (.invokestatic index, 3))
    (hpre : ∀ vm₁, s.WarmedH vm₁ → Pre ⟨T.setVm vm₁, locs, cells, slots⟩ argsL.toArray) :
    (∃ (v : Option Value) (vm₁ : Vm) (B : Pt), s.WarmedH vm₁ ∧ Stand p l e R s m args below meth c B.U B.locs B.cells B.slots ∧ Post ⟨T.setVm vm₁, locs, cells, slots⟩ argsL.toArray v B ∧
      ∀ target, Steps p.tables e below (B.U.setTop { g with pc := g.pc + 3, stack := v.toList ++ rest }) target → Steps p.tables e below (T.setTop g) target) ∨
    (∃ (q : Addr) (vm₁ : Vm) (B : Pt), s.WarmedH vm₁ ∧ Stand p l e R s m args below meth c B.U B.locs B.cells B.slots ∧ PostX ⟨T.setVm vm₁, locs, cells, slots⟩ argsL.toArray q B ∧
      Steps p.tables e below (T.setTop g) ((B.U.setTop { g with stack := rest }).pushFrame (.throwing q))) := by
  obtain ⟨mk, methM, cM, hnamed, hmethM, -, -, -, -, -, -, hsigM⟩ := Cond.codeWith_spec hcode
  have hstatic : methM.isStatic = true := Cond.static_spec hnamed hmethM hstat
  obtain ⟨kP, hkP, -⟩ := className_of_methodNamed hnamed
  have hinitP : kP.init = .initialized := Cond.initialized_spec (findClass_of_methodNamed hnamed) hkP hinit
  obtain ⟨vm₁, X₁, hstep₁⟩ := X.invokestatic hexec hown hlink hnamed hmethM hstatic hkP hinitP hy (g := g) hg (argsL := argsL) (rest := rest) (hlen _ hsigM) hstack hdg
  rcases hK m meth c ⟨T.setVm vm₁, locs, cells, slots⟩ { g with stack := rest } (.invokestatic index) mk argsL.toArray X₁ hg hsize hdg hW (X₁.named hnamed) (hpre vm₁ X₁.warmed) with ⟨v, B, X', hpost, hsteps⟩ | ⟨q, B, X', hpost, hsteps⟩
  · exact Or.inl ⟨v, vm₁, B, X₁.warmed, X', hpost, fun target h => hstep₁ _ fun acts => by rw [doInvoke_state]; exact hsteps.trans h⟩
  · exact Or.inr ⟨q, vm₁, B, X₁.warmed, X', hpost, hstep₁ _ fun acts => by rw [doInvoke_state]; exact hsteps⟩
theorem vx_callVW (X : Stand p l e R s m args below meth c T locs cells slots) (hexec : p.tables.exec = Jvm.exec) {own C : String} {index : Nat} {y : MethodName} {bytes : ByteArray} {maxL : Nat} {ret : Option FieldType} {hh : List (Nat × Nat × Nat × Nat)}
    (hown : s.vm.findClass own = some m.cls) (hlink : (Cond.methodLink own index y).before args s = true) (hinst : (Cond.instanceMethod y).before args s = true) (hsel : (Cond.selects C y y).before args s = true)
    (hcode : (Cond.codeWith y bytes maxL ret hh).before args s = true) (hy : y.cls ≠ "java/lang/invoke/MethodHandle" ∧ y.cls ≠ "java/lang/invoke/VarHandle")
    {W9 : Nat} {Pre : Pt → Array Value → Prop} {Post : Pt → Array Value → Option Value → Pt → Prop} (hK : Back l R p e below s args y 3 W9 Pre Post)
    {b : Addr} {cellB : Cell} (hcell : T.heap[b]? = some cellB) (hobj : cellB.vm.isStatics = false) (hcls : s.vm.findClass C = some cellB.cls)
    {g : JFrame} (hg : g.method = m) (hsize : g.locals.size = c.maxLocals) {argsL rest : List Value} (hlen : ∀ sig, parseMethodDescriptor y.desc = some sig → argsL.length = sig.parameters.length)
    (hstack : g.stack = argsL.reverse ++ .ref b :: rest) (hW : 2 * g.monitorRoom + (rest.map fun v => v.category).sum ≤ W9) (hdg : decode c.code g.pc = .ok (.invokevirtual index, 3))
    (hpre : ∀ vm₁, s.WarmedH vm₁ → Pre ⟨T.setVm vm₁, locs, cells, slots⟩ (Value.ref b :: argsL).toArray) :
    ∃ (v : Option Value) (vm₁ : Vm) (B : Pt), s.WarmedH vm₁ ∧ Stand p l e R s m args below meth c B.U B.locs B.cells B.slots ∧ Post ⟨T.setVm vm₁, locs, cells, slots⟩ (Value.ref b :: argsL).toArray v B ∧
      ∀ target, Steps p.tables e below (B.U.setTop { g with pc := g.pc + 3, stack := v.toList ++ rest }) target → Steps p.tables e below (T.setTop g) target := by
  obtain ⟨mk, methM, hnamed, hmethM, hstM, habM⟩ := Cond.instanceMethod_spec hinst
  obtain ⟨m8, methM', cM, hn8, hmethM', -, -, -, -, -, -, hsigM⟩ := Cond.codeWith_spec hcode
  cases Option.some.inj (hn8.symm.trans hnamed)
  cases hmethM.symm.trans hmethM'
  obtain ⟨c2, r2, m2, q1, q2, q3, q4, kP, hkP, hkPi⟩ := Cond.selects_spec hsel
  cases hcls.symm.trans q1
  cases (State.methodFound?_of_named hnamed hy).symm.trans q2
  cases hnamed.symm.trans q3
  have hselP : selectMethod e.platform s.vm cellB.cls mk = .method mk := by rw [Launch.admits_selectMethod X.admits]; exact q4
  obtain ⟨vm₁, X₁, hstep₁⟩ := X.invokevirtual hexec hown hlink hnamed hmethM hstM hkP hkPi hy (a := b) (cell := cellB) hcell
    (fun z h => by rw [h] at hobj; cases hobj) hselP hmethM habM hkP hkPi (g := g) hg (argsL := argsL) (rest := rest) (hlen _ hsigM) hstack hdg
  obtain ⟨v, B, X', hpost, hsteps⟩ := hK m meth c ⟨T.setVm vm₁, locs, cells, slots⟩ { g with stack := rest } (.invokevirtual index) mk (Value.ref b :: argsL).toArray X₁ hg hsize hdg hW (X₁.named hnamed) (hpre vm₁ X₁.warmed)
  exact ⟨v, vm₁, B, X₁.warmed, X', hpost, fun target h => hstep₁ _ fun acts => by rw [doInvoke_state]; exact hsteps.trans h⟩
abbrev vx_CVW (R : Room) (s : State) (args : Array Value) (own C : String) (index : Nat) (y : MethodName) (bytes : ByteArray) (maxL : Nat) (ret : Option FieldType) (hh : List (Nat × Nat × Nat × Nat)) (ws : List Cond) (rm : Room) (mc ms n : Nat) : Prop :=
  (rm.cells = mc ∧ rm.slots = ms ∧ rm.frames + 1 ≤ R.frames ∧ 8 + (maxL + 11) + rm.locals ≤ R.locals ∧ (∀ w ∈ ws, ∀ (a' : Array Value) (U : State), s.WarmedH U.vm → w.before a' U = true) ∧ Cond.codeWith y bytes maxL ret hh ∈ ws) ∧
  (Cond.codeWith y bytes maxL ret hh).before args s = true ∧ (Cond.initialized y.cls).before args s = true ∧ (y.cls ≠ "java/lang/invoke/MethodHandle" ∧ y.cls ≠ "java/lang/invoke/VarHandle") ∧
  (∀ sig, parseMethodDescriptor y.desc = some sig → n = sig.parameters.length) ∧ (Cond.methodLink own index y).before args s = true ∧ (Cond.instanceMethod y).before args s = true ∧ (Cond.selects C y y).before args s = true
theorem vx_cwVW {own C : String} {index maxL mc ms : Nat} {y : MethodName} {bytes : ByteArray} {ret : Option FieldType} {hh : List (Nat × Nat × Nat × Nat)} {Ts ws ws' : List Cond} {rm : Room} (n : Nat) (ht : ∀ w ∈ Ts, w.before args s = true) (hT : GoodIn Ts (wsV own index C y ws)) (hw : ws = Cond.codeWith y bytes maxL ret hh :: ws') (hrc : rm.cells = mc) (hrs : rm.slots = ms)
    (hd : y.cls = C ∧ y.cls ≠ "java/lang/invoke/MethodHandle" ∧ y.cls ≠ "java/lang/invoke/VarHandle" ∧ (parseMethodDescriptor y.desc).map (fun d => d.parameters.length) = some n) (hR : rm.frames + 1 ≤ R.frames ∧ 8 + (maxL + 11) + rm.locals ≤ R.locals) :
    vx_CVW R s args own C index y bytes maxL ret hh ws rm mc ms n := by
  obtain ⟨hC, hd⟩ := hd
  subst hC
  have ok : ∀ w ∈ wsV own index y.cls y ws, w.before args s = true := fun w h => ht w (hT w h).1
  have hG : GoodIn Ts ws := fun w h => hT w (by unfold wsV; exact List.mem_append_right _ h)
  have hc : Cond.codeWith y bytes maxL ret hh ∈ ws := by rw [hw]; exact List.mem_cons_self
  refine ⟨⟨hrc, hrs, hR.1, hR.2, pay_in ht hG, hc⟩, ht _ (hG _ hc).1, ok _ (by simp [wsV]), ⟨hd.1, hd.2.1⟩, fun sig h => ?_, ok _ (by simp [wsV]), ok _ (by simp [wsV]), ok _ (by simp [wsV])⟩
  have h2 := hd.2.2
  rw [h] at h2
  exact (Option.some.inj h2).symm
theorem vx_runVW {y : MethodName} {bytes cc : ByteArray} {maxL nL mc ms n index : Nat} {ret : Option FieldType} {hh : List (Nat × Nat × Nat × Nat)} {ws : List Cond} {rm : Room} {Pc : Array Value → State → Prop} {Qc : Array Value → State → Outcome → State → Prop} {free : Addr → Prop} {Ts : List Cond} {own C : String} {b : Addr} {As rest : List Value} {g : JFrame}
    (S : CallFix p m c cc nL s args Ts own) (hM : Met l y ws rm Pc Qc mc ms free) (cw : vx_CVW R s args own C index y bytes maxL ret hh ws rm mc ms n) (hp : PreV s H C b Pc As)
    (hg : g.method = m) (hn : As.length = n) (hsize : g.locals.size = nL) (hstack : g.stack = As.reverse ++ .ref b :: rest) (hW : 2 * g.monitorRoom + (rest.map fun v => v.category).sum ≤ 8) (hdg : decode cc g.pc = .ok (.invokevirtual index, 3)) (hf : cells + mc ≤ R.cells ∧ slots + ms ≤ R.slots) :
    va_Run p l e R s m args below meth c H locs cells slots mc ms g rest (Qc (Value.ref b :: As).toArray) free := by
  obtain ⟨⟨hrc, hrs, hfr, hlo, hws, hcw⟩, hcode, hini, hy, hlen, hl, hin, hse⟩ := cw
  have hK : Back l R p e below s args y 3 8 (PreOf R mc ms Pc) (PostOf Qc mc ms free) := va_backW (hh := hh) (bytes := bytes) (maxL := maxL) (ret := ret) hM hp.1 hrc hrs hfr hlo hws hcw (fun a' U hW => word_at hW (Or.inl (by first | rfl | simp [Cond.onTables, Cond.keeps, Cond.steady])) hini)
  obtain ⟨hx, hb, hml, ho, -⟩ := S
  obtain ⟨-, ⟨cellB, hcB, hoB, hclB⟩, hPc⟩ := hp
  intro T hT X
  obtain ⟨v, vm₁, ⟨U', l2, c2, s2⟩, hW₁, X', ⟨g', mk, t, L, e1, e2, hq, h1, hL, h2, h3⟩, st⟩ := vx_callVW X hx (C := C) (hh := hh) (bytes := bytes) (maxL := maxL) (ret := ret) ho hl hin hse hcode hy hK (by rw [hT]; exact hcB) hoB hclB hg (hsize.trans hml.symm) (argsL := As) (rest := rest) (fun sig h => hn.trans (hlen sig h)) hstack hW (by rw [hb]; exact hdg)
    (fun vm₁ hW₁ => ⟨hf.1, hf.2, hPc (T.setVm vm₁) hT hW₁⟩)
  dsimp only [Pt.U, Pt.locs, Pt.cells, Pt.slots] at X' e1 e2 h1 h2 h3 st
  subst h1; subst h2; subst h3
  exact ⟨v, (T.setVm vm₁).calling g' mk (Value.ref b :: As).toArray, t, U', L, hT, X', hL, e1, e2, hq, st⟩
section
variable {y : MethodName} {bytes cc : ByteArray} {maxL nL mc ms n index : Nat} {ret : Option FieldType} {ws : List Cond} {rm : Room} {Pc : Array Value → State → Prop} {Qc : Array Value → State → Outcome → State → Prop} {XC : String → State → State → Prop} {free : Addr → Prop} {Ts : List Cond} {own C : String} {b : Addr} {As rest : List Value} {g : JFrame}
theorem vx_runVX {hh : List (Nat × Nat × Nat × Nat)} (S : CallFix p m c cc nL s args Ts own) (hM : vx_Met l y ws rm Pc Qc XC mc ms free) (cw : vx_CVW R s args own C index y bytes maxL ret hh ws rm mc ms n) (hp : PreV s H C b Pc As)
    (hg : g.method = m) (hn : As.length = n) (hsize : g.locals.size = nL) (hstack : g.stack = As.reverse ++ .ref b :: rest) (hW : 2 * g.monitorRoom + (rest.map fun v => v.category).sum ≤ 8) (hdg : decode cc g.pc = .ok (.invokevirtual index, 3)) (hf : cells + mc ≤ R.cells ∧ slots + ms ≤ R.slots) :
    vx_Run p l e R s m args below meth c H locs cells slots mc ms g rest (Qc (Value.ref b :: As).toArray) XC free := by
  obtain ⟨⟨hrc, hrs, hfr, hlo, hws, hcw⟩, hcode, hini, hy, hlen, hl, hin, hse⟩ := cw
  have hK : vx_Back l R p e below s args y 3 8 (PreOf R mc ms Pc) (PostOf Qc mc ms free) (vx_Post XC mc ms free) := vx_backW (hh := hh) (bytes := bytes) (maxL := maxL) (ret := ret) hM hp.1 hrc hrs hfr hlo hws hcw (fun a' U hW => word_at hW (Or.inl (by first | rfl | simp [Cond.onTables, Cond.keeps, Cond.steady])) hini)
  obtain ⟨hx, hb, hml, ho, -⟩ := S
  obtain ⟨-, ⟨cellB, hcB, hoB, hclB⟩, hPc⟩ := hp
  intro T hT X
  rcases vx_callVX X hx (C := C) (hh := hh) (bytes := bytes) (maxL := maxL) (ret := ret) ho hl hin hse hcode hy hK (by rw [hT]; exact hcB) hoB hclB hg (hsize.trans hml.symm) (argsL := As) (rest := rest) (fun sig h => hn.trans (hlen sig h)) hstack hW (by rw [hb]; exact hdg)
    (fun vm₁ hW₁ => ⟨hf.1, hf.2, hPc (T.setVm vm₁) hT hW₁⟩) with ⟨v, vm₁, ⟨U', l2, c2, s2⟩, hW₁, X', ⟨g', mk, t, L, e1, e2, hq, h1, hL, h2, h3⟩, st⟩ | ⟨q, vm₁, ⟨U', l2, c2, s2⟩, hW₁, X', ⟨g', mk, t, L, E, ce, e1, e2, hq, hce, hcv, hcl, h1, hL, h2, h3⟩, st⟩
  · dsimp only [Pt.U, Pt.locs, Pt.cells, Pt.slots] at X' e1 e2 h1 h2 h3 st
    subst h1; subst h2; subst h3
    exact Or.inl ⟨v, (T.setVm vm₁).calling g' mk (Value.ref b :: As).toArray, t, U', L, hT, X', hL, e1, e2, hq, st⟩
  · dsimp only [Pt.U, Pt.locs, Pt.cells, Pt.slots] at X' e1 e2 h1 h2 h3 st hcl
    subst h1; subst h2; subst h3
    exact Or.inr ⟨q, (T.setVm vm₁).calling g' mk (Value.ref b :: As).toArray, t, U', L, E, ce, hT, X', hL, e1, e2, hq, hce, hcv, vx_cls hW₁ hcl, st⟩
theorem vx_runSX {hh : List (Nat × Nat × Nat × Nat)} (S : CallFix p m c cc nL s args Ts own) (hM : vx_Met l y ws rm Pc Qc XC mc ms free) (cw : vx_CSW R s args own index y bytes maxL ret hh ws rm mc ms n) (hp : PreS s H Pc As)
    (hg : g.method = m) (hn : As.length = n) (hsize : g.locals.size = nL) (hstack : g.stack = As.reverse ++ rest) (hW : 2 * g.monitorRoom + (rest.map fun v => v.category).sum ≤ 8) (hdg : decode cc g.pc = .ok (.invokestatic index, 3)) (hf : cells + mc ≤ R.cells ∧ slots + ms ≤ R.slots) :
    vx_Run p l e R s m args below meth c H locs cells slots mc ms g rest (Qc As.toArray) XC free := by
  obtain ⟨⟨hrc, hrs, hfr, hlo, hws, hcw⟩, hcode, hini, hy, hlen, hl, hstt⟩ := cw
  have hK : vx_Back l R p e below s args y 3 8 (PreOf R mc ms Pc) (PostOf Qc mc ms free) (vx_Post XC mc ms free) := vx_backW (hh := hh) (bytes := bytes) (maxL := maxL) (ret := ret) hM hp.1 hrc hrs hfr hlo hws hcw (fun a' U hW => word_at hW (Or.inl (by first | rfl | simp [Cond.onTables, Cond.keeps, Cond.steady])) hini)
  obtain ⟨hx, hb, hml, ho, -⟩ := S
  intro T hT X
  rcases vx_callSX X hx (hh := hh) (bytes := bytes) (maxL := maxL) (ret := ret) ho hl hstt hini hcode hy hK hg (hsize.trans hml.symm) (argsL := As) (rest := rest) (fun sig h => hn.trans (hlen sig h)) hstack hW (by rw [hb]; exact hdg)
    (fun vm₁ hW₁ => ⟨hf.1, hf.2, hp.2 (T.setVm vm₁) hT hW₁⟩) with ⟨v, vm₁, ⟨U', l2, c2, s2⟩, hW₁, X', ⟨g', mk, t, L, e1, e2, hq, h1, hL, h2, h3⟩, st⟩ | ⟨q, vm₁, ⟨U', l2, c2, s2⟩, hW₁, X', ⟨g', mk, t, L, E, ce, e1, e2, hq, hce, hcv, hcl, h1, hL, h2, h3⟩, st⟩
  · dsimp only [Pt.U, Pt.locs, Pt.cells, Pt.slots] at X' e1 e2 h1 h2 h3 st
    subst h1; subst h2; subst h3
    exact Or.inl ⟨v, (T.setVm vm₁).calling g' mk As.toArray, t, U', L, hT, X', hL, e1, e2, hq, st⟩
  · dsimp only [Pt.U, Pt.locs, Pt.cells, Pt.slots] at X' e1 e2 h1 h2 h3 st hcl
    subst h1; subst h2; subst h3
    exact Or.inr ⟨q, (T.setVm vm₁).calling g' mk As.toArray, t, U', L, E, ce, hT, X', hL, e1, e2, hq, hce, hcv, vx_cls hW₁ hcl, st⟩
end
end VXH
theorem vx_ofWH {l : Launch} {y : MethodName} {ws ws' : List Cond} {rm : Room} {Pc : Array Value → State → Prop} {Qc : Array Value → State → Outcome → State → Prop} {XC : String → State → State → Prop} {mc ms : Nat} {free : Addr → Prop} {cc : ByteArray} {maxL : Nat} {ret : Option FieldType} {hh : List (Nat × Nat × Nat × Nat)}
    (hy : plainName y.cls = true) (hw : ws = Cond.codeWith y cc maxL ret hh :: ws')
    (body : ∀ p e s m args below meth c s₁, BodyLoose p l y (headSpec ws rm) cc maxL ret e s m args below meth c s₁ → c.maxLocals = maxL → Pc args s →
      W p l e (headSpec ws rm).room s m args below meth c s.heap [] 0 0 (vx_MQ below Qc XC args s mc ms free) (entryFrame m args maxL)) : vx_Met l y ws rm Pc Qc XC mc ms free := by
  refine MetFree.of_bodyS (code := cc) (maxLocals := maxL) (ret := ret) hy ?_ ?_
  · intro args s m h hn
    obtain ⟨m9, meth, c, hn9, h1, h2, h3, h4, -, h5, h6, -⟩ := Cond.codeWith_spec (atoms_spec (ws := ws) h _ (by rw [hw]; exact List.mem_cons_self))
    cases hn.symm.trans hn9
    exact ⟨meth, c, h1, h2, h3, h4, h5, h6⟩
  · intro p e s m args below meth c s₁ B hml hP _
    have hh0 : s₁.heap = s.heap := by rw [B.state]; rfl
    obtain ⟨t, a1, o, b1, b2, b3⟩ := body p e s m args below meth c s₁ B hml hP s₁ hh0 (Stand.of_body B)
    exact ⟨t, o, a1, b1, b2, b3⟩
/-! ===== END ===== -/
end
section
/-! ===== BEGIN printed: names, fields, word lists, decode rows ===== -/
def RX0 : String := "CuttingTable$Load"
def TX0 : u_T := fun k => match k with
  | 0 => ("CuttingTable$Load", "sort", "I", true)
  | 1 => ("CuttingTable$Load", "number", "I", true)
  | _ => ("CuttingTable$Load", "frames", "[J", true)
def tyX0 : Nat → FieldType := fun k => match k with
  | 0 => .int
  | 1 => .int
  | _ => .array .long
abbrev wsX00 : List Cond := u_ws RX0 TX0 3
theorem nmX0 : ∀ a, a < 3 → ∀ b, b < 3 → a ≠ b → (TX0 a).2.1 ≠ (TX0 b).2.1 := by decide +kernel
theorem tyX0_ok : ∀ k, k < 3 → parseFieldDescriptor (TX0 k).2.2.1 = some (tyX0 k) := by decide +kernel
abbrev cX0_init : ByteArray := prog_2_method_1_code
def yX0_init : MethodName := ⟨RX0, "<init>", "(II[J)V"⟩
def RX1 : String := "CuttingTable"
def TX1 : u_T := fun k => match k with
  | 0 => ("CuttingTable", "spindles", "[LCuttingTable$Load;", true)
  | 1 => ("CuttingTable", "cuts", "[I", true)
  | 2 => ("CuttingTable", "cutCount", "I", false)
  | 3 => ("CuttingTable", "binFrames", "[J", true)
  | 4 => ("CuttingTable", "binReel", "LCuttingTable$Load;", false)
  | 5 => ("CuttingTable", "binPlace", "I", false)
  | 6 => ("CuttingTable", "binCount", "I", false)
  | 7 => ("CuttingTable", "lastRefusal", "I", false)
  | 8 => ("CuttingTable", "lastWay", "I", false)
  | 9 => ("CuttingTable", "lastAhead", "I", false)
  | 10 => ("CuttingTable", "reelsMade", "I", false)
  | 11 => ("CuttingTable", "splicesDone", "I", false)
  | 12 => ("CuttingTable", "framesGone", "I", false)
  | _ => ("CuttingTable", "shotsMade", "I", false)
def tyX1 : Nat → FieldType := fun k => match k with
  | 0 => .array (.object "CuttingTable$Load")
  | 1 => .array .int
  | 2 => .int
  | 3 => .array .long
  | 4 => .object "CuttingTable$Load"
  | 5 => .int
  | 6 => .int
  | 7 => .int
  | 8 => .int
  | 9 => .int
  | 10 => .int
  | 11 => .int
  | 12 => .int
  | _ => .int
abbrev wsX10 : List Cond := u_ws RX1 TX1 14
theorem nmX1 : ∀ a, a < 14 → ∀ b, b < 14 → a ≠ b → (TX1 a).2.1 ≠ (TX1 b).2.1 := by decide +kernel
theorem tyX1_ok : ∀ k, k < 14 → parseFieldDescriptor (TX1 k).2.2.1 = some (tyX1 k) := by decide +kernel
abbrev cX1_init : ByteArray := prog_1_method_1_code
def yX1_init : MethodName := ⟨RX1, "<init>", "()V"⟩
abbrev cX1_thread : ByteArray := prog_1_method_2_code
def yX1_thread : MethodName := ⟨RX1, "thread", "(III)I"⟩
abbrev cX1_tag : ByteArray := prog_1_method_3_code
def yX1_tag : MethodName := ⟨RX1, "tag", "(II)I"⟩
abbrev cX1_share : ByteArray := prog_1_method_4_code
def yX1_share : MethodName := ⟨RX1, "share", "(II)I"⟩
abbrev cX1_copy : ByteArray := prog_1_method_5_code
def yX1_copy : MethodName := ⟨RX1, "copy", "(II)I"⟩
abbrev cX1_clear : ByteArray := prog_1_method_6_code
def yX1_clear : MethodName := ⟨RX1, "clear", "(I)I"⟩
abbrev cX1_put : ByteArray := prog_1_method_7_code
def yX1_put : MethodName := ⟨RX1, "put", "(IIJ)I"⟩
abbrev cX1_shoot : ByteArray := prog_1_method_8_code
def yX1_shoot : MethodName := ⟨RX1, "shoot", "(IIII)I"⟩
abbrev cX1_splice : ByteArray := prog_1_method_9_code
def yX1_splice : MethodName := ⟨RX1, "splice", "(IIIII)I"⟩
abbrev cX1_open : ByteArray := prog_1_method_10_code
def yX1_open : MethodName := ⟨RX1, "open", "(III)I"⟩
abbrev cX1_close : ByteArray := prog_1_method_11_code
def yX1_close : MethodName := ⟨RX1, "close", "(III)I"⟩
abbrev cX1_loop : ByteArray := prog_1_method_12_code
def yX1_loop : MethodName := ⟨RX1, "loop", "(IIII)I"⟩
abbrev cX1_note : ByteArray := prog_1_method_13_code
def yX1_note : MethodName := ⟨RX1, "note", "(IIIII)I"⟩
abbrev cX1_play : ByteArray := prog_1_method_14_code
def yX1_play : MethodName := ⟨RX1, "play", "()I"⟩
abbrev cX1_takeBack : ByteArray := prog_1_method_15_code
def yX1_takeBack : MethodName := ⟨RX1, "takeBack", "()I"⟩
abbrev cX1_refusal : ByteArray := prog_1_method_16_code
def yX1_refusal : MethodName := ⟨RX1, "refusal", "(I)I"⟩
abbrev cX1_look : ByteArray := prog_1_method_17_code
def yX1_look : MethodName := ⟨RX1, "look", "(II)I"⟩
abbrev cX1_at : ByteArray := prog_1_method_18_code
def yX1_at : MethodName := ⟨RX1, "at", "(II)J"⟩
abbrev cX1_alike : ByteArray := prog_1_method_19_code
def yX1_alike : MethodName := ⟨RX1, "alike", "(II)Z"⟩
abbrev cX1_count : ByteArray := prog_1_method_20_code
def yX1_count : MethodName := ⟨RX1, "count", "(I)I"⟩
abbrev cX1_isSpindle : ByteArray := prog_1_method_21_code
def yX1_isSpindle : MethodName := ⟨RX1, "isSpindle", "(I)Z"⟩
abbrev cX1_isOfNumbers : ByteArray := prog_1_method_22_code
def yX1_isOfNumbers : MethodName := ⟨RX1, "isOfNumbers", "(I)Z"⟩
abbrev cX1_loadOn : ByteArray := prog_1_method_23_code
def yX1_loadOn : MethodName := ⟨RX1, "loadOn", "(I)LCuttingTable$Load;"⟩
abbrev cX1_lowestWith : ByteArray := prog_1_method_24_code
def yX1_lowestWith : MethodName := ⟨RX1, "lowestWith", "(LCuttingTable$Load;)I"⟩
abbrev cX1_sameFrames : ByteArray := prog_1_method_25_code
def yX1_sameFrames : MethodName := ⟨RX1, "sameFrames", "([J[J)Z"⟩
abbrev cX1_settle : ByteArray := prog_1_method_26_code
def yX1_settle : MethodName := ⟨RX1, "settle", "(III)I"⟩
abbrev cX1_refusalOfReel : ByteArray := prog_1_method_27_code
def yX1_refusalOfReel : MethodName := ⟨RX1, "refusalOfReel", "(I)I"⟩
abbrev cX1_refusalOfFrame : ByteArray := prog_1_method_28_code
def yX1_refusalOfFrame : MethodName := ⟨RX1, "refusalOfFrame", "(IZI)I"⟩
abbrev cX1_refusalOfGap : ByteArray := prog_1_method_29_code
def yX1_refusalOfGap : MethodName := ⟨RX1, "refusalOfGap", "(III)I"⟩
abbrev cX1_refusalOfPair : ByteArray := prog_1_method_30_code
def yX1_refusalOfPair : MethodName := ⟨RX1, "refusalOfPair", "(II)I"⟩
abbrev cX1_wayOut : ByteArray := prog_1_method_31_code
def yX1_wayOut : MethodName := ⟨RX1, "wayOut", "(IJIII)I"⟩
abbrev cX1_doSplice : ByteArray := prog_1_method_32_code
def yX1_doSplice : MethodName := ⟨RX1, "doSplice", "(IIIJI)I"⟩
abbrev cX1_playCut : ByteArray := prog_1_method_33_code
def yX1_playCut : MethodName := ⟨RX1, "playCut", "(I)I"⟩
abbrev cX1_borneAhead : ByteArray := prog_1_method_34_code
def yX1_borneAhead : MethodName := ⟨RX1, "borneAhead", "([JIII)I"⟩
abbrev cX1_blankFrames : ByteArray := prog_1_method_35_code
def yX1_blankFrames : MethodName := ⟨RX1, "blankFrames", "([JII)V"⟩
abbrev cX1_fillBin : ByteArray := prog_1_method_36_code
def yX1_fillBin : MethodName := ⟨RX1, "fillBin", "(LCuttingTable$Load;II)V"⟩
abbrev cX1_emptyBin : ByteArray := prog_1_method_37_code
def yX1_emptyBin : MethodName := ⟨RX1, "emptyBin", "()V"⟩
abbrev cX1_fitted : ByteArray := prog_1_method_38_code
def yX1_fitted : MethodName := ⟨RX1, "fitted", "(IJ)J"⟩
abbrev cX1_newShot : ByteArray := prog_1_method_39_code
def yX1_newShot : MethodName := ⟨RX1, "newShot", "(II)J"⟩
abbrev cX1_shotOf : ByteArray := prog_1_method_40_code
def yX1_shotOf : MethodName := ⟨RX1, "shotOf", "(III)J"⟩
abbrev cX1_kindOf : ByteArray := prog_1_method_41_code
def yX1_kindOf : MethodName := ⟨RX1, "kindOf", "(J)I"⟩
abbrev cX1_numberOf : ByteArray := prog_1_method_42_code
def yX1_numberOf : MethodName := ⟨RX1, "numberOf", "(J)I"⟩
abbrev cX1_bears : ByteArray := prog_1_method_43_code
def yX1_bears : MethodName := ⟨RX1, "bears", "(IJ)Z"⟩
def RX2 : String := "CuttingTableModel"
def TX2 : u_T := fun k => match k with
  | 0 => ("CuttingTableModel", "stocks", "[I", true)
  | 1 => ("CuttingTableModel", "sizes", "[I", true)
  | 2 => ("CuttingTableModel", "cells", "[J", true)
  | 3 => ("CuttingTableModel", "reels", "I", false)
  | 4 => ("CuttingTableModel", "lies", "[I", true)
  | 5 => ("CuttingTableModel", "which", "[I", true)
  | 6 => ("CuttingTableModel", "tagNumbers", "[I", true)
  | 7 => ("CuttingTableModel", "tags", "I", false)
  | 8 => ("CuttingTableModel", "shotNumbers", "[I", true)
  | 9 => ("CuttingTableModel", "shotKinds", "[I", true)
  | 10 => ("CuttingTableModel", "shots", "I", false)
  | 11 => ("CuttingTableModel", "list", "[I", true)
  | 12 => ("CuttingTableModel", "cuts", "I", false)
  | 13 => ("CuttingTableModel", "bin", "[J", true)
  | 14 => ("CuttingTableModel", "binReel", "I", false)
  | 15 => ("CuttingTableModel", "binFrom", "I", false)
  | 16 => ("CuttingTableModel", "binMany", "I", false)
  | 17 => ("CuttingTableModel", "taken", "[J", true)
  | 18 => ("CuttingTableModel", "refused", "I", false)
  | 19 => ("CuttingTableModel", "way", "I", false)
  | 20 => ("CuttingTableModel", "ahead", "I", false)
  | 21 => ("CuttingTableModel", "splices", "I", false)
  | 22 => ("CuttingTableModel", "went", "I", false)
  | _ => ("CuttingTableModel", "thrown", "I", false)
def tyX2 : Nat → FieldType := fun k => match k with
  | 0 => .array .int
  | 1 => .array .int
  | 2 => .array .long
  | 3 => .int
  | 4 => .array .int
  | 5 => .array .int
  | 6 => .array .int
  | 7 => .int
  | 8 => .array .int
  | 9 => .array .int
  | 10 => .int
  | 11 => .array .int
  | 12 => .int
  | 13 => .array .long
  | 14 => .int
  | 15 => .int
  | 16 => .int
  | 17 => .array .long
  | 18 => .int
  | 19 => .int
  | 20 => .int
  | 21 => .int
  | 22 => .int
  | _ => .int
abbrev wsX20 : List Cond := u_ws RX2 TX2 24
theorem nmX2 : ∀ a, a < 24 → ∀ b, b < 24 → a ≠ b → (TX2 a).2.1 ≠ (TX2 b).2.1 := by decide +kernel
theorem tyX2_ok : ∀ k, k < 24 → parseFieldDescriptor (TX2 k).2.2.1 = some (tyX2 k) := by decide +kernel
abbrev cX2_init : ByteArray := prog_4_method_1_code
def yX2_init : MethodName := ⟨RX2, "<init>", "()V"⟩
abbrev cX2_thrown : ByteArray := prog_4_method_2_code
def yX2_thrown : MethodName := ⟨RX2, "thrown", "()I"⟩
abbrev cX2_isSpindle : ByteArray := prog_4_method_3_code
def yX2_isSpindle : MethodName := ⟨RX2, "isSpindle", "(I)Z"⟩
abbrev cX2_isOfNumbers : ByteArray := prog_4_method_4_code
def yX2_isOfNumbers : MethodName := ⟨RX2, "isOfNumbers", "(I)Z"⟩
abbrev cX2_told : ByteArray := prog_4_method_5_code
def yX2_told : MethodName := ⟨RX2, "told", "(I)I"⟩
abbrev cX2_begin : ByteArray := prog_4_method_6_code
def yX2_begin : MethodName := ⟨RX2, "begin", "()V"⟩
abbrev cX2_lay : ByteArray := prog_4_method_7_code
def yX2_lay : MethodName := ⟨RX2, "lay", "(III)V"⟩
abbrev cX2_newReel : ByteArray := prog_4_method_8_code
def yX2_newReel : MethodName := ⟨RX2, "newReel", "(II)I"⟩
abbrev cX2_thread : ByteArray := prog_4_method_9_code
def yX2_thread : MethodName := ⟨RX2, "thread", "(III)I"⟩
abbrev cX2_tag : ByteArray := prog_4_method_10_code
def yX2_tag : MethodName := ⟨RX2, "tag", "(II)I"⟩
abbrev cX2_share : ByteArray := prog_4_method_11_code
def yX2_share : MethodName := ⟨RX2, "share", "(II)I"⟩
abbrev cX2_noReel : ByteArray := prog_4_method_12_code
def yX2_noReel : MethodName := ⟨RX2, "noReel", "(I)I"⟩
abbrev cX2_copy : ByteArray := prog_4_method_13_code
def yX2_copy : MethodName := ⟨RX2, "copy", "(II)I"⟩
abbrev cX2_clear : ByteArray := prog_4_method_14_code
def yX2_clear : MethodName := ⟨RX2, "clear", "(I)I"⟩
abbrev cX2_cutTo : ByteArray := prog_4_method_15_code
def yX2_cutTo : MethodName := ⟨RX2, "cutTo", "(IJ)J"⟩
abbrev cX2_put : ByteArray := prog_4_method_16_code
def yX2_put : MethodName := ⟨RX2, "put", "(IIJ)I"⟩
abbrev cX2_bears : ByteArray := prog_4_method_17_code
def yX2_bears : MethodName := ⟨RX2, "bears", "(IJ)Z"⟩
abbrev cX2_shoot : ByteArray := prog_4_method_18_code
def yX2_shoot : MethodName := ⟨RX2, "shoot", "(IIII)I"⟩
abbrev cX2_wayOf : ByteArray := prog_4_method_19_code
def yX2_wayOf : MethodName := ⟨RX2, "wayOf", "(JJJII)I"⟩
abbrev cX2_spliced : ByteArray := prog_4_method_20_code
def yX2_spliced : MethodName := ⟨RX2, "spliced", "(IJIJJ)I"⟩
abbrev cX2_goes : ByteArray := prog_4_method_21_code
def yX2_goes : MethodName := ⟨RX2, "goes", "(III)V"⟩
abbrev cX2_splice : ByteArray := prog_4_method_22_code
def yX2_splice : MethodName := ⟨RX2, "splice", "(IIIII)I"⟩
abbrev cX2_loop : ByteArray := prog_4_method_23_code
def yX2_loop : MethodName := ⟨RX2, "loop", "(IIII)I"⟩
abbrev cX2_note : ByteArray := prog_4_method_24_code
def yX2_note : MethodName := ⟨RX2, "note", "(IIIII)I"⟩
abbrev cX2_play : ByteArray := prog_4_method_25_code
def yX2_play : MethodName := ⟨RX2, "play", "()I"⟩
abbrev cX2_takeBack : ByteArray := prog_4_method_26_code
def yX2_takeBack : MethodName := ⟨RX2, "takeBack", "()I"⟩
abbrev cX2_noGap : ByteArray := prog_4_method_27_code
def yX2_noGap : MethodName := ⟨RX2, "noGap", "(III)I"⟩
abbrev cX2_open : ByteArray := prog_4_method_28_code
def yX2_open : MethodName := ⟨RX2, "open", "(III)I"⟩
abbrev cX2_close : ByteArray := prog_4_method_29_code
def yX2_close : MethodName := ⟨RX2, "close", "(III)I"⟩
abbrev cX2_refusal : ByteArray := prog_4_method_30_code
def yX2_refusal : MethodName := ⟨RX2, "refusal", "(I)I"⟩
abbrev cX2_look : ByteArray := prog_4_method_31_code
def yX2_look : MethodName := ⟨RX2, "look", "(II)I"⟩
abbrev cX2_at : ByteArray := prog_4_method_32_code
def yX2_at : MethodName := ⟨RX2, "at", "(II)J"⟩
abbrev cX2_alike : ByteArray := prog_4_method_33_code
def yX2_alike : MethodName := ⟨RX2, "alike", "(II)Z"⟩
abbrev cX2_count : ByteArray := prog_4_method_34_code
def yX2_count : MethodName := ⟨RX2, "count", "(I)I"⟩
def RJx8e188 : String := "java/lang/Cloneable"
def TJx8e188 : u_T := fun k => match k with
  | _ => ("", "", "", false)
def tyJx8e188 : Nat → FieldType := fun k => match k with
  | _ => .int
abbrev wsJx8e1880 : List Cond := u_ws RJx8e188 TJx8e188 0
theorem nmJx8e188 : ∀ a, a < 0 → ∀ b, b < 0 → a ≠ b → (TJx8e188 a).2.1 ≠ (TJx8e188 b).2.1 := by decide +kernel
theorem tyJx8e188_ok : ∀ k, k < 0 → parseFieldDescriptor (TJx8e188 k).2.2.1 = some (tyJx8e188 k) := by decide +kernel
def RJ0 : String := "java/lang/String"
def TJ0 : u_T := fun k => match k with
  | _ => ("", "", "", false)
def tyJ0 : Nat → FieldType := fun k => match k with
  | _ => .int
abbrev wsJ00 : List Cond := u_ws RJ0 TJ0 0
theorem nmJ0 : ∀ a, a < 0 → ∀ b, b < 0 → a ≠ b → (TJ0 a).2.1 ≠ (TJ0 b).2.1 := by decide +kernel
theorem tyJ0_ok : ∀ k, k < 0 → parseFieldDescriptor (TJ0 k).2.2.1 = some (tyJ0 k) := by decide +kernel
def RJ10 : String := "java/lang/System"
def TJ10 : u_T := fun k => match k with
  | _ => ("", "", "", false)
def tyJ10 : Nat → FieldType := fun k => match k with
  | _ => .int
abbrev wsJ100 : List Cond := u_ws RJ10 TJ10 0
theorem nmJ10 : ∀ a, a < 0 → ∀ b, b < 0 → a ≠ b → (TJ10 a).2.1 ≠ (TJ10 b).2.1 := by decide +kernel
theorem tyJ10_ok : ∀ k, k < 0 → parseFieldDescriptor (TJ10 k).2.2.1 = some (tyJ10 k) := by decide +kernel
def RL : String := "CuttingTableLaw"
abbrev cL_at : ByteArray := method_3_code
def yL_at : MethodName := ⟨RL, "at", "(LCuttingTable;II[J)I"⟩
abbrev cL_law : ByteArray := code
def yL_law : MethodName := ⟨RL, "law", "([I)Z"⟩
def wsX0_init : List Cond := .code yX0_init cX0_init 4 none :: ([.methodLink RX0 1 objectInit, .instanceMethod objectInit, .code objectInit ⟨#[0xb1]⟩ 1 none, .fieldLink RX0 7 "CuttingTable$Load" "sort" "I", .fieldLink RX0 13 "CuttingTable$Load" "number" "I", .fieldLink RX0 16 "CuttingTable$Load" "frames" "[J"] ++ wsX00)
def wsX1_init : List Cond := .code yX1_init cX1_init 1 none :: ([.methodLink RX1 1 objectInit, .instanceMethod objectInit, .code objectInit ⟨#[0xb1]⟩ 1 none, .classLink RX1 9 RX0, .fieldLink RX1 11 "CuttingTable" "spindles" "[LCuttingTable$Load;", .arrayClass .int, .fieldLink RX1 15 "CuttingTable" "cuts" "[I", .arrayClass .long, .fieldLink RX1 19 "CuttingTable" "binFrames" "[J"] ++ wsX10)
def wsX1_isSpindle : List Cond := .code yX1_isSpindle cX1_isSpindle 1 (some .boolean) :: ([])
def wsX1_settle : List Cond := .code yX1_settle cX1_settle 4 (some .int) :: ([.fieldLink RX1 108 "CuttingTable" "lastRefusal" "I", .fieldLink RX1 111 "CuttingTable" "lastWay" "I", .fieldLink RX1 114 "CuttingTable" "lastAhead" "I"] ++ wsX10)
def wsX1_thread_r1 : List Cond := [Cond.fieldLink RX1 11 "CuttingTable" "spindles" "[LCuttingTable$Load;", Cond.classLink RX1 9 RX0, Cond.instantiable RX0 3, Cond.initialized RX0, Cond.arrayClass .long, Cond.fieldLink RX1 34 "CuttingTable" "reelsMade" "I", Cond.methodLink RX1 23 yX1_isSpindle, Cond.static yX1_isSpindle, Cond.initialized RX1, Cond.code yX1_isSpindle cX1_isSpindle 1 (some .boolean), Cond.methodLink RX1 27 yX1_settle, Cond.instanceMethod yX1_settle, Cond.selects RX1 yX1_settle yX1_settle, Cond.code yX1_settle cX1_settle 4 (some .int), Cond.fieldLink RX1 108 "CuttingTable" "lastRefusal" "I", Cond.fieldLink RX1 111 "CuttingTable" "lastWay" "I", Cond.fieldLink RX1 114 "CuttingTable" "lastAhead" "I", Cond.methodLink RX1 31 yX0_init, Cond.instanceMethod yX0_init, Cond.code yX0_init cX0_init 4 none, Cond.methodLink RX0 1 objectInit, Cond.instanceMethod objectInit, Cond.code objectInit ⟨#[0xb1]⟩ 1 none, Cond.fieldLink RX0 7 "CuttingTable$Load" "sort" "I"]
def wsX1_thread_r2 : List Cond := [Cond.fieldLink RX0 13 "CuttingTable$Load" "number" "I", Cond.fieldLink RX0 16 "CuttingTable$Load" "frames" "[J"]
def wsX1_thread : List Cond := .code yX1_thread cX1_thread 4 (some .int) :: ((wsX1_thread_r1 ++ wsX1_thread_r2) ++ wsX10 ++ wsX00)
def wsX1_tag_r1 : List Cond := [Cond.fieldLink RX1 11 "CuttingTable" "spindles" "[LCuttingTable$Load;", Cond.classLink RX1 9 RX0, Cond.instantiable RX0 3, Cond.initialized RX0, Cond.arrayClass .long, Cond.methodLink RX1 23 yX1_isSpindle, Cond.static yX1_isSpindle, Cond.initialized RX1, Cond.code yX1_isSpindle cX1_isSpindle 1 (some .boolean), Cond.methodLink RX1 27 yX1_settle, Cond.instanceMethod yX1_settle, Cond.selects RX1 yX1_settle yX1_settle, Cond.code yX1_settle cX1_settle 4 (some .int), Cond.fieldLink RX1 108 "CuttingTable" "lastRefusal" "I", Cond.fieldLink RX1 111 "CuttingTable" "lastWay" "I", Cond.fieldLink RX1 114 "CuttingTable" "lastAhead" "I", Cond.methodLink RX1 31 yX0_init, Cond.instanceMethod yX0_init, Cond.code yX0_init cX0_init 4 none, Cond.methodLink RX0 1 objectInit, Cond.instanceMethod objectInit, Cond.code objectInit ⟨#[0xb1]⟩ 1 none, Cond.fieldLink RX0 7 "CuttingTable$Load" "sort" "I", Cond.fieldLink RX0 13 "CuttingTable$Load" "number" "I"]
def wsX1_tag_r2 : List Cond := [Cond.fieldLink RX0 16 "CuttingTable$Load" "frames" "[J"]
def wsX1_tag : List Cond := .code yX1_tag cX1_tag 3 (some .int) :: ((wsX1_tag_r1 ++ wsX1_tag_r2) ++ wsX10 ++ wsX00)
def wsX1_share : List Cond := .code yX1_share cX1_share 3 (some .int) :: ([.fieldLink RX1 11 "CuttingTable" "spindles" "[LCuttingTable$Load;", .methodLink RX1 23 yX1_isSpindle, .static yX1_isSpindle, .initialized RX1, .code yX1_isSpindle cX1_isSpindle 1 (some .boolean), .methodLink RX1 27 yX1_settle, .instanceMethod yX1_settle, .selects RX1 yX1_settle yX1_settle, .code yX1_settle cX1_settle 4 (some .int), .fieldLink RX1 108 "CuttingTable" "lastRefusal" "I", .fieldLink RX1 111 "CuttingTable" "lastWay" "I", .fieldLink RX1 114 "CuttingTable" "lastAhead" "I"] ++ wsX10)
def wsX1_refusalOfReel : List Cond := .code yX1_refusalOfReel cX1_refusalOfReel 3 (some .int) :: ([.fieldLink RX1 11 "CuttingTable" "spindles" "[LCuttingTable$Load;", .fieldLink RX1 42 "CuttingTable$Load" "sort" "I", .methodLink RX1 23 yX1_isSpindle, .static yX1_isSpindle, .initialized RX1, .code yX1_isSpindle cX1_isSpindle 1 (some .boolean)] ++ wsX10 ++ wsX00)
def wsX1_copy_r1 : List Cond := [Cond.fieldLink RX1 11 "CuttingTable" "spindles" "[LCuttingTable$Load;", Cond.classLink RX1 9 RX0, Cond.instantiable RX0 3, Cond.initialized RX0, Cond.fieldLink RX1 42 "CuttingTable$Load" "sort" "I", Cond.fieldLink RX1 45 "CuttingTable$Load" "number" "I", Cond.fieldLink RX1 48 "CuttingTable$Load" "frames" "[J", Cond.methodLink RX1 51 ⟨"[J", "clone", "()Ljava/lang/Object;"⟩, Cond.sameMethod "[J" "java/lang/Object" "clone" "()Ljava/lang/Object;", Cond.native ⟨"java/lang/Object", "clone", "()Ljava/lang/Object;"⟩, Cond.instanceMethod ⟨"java/lang/Object", "clone", "()Ljava/lang/Object;"⟩, Cond.selects "[J" ⟨"[J", "clone", "()Ljava/lang/Object;"⟩ ⟨"java/lang/Object", "clone", "()Ljava/lang/Object;"⟩, Cond.classLink RX1 52 "[J", Cond.fieldLink RX1 34 "CuttingTable" "reelsMade" "I", Cond.methodLink RX1 23 yX1_isSpindle, Cond.static yX1_isSpindle, Cond.initialized RX1, Cond.code yX1_isSpindle cX1_isSpindle 1 (some .boolean), Cond.methodLink RX1 38 yX1_refusalOfReel, Cond.instanceMethod yX1_refusalOfReel, Cond.selects RX1 yX1_refusalOfReel yX1_refusalOfReel, Cond.code yX1_refusalOfReel cX1_refusalOfReel 3 (some .int), Cond.methodLink RX1 27 yX1_settle, Cond.instanceMethod yX1_settle]
def wsX1_copy_r2 : List Cond := [Cond.selects RX1 yX1_settle yX1_settle, Cond.code yX1_settle cX1_settle 4 (some .int), Cond.fieldLink RX1 108 "CuttingTable" "lastRefusal" "I", Cond.fieldLink RX1 111 "CuttingTable" "lastWay" "I", Cond.fieldLink RX1 114 "CuttingTable" "lastAhead" "I", Cond.methodLink RX1 31 yX0_init, Cond.instanceMethod yX0_init, Cond.code yX0_init cX0_init 4 none, Cond.methodLink RX0 1 objectInit, Cond.instanceMethod objectInit, Cond.code objectInit ⟨#[0xb1]⟩ 1 none, Cond.fieldLink RX0 7 "CuttingTable$Load" "sort" "I", Cond.fieldLink RX0 13 "CuttingTable$Load" "number" "I", Cond.fieldLink RX0 16 "CuttingTable$Load" "frames" "[J"]
def wsX1_copy : List Cond := .code yX1_copy cX1_copy 5 (some .int) :: ((wsX1_copy_r1 ++ wsX1_copy_r2) ++ wsX10 ++ wsX00)
def wsX1_clear : List Cond := .code yX1_clear cX1_clear 2 (some .int) :: ([.fieldLink RX1 11 "CuttingTable" "spindles" "[LCuttingTable$Load;", .methodLink RX1 23 yX1_isSpindle, .static yX1_isSpindle, .initialized RX1, .code yX1_isSpindle cX1_isSpindle 1 (some .boolean), .methodLink RX1 27 yX1_settle, .instanceMethod yX1_settle, .selects RX1 yX1_settle yX1_settle, .code yX1_settle cX1_settle 4 (some .int), .fieldLink RX1 108 "CuttingTable" "lastRefusal" "I", .fieldLink RX1 111 "CuttingTable" "lastWay" "I", .fieldLink RX1 114 "CuttingTable" "lastAhead" "I"] ++ wsX10)
def wsX1_isOfNumbers : List Cond := .code yX1_isOfNumbers cX1_isOfNumbers 1 (some .boolean) :: ([])
def wsX1_refusalOfFrame : List Cond := .code yX1_refusalOfFrame cX1_refusalOfFrame 6 (some .int) :: ([.fieldLink RX1 11 "CuttingTable" "spindles" "[LCuttingTable$Load;", .fieldLink RX1 42 "CuttingTable$Load" "sort" "I", .fieldLink RX1 48 "CuttingTable$Load" "frames" "[J", .methodLink RX1 38 yX1_refusalOfReel, .instanceMethod yX1_refusalOfReel, .selects RX1 yX1_refusalOfReel yX1_refusalOfReel, .initialized RX1, .code yX1_refusalOfReel cX1_refusalOfReel 3 (some .int), .methodLink RX1 23 yX1_isSpindle, .static yX1_isSpindle, .code yX1_isSpindle cX1_isSpindle 1 (some .boolean), .methodLink RX1 137 yX1_isOfNumbers, .static yX1_isOfNumbers, .code yX1_isOfNumbers cX1_isOfNumbers 1 (some .boolean)] ++ wsX10 ++ wsX00)
def wsX1_fitted : List Cond := .code yX1_fitted cX1_fitted 3 (some .long) :: ([])
def wsX1_emptyBin : List Cond := .code yX1_emptyBin cX1_emptyBin 1 none :: ([.fieldLink RX1 101 "CuttingTable" "binReel" "LCuttingTable$Load;", .fieldLink RX1 105 "CuttingTable" "binPlace" "I", .fieldLink RX1 98 "CuttingTable" "binCount" "I"] ++ wsX10)
def wsX1_put_r1 : List Cond := [Cond.fieldLink RX1 11 "CuttingTable" "spindles" "[LCuttingTable$Load;", Cond.fieldLink RX1 48 "CuttingTable$Load" "frames" "[J", Cond.fieldLink RX1 42 "CuttingTable$Load" "sort" "I", Cond.methodLink RX1 56 yX1_refusalOfFrame, Cond.instanceMethod yX1_refusalOfFrame, Cond.selects RX1 yX1_refusalOfFrame yX1_refusalOfFrame, Cond.initialized RX1, Cond.code yX1_refusalOfFrame cX1_refusalOfFrame 6 (some .int), Cond.methodLink RX1 38 yX1_refusalOfReel, Cond.instanceMethod yX1_refusalOfReel, Cond.selects RX1 yX1_refusalOfReel yX1_refusalOfReel, Cond.code yX1_refusalOfReel cX1_refusalOfReel 3 (some .int), Cond.methodLink RX1 23 yX1_isSpindle, Cond.static yX1_isSpindle, Cond.code yX1_isSpindle cX1_isSpindle 1 (some .boolean), Cond.methodLink RX1 137 yX1_isOfNumbers, Cond.static yX1_isOfNumbers, Cond.code yX1_isOfNumbers cX1_isOfNumbers 1 (some .boolean), Cond.methodLink RX1 27 yX1_settle, Cond.instanceMethod yX1_settle, Cond.selects RX1 yX1_settle yX1_settle, Cond.code yX1_settle cX1_settle 4 (some .int), Cond.fieldLink RX1 108 "CuttingTable" "lastRefusal" "I", Cond.fieldLink RX1 111 "CuttingTable" "lastWay" "I"]
def wsX1_put_r2 : List Cond := [Cond.fieldLink RX1 114 "CuttingTable" "lastAhead" "I", Cond.methodLink RX1 60 yX1_fitted, Cond.static yX1_fitted, Cond.code yX1_fitted cX1_fitted 3 (some .long), Cond.methodLink RX1 64 yX1_emptyBin, Cond.instanceMethod yX1_emptyBin, Cond.selects RX1 yX1_emptyBin yX1_emptyBin, Cond.code yX1_emptyBin cX1_emptyBin 1 none, Cond.fieldLink RX1 101 "CuttingTable" "binReel" "LCuttingTable$Load;", Cond.fieldLink RX1 105 "CuttingTable" "binPlace" "I", Cond.fieldLink RX1 98 "CuttingTable" "binCount" "I"]
def wsX1_put : List Cond := .code yX1_put cX1_put 7 (some .int) :: ((wsX1_put_r1 ++ wsX1_put_r2) ++ wsX10 ++ wsX00)
def wsX1_shotOf : List Cond := .code yX1_shotOf cX1_shotOf 3 (some .long) :: ([.constantLong RX1 184 (4294967295)])
def wsX1_newShot : List Cond := .code yX1_newShot cX1_newShot 3 (some .long) :: ([.fieldLink RX1 161 "CuttingTable" "shotsMade" "I", .methodLink RX1 180 yX1_shotOf, .static yX1_shotOf, .initialized RX1, .code yX1_shotOf cX1_shotOf 3 (some .long), .constantLong RX1 184 (4294967295)] ++ wsX10)
def wsX1_kindOf : List Cond := .code yX1_kindOf cX1_kindOf 2 (some .int) :: ([])
def wsX1_bears : List Cond := .code yX1_bears cX1_bears 3 (some .boolean) :: ([.methodLink RX1 137 yX1_isOfNumbers, .static yX1_isOfNumbers, .initialized RX1, .code yX1_isOfNumbers cX1_isOfNumbers 1 (some .boolean), .methodLink RX1 148 yX1_kindOf, .static yX1_kindOf, .code yX1_kindOf cX1_kindOf 2 (some .int)])
def wsX1_shoot_r1 : List Cond := [Cond.fieldLink RX1 11 "CuttingTable" "spindles" "[LCuttingTable$Load;", Cond.fieldLink RX1 42 "CuttingTable$Load" "sort" "I", Cond.fieldLink RX1 48 "CuttingTable$Load" "frames" "[J", Cond.methodLink RX1 27 yX1_settle, Cond.instanceMethod yX1_settle, Cond.selects RX1 yX1_settle yX1_settle, Cond.initialized RX1, Cond.code yX1_settle cX1_settle 4 (some .int), Cond.fieldLink RX1 108 "CuttingTable" "lastRefusal" "I", Cond.fieldLink RX1 111 "CuttingTable" "lastWay" "I", Cond.fieldLink RX1 114 "CuttingTable" "lastAhead" "I", Cond.methodLink RX1 56 yX1_refusalOfFrame, Cond.instanceMethod yX1_refusalOfFrame, Cond.selects RX1 yX1_refusalOfFrame yX1_refusalOfFrame, Cond.code yX1_refusalOfFrame cX1_refusalOfFrame 6 (some .int), Cond.methodLink RX1 38 yX1_refusalOfReel, Cond.instanceMethod yX1_refusalOfReel, Cond.selects RX1 yX1_refusalOfReel yX1_refusalOfReel, Cond.code yX1_refusalOfReel cX1_refusalOfReel 3 (some .int), Cond.methodLink RX1 23 yX1_isSpindle, Cond.static yX1_isSpindle, Cond.code yX1_isSpindle cX1_isSpindle 1 (some .boolean), Cond.methodLink RX1 137 yX1_isOfNumbers, Cond.static yX1_isOfNumbers]
def wsX1_shoot_r2 : List Cond := [Cond.code yX1_isOfNumbers cX1_isOfNumbers 1 (some .boolean), Cond.methodLink RX1 67 yX1_newShot, Cond.instanceMethod yX1_newShot, Cond.selects RX1 yX1_newShot yX1_newShot, Cond.code yX1_newShot cX1_newShot 3 (some .long), Cond.fieldLink RX1 161 "CuttingTable" "shotsMade" "I", Cond.methodLink RX1 180 yX1_shotOf, Cond.static yX1_shotOf, Cond.code yX1_shotOf cX1_shotOf 3 (some .long), Cond.constantLong RX1 184 (4294967295), Cond.methodLink RX1 71 yX1_bears, Cond.static yX1_bears, Cond.code yX1_bears cX1_bears 3 (some .boolean), Cond.methodLink RX1 148 yX1_kindOf, Cond.static yX1_kindOf, Cond.code yX1_kindOf cX1_kindOf 2 (some .int), Cond.methodLink RX1 64 yX1_emptyBin, Cond.instanceMethod yX1_emptyBin, Cond.selects RX1 yX1_emptyBin yX1_emptyBin, Cond.code yX1_emptyBin cX1_emptyBin 1 none, Cond.fieldLink RX1 101 "CuttingTable" "binReel" "LCuttingTable$Load;", Cond.fieldLink RX1 105 "CuttingTable" "binPlace" "I", Cond.fieldLink RX1 98 "CuttingTable" "binCount" "I"]
def wsX1_shoot : List Cond := .code yX1_shoot cX1_shoot 9 (some .int) :: ((wsX1_shoot_r1 ++ wsX1_shoot_r2) ++ wsX10 ++ wsX00)
def wsX1_refusalOfPair : List Cond := .code yX1_refusalOfPair cX1_refusalOfPair 8 (some .int) :: ([.fieldLink RX1 11 "CuttingTable" "spindles" "[LCuttingTable$Load;", .fieldLink RX1 42 "CuttingTable$Load" "sort" "I", .methodLink RX1 38 yX1_refusalOfReel, .instanceMethod yX1_refusalOfReel, .selects RX1 yX1_refusalOfReel yX1_refusalOfReel, .initialized RX1, .code yX1_refusalOfReel cX1_refusalOfReel 3 (some .int), .methodLink RX1 23 yX1_isSpindle, .static yX1_isSpindle, .code yX1_isSpindle cX1_isSpindle 1 (some .boolean), .methodLink RX1 137 yX1_isOfNumbers, .static yX1_isOfNumbers, .code yX1_isOfNumbers cX1_isOfNumbers 1 (some .boolean)] ++ wsX10 ++ wsX00)
def wsX1_wayOut : List Cond := .code yX1_wayOut cX1_wayOut 6 (some .int) :: ([])
def wsX1_borneAhead : List Cond := .code yX1_borneAhead cX1_borneAhead 5 (some .int) :: ([.methodLink RX1 71 yX1_bears, .static yX1_bears, .initialized RX1, .code yX1_bears cX1_bears 3 (some .boolean), .methodLink RX1 137 yX1_isOfNumbers, .static yX1_isOfNumbers, .code yX1_isOfNumbers cX1_isOfNumbers 1 (some .boolean), .methodLink RX1 148 yX1_kindOf, .static yX1_kindOf, .code yX1_kindOf cX1_kindOf 2 (some .int)])
def wsX1_fillBin : List Cond := .code yX1_fillBin cX1_fillBin 4 none :: ([.fieldLink RX1 48 "CuttingTable$Load" "frames" "[J", .fieldLink RX1 19 "CuttingTable" "binFrames" "[J", .methodLink RX1 82 arraycopyName, .native arraycopyName, .static arraycopyName, .initialized "java/lang/System", .fieldLink RX1 101 "CuttingTable" "binReel" "LCuttingTable$Load;", .fieldLink RX1 105 "CuttingTable" "binPlace" "I", .fieldLink RX1 98 "CuttingTable" "binCount" "I"] ++ wsX00 ++ wsX10)
def wsX1_doSplice_r1 : List Cond := [Cond.fieldLink RX1 11 "CuttingTable" "spindles" "[LCuttingTable$Load;", Cond.fieldLink RX1 48 "CuttingTable$Load" "frames" "[J", Cond.fieldLink RX1 42 "CuttingTable$Load" "sort" "I", Cond.methodLink RX1 82 arraycopyName, Cond.native arraycopyName, Cond.static arraycopyName, Cond.initialized "java/lang/System", Cond.fieldLink RX1 158 "CuttingTable" "framesGone" "I", Cond.fieldLink RX1 155 "CuttingTable" "splicesDone" "I", Cond.methodLink RX1 168 yX1_refusalOfPair, Cond.instanceMethod yX1_refusalOfPair, Cond.selects RX1 yX1_refusalOfPair yX1_refusalOfPair, Cond.initialized RX1, Cond.code yX1_refusalOfPair cX1_refusalOfPair 8 (some .int), Cond.methodLink RX1 38 yX1_refusalOfReel, Cond.instanceMethod yX1_refusalOfReel, Cond.selects RX1 yX1_refusalOfReel yX1_refusalOfReel, Cond.code yX1_refusalOfReel cX1_refusalOfReel 3 (some .int), Cond.methodLink RX1 23 yX1_isSpindle, Cond.static yX1_isSpindle, Cond.code yX1_isSpindle cX1_isSpindle 1 (some .boolean), Cond.methodLink RX1 137 yX1_isOfNumbers, Cond.static yX1_isOfNumbers, Cond.code yX1_isOfNumbers cX1_isOfNumbers 1 (some .boolean)]
def wsX1_doSplice_r2 : List Cond := [Cond.methodLink RX1 27 yX1_settle, Cond.instanceMethod yX1_settle, Cond.selects RX1 yX1_settle yX1_settle, Cond.code yX1_settle cX1_settle 4 (some .int), Cond.fieldLink RX1 108 "CuttingTable" "lastRefusal" "I", Cond.fieldLink RX1 111 "CuttingTable" "lastWay" "I", Cond.fieldLink RX1 114 "CuttingTable" "lastAhead" "I", Cond.methodLink RX1 164 yX1_wayOut, Cond.static yX1_wayOut, Cond.code yX1_wayOut cX1_wayOut 6 (some .int), Cond.methodLink RX1 172 yX1_borneAhead, Cond.static yX1_borneAhead, Cond.code yX1_borneAhead cX1_borneAhead 5 (some .int), Cond.methodLink RX1 71 yX1_bears, Cond.static yX1_bears, Cond.code yX1_bears cX1_bears 3 (some .boolean), Cond.methodLink RX1 148 yX1_kindOf, Cond.static yX1_kindOf, Cond.code yX1_kindOf cX1_kindOf 2 (some .int), Cond.methodLink RX1 176 yX1_fillBin, Cond.instanceMethod yX1_fillBin, Cond.selects RX1 yX1_fillBin yX1_fillBin, Cond.code yX1_fillBin cX1_fillBin 4 none, Cond.fieldLink RX1 19 "CuttingTable" "binFrames" "[J"]
def wsX1_doSplice_r3 : List Cond := [Cond.fieldLink RX1 101 "CuttingTable" "binReel" "LCuttingTable$Load;", Cond.fieldLink RX1 105 "CuttingTable" "binPlace" "I", Cond.fieldLink RX1 98 "CuttingTable" "binCount" "I"]
def wsX1_doSplice : List Cond := .code yX1_doSplice cX1_doSplice 12 (some .int) :: ((wsX1_doSplice_r1 ++ (wsX1_doSplice_r2 ++ wsX1_doSplice_r3)) ++ wsX10 ++ wsX00)
def wsX1_splice_r1 : List Cond := [Cond.methodLink RX1 75 yX1_doSplice, Cond.instanceMethod yX1_doSplice, Cond.selects RX1 yX1_doSplice yX1_doSplice, Cond.initialized RX1, Cond.code yX1_doSplice cX1_doSplice 12 (some .int), Cond.fieldLink RX1 11 "CuttingTable" "spindles" "[LCuttingTable$Load;", Cond.fieldLink RX1 48 "CuttingTable$Load" "frames" "[J", Cond.fieldLink RX1 42 "CuttingTable$Load" "sort" "I", Cond.methodLink RX1 82 arraycopyName, Cond.native arraycopyName, Cond.static arraycopyName, Cond.initialized "java/lang/System", Cond.fieldLink RX1 158 "CuttingTable" "framesGone" "I", Cond.fieldLink RX1 155 "CuttingTable" "splicesDone" "I", Cond.methodLink RX1 168 yX1_refusalOfPair, Cond.instanceMethod yX1_refusalOfPair, Cond.selects RX1 yX1_refusalOfPair yX1_refusalOfPair, Cond.code yX1_refusalOfPair cX1_refusalOfPair 8 (some .int), Cond.methodLink RX1 38 yX1_refusalOfReel, Cond.instanceMethod yX1_refusalOfReel, Cond.selects RX1 yX1_refusalOfReel yX1_refusalOfReel, Cond.code yX1_refusalOfReel cX1_refusalOfReel 3 (some .int), Cond.methodLink RX1 23 yX1_isSpindle, Cond.static yX1_isSpindle]
def wsX1_splice_r2 : List Cond := [Cond.code yX1_isSpindle cX1_isSpindle 1 (some .boolean), Cond.methodLink RX1 137 yX1_isOfNumbers, Cond.static yX1_isOfNumbers, Cond.code yX1_isOfNumbers cX1_isOfNumbers 1 (some .boolean), Cond.methodLink RX1 27 yX1_settle, Cond.instanceMethod yX1_settle, Cond.selects RX1 yX1_settle yX1_settle, Cond.code yX1_settle cX1_settle 4 (some .int), Cond.fieldLink RX1 108 "CuttingTable" "lastRefusal" "I", Cond.fieldLink RX1 111 "CuttingTable" "lastWay" "I", Cond.fieldLink RX1 114 "CuttingTable" "lastAhead" "I", Cond.methodLink RX1 164 yX1_wayOut, Cond.static yX1_wayOut, Cond.code yX1_wayOut cX1_wayOut 6 (some .int), Cond.methodLink RX1 172 yX1_borneAhead, Cond.static yX1_borneAhead, Cond.code yX1_borneAhead cX1_borneAhead 5 (some .int), Cond.methodLink RX1 71 yX1_bears, Cond.static yX1_bears, Cond.code yX1_bears cX1_bears 3 (some .boolean), Cond.methodLink RX1 148 yX1_kindOf, Cond.static yX1_kindOf, Cond.code yX1_kindOf cX1_kindOf 2 (some .int), Cond.methodLink RX1 176 yX1_fillBin]
def wsX1_splice_r3 : List Cond := [Cond.instanceMethod yX1_fillBin, Cond.selects RX1 yX1_fillBin yX1_fillBin, Cond.code yX1_fillBin cX1_fillBin 4 none, Cond.fieldLink RX1 19 "CuttingTable" "binFrames" "[J", Cond.fieldLink RX1 101 "CuttingTable" "binReel" "LCuttingTable$Load;", Cond.fieldLink RX1 105 "CuttingTable" "binPlace" "I", Cond.fieldLink RX1 98 "CuttingTable" "binCount" "I"]
def wsX1_splice : List Cond := .code yX1_splice cX1_splice 7 (some .int) :: ((wsX1_splice_r1 ++ (wsX1_splice_r2 ++ wsX1_splice_r3)) ++ wsX10 ++ wsX00)
def wsX1_refusalOfGap : List Cond := .code yX1_refusalOfGap cX1_refusalOfGap 7 (some .int) :: ([.fieldLink RX1 11 "CuttingTable" "spindles" "[LCuttingTable$Load;", .fieldLink RX1 48 "CuttingTable$Load" "frames" "[J", .methodLink RX1 38 yX1_refusalOfReel, .instanceMethod yX1_refusalOfReel, .selects RX1 yX1_refusalOfReel yX1_refusalOfReel, .initialized RX1, .code yX1_refusalOfReel cX1_refusalOfReel 3 (some .int), .fieldLink RX1 42 "CuttingTable$Load" "sort" "I", .methodLink RX1 23 yX1_isSpindle, .static yX1_isSpindle, .code yX1_isSpindle cX1_isSpindle 1 (some .boolean), .methodLink RX1 27 yX1_settle, .instanceMethod yX1_settle, .selects RX1 yX1_settle yX1_settle, .code yX1_settle cX1_settle 4 (some .int), .fieldLink RX1 108 "CuttingTable" "lastRefusal" "I", .fieldLink RX1 111 "CuttingTable" "lastWay" "I", .fieldLink RX1 114 "CuttingTable" "lastAhead" "I", .methodLink RX1 164 yX1_wayOut, .static yX1_wayOut, .code yX1_wayOut cX1_wayOut 6 (some .int)] ++ wsX10 ++ wsX00)
def wsX1_blankFrames : List Cond := .code yX1_blankFrames cX1_blankFrames 4 none :: ([])
def wsX1_open_r1 : List Cond := [Cond.fieldLink RX1 11 "CuttingTable" "spindles" "[LCuttingTable$Load;", Cond.fieldLink RX1 48 "CuttingTable$Load" "frames" "[J", Cond.methodLink RX1 82 arraycopyName, Cond.native arraycopyName, Cond.static arraycopyName, Cond.initialized "java/lang/System", Cond.methodLink RX1 79 yX1_refusalOfGap, Cond.instanceMethod yX1_refusalOfGap, Cond.selects RX1 yX1_refusalOfGap yX1_refusalOfGap, Cond.initialized RX1, Cond.code yX1_refusalOfGap cX1_refusalOfGap 7 (some .int), Cond.methodLink RX1 38 yX1_refusalOfReel, Cond.instanceMethod yX1_refusalOfReel, Cond.selects RX1 yX1_refusalOfReel yX1_refusalOfReel, Cond.code yX1_refusalOfReel cX1_refusalOfReel 3 (some .int), Cond.fieldLink RX1 42 "CuttingTable$Load" "sort" "I", Cond.methodLink RX1 23 yX1_isSpindle, Cond.static yX1_isSpindle, Cond.code yX1_isSpindle cX1_isSpindle 1 (some .boolean), Cond.methodLink RX1 27 yX1_settle, Cond.instanceMethod yX1_settle, Cond.selects RX1 yX1_settle yX1_settle, Cond.code yX1_settle cX1_settle 4 (some .int), Cond.fieldLink RX1 108 "CuttingTable" "lastRefusal" "I"]
def wsX1_open_r2 : List Cond := [Cond.fieldLink RX1 111 "CuttingTable" "lastWay" "I", Cond.fieldLink RX1 114 "CuttingTable" "lastAhead" "I", Cond.methodLink RX1 164 yX1_wayOut, Cond.static yX1_wayOut, Cond.code yX1_wayOut cX1_wayOut 6 (some .int), Cond.methodLink RX1 88 yX1_blankFrames, Cond.static yX1_blankFrames, Cond.code yX1_blankFrames cX1_blankFrames 4 none, Cond.methodLink RX1 64 yX1_emptyBin, Cond.instanceMethod yX1_emptyBin, Cond.selects RX1 yX1_emptyBin yX1_emptyBin, Cond.code yX1_emptyBin cX1_emptyBin 1 none, Cond.fieldLink RX1 101 "CuttingTable" "binReel" "LCuttingTable$Load;", Cond.fieldLink RX1 105 "CuttingTable" "binPlace" "I", Cond.fieldLink RX1 98 "CuttingTable" "binCount" "I"]
def wsX1_open : List Cond := .code yX1_open cX1_open 7 (some .int) :: ((wsX1_open_r1 ++ wsX1_open_r2) ++ wsX10 ++ wsX00)
def wsX1_close_r1 : List Cond := [Cond.fieldLink RX1 11 "CuttingTable" "spindles" "[LCuttingTable$Load;", Cond.fieldLink RX1 48 "CuttingTable$Load" "frames" "[J", Cond.methodLink RX1 82 arraycopyName, Cond.native arraycopyName, Cond.static arraycopyName, Cond.initialized "java/lang/System", Cond.methodLink RX1 79 yX1_refusalOfGap, Cond.instanceMethod yX1_refusalOfGap, Cond.selects RX1 yX1_refusalOfGap yX1_refusalOfGap, Cond.initialized RX1, Cond.code yX1_refusalOfGap cX1_refusalOfGap 7 (some .int), Cond.methodLink RX1 38 yX1_refusalOfReel, Cond.instanceMethod yX1_refusalOfReel, Cond.selects RX1 yX1_refusalOfReel yX1_refusalOfReel, Cond.code yX1_refusalOfReel cX1_refusalOfReel 3 (some .int), Cond.fieldLink RX1 42 "CuttingTable$Load" "sort" "I", Cond.methodLink RX1 23 yX1_isSpindle, Cond.static yX1_isSpindle, Cond.code yX1_isSpindle cX1_isSpindle 1 (some .boolean), Cond.methodLink RX1 27 yX1_settle, Cond.instanceMethod yX1_settle, Cond.selects RX1 yX1_settle yX1_settle, Cond.code yX1_settle cX1_settle 4 (some .int), Cond.fieldLink RX1 108 "CuttingTable" "lastRefusal" "I"]
def wsX1_close_r2 : List Cond := [Cond.fieldLink RX1 111 "CuttingTable" "lastWay" "I", Cond.fieldLink RX1 114 "CuttingTable" "lastAhead" "I", Cond.methodLink RX1 164 yX1_wayOut, Cond.static yX1_wayOut, Cond.code yX1_wayOut cX1_wayOut 6 (some .int), Cond.methodLink RX1 88 yX1_blankFrames, Cond.static yX1_blankFrames, Cond.code yX1_blankFrames cX1_blankFrames 4 none, Cond.methodLink RX1 64 yX1_emptyBin, Cond.instanceMethod yX1_emptyBin, Cond.selects RX1 yX1_emptyBin yX1_emptyBin, Cond.code yX1_emptyBin cX1_emptyBin 1 none, Cond.fieldLink RX1 101 "CuttingTable" "binReel" "LCuttingTable$Load;", Cond.fieldLink RX1 105 "CuttingTable" "binPlace" "I", Cond.fieldLink RX1 98 "CuttingTable" "binCount" "I"]
def wsX1_close : List Cond := .code yX1_close cX1_close 7 (some .int) :: ((wsX1_close_r1 ++ wsX1_close_r2) ++ wsX10 ++ wsX00)
def wsX1_loop_r1 : List Cond := [Cond.methodLink RX1 23 yX1_isSpindle, Cond.static yX1_isSpindle, Cond.initialized RX1, Cond.code yX1_isSpindle cX1_isSpindle 1 (some .boolean), Cond.methodLink RX1 27 yX1_settle, Cond.instanceMethod yX1_settle, Cond.selects RX1 yX1_settle yX1_settle, Cond.code yX1_settle cX1_settle 4 (some .int), Cond.fieldLink RX1 108 "CuttingTable" "lastRefusal" "I", Cond.fieldLink RX1 111 "CuttingTable" "lastWay" "I", Cond.fieldLink RX1 114 "CuttingTable" "lastAhead" "I", Cond.methodLink RX1 75 yX1_doSplice, Cond.instanceMethod yX1_doSplice, Cond.selects RX1 yX1_doSplice yX1_doSplice, Cond.code yX1_doSplice cX1_doSplice 12 (some .int), Cond.fieldLink RX1 11 "CuttingTable" "spindles" "[LCuttingTable$Load;", Cond.fieldLink RX1 48 "CuttingTable$Load" "frames" "[J", Cond.fieldLink RX1 42 "CuttingTable$Load" "sort" "I", Cond.methodLink RX1 82 arraycopyName, Cond.native arraycopyName, Cond.static arraycopyName, Cond.initialized "java/lang/System", Cond.fieldLink RX1 158 "CuttingTable" "framesGone" "I", Cond.fieldLink RX1 155 "CuttingTable" "splicesDone" "I"]
def wsX1_loop_r2 : List Cond := [Cond.methodLink RX1 168 yX1_refusalOfPair, Cond.instanceMethod yX1_refusalOfPair, Cond.selects RX1 yX1_refusalOfPair yX1_refusalOfPair, Cond.code yX1_refusalOfPair cX1_refusalOfPair 8 (some .int), Cond.methodLink RX1 38 yX1_refusalOfReel, Cond.instanceMethod yX1_refusalOfReel, Cond.selects RX1 yX1_refusalOfReel yX1_refusalOfReel, Cond.code yX1_refusalOfReel cX1_refusalOfReel 3 (some .int), Cond.methodLink RX1 137 yX1_isOfNumbers, Cond.static yX1_isOfNumbers, Cond.code yX1_isOfNumbers cX1_isOfNumbers 1 (some .boolean), Cond.methodLink RX1 164 yX1_wayOut, Cond.static yX1_wayOut, Cond.code yX1_wayOut cX1_wayOut 6 (some .int), Cond.methodLink RX1 172 yX1_borneAhead, Cond.static yX1_borneAhead, Cond.code yX1_borneAhead cX1_borneAhead 5 (some .int), Cond.methodLink RX1 71 yX1_bears, Cond.static yX1_bears, Cond.code yX1_bears cX1_bears 3 (some .boolean), Cond.methodLink RX1 148 yX1_kindOf, Cond.static yX1_kindOf, Cond.code yX1_kindOf cX1_kindOf 2 (some .int), Cond.methodLink RX1 176 yX1_fillBin]
def wsX1_loop_r3 : List Cond := [Cond.instanceMethod yX1_fillBin, Cond.selects RX1 yX1_fillBin yX1_fillBin, Cond.code yX1_fillBin cX1_fillBin 4 none, Cond.fieldLink RX1 19 "CuttingTable" "binFrames" "[J", Cond.fieldLink RX1 101 "CuttingTable" "binReel" "LCuttingTable$Load;", Cond.fieldLink RX1 105 "CuttingTable" "binPlace" "I", Cond.fieldLink RX1 98 "CuttingTable" "binCount" "I"]
def wsX1_loop : List Cond := .code yX1_loop cX1_loop 6 (some .int) :: ((wsX1_loop_r1 ++ (wsX1_loop_r2 ++ wsX1_loop_r3)) ++ wsX10 ++ wsX00)
def wsX1_note : List Cond := .code yX1_note cX1_note 7 (some .int) :: ([.fieldLink RX1 92 "CuttingTable" "cutCount" "I", .fieldLink RX1 15 "CuttingTable" "cuts" "[I"] ++ wsX10)
def wsX1_playCut_r1 : List Cond := [Cond.fieldLink RX1 15 "CuttingTable" "cuts" "[I", Cond.methodLink RX1 75 yX1_doSplice, Cond.instanceMethod yX1_doSplice, Cond.selects RX1 yX1_doSplice yX1_doSplice, Cond.initialized RX1, Cond.code yX1_doSplice cX1_doSplice 12 (some .int), Cond.fieldLink RX1 11 "CuttingTable" "spindles" "[LCuttingTable$Load;", Cond.fieldLink RX1 48 "CuttingTable$Load" "frames" "[J", Cond.fieldLink RX1 42 "CuttingTable$Load" "sort" "I", Cond.methodLink RX1 82 arraycopyName, Cond.native arraycopyName, Cond.static arraycopyName, Cond.initialized "java/lang/System", Cond.fieldLink RX1 158 "CuttingTable" "framesGone" "I", Cond.fieldLink RX1 155 "CuttingTable" "splicesDone" "I", Cond.methodLink RX1 168 yX1_refusalOfPair, Cond.instanceMethod yX1_refusalOfPair, Cond.selects RX1 yX1_refusalOfPair yX1_refusalOfPair, Cond.code yX1_refusalOfPair cX1_refusalOfPair 8 (some .int), Cond.methodLink RX1 38 yX1_refusalOfReel, Cond.instanceMethod yX1_refusalOfReel, Cond.selects RX1 yX1_refusalOfReel yX1_refusalOfReel, Cond.code yX1_refusalOfReel cX1_refusalOfReel 3 (some .int), Cond.methodLink RX1 23 yX1_isSpindle]
def wsX1_playCut_r2 : List Cond := [Cond.static yX1_isSpindle, Cond.code yX1_isSpindle cX1_isSpindle 1 (some .boolean), Cond.methodLink RX1 137 yX1_isOfNumbers, Cond.static yX1_isOfNumbers, Cond.code yX1_isOfNumbers cX1_isOfNumbers 1 (some .boolean), Cond.methodLink RX1 27 yX1_settle, Cond.instanceMethod yX1_settle, Cond.selects RX1 yX1_settle yX1_settle, Cond.code yX1_settle cX1_settle 4 (some .int), Cond.fieldLink RX1 108 "CuttingTable" "lastRefusal" "I", Cond.fieldLink RX1 111 "CuttingTable" "lastWay" "I", Cond.fieldLink RX1 114 "CuttingTable" "lastAhead" "I", Cond.methodLink RX1 164 yX1_wayOut, Cond.static yX1_wayOut, Cond.code yX1_wayOut cX1_wayOut 6 (some .int), Cond.methodLink RX1 172 yX1_borneAhead, Cond.static yX1_borneAhead, Cond.code yX1_borneAhead cX1_borneAhead 5 (some .int), Cond.methodLink RX1 71 yX1_bears, Cond.static yX1_bears, Cond.code yX1_bears cX1_bears 3 (some .boolean), Cond.methodLink RX1 148 yX1_kindOf, Cond.static yX1_kindOf, Cond.code yX1_kindOf cX1_kindOf 2 (some .int)]
def wsX1_playCut_r3 : List Cond := [Cond.methodLink RX1 176 yX1_fillBin, Cond.instanceMethod yX1_fillBin, Cond.selects RX1 yX1_fillBin yX1_fillBin, Cond.code yX1_fillBin cX1_fillBin 4 none, Cond.fieldLink RX1 19 "CuttingTable" "binFrames" "[J", Cond.fieldLink RX1 101 "CuttingTable" "binReel" "LCuttingTable$Load;", Cond.fieldLink RX1 105 "CuttingTable" "binPlace" "I", Cond.fieldLink RX1 98 "CuttingTable" "binCount" "I"]
def wsX1_playCut : List Cond := .code yX1_playCut cX1_playCut 3 (some .int) :: ((wsX1_playCut_r1 ++ (wsX1_playCut_r2 ++ wsX1_playCut_r3)) ++ wsX10 ++ wsX00)
def wsX1_play_r1 : List Cond := [Cond.fieldLink RX1 92 "CuttingTable" "cutCount" "I", Cond.fieldLink RX1 15 "CuttingTable" "cuts" "[I", Cond.methodLink RX1 82 arraycopyName, Cond.native arraycopyName, Cond.static arraycopyName, Cond.initialized "java/lang/System", Cond.methodLink RX1 27 yX1_settle, Cond.instanceMethod yX1_settle, Cond.selects RX1 yX1_settle yX1_settle, Cond.initialized RX1, Cond.code yX1_settle cX1_settle 4 (some .int), Cond.fieldLink RX1 108 "CuttingTable" "lastRefusal" "I", Cond.fieldLink RX1 111 "CuttingTable" "lastWay" "I", Cond.fieldLink RX1 114 "CuttingTable" "lastAhead" "I", Cond.methodLink RX1 95 yX1_playCut, Cond.instanceMethod yX1_playCut, Cond.selects RX1 yX1_playCut yX1_playCut, Cond.code yX1_playCut cX1_playCut 3 (some .int), Cond.methodLink RX1 75 yX1_doSplice, Cond.instanceMethod yX1_doSplice, Cond.selects RX1 yX1_doSplice yX1_doSplice, Cond.code yX1_doSplice cX1_doSplice 12 (some .int), Cond.fieldLink RX1 11 "CuttingTable" "spindles" "[LCuttingTable$Load;", Cond.fieldLink RX1 48 "CuttingTable$Load" "frames" "[J"]
def wsX1_play_r2 : List Cond := [Cond.fieldLink RX1 42 "CuttingTable$Load" "sort" "I", Cond.fieldLink RX1 158 "CuttingTable" "framesGone" "I", Cond.fieldLink RX1 155 "CuttingTable" "splicesDone" "I", Cond.methodLink RX1 168 yX1_refusalOfPair, Cond.instanceMethod yX1_refusalOfPair, Cond.selects RX1 yX1_refusalOfPair yX1_refusalOfPair, Cond.code yX1_refusalOfPair cX1_refusalOfPair 8 (some .int), Cond.methodLink RX1 38 yX1_refusalOfReel, Cond.instanceMethod yX1_refusalOfReel, Cond.selects RX1 yX1_refusalOfReel yX1_refusalOfReel, Cond.code yX1_refusalOfReel cX1_refusalOfReel 3 (some .int), Cond.methodLink RX1 23 yX1_isSpindle, Cond.static yX1_isSpindle, Cond.code yX1_isSpindle cX1_isSpindle 1 (some .boolean), Cond.methodLink RX1 137 yX1_isOfNumbers, Cond.static yX1_isOfNumbers, Cond.code yX1_isOfNumbers cX1_isOfNumbers 1 (some .boolean), Cond.methodLink RX1 164 yX1_wayOut, Cond.static yX1_wayOut, Cond.code yX1_wayOut cX1_wayOut 6 (some .int), Cond.methodLink RX1 172 yX1_borneAhead, Cond.static yX1_borneAhead, Cond.code yX1_borneAhead cX1_borneAhead 5 (some .int), Cond.methodLink RX1 71 yX1_bears]
def wsX1_play_r3 : List Cond := [Cond.static yX1_bears, Cond.code yX1_bears cX1_bears 3 (some .boolean), Cond.methodLink RX1 148 yX1_kindOf, Cond.static yX1_kindOf, Cond.code yX1_kindOf cX1_kindOf 2 (some .int), Cond.methodLink RX1 176 yX1_fillBin, Cond.instanceMethod yX1_fillBin, Cond.selects RX1 yX1_fillBin yX1_fillBin, Cond.code yX1_fillBin cX1_fillBin 4 none, Cond.fieldLink RX1 19 "CuttingTable" "binFrames" "[J", Cond.fieldLink RX1 101 "CuttingTable" "binReel" "LCuttingTable$Load;", Cond.fieldLink RX1 105 "CuttingTable" "binPlace" "I", Cond.fieldLink RX1 98 "CuttingTable" "binCount" "I"]
def wsX1_play : List Cond := .code yX1_play cX1_play 2 (some .int) :: ((wsX1_play_r1 ++ (wsX1_play_r2 ++ wsX1_play_r3)) ++ wsX10 ++ wsX00)
def wsX1_takeBack : List Cond := .code yX1_takeBack cX1_takeBack 2 (some .int) :: ([.fieldLink RX1 98 "CuttingTable" "binCount" "I", .fieldLink RX1 101 "CuttingTable" "binReel" "LCuttingTable$Load;", .fieldLink RX1 19 "CuttingTable" "binFrames" "[J", .fieldLink RX1 48 "CuttingTable$Load" "frames" "[J", .fieldLink RX1 105 "CuttingTable" "binPlace" "I", .methodLink RX1 82 arraycopyName, .native arraycopyName, .static arraycopyName, .initialized "java/lang/System", .methodLink RX1 64 yX1_emptyBin, .instanceMethod yX1_emptyBin, .selects RX1 yX1_emptyBin yX1_emptyBin, .initialized RX1, .code yX1_emptyBin cX1_emptyBin 1 none] ++ wsX10 ++ wsX00)
def wsX1_refusal : List Cond := .code yX1_refusal cX1_refusal 2 (some .int) :: ([.fieldLink RX1 108 "CuttingTable" "lastRefusal" "I", .fieldLink RX1 111 "CuttingTable" "lastWay" "I", .fieldLink RX1 114 "CuttingTable" "lastAhead" "I"] ++ wsX10)
def wsX1_loadOn : List Cond := .code yX1_loadOn cX1_loadOn 2 (some (.object "CuttingTable$Load")) :: ([.fieldLink RX1 11 "CuttingTable" "spindles" "[LCuttingTable$Load;", .methodLink RX1 23 yX1_isSpindle, .static yX1_isSpindle, .initialized RX1, .code yX1_isSpindle cX1_isSpindle 1 (some .boolean)] ++ wsX10)
def wsX1_lowestWith : List Cond := .code yX1_lowestWith cX1_lowestWith 3 (some .int) :: ([.fieldLink RX1 11 "CuttingTable" "spindles" "[LCuttingTable$Load;"] ++ wsX10)
def wsX1_look : List Cond := .code yX1_look cX1_look 4 (some .int) :: ([.fieldLink RX1 42 "CuttingTable$Load" "sort" "I", .fieldLink RX1 45 "CuttingTable$Load" "number" "I", .methodLink RX1 117 yX1_loadOn, .instanceMethod yX1_loadOn, .selects RX1 yX1_loadOn yX1_loadOn, .initialized RX1, .code yX1_loadOn cX1_loadOn 2 (some (.object "CuttingTable$Load")), .fieldLink RX1 11 "CuttingTable" "spindles" "[LCuttingTable$Load;", .methodLink RX1 23 yX1_isSpindle, .static yX1_isSpindle, .code yX1_isSpindle cX1_isSpindle 1 (some .boolean), .methodLink RX1 121 yX1_lowestWith, .instanceMethod yX1_lowestWith, .selects RX1 yX1_lowestWith yX1_lowestWith, .code yX1_lowestWith cX1_lowestWith 3 (some .int)] ++ wsX00 ++ wsX10)
def wsX1_numberOf : List Cond := .code yX1_numberOf cX1_numberOf 2 (some .int) :: ([])
def wsX1_at_r1 : List Cond := [Cond.classLink RX1 125 "java/lang/IllegalStateException", Cond.initialized "java/lang/IllegalStateException", Cond.classLink RX1 132 "java/lang/IndexOutOfBoundsException", Cond.initialized "java/lang/IndexOutOfBoundsException", Cond.fieldLink RX1 42 "CuttingTable$Load" "sort" "I", Cond.fieldLink RX1 48 "CuttingTable$Load" "frames" "[J", Cond.constantLong RX1 140 (-1), Cond.constantLong RX1 142 (4), Cond.methodLink RX1 117 yX1_loadOn, Cond.instanceMethod yX1_loadOn, Cond.selects RX1 yX1_loadOn yX1_loadOn, Cond.initialized RX1, Cond.code yX1_loadOn cX1_loadOn 2 (some (.object "CuttingTable$Load")), Cond.fieldLink RX1 11 "CuttingTable" "spindles" "[LCuttingTable$Load;", Cond.methodLink RX1 23 yX1_isSpindle, Cond.static yX1_isSpindle, Cond.code yX1_isSpindle cX1_isSpindle 1 (some .boolean), Cond.methodLink RX1 137 yX1_isOfNumbers, Cond.static yX1_isOfNumbers, Cond.code yX1_isOfNumbers cX1_isOfNumbers 1 (some .boolean), Cond.methodLink RX1 144 yX1_numberOf, Cond.static yX1_numberOf, Cond.code yX1_numberOf cX1_numberOf 2 (some .int), Cond.methodLink RX1 148 yX1_kindOf]
def wsX1_at_r2 : List Cond := [Cond.static yX1_kindOf, Cond.code yX1_kindOf cX1_kindOf 2 (some .int)]
def wsX1_at : List Cond := .code yX1_at cX1_at 6 (some .long) :: ((wsX1_at_r1 ++ wsX1_at_r2) ++ wsX00 ++ wsX10 ++ (vx_atS RX1 129 "java/lang/IllegalStateException" ["java/lang/RuntimeException", "java/lang/Exception"]).filter goodWord ++ (vx_atS RX1 136 "java/lang/IndexOutOfBoundsException" ["java/lang/RuntimeException", "java/lang/Exception"]).filter goodWord)
def wsX1_sameFrames : List Cond := .code yX1_sameFrames cX1_sameFrames 3 (some .boolean) :: ([])
def wsX1_alike : List Cond := .code yX1_alike cX1_alike 5 (some .boolean) :: ([.fieldLink RX1 11 "CuttingTable" "spindles" "[LCuttingTable$Load;", .fieldLink RX1 42 "CuttingTable$Load" "sort" "I", .fieldLink RX1 45 "CuttingTable$Load" "number" "I", .fieldLink RX1 48 "CuttingTable$Load" "frames" "[J", .methodLink RX1 23 yX1_isSpindle, .static yX1_isSpindle, .initialized RX1, .code yX1_isSpindle cX1_isSpindle 1 (some .boolean), .methodLink RX1 151 yX1_sameFrames, .static yX1_sameFrames, .code yX1_sameFrames cX1_sameFrames 3 (some .boolean)] ++ wsX10 ++ wsX00)
def wsX1_count : List Cond := .code yX1_count cX1_count 2 (some .int) :: ([.fieldLink RX1 34 "CuttingTable" "reelsMade" "I", .fieldLink RX1 155 "CuttingTable" "splicesDone" "I", .fieldLink RX1 158 "CuttingTable" "framesGone" "I", .fieldLink RX1 92 "CuttingTable" "cutCount" "I", .fieldLink RX1 98 "CuttingTable" "binCount" "I", .fieldLink RX1 161 "CuttingTable" "shotsMade" "I"] ++ wsX10)
def wsX2_init : List Cond := .code yX2_init cX2_init 1 none :: ([.methodLink RX2 1 objectInit, .instanceMethod objectInit, .code objectInit ⟨#[0xb1]⟩ 1 none, .arrayClass .int, .fieldLink RX2 7 "CuttingTableModel" "stocks" "[I", .fieldLink RX2 13 "CuttingTableModel" "sizes" "[I", .arrayClass .long, .fieldLink RX2 16 "CuttingTableModel" "cells" "[J", .fieldLink RX2 20 "CuttingTableModel" "lies" "[I", .fieldLink RX2 23 "CuttingTableModel" "which" "[I", .fieldLink RX2 26 "CuttingTableModel" "tagNumbers" "[I", .fieldLink RX2 29 "CuttingTableModel" "shotNumbers" "[I", .fieldLink RX2 32 "CuttingTableModel" "shotKinds" "[I", .fieldLink RX2 35 "CuttingTableModel" "list" "[I", .fieldLink RX2 38 "CuttingTableModel" "bin" "[J", .fieldLink RX2 41 "CuttingTableModel" "taken" "[J"] ++ wsX20)
def wsX2_thrown : List Cond := .code yX2_thrown cX2_thrown 1 (some .int) :: ([.fieldLink RX2 44 "CuttingTableModel" "thrown" "I"] ++ wsX20)
def wsX2_isSpindle : List Cond := .code yX2_isSpindle cX2_isSpindle 1 (some .boolean) :: ([])
def wsX2_isOfNumbers : List Cond := .code yX2_isOfNumbers cX2_isOfNumbers 1 (some .boolean) :: ([])
def wsX2_told : List Cond := .code yX2_told cX2_told 2 (some .int) :: ([.fieldLink RX2 48 "CuttingTableModel" "refused" "I", .fieldLink RX2 51 "CuttingTableModel" "way" "I", .fieldLink RX2 54 "CuttingTableModel" "ahead" "I"] ++ wsX20)
def wsX2_begin : List Cond := .code yX2_begin cX2_begin 1 none :: ([.fieldLink RX2 51 "CuttingTableModel" "way" "I", .fieldLink RX2 54 "CuttingTableModel" "ahead" "I"] ++ wsX20)
def wsX2_lay : List Cond := .code yX2_lay cX2_lay 4 none :: ([.fieldLink RX2 20 "CuttingTableModel" "lies" "[I", .fieldLink RX2 23 "CuttingTableModel" "which" "[I"] ++ wsX20)
def wsX2_newReel : List Cond := .code yX2_newReel cX2_newReel 4 (some .int) :: ([.fieldLink RX2 7 "CuttingTableModel" "stocks" "[I", .fieldLink RX2 57 "CuttingTableModel" "reels" "I", .fieldLink RX2 13 "CuttingTableModel" "sizes" "[I", .fieldLink RX2 16 "CuttingTableModel" "cells" "[J", .constantLong RX2 64 (-1), .methodLink RX2 60 yX2_isOfNumbers, .static yX2_isOfNumbers, .initialized RX2, .code yX2_isOfNumbers cX2_isOfNumbers 1 (some .boolean)] ++ wsX20)
def wsX2_thread_r1 : List Cond := [Cond.fieldLink RX2 44 "CuttingTableModel" "thrown" "I", Cond.methodLink RX2 66 yX2_begin, Cond.instanceMethod yX2_begin, Cond.selects RX2 yX2_begin yX2_begin, Cond.initialized RX2, Cond.code yX2_begin cX2_begin 1 none, Cond.fieldLink RX2 51 "CuttingTableModel" "way" "I", Cond.fieldLink RX2 54 "CuttingTableModel" "ahead" "I", Cond.methodLink RX2 69 yX2_isSpindle, Cond.static yX2_isSpindle, Cond.code yX2_isSpindle cX2_isSpindle 1 (some .boolean), Cond.methodLink RX2 72 yX2_told, Cond.instanceMethod yX2_told, Cond.selects RX2 yX2_told yX2_told, Cond.code yX2_told cX2_told 2 (some .int), Cond.fieldLink RX2 48 "CuttingTableModel" "refused" "I", Cond.methodLink RX2 76 yX2_newReel, Cond.instanceMethod yX2_newReel, Cond.selects RX2 yX2_newReel yX2_newReel, Cond.code yX2_newReel cX2_newReel 4 (some .int), Cond.fieldLink RX2 7 "CuttingTableModel" "stocks" "[I", Cond.fieldLink RX2 57 "CuttingTableModel" "reels" "I", Cond.fieldLink RX2 13 "CuttingTableModel" "sizes" "[I", Cond.fieldLink RX2 16 "CuttingTableModel" "cells" "[J"]
def wsX2_thread_r2 : List Cond := [Cond.constantLong RX2 64 (-1), Cond.methodLink RX2 60 yX2_isOfNumbers, Cond.static yX2_isOfNumbers, Cond.code yX2_isOfNumbers cX2_isOfNumbers 1 (some .boolean), Cond.methodLink RX2 80 yX2_lay, Cond.instanceMethod yX2_lay, Cond.selects RX2 yX2_lay yX2_lay, Cond.code yX2_lay cX2_lay 4 none, Cond.fieldLink RX2 20 "CuttingTableModel" "lies" "[I", Cond.fieldLink RX2 23 "CuttingTableModel" "which" "[I"]
def wsX2_thread : List Cond := .code yX2_thread cX2_thread 4 (some .int) :: ((wsX2_thread_r1 ++ wsX2_thread_r2) ++ wsX20)
def wsX2_tag : List Cond := .code yX2_tag cX2_tag 3 (some .int) :: ([.fieldLink RX2 44 "CuttingTableModel" "thrown" "I", .fieldLink RX2 26 "CuttingTableModel" "tagNumbers" "[I", .fieldLink RX2 84 "CuttingTableModel" "tags" "I", .methodLink RX2 66 yX2_begin, .instanceMethod yX2_begin, .selects RX2 yX2_begin yX2_begin, .initialized RX2, .code yX2_begin cX2_begin 1 none, .fieldLink RX2 51 "CuttingTableModel" "way" "I", .fieldLink RX2 54 "CuttingTableModel" "ahead" "I", .methodLink RX2 69 yX2_isSpindle, .static yX2_isSpindle, .code yX2_isSpindle cX2_isSpindle 1 (some .boolean), .methodLink RX2 72 yX2_told, .instanceMethod yX2_told, .selects RX2 yX2_told yX2_told, .code yX2_told cX2_told 2 (some .int), .fieldLink RX2 48 "CuttingTableModel" "refused" "I", .methodLink RX2 80 yX2_lay, .instanceMethod yX2_lay, .selects RX2 yX2_lay yX2_lay, .code yX2_lay cX2_lay 4 none, .fieldLink RX2 20 "CuttingTableModel" "lies" "[I", .fieldLink RX2 23 "CuttingTableModel" "which" "[I"] ++ wsX20)
def wsX2_share : List Cond := .code yX2_share cX2_share 3 (some .int) :: ([.fieldLink RX2 44 "CuttingTableModel" "thrown" "I", .fieldLink RX2 20 "CuttingTableModel" "lies" "[I", .fieldLink RX2 23 "CuttingTableModel" "which" "[I", .methodLink RX2 66 yX2_begin, .instanceMethod yX2_begin, .selects RX2 yX2_begin yX2_begin, .initialized RX2, .code yX2_begin cX2_begin 1 none, .fieldLink RX2 51 "CuttingTableModel" "way" "I", .fieldLink RX2 54 "CuttingTableModel" "ahead" "I", .methodLink RX2 69 yX2_isSpindle, .static yX2_isSpindle, .code yX2_isSpindle cX2_isSpindle 1 (some .boolean), .methodLink RX2 72 yX2_told, .instanceMethod yX2_told, .selects RX2 yX2_told yX2_told, .code yX2_told cX2_told 2 (some .int), .fieldLink RX2 48 "CuttingTableModel" "refused" "I", .methodLink RX2 80 yX2_lay, .instanceMethod yX2_lay, .selects RX2 yX2_lay yX2_lay, .code yX2_lay cX2_lay 4 none] ++ wsX20)
def wsX2_noReel : List Cond := .code yX2_noReel cX2_noReel 2 (some .int) :: ([.fieldLink RX2 20 "CuttingTableModel" "lies" "[I", .methodLink RX2 69 yX2_isSpindle, .static yX2_isSpindle, .initialized RX2, .code yX2_isSpindle cX2_isSpindle 1 (some .boolean)] ++ wsX20)
def wsX2_copy_r1 : List Cond := [Cond.fieldLink RX2 44 "CuttingTableModel" "thrown" "I", Cond.fieldLink RX2 23 "CuttingTableModel" "which" "[I", Cond.fieldLink RX2 7 "CuttingTableModel" "stocks" "[I", Cond.fieldLink RX2 13 "CuttingTableModel" "sizes" "[I", Cond.fieldLink RX2 16 "CuttingTableModel" "cells" "[J", Cond.methodLink RX2 66 yX2_begin, Cond.instanceMethod yX2_begin, Cond.selects RX2 yX2_begin yX2_begin, Cond.initialized RX2, Cond.code yX2_begin cX2_begin 1 none, Cond.fieldLink RX2 51 "CuttingTableModel" "way" "I", Cond.fieldLink RX2 54 "CuttingTableModel" "ahead" "I", Cond.methodLink RX2 69 yX2_isSpindle, Cond.static yX2_isSpindle, Cond.code yX2_isSpindle cX2_isSpindle 1 (some .boolean), Cond.methodLink RX2 87 yX2_noReel, Cond.instanceMethod yX2_noReel, Cond.selects RX2 yX2_noReel yX2_noReel, Cond.code yX2_noReel cX2_noReel 2 (some .int), Cond.fieldLink RX2 20 "CuttingTableModel" "lies" "[I", Cond.methodLink RX2 72 yX2_told, Cond.instanceMethod yX2_told, Cond.selects RX2 yX2_told yX2_told, Cond.code yX2_told cX2_told 2 (some .int)]
def wsX2_copy_r2 : List Cond := [Cond.fieldLink RX2 48 "CuttingTableModel" "refused" "I", Cond.methodLink RX2 76 yX2_newReel, Cond.instanceMethod yX2_newReel, Cond.selects RX2 yX2_newReel yX2_newReel, Cond.code yX2_newReel cX2_newReel 4 (some .int), Cond.fieldLink RX2 57 "CuttingTableModel" "reels" "I", Cond.constantLong RX2 64 (-1), Cond.methodLink RX2 60 yX2_isOfNumbers, Cond.static yX2_isOfNumbers, Cond.code yX2_isOfNumbers cX2_isOfNumbers 1 (some .boolean), Cond.methodLink RX2 80 yX2_lay, Cond.instanceMethod yX2_lay, Cond.selects RX2 yX2_lay yX2_lay, Cond.code yX2_lay cX2_lay 4 none]
def wsX2_copy : List Cond := .code yX2_copy cX2_copy 7 (some .int) :: ((wsX2_copy_r1 ++ wsX2_copy_r2) ++ wsX20)
def wsX2_clear : List Cond := .code yX2_clear cX2_clear 2 (some .int) :: ([.fieldLink RX2 44 "CuttingTableModel" "thrown" "I", .methodLink RX2 66 yX2_begin, .instanceMethod yX2_begin, .selects RX2 yX2_begin yX2_begin, .initialized RX2, .code yX2_begin cX2_begin 1 none, .fieldLink RX2 51 "CuttingTableModel" "way" "I", .fieldLink RX2 54 "CuttingTableModel" "ahead" "I", .methodLink RX2 69 yX2_isSpindle, .static yX2_isSpindle, .code yX2_isSpindle cX2_isSpindle 1 (some .boolean), .methodLink RX2 72 yX2_told, .instanceMethod yX2_told, .selects RX2 yX2_told yX2_told, .code yX2_told cX2_told 2 (some .int), .fieldLink RX2 48 "CuttingTableModel" "refused" "I", .methodLink RX2 80 yX2_lay, .instanceMethod yX2_lay, .selects RX2 yX2_lay yX2_lay, .code yX2_lay cX2_lay 4 none, .fieldLink RX2 20 "CuttingTableModel" "lies" "[I", .fieldLink RX2 23 "CuttingTableModel" "which" "[I"] ++ wsX20)
def wsX2_cutTo : List Cond := .code yX2_cutTo cX2_cutTo 3 (some .long) :: ([.constantLong RX2 90 (65535)])
def wsX2_put_r1 : List Cond := [Cond.fieldLink RX2 44 "CuttingTableModel" "thrown" "I", Cond.fieldLink RX2 23 "CuttingTableModel" "which" "[I", Cond.fieldLink RX2 7 "CuttingTableModel" "stocks" "[I", Cond.fieldLink RX2 13 "CuttingTableModel" "sizes" "[I", Cond.fieldLink RX2 16 "CuttingTableModel" "cells" "[J", Cond.fieldLink RX2 96 "CuttingTableModel" "binMany" "I", Cond.methodLink RX2 66 yX2_begin, Cond.instanceMethod yX2_begin, Cond.selects RX2 yX2_begin yX2_begin, Cond.initialized RX2, Cond.code yX2_begin cX2_begin 1 none, Cond.fieldLink RX2 51 "CuttingTableModel" "way" "I", Cond.fieldLink RX2 54 "CuttingTableModel" "ahead" "I", Cond.methodLink RX2 87 yX2_noReel, Cond.instanceMethod yX2_noReel, Cond.selects RX2 yX2_noReel yX2_noReel, Cond.code yX2_noReel cX2_noReel 2 (some .int), Cond.fieldLink RX2 20 "CuttingTableModel" "lies" "[I", Cond.methodLink RX2 69 yX2_isSpindle, Cond.static yX2_isSpindle, Cond.code yX2_isSpindle cX2_isSpindle 1 (some .boolean), Cond.methodLink RX2 72 yX2_told, Cond.instanceMethod yX2_told, Cond.selects RX2 yX2_told yX2_told]
def wsX2_put_r2 : List Cond := [Cond.code yX2_told cX2_told 2 (some .int), Cond.fieldLink RX2 48 "CuttingTableModel" "refused" "I", Cond.methodLink RX2 60 yX2_isOfNumbers, Cond.static yX2_isOfNumbers, Cond.code yX2_isOfNumbers cX2_isOfNumbers 1 (some .boolean), Cond.methodLink RX2 92 yX2_cutTo, Cond.static yX2_cutTo, Cond.code yX2_cutTo cX2_cutTo 3 (some .long), Cond.constantLong RX2 90 (65535)]
def wsX2_put : List Cond := .code yX2_put cX2_put 7 (some .int) :: ((wsX2_put_r1 ++ wsX2_put_r2) ++ wsX20)
def wsX2_bears : List Cond := .code yX2_bears cX2_bears 5 (some .boolean) :: ([.fieldLink RX2 32 "CuttingTableModel" "shotKinds" "[I", .methodLink RX2 60 yX2_isOfNumbers, .static yX2_isOfNumbers, .initialized RX2, .code yX2_isOfNumbers cX2_isOfNumbers 1 (some .boolean)] ++ wsX20)
def wsX2_shoot_r1 : List Cond := [Cond.fieldLink RX2 44 "CuttingTableModel" "thrown" "I", Cond.fieldLink RX2 23 "CuttingTableModel" "which" "[I", Cond.fieldLink RX2 7 "CuttingTableModel" "stocks" "[I", Cond.constantLong RX2 64 (-1), Cond.fieldLink RX2 32 "CuttingTableModel" "shotKinds" "[I", Cond.fieldLink RX2 99 "CuttingTableModel" "shots" "I", Cond.fieldLink RX2 29 "CuttingTableModel" "shotNumbers" "[I", Cond.fieldLink RX2 13 "CuttingTableModel" "sizes" "[I", Cond.fieldLink RX2 16 "CuttingTableModel" "cells" "[J", Cond.fieldLink RX2 96 "CuttingTableModel" "binMany" "I", Cond.methodLink RX2 66 yX2_begin, Cond.instanceMethod yX2_begin, Cond.selects RX2 yX2_begin yX2_begin, Cond.initialized RX2, Cond.code yX2_begin cX2_begin 1 none, Cond.fieldLink RX2 51 "CuttingTableModel" "way" "I", Cond.fieldLink RX2 54 "CuttingTableModel" "ahead" "I", Cond.methodLink RX2 87 yX2_noReel, Cond.instanceMethod yX2_noReel, Cond.selects RX2 yX2_noReel yX2_noReel, Cond.code yX2_noReel cX2_noReel 2 (some .int), Cond.fieldLink RX2 20 "CuttingTableModel" "lies" "[I", Cond.methodLink RX2 69 yX2_isSpindle, Cond.static yX2_isSpindle]
def wsX2_shoot_r2 : List Cond := [Cond.code yX2_isSpindle cX2_isSpindle 1 (some .boolean), Cond.methodLink RX2 72 yX2_told, Cond.instanceMethod yX2_told, Cond.selects RX2 yX2_told yX2_told, Cond.code yX2_told cX2_told 2 (some .int), Cond.fieldLink RX2 48 "CuttingTableModel" "refused" "I", Cond.methodLink RX2 60 yX2_isOfNumbers, Cond.static yX2_isOfNumbers, Cond.code yX2_isOfNumbers cX2_isOfNumbers 1 (some .boolean), Cond.methodLink RX2 102 yX2_bears, Cond.instanceMethod yX2_bears, Cond.selects RX2 yX2_bears yX2_bears, Cond.code yX2_bears cX2_bears 5 (some .boolean)]
def wsX2_shoot : List Cond := .code yX2_shoot cX2_shoot 9 (some .int) :: ((wsX2_shoot_r1 ++ wsX2_shoot_r2) ++ wsX20)
def wsX2_wayOf : List Cond := .code yX2_wayOf cX2_wayOf 8 (some .int) :: ([])
def wsX2_goes : List Cond := .code yX2_goes cX2_goes 5 none :: ([.fieldLink RX2 116 "CuttingTableModel" "binReel" "I", .fieldLink RX2 119 "CuttingTableModel" "binFrom" "I", .fieldLink RX2 96 "CuttingTableModel" "binMany" "I", .fieldLink RX2 38 "CuttingTableModel" "bin" "[J", .fieldLink RX2 16 "CuttingTableModel" "cells" "[J", .fieldLink RX2 41 "CuttingTableModel" "taken" "[J", .fieldLink RX2 122 "CuttingTableModel" "went" "I"] ++ wsX20)
def wsX2_spliced_r1 : List Cond := [Cond.fieldLink RX2 20 "CuttingTableModel" "lies" "[I", Cond.fieldLink RX2 23 "CuttingTableModel" "which" "[I", Cond.fieldLink RX2 7 "CuttingTableModel" "stocks" "[I", Cond.fieldLink RX2 13 "CuttingTableModel" "sizes" "[I", Cond.fieldLink RX2 51 "CuttingTableModel" "way" "I", Cond.fieldLink RX2 16 "CuttingTableModel" "cells" "[J", Cond.fieldLink RX2 41 "CuttingTableModel" "taken" "[J", Cond.fieldLink RX2 54 "CuttingTableModel" "ahead" "I", Cond.fieldLink RX2 113 "CuttingTableModel" "splices" "I", Cond.methodLink RX2 66 yX2_begin, Cond.instanceMethod yX2_begin, Cond.selects RX2 yX2_begin yX2_begin, Cond.initialized RX2, Cond.code yX2_begin cX2_begin 1 none, Cond.methodLink RX2 69 yX2_isSpindle, Cond.static yX2_isSpindle, Cond.code yX2_isSpindle cX2_isSpindle 1 (some .boolean), Cond.methodLink RX2 60 yX2_isOfNumbers, Cond.static yX2_isOfNumbers, Cond.code yX2_isOfNumbers cX2_isOfNumbers 1 (some .boolean), Cond.methodLink RX2 106 yX2_wayOf, Cond.static yX2_wayOf, Cond.code yX2_wayOf cX2_wayOf 8 (some .int), Cond.methodLink RX2 102 yX2_bears]
def wsX2_spliced_r2 : List Cond := [Cond.instanceMethod yX2_bears, Cond.selects RX2 yX2_bears yX2_bears, Cond.code yX2_bears cX2_bears 5 (some .boolean), Cond.fieldLink RX2 32 "CuttingTableModel" "shotKinds" "[I", Cond.methodLink RX2 110 yX2_goes, Cond.instanceMethod yX2_goes, Cond.selects RX2 yX2_goes yX2_goes, Cond.code yX2_goes cX2_goes 5 none, Cond.fieldLink RX2 116 "CuttingTableModel" "binReel" "I", Cond.fieldLink RX2 119 "CuttingTableModel" "binFrom" "I", Cond.fieldLink RX2 96 "CuttingTableModel" "binMany" "I", Cond.fieldLink RX2 38 "CuttingTableModel" "bin" "[J", Cond.fieldLink RX2 122 "CuttingTableModel" "went" "I"]
def wsX2_spliced : List Cond := .code yX2_spliced cX2_spliced 12 (some .int) :: ((wsX2_spliced_r1 ++ wsX2_spliced_r2) ++ wsX20)
def wsX2_splice_r1 : List Cond := [Cond.fieldLink RX2 44 "CuttingTableModel" "thrown" "I", Cond.methodLink RX2 125 yX2_spliced, Cond.instanceMethod yX2_spliced, Cond.selects RX2 yX2_spliced yX2_spliced, Cond.initialized RX2, Cond.code yX2_spliced cX2_spliced 12 (some .int), Cond.fieldLink RX2 20 "CuttingTableModel" "lies" "[I", Cond.fieldLink RX2 23 "CuttingTableModel" "which" "[I", Cond.fieldLink RX2 7 "CuttingTableModel" "stocks" "[I", Cond.fieldLink RX2 13 "CuttingTableModel" "sizes" "[I", Cond.fieldLink RX2 51 "CuttingTableModel" "way" "I", Cond.fieldLink RX2 16 "CuttingTableModel" "cells" "[J", Cond.fieldLink RX2 41 "CuttingTableModel" "taken" "[J", Cond.fieldLink RX2 54 "CuttingTableModel" "ahead" "I", Cond.fieldLink RX2 113 "CuttingTableModel" "splices" "I", Cond.methodLink RX2 66 yX2_begin, Cond.instanceMethod yX2_begin, Cond.selects RX2 yX2_begin yX2_begin, Cond.code yX2_begin cX2_begin 1 none, Cond.methodLink RX2 69 yX2_isSpindle, Cond.static yX2_isSpindle, Cond.code yX2_isSpindle cX2_isSpindle 1 (some .boolean), Cond.methodLink RX2 60 yX2_isOfNumbers, Cond.static yX2_isOfNumbers]
def wsX2_splice_r2 : List Cond := [Cond.code yX2_isOfNumbers cX2_isOfNumbers 1 (some .boolean), Cond.methodLink RX2 106 yX2_wayOf, Cond.static yX2_wayOf, Cond.code yX2_wayOf cX2_wayOf 8 (some .int), Cond.methodLink RX2 102 yX2_bears, Cond.instanceMethod yX2_bears, Cond.selects RX2 yX2_bears yX2_bears, Cond.code yX2_bears cX2_bears 5 (some .boolean), Cond.fieldLink RX2 32 "CuttingTableModel" "shotKinds" "[I", Cond.methodLink RX2 110 yX2_goes, Cond.instanceMethod yX2_goes, Cond.selects RX2 yX2_goes yX2_goes, Cond.code yX2_goes cX2_goes 5 none, Cond.fieldLink RX2 116 "CuttingTableModel" "binReel" "I", Cond.fieldLink RX2 119 "CuttingTableModel" "binFrom" "I", Cond.fieldLink RX2 96 "CuttingTableModel" "binMany" "I", Cond.fieldLink RX2 38 "CuttingTableModel" "bin" "[J", Cond.fieldLink RX2 122 "CuttingTableModel" "went" "I", Cond.methodLink RX2 72 yX2_told, Cond.instanceMethod yX2_told, Cond.selects RX2 yX2_told yX2_told, Cond.code yX2_told cX2_told 2 (some .int), Cond.fieldLink RX2 48 "CuttingTableModel" "refused" "I"]
def wsX2_splice : List Cond := .code yX2_splice cX2_splice 7 (some .int) :: ((wsX2_splice_r1 ++ wsX2_splice_r2) ++ wsX20)
def wsX2_loop_r1 : List Cond := [Cond.fieldLink RX2 44 "CuttingTableModel" "thrown" "I", Cond.methodLink RX2 66 yX2_begin, Cond.instanceMethod yX2_begin, Cond.selects RX2 yX2_begin yX2_begin, Cond.initialized RX2, Cond.code yX2_begin cX2_begin 1 none, Cond.fieldLink RX2 51 "CuttingTableModel" "way" "I", Cond.fieldLink RX2 54 "CuttingTableModel" "ahead" "I", Cond.methodLink RX2 69 yX2_isSpindle, Cond.static yX2_isSpindle, Cond.code yX2_isSpindle cX2_isSpindle 1 (some .boolean), Cond.methodLink RX2 72 yX2_told, Cond.instanceMethod yX2_told, Cond.selects RX2 yX2_told yX2_told, Cond.code yX2_told cX2_told 2 (some .int), Cond.fieldLink RX2 48 "CuttingTableModel" "refused" "I", Cond.methodLink RX2 125 yX2_spliced, Cond.instanceMethod yX2_spliced, Cond.selects RX2 yX2_spliced yX2_spliced, Cond.code yX2_spliced cX2_spliced 12 (some .int), Cond.fieldLink RX2 20 "CuttingTableModel" "lies" "[I", Cond.fieldLink RX2 23 "CuttingTableModel" "which" "[I", Cond.fieldLink RX2 7 "CuttingTableModel" "stocks" "[I", Cond.fieldLink RX2 13 "CuttingTableModel" "sizes" "[I"]
def wsX2_loop_r2 : List Cond := [Cond.fieldLink RX2 16 "CuttingTableModel" "cells" "[J", Cond.fieldLink RX2 41 "CuttingTableModel" "taken" "[J", Cond.fieldLink RX2 113 "CuttingTableModel" "splices" "I", Cond.methodLink RX2 60 yX2_isOfNumbers, Cond.static yX2_isOfNumbers, Cond.code yX2_isOfNumbers cX2_isOfNumbers 1 (some .boolean), Cond.methodLink RX2 106 yX2_wayOf, Cond.static yX2_wayOf, Cond.code yX2_wayOf cX2_wayOf 8 (some .int), Cond.methodLink RX2 102 yX2_bears, Cond.instanceMethod yX2_bears, Cond.selects RX2 yX2_bears yX2_bears, Cond.code yX2_bears cX2_bears 5 (some .boolean), Cond.fieldLink RX2 32 "CuttingTableModel" "shotKinds" "[I", Cond.methodLink RX2 110 yX2_goes, Cond.instanceMethod yX2_goes, Cond.selects RX2 yX2_goes yX2_goes, Cond.code yX2_goes cX2_goes 5 none, Cond.fieldLink RX2 116 "CuttingTableModel" "binReel" "I", Cond.fieldLink RX2 119 "CuttingTableModel" "binFrom" "I", Cond.fieldLink RX2 96 "CuttingTableModel" "binMany" "I", Cond.fieldLink RX2 38 "CuttingTableModel" "bin" "[J", Cond.fieldLink RX2 122 "CuttingTableModel" "went" "I"]
def wsX2_loop : List Cond := .code yX2_loop cX2_loop 8 (some .int) :: ((wsX2_loop_r1 ++ wsX2_loop_r2) ++ wsX20)
def wsX2_note : List Cond := .code yX2_note cX2_note 6 (some .int) :: ([.fieldLink RX2 44 "CuttingTableModel" "thrown" "I", .fieldLink RX2 129 "CuttingTableModel" "cuts" "I", .fieldLink RX2 35 "CuttingTableModel" "list" "[I"] ++ wsX20)
def wsX2_play_r1 : List Cond := [Cond.fieldLink RX2 44 "CuttingTableModel" "thrown" "I", Cond.fieldLink RX2 129 "CuttingTableModel" "cuts" "I", Cond.fieldLink RX2 35 "CuttingTableModel" "list" "[I", Cond.methodLink RX2 66 yX2_begin, Cond.instanceMethod yX2_begin, Cond.selects RX2 yX2_begin yX2_begin, Cond.initialized RX2, Cond.code yX2_begin cX2_begin 1 none, Cond.fieldLink RX2 51 "CuttingTableModel" "way" "I", Cond.fieldLink RX2 54 "CuttingTableModel" "ahead" "I", Cond.methodLink RX2 125 yX2_spliced, Cond.instanceMethod yX2_spliced, Cond.selects RX2 yX2_spliced yX2_spliced, Cond.code yX2_spliced cX2_spliced 12 (some .int), Cond.fieldLink RX2 20 "CuttingTableModel" "lies" "[I", Cond.fieldLink RX2 23 "CuttingTableModel" "which" "[I", Cond.fieldLink RX2 7 "CuttingTableModel" "stocks" "[I", Cond.fieldLink RX2 13 "CuttingTableModel" "sizes" "[I", Cond.fieldLink RX2 16 "CuttingTableModel" "cells" "[J", Cond.fieldLink RX2 41 "CuttingTableModel" "taken" "[J", Cond.fieldLink RX2 113 "CuttingTableModel" "splices" "I", Cond.methodLink RX2 69 yX2_isSpindle, Cond.static yX2_isSpindle, Cond.code yX2_isSpindle cX2_isSpindle 1 (some .boolean)]
def wsX2_play_r2 : List Cond := [Cond.methodLink RX2 60 yX2_isOfNumbers, Cond.static yX2_isOfNumbers, Cond.code yX2_isOfNumbers cX2_isOfNumbers 1 (some .boolean), Cond.methodLink RX2 106 yX2_wayOf, Cond.static yX2_wayOf, Cond.code yX2_wayOf cX2_wayOf 8 (some .int), Cond.methodLink RX2 102 yX2_bears, Cond.instanceMethod yX2_bears, Cond.selects RX2 yX2_bears yX2_bears, Cond.code yX2_bears cX2_bears 5 (some .boolean), Cond.fieldLink RX2 32 "CuttingTableModel" "shotKinds" "[I", Cond.methodLink RX2 110 yX2_goes, Cond.instanceMethod yX2_goes, Cond.selects RX2 yX2_goes yX2_goes, Cond.code yX2_goes cX2_goes 5 none, Cond.fieldLink RX2 116 "CuttingTableModel" "binReel" "I", Cond.fieldLink RX2 119 "CuttingTableModel" "binFrom" "I", Cond.fieldLink RX2 96 "CuttingTableModel" "binMany" "I", Cond.fieldLink RX2 38 "CuttingTableModel" "bin" "[J", Cond.fieldLink RX2 122 "CuttingTableModel" "went" "I", Cond.methodLink RX2 72 yX2_told, Cond.instanceMethod yX2_told, Cond.selects RX2 yX2_told yX2_told, Cond.code yX2_told cX2_told 2 (some .int)]
def wsX2_play_r3 : List Cond := [Cond.fieldLink RX2 48 "CuttingTableModel" "refused" "I"]
def wsX2_play : List Cond := .code yX2_play cX2_play 4 (some .int) :: ((wsX2_play_r1 ++ (wsX2_play_r2 ++ wsX2_play_r3)) ++ wsX20)
def wsX2_takeBack : List Cond := .code yX2_takeBack cX2_takeBack 3 (some .int) :: ([.fieldLink RX2 44 "CuttingTableModel" "thrown" "I", .fieldLink RX2 96 "CuttingTableModel" "binMany" "I", .fieldLink RX2 16 "CuttingTableModel" "cells" "[J", .fieldLink RX2 116 "CuttingTableModel" "binReel" "I", .fieldLink RX2 119 "CuttingTableModel" "binFrom" "I", .fieldLink RX2 38 "CuttingTableModel" "bin" "[J"] ++ wsX20)
def wsX2_noGap : List Cond := .code yX2_noGap cX2_noGap 5 (some .int) :: ([.fieldLink RX2 13 "CuttingTableModel" "sizes" "[I", .fieldLink RX2 23 "CuttingTableModel" "which" "[I", .constant RX2 132 (2147483647), .fieldLink RX2 51 "CuttingTableModel" "way" "I", .methodLink RX2 66 yX2_begin, .instanceMethod yX2_begin, .selects RX2 yX2_begin yX2_begin, .initialized RX2, .code yX2_begin cX2_begin 1 none, .fieldLink RX2 54 "CuttingTableModel" "ahead" "I", .methodLink RX2 87 yX2_noReel, .instanceMethod yX2_noReel, .selects RX2 yX2_noReel yX2_noReel, .code yX2_noReel cX2_noReel 2 (some .int), .fieldLink RX2 20 "CuttingTableModel" "lies" "[I", .methodLink RX2 69 yX2_isSpindle, .static yX2_isSpindle, .code yX2_isSpindle cX2_isSpindle 1 (some .boolean), .methodLink RX2 106 yX2_wayOf, .static yX2_wayOf, .code yX2_wayOf cX2_wayOf 8 (some .int)] ++ wsX20)
def wsX2_open_r1 : List Cond := [Cond.fieldLink RX2 44 "CuttingTableModel" "thrown" "I", Cond.fieldLink RX2 23 "CuttingTableModel" "which" "[I", Cond.fieldLink RX2 13 "CuttingTableModel" "sizes" "[I", Cond.fieldLink RX2 16 "CuttingTableModel" "cells" "[J", Cond.fieldLink RX2 7 "CuttingTableModel" "stocks" "[I", Cond.constantLong RX2 64 (-1), Cond.fieldLink RX2 96 "CuttingTableModel" "binMany" "I", Cond.methodLink RX2 133 yX2_noGap, Cond.instanceMethod yX2_noGap, Cond.selects RX2 yX2_noGap yX2_noGap, Cond.initialized RX2, Cond.code yX2_noGap cX2_noGap 5 (some .int), Cond.constant RX2 132 (2147483647), Cond.fieldLink RX2 51 "CuttingTableModel" "way" "I", Cond.methodLink RX2 66 yX2_begin, Cond.instanceMethod yX2_begin, Cond.selects RX2 yX2_begin yX2_begin, Cond.code yX2_begin cX2_begin 1 none, Cond.fieldLink RX2 54 "CuttingTableModel" "ahead" "I", Cond.methodLink RX2 87 yX2_noReel, Cond.instanceMethod yX2_noReel, Cond.selects RX2 yX2_noReel yX2_noReel, Cond.code yX2_noReel cX2_noReel 2 (some .int), Cond.fieldLink RX2 20 "CuttingTableModel" "lies" "[I"]
def wsX2_open_r2 : List Cond := [Cond.methodLink RX2 69 yX2_isSpindle, Cond.static yX2_isSpindle, Cond.code yX2_isSpindle cX2_isSpindle 1 (some .boolean), Cond.methodLink RX2 106 yX2_wayOf, Cond.static yX2_wayOf, Cond.code yX2_wayOf cX2_wayOf 8 (some .int), Cond.methodLink RX2 72 yX2_told, Cond.instanceMethod yX2_told, Cond.selects RX2 yX2_told yX2_told, Cond.code yX2_told cX2_told 2 (some .int), Cond.fieldLink RX2 48 "CuttingTableModel" "refused" "I", Cond.methodLink RX2 60 yX2_isOfNumbers, Cond.static yX2_isOfNumbers, Cond.code yX2_isOfNumbers cX2_isOfNumbers 1 (some .boolean)]
def wsX2_open : List Cond := .code yX2_open cX2_open 8 (some .int) :: ((wsX2_open_r1 ++ wsX2_open_r2) ++ wsX20)
def wsX2_close_r1 : List Cond := [Cond.fieldLink RX2 44 "CuttingTableModel" "thrown" "I", Cond.fieldLink RX2 23 "CuttingTableModel" "which" "[I", Cond.fieldLink RX2 13 "CuttingTableModel" "sizes" "[I", Cond.fieldLink RX2 16 "CuttingTableModel" "cells" "[J", Cond.fieldLink RX2 7 "CuttingTableModel" "stocks" "[I", Cond.constantLong RX2 64 (-1), Cond.fieldLink RX2 96 "CuttingTableModel" "binMany" "I", Cond.methodLink RX2 133 yX2_noGap, Cond.instanceMethod yX2_noGap, Cond.selects RX2 yX2_noGap yX2_noGap, Cond.initialized RX2, Cond.code yX2_noGap cX2_noGap 5 (some .int), Cond.constant RX2 132 (2147483647), Cond.fieldLink RX2 51 "CuttingTableModel" "way" "I", Cond.methodLink RX2 66 yX2_begin, Cond.instanceMethod yX2_begin, Cond.selects RX2 yX2_begin yX2_begin, Cond.code yX2_begin cX2_begin 1 none, Cond.fieldLink RX2 54 "CuttingTableModel" "ahead" "I", Cond.methodLink RX2 87 yX2_noReel, Cond.instanceMethod yX2_noReel, Cond.selects RX2 yX2_noReel yX2_noReel, Cond.code yX2_noReel cX2_noReel 2 (some .int), Cond.fieldLink RX2 20 "CuttingTableModel" "lies" "[I"]
def wsX2_close_r2 : List Cond := [Cond.methodLink RX2 69 yX2_isSpindle, Cond.static yX2_isSpindle, Cond.code yX2_isSpindle cX2_isSpindle 1 (some .boolean), Cond.methodLink RX2 106 yX2_wayOf, Cond.static yX2_wayOf, Cond.code yX2_wayOf cX2_wayOf 8 (some .int), Cond.methodLink RX2 72 yX2_told, Cond.instanceMethod yX2_told, Cond.selects RX2 yX2_told yX2_told, Cond.code yX2_told cX2_told 2 (some .int), Cond.fieldLink RX2 48 "CuttingTableModel" "refused" "I", Cond.methodLink RX2 60 yX2_isOfNumbers, Cond.static yX2_isOfNumbers, Cond.code yX2_isOfNumbers cX2_isOfNumbers 1 (some .boolean)]
def wsX2_close : List Cond := .code yX2_close cX2_close 8 (some .int) :: ((wsX2_close_r1 ++ wsX2_close_r2) ++ wsX20)
def wsX2_refusal : List Cond := .code yX2_refusal cX2_refusal 2 (some .int) :: ([.fieldLink RX2 44 "CuttingTableModel" "thrown" "I", .fieldLink RX2 48 "CuttingTableModel" "refused" "I", .fieldLink RX2 51 "CuttingTableModel" "way" "I", .fieldLink RX2 54 "CuttingTableModel" "ahead" "I"] ++ wsX20)
def wsX2_look : List Cond := .code yX2_look cX2_look 6 (some .int) :: ([.fieldLink RX2 44 "CuttingTableModel" "thrown" "I", .fieldLink RX2 20 "CuttingTableModel" "lies" "[I", .fieldLink RX2 7 "CuttingTableModel" "stocks" "[I", .fieldLink RX2 23 "CuttingTableModel" "which" "[I", .fieldLink RX2 26 "CuttingTableModel" "tagNumbers" "[I", .fieldLink RX2 13 "CuttingTableModel" "sizes" "[I", .methodLink RX2 69 yX2_isSpindle, .static yX2_isSpindle, .initialized RX2, .code yX2_isSpindle cX2_isSpindle 1 (some .boolean)] ++ wsX20)
def wsX2_at : List Cond := .code yX2_at cX2_at 6 (some .long) :: ([.fieldLink RX2 44 "CuttingTableModel" "thrown" "I", .fieldLink RX2 23 "CuttingTableModel" "which" "[I", .fieldLink RX2 13 "CuttingTableModel" "sizes" "[I", .fieldLink RX2 16 "CuttingTableModel" "cells" "[J", .fieldLink RX2 7 "CuttingTableModel" "stocks" "[I", .constantLong RX2 64 (-1), .constantLong RX2 137 (4), .fieldLink RX2 29 "CuttingTableModel" "shotNumbers" "[I", .fieldLink RX2 32 "CuttingTableModel" "shotKinds" "[I", .methodLink RX2 87 yX2_noReel, .instanceMethod yX2_noReel, .selects RX2 yX2_noReel yX2_noReel, .initialized RX2, .code yX2_noReel cX2_noReel 2 (some .int), .fieldLink RX2 20 "CuttingTableModel" "lies" "[I", .methodLink RX2 69 yX2_isSpindle, .static yX2_isSpindle, .code yX2_isSpindle cX2_isSpindle 1 (some .boolean), .methodLink RX2 60 yX2_isOfNumbers, .static yX2_isOfNumbers, .code yX2_isOfNumbers cX2_isOfNumbers 1 (some .boolean)] ++ wsX20)
def wsX2_alike : List Cond := .code yX2_alike cX2_alike 7 (some .boolean) :: ([.fieldLink RX2 44 "CuttingTableModel" "thrown" "I", .fieldLink RX2 20 "CuttingTableModel" "lies" "[I", .fieldLink RX2 23 "CuttingTableModel" "which" "[I", .fieldLink RX2 26 "CuttingTableModel" "tagNumbers" "[I", .fieldLink RX2 7 "CuttingTableModel" "stocks" "[I", .fieldLink RX2 13 "CuttingTableModel" "sizes" "[I", .fieldLink RX2 16 "CuttingTableModel" "cells" "[J", .methodLink RX2 69 yX2_isSpindle, .static yX2_isSpindle, .initialized RX2, .code yX2_isSpindle cX2_isSpindle 1 (some .boolean)] ++ wsX20)
def wsX2_count : List Cond := .code yX2_count cX2_count 2 (some .int) :: ([.fieldLink RX2 44 "CuttingTableModel" "thrown" "I", .fieldLink RX2 57 "CuttingTableModel" "reels" "I", .fieldLink RX2 113 "CuttingTableModel" "splices" "I", .fieldLink RX2 122 "CuttingTableModel" "went" "I", .fieldLink RX2 129 "CuttingTableModel" "cuts" "I", .fieldLink RX2 96 "CuttingTableModel" "binMany" "I", .fieldLink RX2 99 "CuttingTableModel" "shots" "I"] ++ wsX20)
theorem inJx8e188 : ∀ w ∈ wsJx8e1880, w ∈ lw_tbl := by decide +kernel
theorem inJ0 : ∀ w ∈ wsJ00, w ∈ lw_tbl := by decide +kernel
theorem inJ10 : ∀ w ∈ wsJ100, w ∈ lw_tbl := by decide +kernel
theorem dX0_init_0 : decode cX0_init 0 = .ok (.aload_n 0, 1) := by decide +kernel
theorem dX0_init_1 : decode cX0_init 1 = .ok (.invokespecial 1, 3) := by decide +kernel
theorem dX0_init_4 : decode cX0_init 4 = .ok (.aload_n 0, 1) := by decide +kernel
theorem dX0_init_5 : decode cX0_init 5 = .ok (.iload_n 1, 1) := by decide +kernel
theorem dX0_init_6 : decode cX0_init 6 = .ok (.putfield 7, 3) := by decide +kernel
theorem dX0_init_9 : decode cX0_init 9 = .ok (.aload_n 0, 1) := by decide +kernel
theorem dX0_init_10 : decode cX0_init 10 = .ok (.iload_n 2, 1) := by decide +kernel
theorem dX0_init_11 : decode cX0_init 11 = .ok (.putfield 13, 3) := by decide +kernel
theorem dX0_init_14 : decode cX0_init 14 = .ok (.aload_n 0, 1) := by decide +kernel
theorem dX0_init_15 : decode cX0_init 15 = .ok (.aload_n 3, 1) := by decide +kernel
theorem dX0_init_16 : decode cX0_init 16 = .ok (.putfield 16, 3) := by decide +kernel
theorem dX0_init_19 : decode cX0_init 19 = .ok (.return_, 1) := by decide +kernel
theorem dX1_init_0 : decode cX1_init 0 = .ok (.aload_n 0, 1) := by decide +kernel
theorem dX1_init_1 : decode cX1_init 1 = .ok (.invokespecial 1, 3) := by decide +kernel
theorem dX1_init_4 : decode cX1_init 4 = .ok (.aload_n 0, 1) := by decide +kernel
theorem dX1_init_5 : decode cX1_init 5 = .ok (.bipush 8, 2) := by decide +kernel
theorem dX1_init_7 : decode cX1_init 7 = .ok (.anewarray 9, 3) := by decide +kernel
theorem dX1_init_10 : decode cX1_init 10 = .ok (.putfield 11, 3) := by decide +kernel
theorem dX1_init_13 : decode cX1_init 13 = .ok (.aload_n 0, 1) := by decide +kernel
theorem dX1_init_14 : decode cX1_init 14 = .ok (.bipush 80, 2) := by decide +kernel
theorem dX1_init_16 : decode cX1_init 16 = .ok (.newarray .int, 2) := by decide +kernel
theorem dX1_init_18 : decode cX1_init 18 = .ok (.putfield 15, 3) := by decide +kernel
theorem dX1_init_21 : decode cX1_init 21 = .ok (.aload_n 0, 1) := by decide +kernel
theorem dX1_init_22 : decode cX1_init 22 = .ok (.bipush 24, 2) := by decide +kernel
theorem dX1_init_24 : decode cX1_init 24 = .ok (.newarray .long, 2) := by decide +kernel
theorem dX1_init_26 : decode cX1_init 26 = .ok (.putfield 19, 3) := by decide +kernel
theorem dX1_init_29 : decode cX1_init 29 = .ok (.return_, 1) := by decide +kernel
set_option maxRecDepth 20000 in
theorem ggX1_thread_X1_isSpindle : GoodIn wsX1_thread wsX1_isSpindle := goodIn_r _ [10] (by decide +kernel) (by decide +kernel)
set_option maxRecDepth 20000 in
theorem gX1_thread_X1_isSpindle : GoodIn wsX1_thread (va_wsS RX1 23 yX1_isSpindle wsX1_isSpindle) := goodIn_app (goodIn_of _ (by decide +kernel)) ggX1_thread_X1_isSpindle
set_option maxRecDepth 20000 in
theorem ggX1_thread_X1_settle : GoodIn wsX1_thread wsX1_settle := goodIn_r _ [14, 15, 16, 17, 27, 28, 29, 30, 31, 32, 33, 34, 35, 36, 37, 38, 39, 40] (by decide +kernel) (by decide +kernel)
set_option maxRecDepth 20000 in
theorem gX1_thread_X1_settle : GoodIn wsX1_thread (wsV RX1 27 RX1 yX1_settle wsX1_settle) := goodIn_app (goodIn_of _ (by decide +kernel)) ggX1_thread_X1_settle
set_option maxRecDepth 20000 in
theorem ggX1_thread_X0_init : GoodIn wsX1_thread wsX0_init := goodIn_r _ [20, 21, 22, 23, 24, 25, 26, 41, 42, 43] (by decide +kernel) (by decide +kernel)
set_option maxRecDepth 20000 in
theorem gX1_thread_X0_init : GoodIn wsX1_thread (wsX0_init) := ggX1_thread_X0_init
theorem dX1_thread_0 : decode cX1_thread 0 = .ok (.iload_n 1, 1) := by decide +kernel
theorem dX1_thread_1 : decode cX1_thread 1 = .ok (.invokestatic 23, 3) := by decide +kernel
theorem dX1_thread_4 : decode cX1_thread 4 = .ok (.ifCond .eq 23, 3) := by decide +kernel
theorem dX1_thread_7 : decode cX1_thread 7 = .ok (.iload_n 2, 1) := by decide +kernel
theorem dX1_thread_8 : decode cX1_thread 8 = .ok (.ifCond .lt 19, 3) := by decide +kernel
theorem dX1_thread_11 : decode cX1_thread 11 = .ok (.iload_n 2, 1) := by decide +kernel
theorem dX1_thread_12 : decode cX1_thread 12 = .ok (.bipush 7, 2) := by decide +kernel
theorem dX1_thread_14 : decode cX1_thread 14 = .ok (.if_icmp .gt 13, 3) := by decide +kernel
theorem dX1_thread_17 : decode cX1_thread 17 = .ok (.iload_n 3, 1) := by decide +kernel
theorem dX1_thread_18 : decode cX1_thread 18 = .ok (.ifCond .lt 9, 3) := by decide +kernel
theorem dX1_thread_21 : decode cX1_thread 21 = .ok (.iload_n 3, 1) := by decide +kernel
theorem dX1_thread_22 : decode cX1_thread 22 = .ok (.bipush 24, 2) := by decide +kernel
theorem dX1_thread_24 : decode cX1_thread 24 = .ok (.if_icmp .le 12, 3) := by decide +kernel
theorem dX1_thread_27 : decode cX1_thread 27 = .ok (.aload_n 0, 1) := by decide +kernel
theorem dX1_thread_28 : decode cX1_thread 28 = .ok (.bipush 6, 2) := by decide +kernel
theorem dX1_thread_30 : decode cX1_thread 30 = .ok (.iconst 0, 1) := by decide +kernel
theorem dX1_thread_31 : decode cX1_thread 31 = .ok (.iconst 0, 1) := by decide +kernel
theorem dX1_thread_32 : decode cX1_thread 32 = .ok (.invokevirtual 27, 3) := by decide +kernel
theorem dX1_thread_35 : decode cX1_thread 35 = .ok (.ireturn, 1) := by decide +kernel
theorem dX1_thread_36 : decode cX1_thread 36 = .ok (.aload_n 0, 1) := by decide +kernel
theorem dX1_thread_37 : decode cX1_thread 37 = .ok (.getfield 11, 3) := by decide +kernel
theorem dX1_thread_40 : decode cX1_thread 40 = .ok (.iload_n 1, 1) := by decide +kernel
theorem dX1_thread_41 : decode cX1_thread 41 = .ok (.new 9, 3) := by decide +kernel
theorem dX1_thread_44 : decode cX1_thread 44 = .ok (.dup, 1) := by decide +kernel
theorem dX1_thread_45 : decode cX1_thread 45 = .ok (.iload_n 2, 1) := by decide +kernel
theorem dX1_thread_46 : decode cX1_thread 46 = .ok (.iload_n 3, 1) := by decide +kernel
theorem dX1_thread_47 : decode cX1_thread 47 = .ok (.iload_n 3, 1) := by decide +kernel
theorem dX1_thread_48 : decode cX1_thread 48 = .ok (.newarray .long, 2) := by decide +kernel
theorem dX1_thread_50 : decode cX1_thread 50 = .ok (.invokespecial 31, 3) := by decide +kernel
theorem dX1_thread_53 : decode cX1_thread 53 = .ok (.aastore, 1) := by decide +kernel
theorem dX1_thread_54 : decode cX1_thread 54 = .ok (.aload_n 0, 1) := by decide +kernel
theorem dX1_thread_55 : decode cX1_thread 55 = .ok (.dup, 1) := by decide +kernel
theorem dX1_thread_56 : decode cX1_thread 56 = .ok (.getfield 34, 3) := by decide +kernel
theorem dX1_thread_59 : decode cX1_thread 59 = .ok (.iconst 1, 1) := by decide +kernel
theorem dX1_thread_60 : decode cX1_thread 60 = .ok (.iadd, 1) := by decide +kernel
theorem dX1_thread_61 : decode cX1_thread 61 = .ok (.putfield 34, 3) := by decide +kernel
theorem dX1_thread_64 : decode cX1_thread 64 = .ok (.aload_n 0, 1) := by decide +kernel
theorem dX1_thread_65 : decode cX1_thread 65 = .ok (.iconst 0, 1) := by decide +kernel
theorem dX1_thread_66 : decode cX1_thread 66 = .ok (.iconst 0, 1) := by decide +kernel
theorem dX1_thread_67 : decode cX1_thread 67 = .ok (.iconst 0, 1) := by decide +kernel
theorem dX1_thread_68 : decode cX1_thread 68 = .ok (.invokevirtual 27, 3) := by decide +kernel
theorem dX1_thread_71 : decode cX1_thread 71 = .ok (.ireturn, 1) := by decide +kernel
set_option maxRecDepth 20000 in
theorem ggX1_tag_X1_isSpindle : GoodIn wsX1_tag wsX1_isSpindle := goodIn_r _ [9] (by decide +kernel) (by decide +kernel)
set_option maxRecDepth 20000 in
theorem gX1_tag_X1_isSpindle : GoodIn wsX1_tag (va_wsS RX1 23 yX1_isSpindle wsX1_isSpindle) := goodIn_app (goodIn_of _ (by decide +kernel)) ggX1_tag_X1_isSpindle
set_option maxRecDepth 20000 in
theorem ggX1_tag_X1_settle : GoodIn wsX1_tag wsX1_settle := goodIn_r _ [13, 14, 15, 16, 26, 27, 28, 29, 30, 31, 32, 33, 34, 35, 36, 37, 38, 39] (by decide +kernel) (by decide +kernel)
set_option maxRecDepth 20000 in
theorem gX1_tag_X1_settle : GoodIn wsX1_tag (wsV RX1 27 RX1 yX1_settle wsX1_settle) := goodIn_app (goodIn_of _ (by decide +kernel)) ggX1_tag_X1_settle
set_option maxRecDepth 20000 in
theorem ggX1_tag_X0_init : GoodIn wsX1_tag wsX0_init := goodIn_r _ [19, 20, 21, 22, 23, 24, 25, 40, 41, 42] (by decide +kernel) (by decide +kernel)
set_option maxRecDepth 20000 in
theorem gX1_tag_X0_init : GoodIn wsX1_tag (wsX0_init) := ggX1_tag_X0_init
theorem dX1_tag_0 : decode cX1_tag 0 = .ok (.iload_n 1, 1) := by decide +kernel
theorem dX1_tag_1 : decode cX1_tag 1 = .ok (.invokestatic 23, 3) := by decide +kernel
theorem dX1_tag_4 : decode cX1_tag 4 = .ok (.ifCond .ne 12, 3) := by decide +kernel
theorem dX1_tag_7 : decode cX1_tag 7 = .ok (.aload_n 0, 1) := by decide +kernel
theorem dX1_tag_8 : decode cX1_tag 8 = .ok (.bipush 6, 2) := by decide +kernel
theorem dX1_tag_10 : decode cX1_tag 10 = .ok (.iconst 0, 1) := by decide +kernel
theorem dX1_tag_11 : decode cX1_tag 11 = .ok (.iconst 0, 1) := by decide +kernel
theorem dX1_tag_12 : decode cX1_tag 12 = .ok (.invokevirtual 27, 3) := by decide +kernel
theorem dX1_tag_15 : decode cX1_tag 15 = .ok (.ireturn, 1) := by decide +kernel
theorem dX1_tag_16 : decode cX1_tag 16 = .ok (.aload_n 0, 1) := by decide +kernel
theorem dX1_tag_17 : decode cX1_tag 17 = .ok (.getfield 11, 3) := by decide +kernel
theorem dX1_tag_20 : decode cX1_tag 20 = .ok (.iload_n 1, 1) := by decide +kernel
theorem dX1_tag_21 : decode cX1_tag 21 = .ok (.new 9, 3) := by decide +kernel
theorem dX1_tag_24 : decode cX1_tag 24 = .ok (.dup, 1) := by decide +kernel
theorem dX1_tag_25 : decode cX1_tag 25 = .ok (.bipush 8, 2) := by decide +kernel
theorem dX1_tag_27 : decode cX1_tag 27 = .ok (.iload_n 2, 1) := by decide +kernel
theorem dX1_tag_28 : decode cX1_tag 28 = .ok (.iconst 0, 1) := by decide +kernel
theorem dX1_tag_29 : decode cX1_tag 29 = .ok (.newarray .long, 2) := by decide +kernel
theorem dX1_tag_31 : decode cX1_tag 31 = .ok (.invokespecial 31, 3) := by decide +kernel
theorem dX1_tag_34 : decode cX1_tag 34 = .ok (.aastore, 1) := by decide +kernel
theorem dX1_tag_35 : decode cX1_tag 35 = .ok (.aload_n 0, 1) := by decide +kernel
theorem dX1_tag_36 : decode cX1_tag 36 = .ok (.iconst 0, 1) := by decide +kernel
theorem dX1_tag_37 : decode cX1_tag 37 = .ok (.iconst 0, 1) := by decide +kernel
theorem dX1_tag_38 : decode cX1_tag 38 = .ok (.iconst 0, 1) := by decide +kernel
theorem dX1_tag_39 : decode cX1_tag 39 = .ok (.invokevirtual 27, 3) := by decide +kernel
theorem dX1_tag_42 : decode cX1_tag 42 = .ok (.ireturn, 1) := by decide +kernel
set_option maxRecDepth 20000 in
theorem ggX1_share_X1_isSpindle : GoodIn wsX1_share wsX1_isSpindle := goodIn_r _ [5] (by decide +kernel) (by decide +kernel)
set_option maxRecDepth 20000 in
theorem gX1_share_X1_isSpindle : GoodIn wsX1_share (va_wsS RX1 23 yX1_isSpindle wsX1_isSpindle) := goodIn_app (goodIn_of _ (by decide +kernel)) ggX1_share_X1_isSpindle
set_option maxRecDepth 20000 in
theorem ggX1_share_X1_settle : GoodIn wsX1_share wsX1_settle := goodIn_r _ [9, 10, 11, 12, 13, 14, 15, 16, 17, 18, 19, 20, 21, 22, 23, 24, 25, 26] (by decide +kernel) (by decide +kernel)
set_option maxRecDepth 20000 in
theorem gX1_share_X1_settle : GoodIn wsX1_share (wsV RX1 27 RX1 yX1_settle wsX1_settle) := goodIn_app (goodIn_of _ (by decide +kernel)) ggX1_share_X1_settle
theorem dX1_share_0 : decode cX1_share 0 = .ok (.iload_n 1, 1) := by decide +kernel
theorem dX1_share_1 : decode cX1_share 1 = .ok (.invokestatic 23, 3) := by decide +kernel
theorem dX1_share_4 : decode cX1_share 4 = .ok (.ifCond .eq 10, 3) := by decide +kernel
theorem dX1_share_7 : decode cX1_share 7 = .ok (.iload_n 2, 1) := by decide +kernel
theorem dX1_share_8 : decode cX1_share 8 = .ok (.invokestatic 23, 3) := by decide +kernel
theorem dX1_share_11 : decode cX1_share 11 = .ok (.ifCond .ne 12, 3) := by decide +kernel
theorem dX1_share_14 : decode cX1_share 14 = .ok (.aload_n 0, 1) := by decide +kernel
theorem dX1_share_15 : decode cX1_share 15 = .ok (.bipush 6, 2) := by decide +kernel
theorem dX1_share_17 : decode cX1_share 17 = .ok (.iconst 0, 1) := by decide +kernel
theorem dX1_share_18 : decode cX1_share 18 = .ok (.iconst 0, 1) := by decide +kernel
theorem dX1_share_19 : decode cX1_share 19 = .ok (.invokevirtual 27, 3) := by decide +kernel
theorem dX1_share_22 : decode cX1_share 22 = .ok (.ireturn, 1) := by decide +kernel
theorem dX1_share_23 : decode cX1_share 23 = .ok (.aload_n 0, 1) := by decide +kernel
theorem dX1_share_24 : decode cX1_share 24 = .ok (.getfield 11, 3) := by decide +kernel
theorem dX1_share_27 : decode cX1_share 27 = .ok (.iload_n 2, 1) := by decide +kernel
theorem dX1_share_28 : decode cX1_share 28 = .ok (.aload_n 0, 1) := by decide +kernel
theorem dX1_share_29 : decode cX1_share 29 = .ok (.getfield 11, 3) := by decide +kernel
theorem dX1_share_32 : decode cX1_share 32 = .ok (.iload_n 1, 1) := by decide +kernel
theorem dX1_share_33 : decode cX1_share 33 = .ok (.aaload, 1) := by decide +kernel
theorem dX1_share_34 : decode cX1_share 34 = .ok (.aastore, 1) := by decide +kernel
theorem dX1_share_35 : decode cX1_share 35 = .ok (.aload_n 0, 1) := by decide +kernel
theorem dX1_share_36 : decode cX1_share 36 = .ok (.iconst 0, 1) := by decide +kernel
theorem dX1_share_37 : decode cX1_share 37 = .ok (.iconst 0, 1) := by decide +kernel
theorem dX1_share_38 : decode cX1_share 38 = .ok (.iconst 0, 1) := by decide +kernel
theorem dX1_share_39 : decode cX1_share 39 = .ok (.invokevirtual 27, 3) := by decide +kernel
theorem dX1_share_42 : decode cX1_share 42 = .ok (.ireturn, 1) := by decide +kernel
set_option maxRecDepth 20000 in
theorem ggX1_copy_X1_isSpindle : GoodIn wsX1_copy wsX1_isSpindle := goodIn_r _ [18] (by decide +kernel) (by decide +kernel)
set_option maxRecDepth 20000 in
theorem gX1_copy_X1_isSpindle : GoodIn wsX1_copy (va_wsS RX1 23 yX1_isSpindle wsX1_isSpindle) := goodIn_app (goodIn_of _ (by decide +kernel)) ggX1_copy_X1_isSpindle
set_option maxRecDepth 20000 in
theorem ggX1_copy_X1_refusalOfReel : GoodIn wsX1_copy wsX1_refusalOfReel := goodIn_r _ [22, 1, 5, 15, 16, 17, 18, 39, 40, 41, 42, 43, 44, 45, 46, 47, 48, 49, 50, 51, 52, 53, 54, 55] (by decide +kernel) (by decide +kernel)
set_option maxRecDepth 20000 in
theorem gX1_copy_X1_refusalOfReel : GoodIn wsX1_copy (wsV RX1 38 RX1 yX1_refusalOfReel wsX1_refusalOfReel) := goodIn_app (goodIn_of _ (by decide +kernel)) ggX1_copy_X1_refusalOfReel
set_option maxRecDepth 20000 in
theorem ggX1_copy_X1_settle : GoodIn wsX1_copy wsX1_settle := goodIn_r _ [26, 27, 28, 29, 39, 40, 41, 42, 43, 44, 45, 46, 47, 48, 49, 50, 51, 52] (by decide +kernel) (by decide +kernel)
set_option maxRecDepth 20000 in
theorem gX1_copy_X1_settle : GoodIn wsX1_copy (wsV RX1 27 RX1 yX1_settle wsX1_settle) := goodIn_app (goodIn_of _ (by decide +kernel)) ggX1_copy_X1_settle
set_option maxRecDepth 20000 in
theorem ggX1_copy_X0_init : GoodIn wsX1_copy wsX0_init := goodIn_r _ [32, 33, 34, 35, 36, 37, 38, 53, 54, 55] (by decide +kernel) (by decide +kernel)
set_option maxRecDepth 20000 in
theorem gX1_copy_X0_init : GoodIn wsX1_copy (wsX0_init) := ggX1_copy_X0_init
theorem dX1_copy_0 : decode cX1_copy 0 = .ok (.iload_n 2, 1) := by decide +kernel
theorem dX1_copy_1 : decode cX1_copy 1 = .ok (.invokestatic 23, 3) := by decide +kernel
theorem dX1_copy_4 : decode cX1_copy 4 = .ok (.ifCond .eq 11, 3) := by decide +kernel
theorem dX1_copy_7 : decode cX1_copy 7 = .ok (.aload_n 0, 1) := by decide +kernel
theorem dX1_copy_8 : decode cX1_copy 8 = .ok (.iload_n 1, 1) := by decide +kernel
theorem dX1_copy_9 : decode cX1_copy 9 = .ok (.invokevirtual 38, 3) := by decide +kernel
theorem dX1_copy_12 : decode cX1_copy 12 = .ok (.goto 5, 3) := by decide +kernel
theorem dX1_copy_15 : decode cX1_copy 15 = .ok (.bipush 6, 2) := by decide +kernel
theorem dX1_copy_17 : decode cX1_copy 17 = .ok (.istore_n 3, 1) := by decide +kernel
theorem dX1_copy_18 : decode cX1_copy 18 = .ok (.iload_n 3, 1) := by decide +kernel
theorem dX1_copy_19 : decode cX1_copy 19 = .ok (.ifCond .eq 11, 3) := by decide +kernel
theorem dX1_copy_22 : decode cX1_copy 22 = .ok (.aload_n 0, 1) := by decide +kernel
theorem dX1_copy_23 : decode cX1_copy 23 = .ok (.iload_n 3, 1) := by decide +kernel
theorem dX1_copy_24 : decode cX1_copy 24 = .ok (.iconst 0, 1) := by decide +kernel
theorem dX1_copy_25 : decode cX1_copy 25 = .ok (.iconst 0, 1) := by decide +kernel
theorem dX1_copy_26 : decode cX1_copy 26 = .ok (.invokevirtual 27, 3) := by decide +kernel
theorem dX1_copy_29 : decode cX1_copy 29 = .ok (.ireturn, 1) := by decide +kernel
theorem dX1_copy_30 : decode cX1_copy 30 = .ok (.aload_n 0, 1) := by decide +kernel
theorem dX1_copy_31 : decode cX1_copy 31 = .ok (.getfield 11, 3) := by decide +kernel
theorem dX1_copy_34 : decode cX1_copy 34 = .ok (.iload_n 1, 1) := by decide +kernel
theorem dX1_copy_35 : decode cX1_copy 35 = .ok (.aaload, 1) := by decide +kernel
theorem dX1_copy_36 : decode cX1_copy 36 = .ok (.astore 4, 2) := by decide +kernel
theorem dX1_copy_38 : decode cX1_copy 38 = .ok (.aload_n 0, 1) := by decide +kernel
theorem dX1_copy_39 : decode cX1_copy 39 = .ok (.getfield 11, 3) := by decide +kernel
theorem dX1_copy_42 : decode cX1_copy 42 = .ok (.iload_n 2, 1) := by decide +kernel
theorem dX1_copy_43 : decode cX1_copy 43 = .ok (.new 9, 3) := by decide +kernel
theorem dX1_copy_46 : decode cX1_copy 46 = .ok (.dup, 1) := by decide +kernel
theorem dX1_copy_47 : decode cX1_copy 47 = .ok (.aload 4, 2) := by decide +kernel
theorem dX1_copy_49 : decode cX1_copy 49 = .ok (.getfield 42, 3) := by decide +kernel
theorem dX1_copy_52 : decode cX1_copy 52 = .ok (.aload 4, 2) := by decide +kernel
theorem dX1_copy_54 : decode cX1_copy 54 = .ok (.getfield 45, 3) := by decide +kernel
theorem dX1_copy_57 : decode cX1_copy 57 = .ok (.aload 4, 2) := by decide +kernel
theorem dX1_copy_59 : decode cX1_copy 59 = .ok (.getfield 48, 3) := by decide +kernel
theorem dX1_copy_62 : decode cX1_copy 62 = .ok (.invokevirtual 51, 3) := by decide +kernel
theorem dX1_copy_65 : decode cX1_copy 65 = .ok (.checkcast 52, 3) := by decide +kernel
theorem dX1_copy_68 : decode cX1_copy 68 = .ok (.invokespecial 31, 3) := by decide +kernel
theorem dX1_copy_71 : decode cX1_copy 71 = .ok (.aastore, 1) := by decide +kernel
theorem dX1_copy_72 : decode cX1_copy 72 = .ok (.aload_n 0, 1) := by decide +kernel
theorem dX1_copy_73 : decode cX1_copy 73 = .ok (.dup, 1) := by decide +kernel
theorem dX1_copy_74 : decode cX1_copy 74 = .ok (.getfield 34, 3) := by decide +kernel
theorem dX1_copy_77 : decode cX1_copy 77 = .ok (.iconst 1, 1) := by decide +kernel
theorem dX1_copy_78 : decode cX1_copy 78 = .ok (.iadd, 1) := by decide +kernel
theorem dX1_copy_79 : decode cX1_copy 79 = .ok (.putfield 34, 3) := by decide +kernel
theorem dX1_copy_82 : decode cX1_copy 82 = .ok (.aload_n 0, 1) := by decide +kernel
theorem dX1_copy_83 : decode cX1_copy 83 = .ok (.iconst 0, 1) := by decide +kernel
theorem dX1_copy_84 : decode cX1_copy 84 = .ok (.iconst 0, 1) := by decide +kernel
theorem dX1_copy_85 : decode cX1_copy 85 = .ok (.iconst 0, 1) := by decide +kernel
theorem dX1_copy_86 : decode cX1_copy 86 = .ok (.invokevirtual 27, 3) := by decide +kernel
theorem dX1_copy_89 : decode cX1_copy 89 = .ok (.ireturn, 1) := by decide +kernel
set_option maxRecDepth 20000 in
theorem ggX1_clear_X1_isSpindle : GoodIn wsX1_clear wsX1_isSpindle := goodIn_r _ [5] (by decide +kernel) (by decide +kernel)
set_option maxRecDepth 20000 in
theorem gX1_clear_X1_isSpindle : GoodIn wsX1_clear (va_wsS RX1 23 yX1_isSpindle wsX1_isSpindle) := goodIn_app (goodIn_of _ (by decide +kernel)) ggX1_clear_X1_isSpindle
set_option maxRecDepth 20000 in
theorem ggX1_clear_X1_settle : GoodIn wsX1_clear wsX1_settle := goodIn_r _ [9, 10, 11, 12, 13, 14, 15, 16, 17, 18, 19, 20, 21, 22, 23, 24, 25, 26] (by decide +kernel) (by decide +kernel)
set_option maxRecDepth 20000 in
theorem gX1_clear_X1_settle : GoodIn wsX1_clear (wsV RX1 27 RX1 yX1_settle wsX1_settle) := goodIn_app (goodIn_of _ (by decide +kernel)) ggX1_clear_X1_settle
theorem dX1_clear_0 : decode cX1_clear 0 = .ok (.iload_n 1, 1) := by decide +kernel
theorem dX1_clear_1 : decode cX1_clear 1 = .ok (.invokestatic 23, 3) := by decide +kernel
theorem dX1_clear_4 : decode cX1_clear 4 = .ok (.ifCond .ne 12, 3) := by decide +kernel
theorem dX1_clear_7 : decode cX1_clear 7 = .ok (.aload_n 0, 1) := by decide +kernel
theorem dX1_clear_8 : decode cX1_clear 8 = .ok (.bipush 6, 2) := by decide +kernel
theorem dX1_clear_10 : decode cX1_clear 10 = .ok (.iconst 0, 1) := by decide +kernel
theorem dX1_clear_11 : decode cX1_clear 11 = .ok (.iconst 0, 1) := by decide +kernel
theorem dX1_clear_12 : decode cX1_clear 12 = .ok (.invokevirtual 27, 3) := by decide +kernel
theorem dX1_clear_15 : decode cX1_clear 15 = .ok (.ireturn, 1) := by decide +kernel
theorem dX1_clear_16 : decode cX1_clear 16 = .ok (.aload_n 0, 1) := by decide +kernel
theorem dX1_clear_17 : decode cX1_clear 17 = .ok (.getfield 11, 3) := by decide +kernel
theorem dX1_clear_20 : decode cX1_clear 20 = .ok (.iload_n 1, 1) := by decide +kernel
theorem dX1_clear_21 : decode cX1_clear 21 = .ok (.aconst_null, 1) := by decide +kernel
theorem dX1_clear_22 : decode cX1_clear 22 = .ok (.aastore, 1) := by decide +kernel
theorem dX1_clear_23 : decode cX1_clear 23 = .ok (.aload_n 0, 1) := by decide +kernel
theorem dX1_clear_24 : decode cX1_clear 24 = .ok (.iconst 0, 1) := by decide +kernel
theorem dX1_clear_25 : decode cX1_clear 25 = .ok (.iconst 0, 1) := by decide +kernel
theorem dX1_clear_26 : decode cX1_clear 26 = .ok (.iconst 0, 1) := by decide +kernel
theorem dX1_clear_27 : decode cX1_clear 27 = .ok (.invokevirtual 27, 3) := by decide +kernel
theorem dX1_clear_30 : decode cX1_clear 30 = .ok (.ireturn, 1) := by decide +kernel
set_option maxRecDepth 20000 in
theorem ggX1_put_X1_refusalOfFrame : GoodIn wsX1_put wsX1_refusalOfFrame := goodIn_r _ [8, 1, 3, 2, 9, 10, 11, 7, 12, 13, 14, 15, 16, 17, 18, 36, 37, 38, 39, 40, 41, 42, 43, 44, 45, 46, 47, 48, 49, 50, 51, 52] (by decide +kernel) (by decide +kernel)
set_option maxRecDepth 20000 in
theorem gX1_put_X1_refusalOfFrame : GoodIn wsX1_put (wsV RX1 56 RX1 yX1_refusalOfFrame wsX1_refusalOfFrame) := goodIn_app (goodIn_of _ (by decide +kernel)) ggX1_put_X1_refusalOfFrame
set_option maxRecDepth 20000 in
theorem ggX1_put_X1_settle : GoodIn wsX1_put wsX1_settle := goodIn_r _ [22, 23, 24, 25, 36, 37, 38, 39, 40, 41, 42, 43, 44, 45, 46, 47, 48, 49] (by decide +kernel) (by decide +kernel)
set_option maxRecDepth 20000 in
theorem gX1_put_X1_settle : GoodIn wsX1_put (wsV RX1 27 RX1 yX1_settle wsX1_settle) := goodIn_app (goodIn_of _ (by decide +kernel)) ggX1_put_X1_settle
set_option maxRecDepth 20000 in
theorem ggX1_put_X1_fitted : GoodIn wsX1_put wsX1_fitted := goodIn_r _ [28] (by decide +kernel) (by decide +kernel)
set_option maxRecDepth 20000 in
theorem gX1_put_X1_fitted : GoodIn wsX1_put (va_wsS RX1 60 yX1_fitted wsX1_fitted) := goodIn_app (goodIn_of _ (by decide +kernel)) ggX1_put_X1_fitted
set_option maxRecDepth 20000 in
theorem ggX1_put_X1_emptyBin : GoodIn wsX1_put wsX1_emptyBin := goodIn_r _ [32, 33, 34, 35, 36, 37, 38, 39, 40, 41, 42, 43, 44, 45, 46, 47, 48, 49] (by decide +kernel) (by decide +kernel)
set_option maxRecDepth 20000 in
theorem gX1_put_X1_emptyBin : GoodIn wsX1_put (wsV RX1 64 RX1 yX1_emptyBin wsX1_emptyBin) := goodIn_app (goodIn_of _ (by decide +kernel)) ggX1_put_X1_emptyBin
theorem dX1_put_0 : decode cX1_put 0 = .ok (.aload_n 0, 1) := by decide +kernel
theorem dX1_put_1 : decode cX1_put 1 = .ok (.iload_n 1, 1) := by decide +kernel
theorem dX1_put_2 : decode cX1_put 2 = .ok (.iconst 1, 1) := by decide +kernel
theorem dX1_put_3 : decode cX1_put 3 = .ok (.iload_n 2, 1) := by decide +kernel
theorem dX1_put_4 : decode cX1_put 4 = .ok (.invokevirtual 56, 3) := by decide +kernel
theorem dX1_put_7 : decode cX1_put 7 = .ok (.istore 5, 2) := by decide +kernel
theorem dX1_put_9 : decode cX1_put 9 = .ok (.iload 5, 2) := by decide +kernel
theorem dX1_put_11 : decode cX1_put 11 = .ok (.ifCond .eq 12, 3) := by decide +kernel
theorem dX1_put_14 : decode cX1_put 14 = .ok (.aload_n 0, 1) := by decide +kernel
theorem dX1_put_15 : decode cX1_put 15 = .ok (.iload 5, 2) := by decide +kernel
theorem dX1_put_17 : decode cX1_put 17 = .ok (.iconst 0, 1) := by decide +kernel
theorem dX1_put_18 : decode cX1_put 18 = .ok (.iconst 0, 1) := by decide +kernel
theorem dX1_put_19 : decode cX1_put 19 = .ok (.invokevirtual 27, 3) := by decide +kernel
theorem dX1_put_22 : decode cX1_put 22 = .ok (.ireturn, 1) := by decide +kernel
theorem dX1_put_23 : decode cX1_put 23 = .ok (.aload_n 0, 1) := by decide +kernel
theorem dX1_put_24 : decode cX1_put 24 = .ok (.getfield 11, 3) := by decide +kernel
theorem dX1_put_27 : decode cX1_put 27 = .ok (.iload_n 1, 1) := by decide +kernel
theorem dX1_put_28 : decode cX1_put 28 = .ok (.aaload, 1) := by decide +kernel
theorem dX1_put_29 : decode cX1_put 29 = .ok (.astore 6, 2) := by decide +kernel
theorem dX1_put_31 : decode cX1_put 31 = .ok (.aload 6, 2) := by decide +kernel
theorem dX1_put_33 : decode cX1_put 33 = .ok (.getfield 48, 3) := by decide +kernel
theorem dX1_put_36 : decode cX1_put 36 = .ok (.iload_n 2, 1) := by decide +kernel
theorem dX1_put_37 : decode cX1_put 37 = .ok (.aload 6, 2) := by decide +kernel
theorem dX1_put_39 : decode cX1_put 39 = .ok (.getfield 42, 3) := by decide +kernel
theorem dX1_put_42 : decode cX1_put 42 = .ok (.lload_n 3, 1) := by decide +kernel
theorem dX1_put_43 : decode cX1_put 43 = .ok (.invokestatic 60, 3) := by decide +kernel
theorem dX1_put_46 : decode cX1_put 46 = .ok (.lastore, 1) := by decide +kernel
theorem dX1_put_47 : decode cX1_put 47 = .ok (.aload_n 0, 1) := by decide +kernel
theorem dX1_put_48 : decode cX1_put 48 = .ok (.invokevirtual 64, 3) := by decide +kernel
theorem dX1_put_51 : decode cX1_put 51 = .ok (.aload_n 0, 1) := by decide +kernel
theorem dX1_put_52 : decode cX1_put 52 = .ok (.iconst 0, 1) := by decide +kernel
theorem dX1_put_53 : decode cX1_put 53 = .ok (.iconst 0, 1) := by decide +kernel
theorem dX1_put_54 : decode cX1_put 54 = .ok (.iconst 0, 1) := by decide +kernel
theorem dX1_put_55 : decode cX1_put 55 = .ok (.invokevirtual 27, 3) := by decide +kernel
theorem dX1_put_58 : decode cX1_put 58 = .ok (.ireturn, 1) := by decide +kernel
set_option maxRecDepth 20000 in
theorem ggX1_shoot_X1_settle : GoodIn wsX1_shoot wsX1_settle := goodIn_r _ [8, 9, 10, 11, 48, 49, 50, 51, 52, 53, 54, 55, 56, 57, 58, 59, 60, 61] (by decide +kernel) (by decide +kernel)
set_option maxRecDepth 20000 in
theorem gX1_shoot_X1_settle : GoodIn wsX1_shoot (wsV RX1 27 RX1 yX1_settle wsX1_settle) := goodIn_app (goodIn_of _ (by decide +kernel)) ggX1_shoot_X1_settle
set_option maxRecDepth 20000 in
theorem ggX1_shoot_X1_refusalOfFrame : GoodIn wsX1_shoot wsX1_refusalOfFrame := goodIn_r _ [15, 1, 2, 3, 16, 17, 18, 7, 19, 20, 21, 22, 23, 24, 25, 48, 49, 50, 51, 52, 53, 54, 55, 56, 57, 58, 59, 60, 61, 62, 63, 64] (by decide +kernel) (by decide +kernel)
set_option maxRecDepth 20000 in
theorem gX1_shoot_X1_refusalOfFrame : GoodIn wsX1_shoot (wsV RX1 56 RX1 yX1_refusalOfFrame wsX1_refusalOfFrame) := goodIn_app (goodIn_of _ (by decide +kernel)) ggX1_shoot_X1_refusalOfFrame
set_option maxRecDepth 20000 in
theorem ggX1_shoot_X1_newShot : GoodIn wsX1_shoot wsX1_newShot := goodIn_r _ [29, 30, 31, 32, 7, 33, 34, 48, 49, 50, 51, 52, 53, 54, 55, 56, 57, 58, 59, 60, 61] (by decide +kernel) (by decide +kernel)
set_option maxRecDepth 20000 in
theorem gX1_shoot_X1_newShot : GoodIn wsX1_shoot (wsV RX1 67 RX1 yX1_newShot wsX1_newShot) := goodIn_app (goodIn_of _ (by decide +kernel)) ggX1_shoot_X1_newShot
set_option maxRecDepth 20000 in
theorem ggX1_shoot_X1_bears : GoodIn wsX1_shoot wsX1_bears := goodIn_r _ [37, 23, 24, 7, 25, 38, 39, 40] (by decide +kernel) (by decide +kernel)
set_option maxRecDepth 20000 in
theorem gX1_shoot_X1_bears : GoodIn wsX1_shoot (va_wsS RX1 71 yX1_bears wsX1_bears) := goodIn_app (goodIn_of _ (by decide +kernel)) ggX1_shoot_X1_bears
set_option maxRecDepth 20000 in
theorem ggX1_shoot_X1_emptyBin : GoodIn wsX1_shoot wsX1_emptyBin := goodIn_r _ [44, 45, 46, 47, 48, 49, 50, 51, 52, 53, 54, 55, 56, 57, 58, 59, 60, 61] (by decide +kernel) (by decide +kernel)
set_option maxRecDepth 20000 in
theorem gX1_shoot_X1_emptyBin : GoodIn wsX1_shoot (wsV RX1 64 RX1 yX1_emptyBin wsX1_emptyBin) := goodIn_app (goodIn_of _ (by decide +kernel)) ggX1_shoot_X1_emptyBin
theorem dX1_shoot_0 : decode cX1_shoot 0 = .ok (.iload_n 3, 1) := by decide +kernel
theorem dX1_shoot_1 : decode cX1_shoot 1 = .ok (.ifCond .lt 8, 3) := by decide +kernel
theorem dX1_shoot_4 : decode cX1_shoot 4 = .ok (.iload_n 3, 1) := by decide +kernel
theorem dX1_shoot_5 : decode cX1_shoot 5 = .ok (.iconst 3, 1) := by decide +kernel
theorem dX1_shoot_6 : decode cX1_shoot 6 = .ok (.if_icmp .le 12, 3) := by decide +kernel
theorem dX1_shoot_9 : decode cX1_shoot 9 = .ok (.aload_n 0, 1) := by decide +kernel
theorem dX1_shoot_10 : decode cX1_shoot 10 = .ok (.bipush 6, 2) := by decide +kernel
theorem dX1_shoot_12 : decode cX1_shoot 12 = .ok (.iconst 0, 1) := by decide +kernel
theorem dX1_shoot_13 : decode cX1_shoot 13 = .ok (.iconst 0, 1) := by decide +kernel
theorem dX1_shoot_14 : decode cX1_shoot 14 = .ok (.invokevirtual 27, 3) := by decide +kernel
theorem dX1_shoot_17 : decode cX1_shoot 17 = .ok (.ireturn, 1) := by decide +kernel
theorem dX1_shoot_18 : decode cX1_shoot 18 = .ok (.aload_n 0, 1) := by decide +kernel
theorem dX1_shoot_19 : decode cX1_shoot 19 = .ok (.iload_n 1, 1) := by decide +kernel
theorem dX1_shoot_20 : decode cX1_shoot 20 = .ok (.iconst 0, 1) := by decide +kernel
theorem dX1_shoot_21 : decode cX1_shoot 21 = .ok (.iload_n 2, 1) := by decide +kernel
theorem dX1_shoot_22 : decode cX1_shoot 22 = .ok (.invokevirtual 56, 3) := by decide +kernel
theorem dX1_shoot_25 : decode cX1_shoot 25 = .ok (.istore 5, 2) := by decide +kernel
theorem dX1_shoot_27 : decode cX1_shoot 27 = .ok (.iload 5, 2) := by decide +kernel
theorem dX1_shoot_29 : decode cX1_shoot 29 = .ok (.ifCond .eq 18, 3) := by decide +kernel
theorem dX1_shoot_32 : decode cX1_shoot 32 = .ok (.iload 5, 2) := by decide +kernel
theorem dX1_shoot_34 : decode cX1_shoot 34 = .ok (.iconst 4, 1) := by decide +kernel
theorem dX1_shoot_35 : decode cX1_shoot 35 = .ok (.if_icmp .eq 12, 3) := by decide +kernel
theorem dX1_shoot_38 : decode cX1_shoot 38 = .ok (.aload_n 0, 1) := by decide +kernel
theorem dX1_shoot_39 : decode cX1_shoot 39 = .ok (.iload 5, 2) := by decide +kernel
theorem dX1_shoot_41 : decode cX1_shoot 41 = .ok (.iconst 0, 1) := by decide +kernel
theorem dX1_shoot_42 : decode cX1_shoot 42 = .ok (.iconst 0, 1) := by decide +kernel
theorem dX1_shoot_43 : decode cX1_shoot 43 = .ok (.invokevirtual 27, 3) := by decide +kernel
theorem dX1_shoot_46 : decode cX1_shoot 46 = .ok (.ireturn, 1) := by decide +kernel
theorem dX1_shoot_47 : decode cX1_shoot 47 = .ok (.iload_n 3, 1) := by decide +kernel
theorem dX1_shoot_48 : decode cX1_shoot 48 = .ok (.iconst 3, 1) := by decide +kernel
theorem dX1_shoot_49 : decode cX1_shoot 49 = .ok (.if_icmp .ne 7, 3) := by decide +kernel
theorem dX1_shoot_52 : decode cX1_shoot 52 = .ok (.lconst 0, 1) := by decide +kernel
theorem dX1_shoot_53 : decode cX1_shoot 53 = .ok (.goto 10, 3) := by decide +kernel
theorem dX1_shoot_56 : decode cX1_shoot 56 = .ok (.aload_n 0, 1) := by decide +kernel
theorem dX1_shoot_57 : decode cX1_shoot 57 = .ok (.iload_n 3, 1) := by decide +kernel
theorem dX1_shoot_58 : decode cX1_shoot 58 = .ok (.iload 4, 2) := by decide +kernel
theorem dX1_shoot_60 : decode cX1_shoot 60 = .ok (.invokevirtual 67, 3) := by decide +kernel
theorem dX1_shoot_63 : decode cX1_shoot 63 = .ok (.lstore 6, 2) := by decide +kernel
theorem dX1_shoot_65 : decode cX1_shoot 65 = .ok (.iload 5, 2) := by decide +kernel
theorem dX1_shoot_67 : decode cX1_shoot 67 = .ok (.iconst 4, 1) := by decide +kernel
theorem dX1_shoot_68 : decode cX1_shoot 68 = .ok (.if_icmp .ne 11, 3) := by decide +kernel
theorem dX1_shoot_71 : decode cX1_shoot 71 = .ok (.aload_n 0, 1) := by decide +kernel
theorem dX1_shoot_72 : decode cX1_shoot 72 = .ok (.iconst 4, 1) := by decide +kernel
theorem dX1_shoot_73 : decode cX1_shoot 73 = .ok (.iconst 0, 1) := by decide +kernel
theorem dX1_shoot_74 : decode cX1_shoot 74 = .ok (.iconst 0, 1) := by decide +kernel
theorem dX1_shoot_75 : decode cX1_shoot 75 = .ok (.invokevirtual 27, 3) := by decide +kernel
theorem dX1_shoot_78 : decode cX1_shoot 78 = .ok (.ireturn, 1) := by decide +kernel
theorem dX1_shoot_79 : decode cX1_shoot 79 = .ok (.aload_n 0, 1) := by decide +kernel
theorem dX1_shoot_80 : decode cX1_shoot 80 = .ok (.getfield 11, 3) := by decide +kernel
theorem dX1_shoot_83 : decode cX1_shoot 83 = .ok (.iload_n 1, 1) := by decide +kernel
theorem dX1_shoot_84 : decode cX1_shoot 84 = .ok (.aaload, 1) := by decide +kernel
theorem dX1_shoot_85 : decode cX1_shoot 85 = .ok (.astore 8, 2) := by decide +kernel
theorem dX1_shoot_87 : decode cX1_shoot 87 = .ok (.aload 8, 2) := by decide +kernel
theorem dX1_shoot_89 : decode cX1_shoot 89 = .ok (.getfield 42, 3) := by decide +kernel
theorem dX1_shoot_92 : decode cX1_shoot 92 = .ok (.lload 6, 2) := by decide +kernel
theorem dX1_shoot_94 : decode cX1_shoot 94 = .ok (.invokestatic 71, 3) := by decide +kernel
theorem dX1_shoot_97 : decode cX1_shoot 97 = .ok (.ifCond .ne 11, 3) := by decide +kernel
theorem dX1_shoot_100 : decode cX1_shoot 100 = .ok (.aload_n 0, 1) := by decide +kernel
theorem dX1_shoot_101 : decode cX1_shoot 101 = .ok (.iconst 5, 1) := by decide +kernel
theorem dX1_shoot_102 : decode cX1_shoot 102 = .ok (.iconst 0, 1) := by decide +kernel
theorem dX1_shoot_103 : decode cX1_shoot 103 = .ok (.iconst 0, 1) := by decide +kernel
theorem dX1_shoot_104 : decode cX1_shoot 104 = .ok (.invokevirtual 27, 3) := by decide +kernel
theorem dX1_shoot_107 : decode cX1_shoot 107 = .ok (.ireturn, 1) := by decide +kernel
theorem dX1_shoot_108 : decode cX1_shoot 108 = .ok (.aload 8, 2) := by decide +kernel
theorem dX1_shoot_110 : decode cX1_shoot 110 = .ok (.getfield 48, 3) := by decide +kernel
theorem dX1_shoot_113 : decode cX1_shoot 113 = .ok (.iload_n 2, 1) := by decide +kernel
theorem dX1_shoot_114 : decode cX1_shoot 114 = .ok (.lload 6, 2) := by decide +kernel
theorem dX1_shoot_116 : decode cX1_shoot 116 = .ok (.lastore, 1) := by decide +kernel
theorem dX1_shoot_117 : decode cX1_shoot 117 = .ok (.aload_n 0, 1) := by decide +kernel
theorem dX1_shoot_118 : decode cX1_shoot 118 = .ok (.invokevirtual 64, 3) := by decide +kernel
theorem dX1_shoot_121 : decode cX1_shoot 121 = .ok (.aload_n 0, 1) := by decide +kernel
theorem dX1_shoot_122 : decode cX1_shoot 122 = .ok (.iconst 0, 1) := by decide +kernel
theorem dX1_shoot_123 : decode cX1_shoot 123 = .ok (.iconst 0, 1) := by decide +kernel
theorem dX1_shoot_124 : decode cX1_shoot 124 = .ok (.iconst 0, 1) := by decide +kernel
theorem dX1_shoot_125 : decode cX1_shoot 125 = .ok (.invokevirtual 27, 3) := by decide +kernel
theorem dX1_shoot_128 : decode cX1_shoot 128 = .ok (.ireturn, 1) := by decide +kernel
set_option maxRecDepth 20000 in
theorem ggX1_splice_X1_doSplice : GoodIn wsX1_splice wsX1_doSplice := goodIn_r _ [5, 6, 7, 8, 9, 10, 11, 12, 13, 14, 15, 16, 17, 4, 18, 19, 20, 21, 22, 23, 24, 25, 26, 27, 28, 29, 30, 31, 32, 33, 34, 35, 36, 37, 38, 39, 40, 41, 42, 43, 44, 45, 46, 47, 48, 49, 50, 51, 52, 53, 54, 55, 56, 57, 58, 59, 60, 61, 62, 63, 64, 65, 66, 67, 68, 69, 70, 71, 72] (by decide +kernel) (by decide +kernel)
set_option maxRecDepth 20000 in
theorem gX1_splice_X1_doSplice : GoodIn wsX1_splice (wsV RX1 75 RX1 yX1_doSplice wsX1_doSplice) := goodIn_app (goodIn_of _ (by decide +kernel)) ggX1_splice_X1_doSplice
theorem dX1_splice_0 : decode cX1_splice 0 = .ok (.aload_n 0, 1) := by decide +kernel
theorem dX1_splice_1 : decode cX1_splice 1 = .ok (.iload_n 1, 1) := by decide +kernel
theorem dX1_splice_2 : decode cX1_splice 2 = .ok (.iload_n 2, 1) := by decide +kernel
theorem dX1_splice_3 : decode cX1_splice 3 = .ok (.iload_n 3, 1) := by decide +kernel
theorem dX1_splice_4 : decode cX1_splice 4 = .ok (.iload 4, 2) := by decide +kernel
theorem dX1_splice_6 : decode cX1_splice 6 = .ok (.i2l, 1) := by decide +kernel
theorem dX1_splice_7 : decode cX1_splice 7 = .ok (.iload 5, 2) := by decide +kernel
theorem dX1_splice_9 : decode cX1_splice 9 = .ok (.invokevirtual 75, 3) := by decide +kernel
theorem dX1_splice_12 : decode cX1_splice 12 = .ok (.istore 6, 2) := by decide +kernel
theorem dX1_splice_14 : decode cX1_splice 14 = .ok (.iload 6, 2) := by decide +kernel
theorem dX1_splice_16 : decode cX1_splice 16 = .ok (.ifCond .ne 8, 3) := by decide +kernel
theorem dX1_splice_19 : decode cX1_splice 19 = .ok (.iload 5, 2) := by decide +kernel
theorem dX1_splice_21 : decode cX1_splice 21 = .ok (.goto 6, 3) := by decide +kernel
theorem dX1_splice_24 : decode cX1_splice 24 = .ok (.iload 6, 2) := by decide +kernel
theorem dX1_splice_26 : decode cX1_splice 26 = .ok (.ineg, 1) := by decide +kernel
theorem dX1_splice_27 : decode cX1_splice 27 = .ok (.ireturn, 1) := by decide +kernel
set_option maxRecDepth 20000 in
theorem ggX1_open_X1_refusalOfGap : GoodIn wsX1_open wsX1_refusalOfGap := goodIn_r _ [11, 1, 2, 12, 13, 14, 10, 15, 16, 17, 18, 19, 20, 21, 22, 23, 24, 25, 26, 27, 28, 29, 40, 41, 42, 43, 44, 45, 46, 47, 48, 49, 50, 51, 52, 53, 54, 55, 56] (by decide +kernel) (by decide +kernel)
set_option maxRecDepth 20000 in
theorem gX1_open_X1_refusalOfGap : GoodIn wsX1_open (wsV RX1 79 RX1 yX1_refusalOfGap wsX1_refusalOfGap) := goodIn_app (goodIn_of _ (by decide +kernel)) ggX1_open_X1_refusalOfGap
set_option maxRecDepth 20000 in
theorem ggX1_open_X1_blankFrames : GoodIn wsX1_open wsX1_blankFrames := goodIn_r _ [32] (by decide +kernel) (by decide +kernel)
set_option maxRecDepth 20000 in
theorem gX1_open_X1_blankFrames : GoodIn wsX1_open (va_wsS RX1 88 yX1_blankFrames wsX1_blankFrames) := goodIn_app (goodIn_of _ (by decide +kernel)) ggX1_open_X1_blankFrames
set_option maxRecDepth 20000 in
theorem ggX1_open_X1_emptyBin : GoodIn wsX1_open wsX1_emptyBin := goodIn_r _ [36, 37, 38, 39, 40, 41, 42, 43, 44, 45, 46, 47, 48, 49, 50, 51, 52, 53] (by decide +kernel) (by decide +kernel)
set_option maxRecDepth 20000 in
theorem gX1_open_X1_emptyBin : GoodIn wsX1_open (wsV RX1 64 RX1 yX1_emptyBin wsX1_emptyBin) := goodIn_app (goodIn_of _ (by decide +kernel)) ggX1_open_X1_emptyBin
theorem dX1_open_0 : decode cX1_open 0 = .ok (.aload_n 0, 1) := by decide +kernel
theorem dX1_open_1 : decode cX1_open 1 = .ok (.iload_n 1, 1) := by decide +kernel
theorem dX1_open_2 : decode cX1_open 2 = .ok (.iload_n 2, 1) := by decide +kernel
theorem dX1_open_3 : decode cX1_open 3 = .ok (.iload_n 3, 1) := by decide +kernel
theorem dX1_open_4 : decode cX1_open 4 = .ok (.invokevirtual 79, 3) := by decide +kernel
theorem dX1_open_7 : decode cX1_open 7 = .ok (.istore 4, 2) := by decide +kernel
theorem dX1_open_9 : decode cX1_open 9 = .ok (.iload 4, 2) := by decide +kernel
theorem dX1_open_11 : decode cX1_open 11 = .ok (.ifCond .eq 7, 3) := by decide +kernel
theorem dX1_open_14 : decode cX1_open 14 = .ok (.iload 4, 2) := by decide +kernel
theorem dX1_open_16 : decode cX1_open 16 = .ok (.ineg, 1) := by decide +kernel
theorem dX1_open_17 : decode cX1_open 17 = .ok (.ireturn, 1) := by decide +kernel
theorem dX1_open_18 : decode cX1_open 18 = .ok (.aload_n 0, 1) := by decide +kernel
theorem dX1_open_19 : decode cX1_open 19 = .ok (.getfield 11, 3) := by decide +kernel
theorem dX1_open_22 : decode cX1_open 22 = .ok (.iload_n 1, 1) := by decide +kernel
theorem dX1_open_23 : decode cX1_open 23 = .ok (.aaload, 1) := by decide +kernel
theorem dX1_open_24 : decode cX1_open 24 = .ok (.getfield 48, 3) := by decide +kernel
theorem dX1_open_27 : decode cX1_open 27 = .ok (.astore 5, 2) := by decide +kernel
theorem dX1_open_29 : decode cX1_open 29 = .ok (.aload 5, 2) := by decide +kernel
theorem dX1_open_31 : decode cX1_open 31 = .ok (.arraylength, 1) := by decide +kernel
theorem dX1_open_32 : decode cX1_open 32 = .ok (.iload_n 2, 1) := by decide +kernel
theorem dX1_open_33 : decode cX1_open 33 = .ok (.isub, 1) := by decide +kernel
theorem dX1_open_34 : decode cX1_open 34 = .ok (.iload_n 3, 1) := by decide +kernel
theorem dX1_open_35 : decode cX1_open 35 = .ok (.isub, 1) := by decide +kernel
theorem dX1_open_36 : decode cX1_open 36 = .ok (.istore 6, 2) := by decide +kernel
theorem dX1_open_38 : decode cX1_open 38 = .ok (.aload 5, 2) := by decide +kernel
theorem dX1_open_40 : decode cX1_open 40 = .ok (.iload_n 2, 1) := by decide +kernel
theorem dX1_open_41 : decode cX1_open 41 = .ok (.aload 5, 2) := by decide +kernel
theorem dX1_open_43 : decode cX1_open 43 = .ok (.iload_n 2, 1) := by decide +kernel
theorem dX1_open_44 : decode cX1_open 44 = .ok (.iload_n 3, 1) := by decide +kernel
theorem dX1_open_45 : decode cX1_open 45 = .ok (.iadd, 1) := by decide +kernel
theorem dX1_open_46 : decode cX1_open 46 = .ok (.iload 6, 2) := by decide +kernel
theorem dX1_open_48 : decode cX1_open 48 = .ok (.invokestatic 82, 3) := by decide +kernel
theorem dX1_open_51 : decode cX1_open 51 = .ok (.aload 5, 2) := by decide +kernel
theorem dX1_open_53 : decode cX1_open 53 = .ok (.iload_n 2, 1) := by decide +kernel
theorem dX1_open_54 : decode cX1_open 54 = .ok (.iload_n 2, 1) := by decide +kernel
theorem dX1_open_55 : decode cX1_open 55 = .ok (.iload_n 3, 1) := by decide +kernel
theorem dX1_open_56 : decode cX1_open 56 = .ok (.iadd, 1) := by decide +kernel
theorem dX1_open_57 : decode cX1_open 57 = .ok (.invokestatic 88, 3) := by decide +kernel
theorem dX1_open_60 : decode cX1_open 60 = .ok (.aload_n 0, 1) := by decide +kernel
theorem dX1_open_61 : decode cX1_open 61 = .ok (.invokevirtual 64, 3) := by decide +kernel
theorem dX1_open_64 : decode cX1_open 64 = .ok (.iload 6, 2) := by decide +kernel
theorem dX1_open_66 : decode cX1_open 66 = .ok (.ireturn, 1) := by decide +kernel
set_option maxRecDepth 20000 in
theorem ggX1_close_X1_refusalOfGap : GoodIn wsX1_close wsX1_refusalOfGap := goodIn_r _ [11, 1, 2, 12, 13, 14, 10, 15, 16, 17, 18, 19, 20, 21, 22, 23, 24, 25, 26, 27, 28, 29, 40, 41, 42, 43, 44, 45, 46, 47, 48, 49, 50, 51, 52, 53, 54, 55, 56] (by decide +kernel) (by decide +kernel)
set_option maxRecDepth 20000 in
theorem gX1_close_X1_refusalOfGap : GoodIn wsX1_close (wsV RX1 79 RX1 yX1_refusalOfGap wsX1_refusalOfGap) := goodIn_app (goodIn_of _ (by decide +kernel)) ggX1_close_X1_refusalOfGap
set_option maxRecDepth 20000 in
theorem ggX1_close_X1_blankFrames : GoodIn wsX1_close wsX1_blankFrames := goodIn_r _ [32] (by decide +kernel) (by decide +kernel)
set_option maxRecDepth 20000 in
theorem gX1_close_X1_blankFrames : GoodIn wsX1_close (va_wsS RX1 88 yX1_blankFrames wsX1_blankFrames) := goodIn_app (goodIn_of _ (by decide +kernel)) ggX1_close_X1_blankFrames
set_option maxRecDepth 20000 in
theorem ggX1_close_X1_emptyBin : GoodIn wsX1_close wsX1_emptyBin := goodIn_r _ [36, 37, 38, 39, 40, 41, 42, 43, 44, 45, 46, 47, 48, 49, 50, 51, 52, 53] (by decide +kernel) (by decide +kernel)
set_option maxRecDepth 20000 in
theorem gX1_close_X1_emptyBin : GoodIn wsX1_close (wsV RX1 64 RX1 yX1_emptyBin wsX1_emptyBin) := goodIn_app (goodIn_of _ (by decide +kernel)) ggX1_close_X1_emptyBin
theorem dX1_close_0 : decode cX1_close 0 = .ok (.aload_n 0, 1) := by decide +kernel
theorem dX1_close_1 : decode cX1_close 1 = .ok (.iload_n 1, 1) := by decide +kernel
theorem dX1_close_2 : decode cX1_close 2 = .ok (.iload_n 2, 1) := by decide +kernel
theorem dX1_close_3 : decode cX1_close 3 = .ok (.iload_n 3, 1) := by decide +kernel
theorem dX1_close_4 : decode cX1_close 4 = .ok (.invokevirtual 79, 3) := by decide +kernel
theorem dX1_close_7 : decode cX1_close 7 = .ok (.istore 4, 2) := by decide +kernel
theorem dX1_close_9 : decode cX1_close 9 = .ok (.iload 4, 2) := by decide +kernel
theorem dX1_close_11 : decode cX1_close 11 = .ok (.ifCond .eq 7, 3) := by decide +kernel
theorem dX1_close_14 : decode cX1_close 14 = .ok (.iload 4, 2) := by decide +kernel
theorem dX1_close_16 : decode cX1_close 16 = .ok (.ineg, 1) := by decide +kernel
theorem dX1_close_17 : decode cX1_close 17 = .ok (.ireturn, 1) := by decide +kernel
theorem dX1_close_18 : decode cX1_close 18 = .ok (.aload_n 0, 1) := by decide +kernel
theorem dX1_close_19 : decode cX1_close 19 = .ok (.getfield 11, 3) := by decide +kernel
theorem dX1_close_22 : decode cX1_close 22 = .ok (.iload_n 1, 1) := by decide +kernel
theorem dX1_close_23 : decode cX1_close 23 = .ok (.aaload, 1) := by decide +kernel
theorem dX1_close_24 : decode cX1_close 24 = .ok (.getfield 48, 3) := by decide +kernel
theorem dX1_close_27 : decode cX1_close 27 = .ok (.astore 5, 2) := by decide +kernel
theorem dX1_close_29 : decode cX1_close 29 = .ok (.aload 5, 2) := by decide +kernel
theorem dX1_close_31 : decode cX1_close 31 = .ok (.arraylength, 1) := by decide +kernel
theorem dX1_close_32 : decode cX1_close 32 = .ok (.iload_n 2, 1) := by decide +kernel
theorem dX1_close_33 : decode cX1_close 33 = .ok (.isub, 1) := by decide +kernel
theorem dX1_close_34 : decode cX1_close 34 = .ok (.iload_n 3, 1) := by decide +kernel
theorem dX1_close_35 : decode cX1_close 35 = .ok (.isub, 1) := by decide +kernel
theorem dX1_close_36 : decode cX1_close 36 = .ok (.istore 6, 2) := by decide +kernel
theorem dX1_close_38 : decode cX1_close 38 = .ok (.aload 5, 2) := by decide +kernel
theorem dX1_close_40 : decode cX1_close 40 = .ok (.iload_n 2, 1) := by decide +kernel
theorem dX1_close_41 : decode cX1_close 41 = .ok (.iload_n 3, 1) := by decide +kernel
theorem dX1_close_42 : decode cX1_close 42 = .ok (.iadd, 1) := by decide +kernel
theorem dX1_close_43 : decode cX1_close 43 = .ok (.aload 5, 2) := by decide +kernel
theorem dX1_close_45 : decode cX1_close 45 = .ok (.iload_n 2, 1) := by decide +kernel
theorem dX1_close_46 : decode cX1_close 46 = .ok (.iload 6, 2) := by decide +kernel
theorem dX1_close_48 : decode cX1_close 48 = .ok (.invokestatic 82, 3) := by decide +kernel
theorem dX1_close_51 : decode cX1_close 51 = .ok (.aload 5, 2) := by decide +kernel
theorem dX1_close_53 : decode cX1_close 53 = .ok (.iload_n 2, 1) := by decide +kernel
theorem dX1_close_54 : decode cX1_close 54 = .ok (.iload 6, 2) := by decide +kernel
theorem dX1_close_56 : decode cX1_close 56 = .ok (.iadd, 1) := by decide +kernel
theorem dX1_close_57 : decode cX1_close 57 = .ok (.aload 5, 2) := by decide +kernel
theorem dX1_close_59 : decode cX1_close 59 = .ok (.arraylength, 1) := by decide +kernel
theorem dX1_close_60 : decode cX1_close 60 = .ok (.invokestatic 88, 3) := by decide +kernel
theorem dX1_close_63 : decode cX1_close 63 = .ok (.aload_n 0, 1) := by decide +kernel
theorem dX1_close_64 : decode cX1_close 64 = .ok (.invokevirtual 64, 3) := by decide +kernel
theorem dX1_close_67 : decode cX1_close 67 = .ok (.iload 6, 2) := by decide +kernel
theorem dX1_close_69 : decode cX1_close 69 = .ok (.ireturn, 1) := by decide +kernel
set_option maxRecDepth 20000 in
theorem ggX1_loop_X1_isSpindle : GoodIn wsX1_loop wsX1_isSpindle := goodIn_r _ [4] (by decide +kernel) (by decide +kernel)
set_option maxRecDepth 20000 in
theorem gX1_loop_X1_isSpindle : GoodIn wsX1_loop (va_wsS RX1 23 yX1_isSpindle wsX1_isSpindle) := goodIn_app (goodIn_of _ (by decide +kernel)) ggX1_loop_X1_isSpindle
set_option maxRecDepth 20000 in
theorem ggX1_loop_X1_settle : GoodIn wsX1_loop wsX1_settle := goodIn_r _ [8, 9, 10, 11, 56, 57, 58, 59, 60, 61, 62, 63, 64, 65, 66, 67, 68, 69] (by decide +kernel) (by decide +kernel)
set_option maxRecDepth 20000 in
theorem gX1_loop_X1_settle : GoodIn wsX1_loop (wsV RX1 27 RX1 yX1_settle wsX1_settle) := goodIn_app (goodIn_of _ (by decide +kernel)) ggX1_loop_X1_settle
set_option maxRecDepth 20000 in
theorem ggX1_loop_X1_doSplice : GoodIn wsX1_loop wsX1_doSplice := goodIn_r _ [15, 16, 17, 18, 19, 20, 21, 22, 23, 24, 25, 26, 27, 3, 28, 29, 30, 31, 32, 1, 2, 4, 33, 34, 35, 5, 6, 7, 8, 9, 10, 11, 36, 37, 38, 39, 40, 41, 42, 43, 44, 45, 46, 47, 48, 49, 50, 51, 52, 53, 54, 55, 56, 57, 58, 59, 60, 61, 62, 63, 64, 65, 66, 67, 68, 69, 70, 71, 72] (by decide +kernel) (by decide +kernel)
set_option maxRecDepth 20000 in
theorem gX1_loop_X1_doSplice : GoodIn wsX1_loop (wsV RX1 75 RX1 yX1_doSplice wsX1_doSplice) := goodIn_app (goodIn_of _ (by decide +kernel)) ggX1_loop_X1_doSplice
theorem dX1_loop_0 : decode cX1_loop 0 = .ok (.iload_n 1, 1) := by decide +kernel
theorem dX1_loop_1 : decode cX1_loop 1 = .ok (.invokestatic 23, 3) := by decide +kernel
theorem dX1_loop_4 : decode cX1_loop 4 = .ok (.ifCond .eq 15, 3) := by decide +kernel
theorem dX1_loop_7 : decode cX1_loop 7 = .ok (.iload 4, 2) := by decide +kernel
theorem dX1_loop_9 : decode cX1_loop 9 = .ok (.ifCond .lt 10, 3) := by decide +kernel
theorem dX1_loop_12 : decode cX1_loop 12 = .ok (.iload 4, 2) := by decide +kernel
theorem dX1_loop_14 : decode cX1_loop 14 = .ok (.bipush 20, 2) := by decide +kernel
theorem dX1_loop_16 : decode cX1_loop 16 = .ok (.if_icmp .le 13, 3) := by decide +kernel
theorem dX1_loop_19 : decode cX1_loop 19 = .ok (.aload_n 0, 1) := by decide +kernel
theorem dX1_loop_20 : decode cX1_loop 20 = .ok (.bipush 6, 2) := by decide +kernel
theorem dX1_loop_22 : decode cX1_loop 22 = .ok (.iconst 0, 1) := by decide +kernel
theorem dX1_loop_23 : decode cX1_loop 23 = .ok (.iconst 0, 1) := by decide +kernel
theorem dX1_loop_24 : decode cX1_loop 24 = .ok (.invokevirtual 27, 3) := by decide +kernel
theorem dX1_loop_27 : decode cX1_loop 27 = .ok (.ineg, 1) := by decide +kernel
theorem dX1_loop_28 : decode cX1_loop 28 = .ok (.ireturn, 1) := by decide +kernel
theorem dX1_loop_29 : decode cX1_loop 29 = .ok (.aload_n 0, 1) := by decide +kernel
theorem dX1_loop_30 : decode cX1_loop 30 = .ok (.iconst 0, 1) := by decide +kernel
theorem dX1_loop_31 : decode cX1_loop 31 = .ok (.iconst 0, 1) := by decide +kernel
theorem dX1_loop_32 : decode cX1_loop 32 = .ok (.iconst 0, 1) := by decide +kernel
theorem dX1_loop_33 : decode cX1_loop 33 = .ok (.invokevirtual 27, 3) := by decide +kernel
theorem dX1_loop_36 : decode cX1_loop 36 = .ok (.pop, 1) := by decide +kernel
theorem dX1_loop_37 : decode cX1_loop 37 = .ok (.iconst 0, 1) := by decide +kernel
theorem dX1_loop_38 : decode cX1_loop 38 = .ok (.istore 5, 2) := by decide +kernel
theorem dX1_loop_40 : decode cX1_loop 40 = .ok (.iload 5, 2) := by decide +kernel
theorem dX1_loop_42 : decode cX1_loop 42 = .ok (.iload 4, 2) := by decide +kernel
theorem dX1_loop_44 : decode cX1_loop 44 = .ok (.if_icmp .ge 31, 3) := by decide +kernel
theorem dX1_loop_47 : decode cX1_loop 47 = .ok (.aload_n 0, 1) := by decide +kernel
theorem dX1_loop_48 : decode cX1_loop 48 = .ok (.iload_n 1, 1) := by decide +kernel
theorem dX1_loop_49 : decode cX1_loop 49 = .ok (.iload_n 2, 1) := by decide +kernel
theorem dX1_loop_50 : decode cX1_loop 50 = .ok (.iload_n 1, 1) := by decide +kernel
theorem dX1_loop_51 : decode cX1_loop 51 = .ok (.iload_n 2, 1) := by decide +kernel
theorem dX1_loop_52 : decode cX1_loop 52 = .ok (.i2l, 1) := by decide +kernel
theorem dX1_loop_53 : decode cX1_loop 53 = .ok (.iload 5, 2) := by decide +kernel
theorem dX1_loop_55 : decode cX1_loop 55 = .ok (.i2l, 1) := by decide +kernel
theorem dX1_loop_56 : decode cX1_loop 56 = .ok (.lconst 1, 1) := by decide +kernel
theorem dX1_loop_57 : decode cX1_loop 57 = .ok (.ladd, 1) := by decide +kernel
theorem dX1_loop_58 : decode cX1_loop 58 = .ok (.iload_n 3, 1) := by decide +kernel
theorem dX1_loop_59 : decode cX1_loop 59 = .ok (.i2l, 1) := by decide +kernel
theorem dX1_loop_60 : decode cX1_loop 60 = .ok (.lmul, 1) := by decide +kernel
theorem dX1_loop_61 : decode cX1_loop 61 = .ok (.ladd, 1) := by decide +kernel
theorem dX1_loop_62 : decode cX1_loop 62 = .ok (.iload_n 3, 1) := by decide +kernel
theorem dX1_loop_63 : decode cX1_loop 63 = .ok (.invokevirtual 75, 3) := by decide +kernel
theorem dX1_loop_66 : decode cX1_loop 66 = .ok (.ifCond .ne 9, 3) := by decide +kernel
theorem dX1_loop_69 : decode cX1_loop 69 = .ok (.iinc 5 1, 3) := by decide +kernel
theorem dX1_loop_72 : decode cX1_loop 72 = .ok (.goto (-32), 3) := by decide +kernel
theorem dX1_loop_75 : decode cX1_loop 75 = .ok (.iload 5, 2) := by decide +kernel
theorem dX1_loop_77 : decode cX1_loop 77 = .ok (.ireturn, 1) := by decide +kernel
theorem dX1_note_0 : decode cX1_note 0 = .ok (.aload_n 0, 1) := by decide +kernel
theorem dX1_note_1 : decode cX1_note 1 = .ok (.getfield 92, 3) := by decide +kernel
theorem dX1_note_4 : decode cX1_note 4 = .ok (.bipush 16, 2) := by decide +kernel
theorem dX1_note_6 : decode cX1_note 6 = .ok (.if_icmp .lt 5, 3) := by decide +kernel
theorem dX1_note_9 : decode cX1_note 9 = .ok (.iconst (-1), 1) := by decide +kernel
theorem dX1_note_10 : decode cX1_note 10 = .ok (.ireturn, 1) := by decide +kernel
theorem dX1_note_11 : decode cX1_note 11 = .ok (.aload_n 0, 1) := by decide +kernel
theorem dX1_note_12 : decode cX1_note 12 = .ok (.getfield 92, 3) := by decide +kernel
theorem dX1_note_15 : decode cX1_note 15 = .ok (.iconst 5, 1) := by decide +kernel
theorem dX1_note_16 : decode cX1_note 16 = .ok (.imul, 1) := by decide +kernel
theorem dX1_note_17 : decode cX1_note 17 = .ok (.istore 6, 2) := by decide +kernel
theorem dX1_note_19 : decode cX1_note 19 = .ok (.aload_n 0, 1) := by decide +kernel
theorem dX1_note_20 : decode cX1_note 20 = .ok (.getfield 15, 3) := by decide +kernel
theorem dX1_note_23 : decode cX1_note 23 = .ok (.iload 6, 2) := by decide +kernel
theorem dX1_note_25 : decode cX1_note 25 = .ok (.iload_n 1, 1) := by decide +kernel
theorem dX1_note_26 : decode cX1_note 26 = .ok (.iastore, 1) := by decide +kernel
theorem dX1_note_27 : decode cX1_note 27 = .ok (.aload_n 0, 1) := by decide +kernel
theorem dX1_note_28 : decode cX1_note 28 = .ok (.getfield 15, 3) := by decide +kernel
theorem dX1_note_31 : decode cX1_note 31 = .ok (.iload 6, 2) := by decide +kernel
theorem dX1_note_33 : decode cX1_note 33 = .ok (.iconst 1, 1) := by decide +kernel
theorem dX1_note_34 : decode cX1_note 34 = .ok (.iadd, 1) := by decide +kernel
theorem dX1_note_35 : decode cX1_note 35 = .ok (.iload_n 2, 1) := by decide +kernel
theorem dX1_note_36 : decode cX1_note 36 = .ok (.iastore, 1) := by decide +kernel
theorem dX1_note_37 : decode cX1_note 37 = .ok (.aload_n 0, 1) := by decide +kernel
theorem dX1_note_38 : decode cX1_note 38 = .ok (.getfield 15, 3) := by decide +kernel
theorem dX1_note_41 : decode cX1_note 41 = .ok (.iload 6, 2) := by decide +kernel
theorem dX1_note_43 : decode cX1_note 43 = .ok (.iconst 2, 1) := by decide +kernel
theorem dX1_note_44 : decode cX1_note 44 = .ok (.iadd, 1) := by decide +kernel
theorem dX1_note_45 : decode cX1_note 45 = .ok (.iload_n 3, 1) := by decide +kernel
theorem dX1_note_46 : decode cX1_note 46 = .ok (.iastore, 1) := by decide +kernel
theorem dX1_note_47 : decode cX1_note 47 = .ok (.aload_n 0, 1) := by decide +kernel
theorem dX1_note_48 : decode cX1_note 48 = .ok (.getfield 15, 3) := by decide +kernel
theorem dX1_note_51 : decode cX1_note 51 = .ok (.iload 6, 2) := by decide +kernel
theorem dX1_note_53 : decode cX1_note 53 = .ok (.iconst 3, 1) := by decide +kernel
theorem dX1_note_54 : decode cX1_note 54 = .ok (.iadd, 1) := by decide +kernel
theorem dX1_note_55 : decode cX1_note 55 = .ok (.iload 4, 2) := by decide +kernel
theorem dX1_note_57 : decode cX1_note 57 = .ok (.iastore, 1) := by decide +kernel
theorem dX1_note_58 : decode cX1_note 58 = .ok (.aload_n 0, 1) := by decide +kernel
theorem dX1_note_59 : decode cX1_note 59 = .ok (.getfield 15, 3) := by decide +kernel
theorem dX1_note_62 : decode cX1_note 62 = .ok (.iload 6, 2) := by decide +kernel
theorem dX1_note_64 : decode cX1_note 64 = .ok (.iconst 4, 1) := by decide +kernel
theorem dX1_note_65 : decode cX1_note 65 = .ok (.iadd, 1) := by decide +kernel
theorem dX1_note_66 : decode cX1_note 66 = .ok (.iload 5, 2) := by decide +kernel
theorem dX1_note_68 : decode cX1_note 68 = .ok (.iastore, 1) := by decide +kernel
theorem dX1_note_69 : decode cX1_note 69 = .ok (.aload_n 0, 1) := by decide +kernel
theorem dX1_note_70 : decode cX1_note 70 = .ok (.dup, 1) := by decide +kernel
theorem dX1_note_71 : decode cX1_note 71 = .ok (.getfield 92, 3) := by decide +kernel
theorem dX1_note_74 : decode cX1_note 74 = .ok (.iconst 1, 1) := by decide +kernel
theorem dX1_note_75 : decode cX1_note 75 = .ok (.iadd, 1) := by decide +kernel
theorem dX1_note_76 : decode cX1_note 76 = .ok (.putfield 92, 3) := by decide +kernel
theorem dX1_note_79 : decode cX1_note 79 = .ok (.aload_n 0, 1) := by decide +kernel
theorem dX1_note_80 : decode cX1_note 80 = .ok (.getfield 92, 3) := by decide +kernel
theorem dX1_note_83 : decode cX1_note 83 = .ok (.ireturn, 1) := by decide +kernel
set_option maxRecDepth 20000 in
theorem ggX1_play_X1_settle : GoodIn wsX1_play wsX1_settle := goodIn_r _ [11, 12, 13, 14, 62, 63, 64, 65, 66, 67, 68, 69, 70, 71, 72, 73, 74, 75] (by decide +kernel) (by decide +kernel)
set_option maxRecDepth 20000 in
theorem gX1_play_X1_settle : GoodIn wsX1_play (wsV RX1 27 RX1 yX1_settle wsX1_settle) := goodIn_app (goodIn_of _ (by decide +kernel)) ggX1_play_X1_settle
set_option maxRecDepth 20000 in
theorem ggX1_play_X1_playCut : GoodIn wsX1_play wsX1_playCut := goodIn_r _ [18, 2, 19, 20, 21, 10, 22, 23, 24, 25, 3, 4, 5, 6, 26, 27, 28, 29, 30, 31, 32, 33, 34, 35, 36, 37, 38, 39, 40, 41, 7, 8, 9, 11, 12, 13, 14, 42, 43, 44, 45, 46, 47, 48, 49, 50, 51, 52, 53, 54, 55, 56, 57, 58, 59, 60, 61, 62, 63, 64, 65, 66, 67, 68, 69, 70, 71, 72, 73, 74, 75, 76, 77, 78] (by decide +kernel) (by decide +kernel)
set_option maxRecDepth 20000 in
theorem gX1_play_X1_playCut : GoodIn wsX1_play (wsV RX1 95 RX1 yX1_playCut wsX1_playCut) := goodIn_app (goodIn_of _ (by decide +kernel)) ggX1_play_X1_playCut
theorem dX1_play_0 : decode cX1_play 0 = .ok (.aload_n 0, 1) := by decide +kernel
theorem dX1_play_1 : decode cX1_play 1 = .ok (.iconst 0, 1) := by decide +kernel
theorem dX1_play_2 : decode cX1_play 2 = .ok (.iconst 0, 1) := by decide +kernel
theorem dX1_play_3 : decode cX1_play 3 = .ok (.iconst 0, 1) := by decide +kernel
theorem dX1_play_4 : decode cX1_play 4 = .ok (.invokevirtual 27, 3) := by decide +kernel
theorem dX1_play_7 : decode cX1_play 7 = .ok (.pop, 1) := by decide +kernel
theorem dX1_play_8 : decode cX1_play 8 = .ok (.iconst 0, 1) := by decide +kernel
theorem dX1_play_9 : decode cX1_play 9 = .ok (.istore_n 1, 1) := by decide +kernel
theorem dX1_play_10 : decode cX1_play 10 = .ok (.iload_n 1, 1) := by decide +kernel
theorem dX1_play_11 : decode cX1_play 11 = .ok (.aload_n 0, 1) := by decide +kernel
theorem dX1_play_12 : decode cX1_play 12 = .ok (.getfield 92, 3) := by decide +kernel
theorem dX1_play_15 : decode cX1_play 15 = .ok (.if_icmp .ge 17, 3) := by decide +kernel
theorem dX1_play_18 : decode cX1_play 18 = .ok (.aload_n 0, 1) := by decide +kernel
theorem dX1_play_19 : decode cX1_play 19 = .ok (.iload_n 1, 1) := by decide +kernel
theorem dX1_play_20 : decode cX1_play 20 = .ok (.invokevirtual 95, 3) := by decide +kernel
theorem dX1_play_23 : decode cX1_play 23 = .ok (.ifCond .ne 9, 3) := by decide +kernel
theorem dX1_play_26 : decode cX1_play 26 = .ok (.iinc 1 1, 3) := by decide +kernel
theorem dX1_play_29 : decode cX1_play 29 = .ok (.goto (-19), 3) := by decide +kernel
theorem dX1_play_32 : decode cX1_play 32 = .ok (.aload_n 0, 1) := by decide +kernel
theorem dX1_play_33 : decode cX1_play 33 = .ok (.dup, 1) := by decide +kernel
theorem dX1_play_34 : decode cX1_play 34 = .ok (.getfield 92, 3) := by decide +kernel
theorem dX1_play_37 : decode cX1_play 37 = .ok (.iload_n 1, 1) := by decide +kernel
theorem dX1_play_38 : decode cX1_play 38 = .ok (.isub, 1) := by decide +kernel
theorem dX1_play_39 : decode cX1_play 39 = .ok (.putfield 92, 3) := by decide +kernel
theorem dX1_play_42 : decode cX1_play 42 = .ok (.aload_n 0, 1) := by decide +kernel
theorem dX1_play_43 : decode cX1_play 43 = .ok (.getfield 15, 3) := by decide +kernel
theorem dX1_play_46 : decode cX1_play 46 = .ok (.iload_n 1, 1) := by decide +kernel
theorem dX1_play_47 : decode cX1_play 47 = .ok (.iconst 5, 1) := by decide +kernel
theorem dX1_play_48 : decode cX1_play 48 = .ok (.imul, 1) := by decide +kernel
theorem dX1_play_49 : decode cX1_play 49 = .ok (.aload_n 0, 1) := by decide +kernel
theorem dX1_play_50 : decode cX1_play 50 = .ok (.getfield 15, 3) := by decide +kernel
theorem dX1_play_53 : decode cX1_play 53 = .ok (.iconst 0, 1) := by decide +kernel
theorem dX1_play_54 : decode cX1_play 54 = .ok (.aload_n 0, 1) := by decide +kernel
theorem dX1_play_55 : decode cX1_play 55 = .ok (.getfield 92, 3) := by decide +kernel
theorem dX1_play_58 : decode cX1_play 58 = .ok (.iconst 5, 1) := by decide +kernel
theorem dX1_play_59 : decode cX1_play 59 = .ok (.imul, 1) := by decide +kernel
theorem dX1_play_60 : decode cX1_play 60 = .ok (.invokestatic 82, 3) := by decide +kernel
theorem dX1_play_63 : decode cX1_play 63 = .ok (.iload_n 1, 1) := by decide +kernel
theorem dX1_play_64 : decode cX1_play 64 = .ok (.ireturn, 1) := by decide +kernel
set_option maxRecDepth 20000 in
theorem ggX1_takeBack_X1_emptyBin : GoodIn wsX1_takeBack wsX1_emptyBin := goodIn_r _ [14, 2, 5, 1, 15, 16, 17, 18, 19, 20, 21, 22, 23, 24, 25, 26, 27, 28] (by decide +kernel) (by decide +kernel)
set_option maxRecDepth 20000 in
theorem gX1_takeBack_X1_emptyBin : GoodIn wsX1_takeBack (wsV RX1 64 RX1 yX1_emptyBin wsX1_emptyBin) := goodIn_app (goodIn_of _ (by decide +kernel)) ggX1_takeBack_X1_emptyBin
theorem dX1_takeBack_0 : decode cX1_takeBack 0 = .ok (.aload_n 0, 1) := by decide +kernel
theorem dX1_takeBack_1 : decode cX1_takeBack 1 = .ok (.getfield 98, 3) := by decide +kernel
theorem dX1_takeBack_4 : decode cX1_takeBack 4 = .ok (.istore_n 1, 1) := by decide +kernel
theorem dX1_takeBack_5 : decode cX1_takeBack 5 = .ok (.aload_n 0, 1) := by decide +kernel
theorem dX1_takeBack_6 : decode cX1_takeBack 6 = .ok (.getfield 101, 3) := by decide +kernel
theorem dX1_takeBack_9 : decode cX1_takeBack 9 = .ok (.ifnull 23, 3) := by decide +kernel
theorem dX1_takeBack_12 : decode cX1_takeBack 12 = .ok (.aload_n 0, 1) := by decide +kernel
theorem dX1_takeBack_13 : decode cX1_takeBack 13 = .ok (.getfield 19, 3) := by decide +kernel
theorem dX1_takeBack_16 : decode cX1_takeBack 16 = .ok (.iconst 0, 1) := by decide +kernel
theorem dX1_takeBack_17 : decode cX1_takeBack 17 = .ok (.aload_n 0, 1) := by decide +kernel
theorem dX1_takeBack_18 : decode cX1_takeBack 18 = .ok (.getfield 101, 3) := by decide +kernel
theorem dX1_takeBack_21 : decode cX1_takeBack 21 = .ok (.getfield 48, 3) := by decide +kernel
theorem dX1_takeBack_24 : decode cX1_takeBack 24 = .ok (.aload_n 0, 1) := by decide +kernel
theorem dX1_takeBack_25 : decode cX1_takeBack 25 = .ok (.getfield 105, 3) := by decide +kernel
theorem dX1_takeBack_28 : decode cX1_takeBack 28 = .ok (.iload_n 1, 1) := by decide +kernel
theorem dX1_takeBack_29 : decode cX1_takeBack 29 = .ok (.invokestatic 82, 3) := by decide +kernel
theorem dX1_takeBack_32 : decode cX1_takeBack 32 = .ok (.aload_n 0, 1) := by decide +kernel
theorem dX1_takeBack_33 : decode cX1_takeBack 33 = .ok (.invokevirtual 64, 3) := by decide +kernel
theorem dX1_takeBack_36 : decode cX1_takeBack 36 = .ok (.iload_n 1, 1) := by decide +kernel
theorem dX1_takeBack_37 : decode cX1_takeBack 37 = .ok (.ireturn, 1) := by decide +kernel
theorem dX1_refusal_0 : decode cX1_refusal 0 = .ok (.iload_n 1, 1) := by decide +kernel
theorem dX1_refusal_1 : decode cX1_refusal 1 = .ok (.tableswitch 42 0 2 #[27, 32, 37], 27) := by decide +kernel
theorem dX1_refusal_28 : decode cX1_refusal 28 = .ok (.aload_n 0, 1) := by decide +kernel
theorem dX1_refusal_29 : decode cX1_refusal 29 = .ok (.getfield 108, 3) := by decide +kernel
theorem dX1_refusal_32 : decode cX1_refusal 32 = .ok (.ireturn, 1) := by decide +kernel
theorem dX1_refusal_33 : decode cX1_refusal 33 = .ok (.aload_n 0, 1) := by decide +kernel
theorem dX1_refusal_34 : decode cX1_refusal 34 = .ok (.getfield 111, 3) := by decide +kernel
theorem dX1_refusal_37 : decode cX1_refusal 37 = .ok (.ireturn, 1) := by decide +kernel
theorem dX1_refusal_38 : decode cX1_refusal 38 = .ok (.aload_n 0, 1) := by decide +kernel
theorem dX1_refusal_39 : decode cX1_refusal 39 = .ok (.getfield 114, 3) := by decide +kernel
theorem dX1_refusal_42 : decode cX1_refusal 42 = .ok (.ireturn, 1) := by decide +kernel
theorem dX1_refusal_43 : decode cX1_refusal 43 = .ok (.iconst (-1), 1) := by decide +kernel
theorem dX1_refusal_44 : decode cX1_refusal 44 = .ok (.ireturn, 1) := by decide +kernel
set_option maxRecDepth 20000 in
theorem ggX1_look_X1_loadOn : GoodIn wsX1_look wsX1_loadOn := goodIn_r _ [7, 8, 9, 10, 6, 11, 19, 20, 21, 22, 23, 24, 25, 26, 27, 28, 29, 30, 31, 32] (by decide +kernel) (by decide +kernel)
set_option maxRecDepth 20000 in
theorem gX1_look_X1_loadOn : GoodIn wsX1_look (wsV RX1 117 RX1 yX1_loadOn wsX1_loadOn) := goodIn_app (goodIn_of _ (by decide +kernel)) ggX1_look_X1_loadOn
set_option maxRecDepth 20000 in
theorem ggX1_look_X1_lowestWith : GoodIn wsX1_look wsX1_lowestWith := goodIn_r _ [15, 8, 19, 20, 21, 22, 23, 24, 25, 26, 27, 28, 29, 30, 31, 32] (by decide +kernel) (by decide +kernel)
set_option maxRecDepth 20000 in
theorem gX1_look_X1_lowestWith : GoodIn wsX1_look (wsV RX1 121 RX1 yX1_lowestWith wsX1_lowestWith) := goodIn_app (goodIn_of _ (by decide +kernel)) ggX1_look_X1_lowestWith
theorem dX1_look_0 : decode cX1_look 0 = .ok (.aload_n 0, 1) := by decide +kernel
theorem dX1_look_1 : decode cX1_look 1 = .ok (.iload_n 1, 1) := by decide +kernel
theorem dX1_look_2 : decode cX1_look 2 = .ok (.invokevirtual 117, 3) := by decide +kernel
theorem dX1_look_5 : decode cX1_look 5 = .ok (.astore_n 3, 1) := by decide +kernel
theorem dX1_look_6 : decode cX1_look 6 = .ok (.aload_n 3, 1) := by decide +kernel
theorem dX1_look_7 : decode cX1_look 7 = .ok (.ifnonnull 5, 3) := by decide +kernel
theorem dX1_look_10 : decode cX1_look 10 = .ok (.iconst (-1), 1) := by decide +kernel
theorem dX1_look_11 : decode cX1_look 11 = .ok (.ireturn, 1) := by decide +kernel
theorem dX1_look_12 : decode cX1_look 12 = .ok (.iload_n 2, 1) := by decide +kernel
theorem dX1_look_13 : decode cX1_look 13 = .ok (.tableswitch 43 0 2 #[27, 32, 37], 27) := by decide +kernel
theorem dX1_look_40 : decode cX1_look 40 = .ok (.aload_n 3, 1) := by decide +kernel
theorem dX1_look_41 : decode cX1_look 41 = .ok (.getfield 42, 3) := by decide +kernel
theorem dX1_look_44 : decode cX1_look 44 = .ok (.ireturn, 1) := by decide +kernel
theorem dX1_look_45 : decode cX1_look 45 = .ok (.aload_n 3, 1) := by decide +kernel
theorem dX1_look_46 : decode cX1_look 46 = .ok (.getfield 45, 3) := by decide +kernel
theorem dX1_look_49 : decode cX1_look 49 = .ok (.ireturn, 1) := by decide +kernel
theorem dX1_look_50 : decode cX1_look 50 = .ok (.aload_n 0, 1) := by decide +kernel
theorem dX1_look_51 : decode cX1_look 51 = .ok (.aload_n 3, 1) := by decide +kernel
theorem dX1_look_52 : decode cX1_look 52 = .ok (.invokevirtual 121, 3) := by decide +kernel
theorem dX1_look_55 : decode cX1_look 55 = .ok (.ireturn, 1) := by decide +kernel
theorem dX1_look_56 : decode cX1_look 56 = .ok (.iconst (-1), 1) := by decide +kernel
theorem dX1_look_57 : decode cX1_look 57 = .ok (.ireturn, 1) := by decide +kernel
set_option maxRecDepth 20000 in
theorem ggX1_at_X1_loadOn : GoodIn wsX1_at wsX1_loadOn := goodIn_r _ [13, 14, 15, 16, 12, 17, 30, 31, 32, 33, 34, 35, 36, 37, 38, 39, 40, 41, 42, 43] (by decide +kernel) (by decide +kernel)
set_option maxRecDepth 20000 in
theorem gX1_at_X1_loadOn : GoodIn wsX1_at (wsV RX1 117 RX1 yX1_loadOn wsX1_loadOn) := goodIn_app (goodIn_of _ (by decide +kernel)) ggX1_at_X1_loadOn
set_option maxRecDepth 20000 in
theorem ggX1_at_X1_isOfNumbers : GoodIn wsX1_at wsX1_isOfNumbers := goodIn_r _ [20] (by decide +kernel) (by decide +kernel)
set_option maxRecDepth 20000 in
theorem gX1_at_X1_isOfNumbers : GoodIn wsX1_at (va_wsS RX1 137 yX1_isOfNumbers wsX1_isOfNumbers) := goodIn_app (goodIn_of _ (by decide +kernel)) ggX1_at_X1_isOfNumbers
set_option maxRecDepth 20000 in
theorem ggX1_at_X1_numberOf : GoodIn wsX1_at wsX1_numberOf := goodIn_r _ [23] (by decide +kernel) (by decide +kernel)
set_option maxRecDepth 20000 in
theorem gX1_at_X1_numberOf : GoodIn wsX1_at (va_wsS RX1 144 yX1_numberOf wsX1_numberOf) := goodIn_app (goodIn_of _ (by decide +kernel)) ggX1_at_X1_numberOf
set_option maxRecDepth 20000 in
theorem ggX1_at_X1_kindOf : GoodIn wsX1_at wsX1_kindOf := goodIn_r _ [26] (by decide +kernel) (by decide +kernel)
set_option maxRecDepth 20000 in
theorem gX1_at_X1_kindOf : GoodIn wsX1_at (va_wsS RX1 148 yX1_kindOf wsX1_kindOf) := goodIn_app (goodIn_of _ (by decide +kernel)) ggX1_at_X1_kindOf
theorem dX1_at_0 : decode cX1_at 0 = .ok (.aload_n 0, 1) := by decide +kernel
theorem dX1_at_1 : decode cX1_at 1 = .ok (.iload_n 1, 1) := by decide +kernel
theorem dX1_at_2 : decode cX1_at 2 = .ok (.invokevirtual 117, 3) := by decide +kernel
theorem dX1_at_5 : decode cX1_at 5 = .ok (.astore_n 3, 1) := by decide +kernel
theorem dX1_at_6 : decode cX1_at 6 = .ok (.aload_n 3, 1) := by decide +kernel
theorem dX1_at_7 : decode cX1_at 7 = .ok (.ifnull 12, 3) := by decide +kernel
theorem dX1_at_10 : decode cX1_at 10 = .ok (.aload_n 3, 1) := by decide +kernel
theorem dX1_at_11 : decode cX1_at 11 = .ok (.getfield 42, 3) := by decide +kernel
theorem dX1_at_14 : decode cX1_at 14 = .ok (.bipush 8, 2) := by decide +kernel
theorem dX1_at_16 : decode cX1_at 16 = .ok (.if_icmp .ne 13, 3) := by decide +kernel
theorem dX1_at_19 : decode cX1_at 19 = .ok (.new 125, 3) := by decide +kernel
theorem dX1_at_22 : decode cX1_at 22 = .ok (.dup, 1) := by decide +kernel
theorem dX1_at_23 : decode cX1_at 23 = .ok (.ldc 127, 2) := by decide +kernel
theorem dX1_at_25 : decode cX1_at 25 = .ok (.invokespecial 129, 3) := by decide +kernel
theorem dX1_at_28 : decode cX1_at 28 = .ok (.athrow, 1) := by decide +kernel
theorem dX1_at_29 : decode cX1_at 29 = .ok (.iload_n 2, 1) := by decide +kernel
theorem dX1_at_30 : decode cX1_at 30 = .ok (.ifCond .lt 12, 3) := by decide +kernel
theorem dX1_at_33 : decode cX1_at 33 = .ok (.iload_n 2, 1) := by decide +kernel
theorem dX1_at_34 : decode cX1_at 34 = .ok (.aload_n 3, 1) := by decide +kernel
theorem dX1_at_35 : decode cX1_at 35 = .ok (.getfield 48, 3) := by decide +kernel
theorem dX1_at_38 : decode cX1_at 38 = .ok (.arraylength, 1) := by decide +kernel
theorem dX1_at_39 : decode cX1_at 39 = .ok (.if_icmp .lt 13, 3) := by decide +kernel
theorem dX1_at_42 : decode cX1_at 42 = .ok (.new 132, 3) := by decide +kernel
theorem dX1_at_45 : decode cX1_at 45 = .ok (.dup, 1) := by decide +kernel
theorem dX1_at_46 : decode cX1_at 46 = .ok (.ldc 134, 2) := by decide +kernel
theorem dX1_at_48 : decode cX1_at 48 = .ok (.invokespecial 136, 3) := by decide +kernel
theorem dX1_at_51 : decode cX1_at 51 = .ok (.athrow, 1) := by decide +kernel
theorem dX1_at_52 : decode cX1_at 52 = .ok (.aload_n 3, 1) := by decide +kernel
theorem dX1_at_53 : decode cX1_at 53 = .ok (.getfield 48, 3) := by decide +kernel
theorem dX1_at_56 : decode cX1_at 56 = .ok (.iload_n 2, 1) := by decide +kernel
theorem dX1_at_57 : decode cX1_at 57 = .ok (.laload, 1) := by decide +kernel
theorem dX1_at_58 : decode cX1_at 58 = .ok (.lstore 4, 2) := by decide +kernel
theorem dX1_at_60 : decode cX1_at 60 = .ok (.aload_n 3, 1) := by decide +kernel
theorem dX1_at_61 : decode cX1_at 61 = .ok (.getfield 42, 3) := by decide +kernel
theorem dX1_at_64 : decode cX1_at 64 = .ok (.invokestatic 137, 3) := by decide +kernel
theorem dX1_at_67 : decode cX1_at 67 = .ok (.ifCond .eq 6, 3) := by decide +kernel
theorem dX1_at_70 : decode cX1_at 70 = .ok (.lload 4, 2) := by decide +kernel
theorem dX1_at_72 : decode cX1_at 72 = .ok (.lreturn, 1) := by decide +kernel
theorem dX1_at_73 : decode cX1_at 73 = .ok (.lload 4, 2) := by decide +kernel
theorem dX1_at_75 : decode cX1_at 75 = .ok (.lconst 0, 1) := by decide +kernel
theorem dX1_at_76 : decode cX1_at 76 = .ok (.lcmp, 1) := by decide +kernel
theorem dX1_at_77 : decode cX1_at 77 = .ok (.ifCond .ne 9, 3) := by decide +kernel
theorem dX1_at_80 : decode cX1_at 80 = .ok (.ldc2_w 140, 3) := by decide +kernel
theorem dX1_at_83 : decode cX1_at 83 = .ok (.goto 20, 3) := by decide +kernel
theorem dX1_at_86 : decode cX1_at 86 = .ok (.ldc2_w 142, 3) := by decide +kernel
theorem dX1_at_89 : decode cX1_at 89 = .ok (.lload 4, 2) := by decide +kernel
theorem dX1_at_91 : decode cX1_at 91 = .ok (.invokestatic 144, 3) := by decide +kernel
theorem dX1_at_94 : decode cX1_at 94 = .ok (.i2l, 1) := by decide +kernel
theorem dX1_at_95 : decode cX1_at 95 = .ok (.lmul, 1) := by decide +kernel
theorem dX1_at_96 : decode cX1_at 96 = .ok (.lload 4, 2) := by decide +kernel
theorem dX1_at_98 : decode cX1_at 98 = .ok (.invokestatic 148, 3) := by decide +kernel
theorem dX1_at_101 : decode cX1_at 101 = .ok (.i2l, 1) := by decide +kernel
theorem dX1_at_102 : decode cX1_at 102 = .ok (.ladd, 1) := by decide +kernel
theorem dX1_at_103 : decode cX1_at 103 = .ok (.lreturn, 1) := by decide +kernel
set_option maxRecDepth 20000 in
theorem ggX1_alike_X1_isSpindle : GoodIn wsX1_alike wsX1_isSpindle := goodIn_r _ [8] (by decide +kernel) (by decide +kernel)
set_option maxRecDepth 20000 in
theorem gX1_alike_X1_isSpindle : GoodIn wsX1_alike (va_wsS RX1 23 yX1_isSpindle wsX1_isSpindle) := goodIn_app (goodIn_of _ (by decide +kernel)) ggX1_alike_X1_isSpindle
set_option maxRecDepth 20000 in
theorem ggX1_alike_X1_sameFrames : GoodIn wsX1_alike wsX1_sameFrames := goodIn_r _ [11] (by decide +kernel) (by decide +kernel)
set_option maxRecDepth 20000 in
theorem gX1_alike_X1_sameFrames : GoodIn wsX1_alike (va_wsS RX1 151 yX1_sameFrames wsX1_sameFrames) := goodIn_app (goodIn_of _ (by decide +kernel)) ggX1_alike_X1_sameFrames
theorem dX1_alike_0 : decode cX1_alike 0 = .ok (.iload_n 1, 1) := by decide +kernel
theorem dX1_alike_1 : decode cX1_alike 1 = .ok (.invokestatic 23, 3) := by decide +kernel
theorem dX1_alike_4 : decode cX1_alike 4 = .ok (.ifCond .eq 10, 3) := by decide +kernel
theorem dX1_alike_7 : decode cX1_alike 7 = .ok (.iload_n 2, 1) := by decide +kernel
theorem dX1_alike_8 : decode cX1_alike 8 = .ok (.invokestatic 23, 3) := by decide +kernel
theorem dX1_alike_11 : decode cX1_alike 11 = .ok (.ifCond .ne 5, 3) := by decide +kernel
theorem dX1_alike_14 : decode cX1_alike 14 = .ok (.iconst 0, 1) := by decide +kernel
theorem dX1_alike_15 : decode cX1_alike 15 = .ok (.ireturn, 1) := by decide +kernel
theorem dX1_alike_16 : decode cX1_alike 16 = .ok (.aload_n 0, 1) := by decide +kernel
theorem dX1_alike_17 : decode cX1_alike 17 = .ok (.getfield 11, 3) := by decide +kernel
theorem dX1_alike_20 : decode cX1_alike 20 = .ok (.iload_n 1, 1) := by decide +kernel
theorem dX1_alike_21 : decode cX1_alike 21 = .ok (.aaload, 1) := by decide +kernel
theorem dX1_alike_22 : decode cX1_alike 22 = .ok (.astore_n 3, 1) := by decide +kernel
theorem dX1_alike_23 : decode cX1_alike 23 = .ok (.aload_n 0, 1) := by decide +kernel
theorem dX1_alike_24 : decode cX1_alike 24 = .ok (.getfield 11, 3) := by decide +kernel
theorem dX1_alike_27 : decode cX1_alike 27 = .ok (.iload_n 2, 1) := by decide +kernel
theorem dX1_alike_28 : decode cX1_alike 28 = .ok (.aaload, 1) := by decide +kernel
theorem dX1_alike_29 : decode cX1_alike 29 = .ok (.astore 4, 2) := by decide +kernel
theorem dX1_alike_31 : decode cX1_alike 31 = .ok (.aload_n 3, 1) := by decide +kernel
theorem dX1_alike_32 : decode cX1_alike 32 = .ok (.ifnull 8, 3) := by decide +kernel
theorem dX1_alike_35 : decode cX1_alike 35 = .ok (.aload 4, 2) := by decide +kernel
theorem dX1_alike_37 : decode cX1_alike 37 = .ok (.ifnonnull 15, 3) := by decide +kernel
theorem dX1_alike_40 : decode cX1_alike 40 = .ok (.aload_n 3, 1) := by decide +kernel
theorem dX1_alike_41 : decode cX1_alike 41 = .ok (.aload 4, 2) := by decide +kernel
theorem dX1_alike_43 : decode cX1_alike 43 = .ok (.if_acmp .ne 7, 3) := by decide +kernel
theorem dX1_alike_46 : decode cX1_alike 46 = .ok (.iconst 1, 1) := by decide +kernel
theorem dX1_alike_47 : decode cX1_alike 47 = .ok (.goto 4, 3) := by decide +kernel
theorem dX1_alike_50 : decode cX1_alike 50 = .ok (.iconst 0, 1) := by decide +kernel
theorem dX1_alike_51 : decode cX1_alike 51 = .ok (.ireturn, 1) := by decide +kernel
theorem dX1_alike_52 : decode cX1_alike 52 = .ok (.aload_n 3, 1) := by decide +kernel
theorem dX1_alike_53 : decode cX1_alike 53 = .ok (.getfield 42, 3) := by decide +kernel
theorem dX1_alike_56 : decode cX1_alike 56 = .ok (.aload 4, 2) := by decide +kernel
theorem dX1_alike_58 : decode cX1_alike 58 = .ok (.getfield 42, 3) := by decide +kernel
theorem dX1_alike_61 : decode cX1_alike 61 = .ok (.if_icmp .ne 34, 3) := by decide +kernel
theorem dX1_alike_64 : decode cX1_alike 64 = .ok (.aload_n 3, 1) := by decide +kernel
theorem dX1_alike_65 : decode cX1_alike 65 = .ok (.getfield 45, 3) := by decide +kernel
theorem dX1_alike_68 : decode cX1_alike 68 = .ok (.aload 4, 2) := by decide +kernel
theorem dX1_alike_70 : decode cX1_alike 70 = .ok (.getfield 45, 3) := by decide +kernel
theorem dX1_alike_73 : decode cX1_alike 73 = .ok (.if_icmp .ne 22, 3) := by decide +kernel
theorem dX1_alike_76 : decode cX1_alike 76 = .ok (.aload_n 3, 1) := by decide +kernel
theorem dX1_alike_77 : decode cX1_alike 77 = .ok (.getfield 48, 3) := by decide +kernel
theorem dX1_alike_80 : decode cX1_alike 80 = .ok (.aload 4, 2) := by decide +kernel
theorem dX1_alike_82 : decode cX1_alike 82 = .ok (.getfield 48, 3) := by decide +kernel
theorem dX1_alike_85 : decode cX1_alike 85 = .ok (.invokestatic 151, 3) := by decide +kernel
theorem dX1_alike_88 : decode cX1_alike 88 = .ok (.ifCond .eq 7, 3) := by decide +kernel
theorem dX1_alike_91 : decode cX1_alike 91 = .ok (.iconst 1, 1) := by decide +kernel
theorem dX1_alike_92 : decode cX1_alike 92 = .ok (.goto 4, 3) := by decide +kernel
theorem dX1_alike_95 : decode cX1_alike 95 = .ok (.iconst 0, 1) := by decide +kernel
theorem dX1_alike_96 : decode cX1_alike 96 = .ok (.ireturn, 1) := by decide +kernel
theorem dX1_count_0 : decode cX1_count 0 = .ok (.iload_n 1, 1) := by decide +kernel
theorem dX1_count_1 : decode cX1_count 1 = .ok (.tableswitch 69 0 5 #[39, 44, 49, 54, 59, 64], 39) := by decide +kernel
theorem dX1_count_40 : decode cX1_count 40 = .ok (.aload_n 0, 1) := by decide +kernel
theorem dX1_count_41 : decode cX1_count 41 = .ok (.getfield 34, 3) := by decide +kernel
theorem dX1_count_44 : decode cX1_count 44 = .ok (.ireturn, 1) := by decide +kernel
theorem dX1_count_45 : decode cX1_count 45 = .ok (.aload_n 0, 1) := by decide +kernel
theorem dX1_count_46 : decode cX1_count 46 = .ok (.getfield 155, 3) := by decide +kernel
theorem dX1_count_49 : decode cX1_count 49 = .ok (.ireturn, 1) := by decide +kernel
theorem dX1_count_50 : decode cX1_count 50 = .ok (.aload_n 0, 1) := by decide +kernel
theorem dX1_count_51 : decode cX1_count 51 = .ok (.getfield 158, 3) := by decide +kernel
theorem dX1_count_54 : decode cX1_count 54 = .ok (.ireturn, 1) := by decide +kernel
theorem dX1_count_55 : decode cX1_count 55 = .ok (.aload_n 0, 1) := by decide +kernel
theorem dX1_count_56 : decode cX1_count 56 = .ok (.getfield 92, 3) := by decide +kernel
theorem dX1_count_59 : decode cX1_count 59 = .ok (.ireturn, 1) := by decide +kernel
theorem dX1_count_60 : decode cX1_count 60 = .ok (.aload_n 0, 1) := by decide +kernel
theorem dX1_count_61 : decode cX1_count 61 = .ok (.getfield 98, 3) := by decide +kernel
theorem dX1_count_64 : decode cX1_count 64 = .ok (.ireturn, 1) := by decide +kernel
theorem dX1_count_65 : decode cX1_count 65 = .ok (.aload_n 0, 1) := by decide +kernel
theorem dX1_count_66 : decode cX1_count 66 = .ok (.getfield 161, 3) := by decide +kernel
theorem dX1_count_69 : decode cX1_count 69 = .ok (.ireturn, 1) := by decide +kernel
theorem dX1_count_70 : decode cX1_count 70 = .ok (.iconst (-1), 1) := by decide +kernel
theorem dX1_count_71 : decode cX1_count 71 = .ok (.ireturn, 1) := by decide +kernel
theorem dX1_isSpindle_0 : decode cX1_isSpindle 0 = .ok (.iload_n 0, 1) := by decide +kernel
theorem dX1_isSpindle_1 : decode cX1_isSpindle 1 = .ok (.ifCond .lt 13, 3) := by decide +kernel
theorem dX1_isSpindle_4 : decode cX1_isSpindle 4 = .ok (.iload_n 0, 1) := by decide +kernel
theorem dX1_isSpindle_5 : decode cX1_isSpindle 5 = .ok (.bipush 8, 2) := by decide +kernel
theorem dX1_isSpindle_7 : decode cX1_isSpindle 7 = .ok (.if_icmp .ge 7, 3) := by decide +kernel
theorem dX1_isSpindle_10 : decode cX1_isSpindle 10 = .ok (.iconst 1, 1) := by decide +kernel
theorem dX1_isSpindle_11 : decode cX1_isSpindle 11 = .ok (.goto 4, 3) := by decide +kernel
theorem dX1_isSpindle_14 : decode cX1_isSpindle 14 = .ok (.iconst 0, 1) := by decide +kernel
theorem dX1_isSpindle_15 : decode cX1_isSpindle 15 = .ok (.ireturn, 1) := by decide +kernel
theorem dX1_isOfNumbers_0 : decode cX1_isOfNumbers 0 = .ok (.iload_n 0, 1) := by decide +kernel
theorem dX1_isOfNumbers_1 : decode cX1_isOfNumbers 1 = .ok (.iconst 5, 1) := by decide +kernel
theorem dX1_isOfNumbers_2 : decode cX1_isOfNumbers 2 = .ok (.if_icmp .ge 7, 3) := by decide +kernel
theorem dX1_isOfNumbers_5 : decode cX1_isOfNumbers 5 = .ok (.iconst 1, 1) := by decide +kernel
theorem dX1_isOfNumbers_6 : decode cX1_isOfNumbers 6 = .ok (.goto 4, 3) := by decide +kernel
theorem dX1_isOfNumbers_9 : decode cX1_isOfNumbers 9 = .ok (.iconst 0, 1) := by decide +kernel
theorem dX1_isOfNumbers_10 : decode cX1_isOfNumbers 10 = .ok (.ireturn, 1) := by decide +kernel
set_option maxRecDepth 20000 in
theorem ggX1_loadOn_X1_isSpindle : GoodIn wsX1_loadOn wsX1_isSpindle := goodIn_r _ [5] (by decide +kernel) (by decide +kernel)
set_option maxRecDepth 20000 in
theorem gX1_loadOn_X1_isSpindle : GoodIn wsX1_loadOn (va_wsS RX1 23 yX1_isSpindle wsX1_isSpindle) := goodIn_app (goodIn_of _ (by decide +kernel)) ggX1_loadOn_X1_isSpindle
theorem dX1_loadOn_0 : decode cX1_loadOn 0 = .ok (.iload_n 1, 1) := by decide +kernel
theorem dX1_loadOn_1 : decode cX1_loadOn 1 = .ok (.invokestatic 23, 3) := by decide +kernel
theorem dX1_loadOn_4 : decode cX1_loadOn 4 = .ok (.ifCond .eq 12, 3) := by decide +kernel
theorem dX1_loadOn_7 : decode cX1_loadOn 7 = .ok (.aload_n 0, 1) := by decide +kernel
theorem dX1_loadOn_8 : decode cX1_loadOn 8 = .ok (.getfield 11, 3) := by decide +kernel
theorem dX1_loadOn_11 : decode cX1_loadOn 11 = .ok (.iload_n 1, 1) := by decide +kernel
theorem dX1_loadOn_12 : decode cX1_loadOn 12 = .ok (.aaload, 1) := by decide +kernel
theorem dX1_loadOn_13 : decode cX1_loadOn 13 = .ok (.goto 4, 3) := by decide +kernel
theorem dX1_loadOn_16 : decode cX1_loadOn 16 = .ok (.aconst_null, 1) := by decide +kernel
theorem dX1_loadOn_17 : decode cX1_loadOn 17 = .ok (.areturn, 1) := by decide +kernel
theorem dX1_lowestWith_0 : decode cX1_lowestWith 0 = .ok (.iconst 0, 1) := by decide +kernel
theorem dX1_lowestWith_1 : decode cX1_lowestWith 1 = .ok (.istore_n 2, 1) := by decide +kernel
theorem dX1_lowestWith_2 : decode cX1_lowestWith 2 = .ok (.iload_n 2, 1) := by decide +kernel
theorem dX1_lowestWith_3 : decode cX1_lowestWith 3 = .ok (.bipush 8, 2) := by decide +kernel
theorem dX1_lowestWith_5 : decode cX1_lowestWith 5 = .ok (.if_icmp .ge 21, 3) := by decide +kernel
theorem dX1_lowestWith_8 : decode cX1_lowestWith 8 = .ok (.aload_n 0, 1) := by decide +kernel
theorem dX1_lowestWith_9 : decode cX1_lowestWith 9 = .ok (.getfield 11, 3) := by decide +kernel
theorem dX1_lowestWith_12 : decode cX1_lowestWith 12 = .ok (.iload_n 2, 1) := by decide +kernel
theorem dX1_lowestWith_13 : decode cX1_lowestWith 13 = .ok (.aaload, 1) := by decide +kernel
theorem dX1_lowestWith_14 : decode cX1_lowestWith 14 = .ok (.aload_n 1, 1) := by decide +kernel
theorem dX1_lowestWith_15 : decode cX1_lowestWith 15 = .ok (.if_acmp .ne 5, 3) := by decide +kernel
theorem dX1_lowestWith_18 : decode cX1_lowestWith 18 = .ok (.iload_n 2, 1) := by decide +kernel
theorem dX1_lowestWith_19 : decode cX1_lowestWith 19 = .ok (.ireturn, 1) := by decide +kernel
theorem dX1_lowestWith_20 : decode cX1_lowestWith 20 = .ok (.iinc 2 1, 3) := by decide +kernel
theorem dX1_lowestWith_23 : decode cX1_lowestWith 23 = .ok (.goto (-21), 3) := by decide +kernel
theorem dX1_lowestWith_26 : decode cX1_lowestWith 26 = .ok (.iconst (-1), 1) := by decide +kernel
theorem dX1_lowestWith_27 : decode cX1_lowestWith 27 = .ok (.ireturn, 1) := by decide +kernel
theorem dX1_sameFrames_0 : decode cX1_sameFrames 0 = .ok (.aload_n 0, 1) := by decide +kernel
theorem dX1_sameFrames_1 : decode cX1_sameFrames 1 = .ok (.arraylength, 1) := by decide +kernel
theorem dX1_sameFrames_2 : decode cX1_sameFrames 2 = .ok (.aload_n 1, 1) := by decide +kernel
theorem dX1_sameFrames_3 : decode cX1_sameFrames 3 = .ok (.arraylength, 1) := by decide +kernel
theorem dX1_sameFrames_4 : decode cX1_sameFrames 4 = .ok (.if_icmp .eq 5, 3) := by decide +kernel
theorem dX1_sameFrames_7 : decode cX1_sameFrames 7 = .ok (.iconst 0, 1) := by decide +kernel
theorem dX1_sameFrames_8 : decode cX1_sameFrames 8 = .ok (.ireturn, 1) := by decide +kernel
theorem dX1_sameFrames_9 : decode cX1_sameFrames 9 = .ok (.iconst 0, 1) := by decide +kernel
theorem dX1_sameFrames_10 : decode cX1_sameFrames 10 = .ok (.istore_n 2, 1) := by decide +kernel
theorem dX1_sameFrames_11 : decode cX1_sameFrames 11 = .ok (.iload_n 2, 1) := by decide +kernel
theorem dX1_sameFrames_12 : decode cX1_sameFrames 12 = .ok (.aload_n 0, 1) := by decide +kernel
theorem dX1_sameFrames_13 : decode cX1_sameFrames 13 = .ok (.arraylength, 1) := by decide +kernel
theorem dX1_sameFrames_14 : decode cX1_sameFrames 14 = .ok (.if_icmp .ge 21, 3) := by decide +kernel
theorem dX1_sameFrames_17 : decode cX1_sameFrames 17 = .ok (.aload_n 0, 1) := by decide +kernel
theorem dX1_sameFrames_18 : decode cX1_sameFrames 18 = .ok (.iload_n 2, 1) := by decide +kernel
theorem dX1_sameFrames_19 : decode cX1_sameFrames 19 = .ok (.laload, 1) := by decide +kernel
theorem dX1_sameFrames_20 : decode cX1_sameFrames 20 = .ok (.aload_n 1, 1) := by decide +kernel
theorem dX1_sameFrames_21 : decode cX1_sameFrames 21 = .ok (.iload_n 2, 1) := by decide +kernel
theorem dX1_sameFrames_22 : decode cX1_sameFrames 22 = .ok (.laload, 1) := by decide +kernel
theorem dX1_sameFrames_23 : decode cX1_sameFrames 23 = .ok (.lcmp, 1) := by decide +kernel
theorem dX1_sameFrames_24 : decode cX1_sameFrames 24 = .ok (.ifCond .eq 5, 3) := by decide +kernel
theorem dX1_sameFrames_27 : decode cX1_sameFrames 27 = .ok (.iconst 0, 1) := by decide +kernel
theorem dX1_sameFrames_28 : decode cX1_sameFrames 28 = .ok (.ireturn, 1) := by decide +kernel
theorem dX1_sameFrames_29 : decode cX1_sameFrames 29 = .ok (.iinc 2 1, 3) := by decide +kernel
theorem dX1_sameFrames_32 : decode cX1_sameFrames 32 = .ok (.goto (-21), 3) := by decide +kernel
theorem dX1_sameFrames_35 : decode cX1_sameFrames 35 = .ok (.iconst 1, 1) := by decide +kernel
theorem dX1_sameFrames_36 : decode cX1_sameFrames 36 = .ok (.ireturn, 1) := by decide +kernel
theorem dX1_settle_0 : decode cX1_settle 0 = .ok (.aload_n 0, 1) := by decide +kernel
theorem dX1_settle_1 : decode cX1_settle 1 = .ok (.iload_n 1, 1) := by decide +kernel
theorem dX1_settle_2 : decode cX1_settle 2 = .ok (.putfield 108, 3) := by decide +kernel
theorem dX1_settle_5 : decode cX1_settle 5 = .ok (.aload_n 0, 1) := by decide +kernel
theorem dX1_settle_6 : decode cX1_settle 6 = .ok (.iload_n 2, 1) := by decide +kernel
theorem dX1_settle_7 : decode cX1_settle 7 = .ok (.putfield 111, 3) := by decide +kernel
theorem dX1_settle_10 : decode cX1_settle 10 = .ok (.aload_n 0, 1) := by decide +kernel
theorem dX1_settle_11 : decode cX1_settle 11 = .ok (.iload_n 3, 1) := by decide +kernel
theorem dX1_settle_12 : decode cX1_settle 12 = .ok (.putfield 114, 3) := by decide +kernel
theorem dX1_settle_15 : decode cX1_settle 15 = .ok (.iload_n 1, 1) := by decide +kernel
theorem dX1_settle_16 : decode cX1_settle 16 = .ok (.ireturn, 1) := by decide +kernel
set_option maxRecDepth 20000 in
theorem ggX1_refusalOfReel_X1_isSpindle : GoodIn wsX1_refusalOfReel wsX1_isSpindle := goodIn_r _ [6] (by decide +kernel) (by decide +kernel)
set_option maxRecDepth 20000 in
theorem gX1_refusalOfReel_X1_isSpindle : GoodIn wsX1_refusalOfReel (va_wsS RX1 23 yX1_isSpindle wsX1_isSpindle) := goodIn_app (goodIn_of _ (by decide +kernel)) ggX1_refusalOfReel_X1_isSpindle
theorem dX1_refusalOfReel_0 : decode cX1_refusalOfReel 0 = .ok (.iload_n 1, 1) := by decide +kernel
theorem dX1_refusalOfReel_1 : decode cX1_refusalOfReel 1 = .ok (.invokestatic 23, 3) := by decide +kernel
theorem dX1_refusalOfReel_4 : decode cX1_refusalOfReel 4 = .ok (.ifCond .ne 6, 3) := by decide +kernel
theorem dX1_refusalOfReel_7 : decode cX1_refusalOfReel 7 = .ok (.bipush 6, 2) := by decide +kernel
theorem dX1_refusalOfReel_9 : decode cX1_refusalOfReel 9 = .ok (.ireturn, 1) := by decide +kernel
theorem dX1_refusalOfReel_10 : decode cX1_refusalOfReel 10 = .ok (.aload_n 0, 1) := by decide +kernel
theorem dX1_refusalOfReel_11 : decode cX1_refusalOfReel 11 = .ok (.getfield 11, 3) := by decide +kernel
theorem dX1_refusalOfReel_14 : decode cX1_refusalOfReel 14 = .ok (.iload_n 1, 1) := by decide +kernel
theorem dX1_refusalOfReel_15 : decode cX1_refusalOfReel 15 = .ok (.aaload, 1) := by decide +kernel
theorem dX1_refusalOfReel_16 : decode cX1_refusalOfReel 16 = .ok (.astore_n 2, 1) := by decide +kernel
theorem dX1_refusalOfReel_17 : decode cX1_refusalOfReel 17 = .ok (.aload_n 2, 1) := by decide +kernel
theorem dX1_refusalOfReel_18 : decode cX1_refusalOfReel 18 = .ok (.ifnonnull 5, 3) := by decide +kernel
theorem dX1_refusalOfReel_21 : decode cX1_refusalOfReel 21 = .ok (.iconst 1, 1) := by decide +kernel
theorem dX1_refusalOfReel_22 : decode cX1_refusalOfReel 22 = .ok (.ireturn, 1) := by decide +kernel
theorem dX1_refusalOfReel_23 : decode cX1_refusalOfReel 23 = .ok (.aload_n 2, 1) := by decide +kernel
theorem dX1_refusalOfReel_24 : decode cX1_refusalOfReel 24 = .ok (.getfield 42, 3) := by decide +kernel
theorem dX1_refusalOfReel_27 : decode cX1_refusalOfReel 27 = .ok (.bipush 8, 2) := by decide +kernel
theorem dX1_refusalOfReel_29 : decode cX1_refusalOfReel 29 = .ok (.if_icmp .ne 7, 3) := by decide +kernel
theorem dX1_refusalOfReel_32 : decode cX1_refusalOfReel 32 = .ok (.iconst 2, 1) := by decide +kernel
theorem dX1_refusalOfReel_33 : decode cX1_refusalOfReel 33 = .ok (.goto 4, 3) := by decide +kernel
theorem dX1_refusalOfReel_36 : decode cX1_refusalOfReel 36 = .ok (.iconst 0, 1) := by decide +kernel
theorem dX1_refusalOfReel_37 : decode cX1_refusalOfReel 37 = .ok (.ireturn, 1) := by decide +kernel
set_option maxRecDepth 20000 in
theorem ggX1_refusalOfFrame_X1_refusalOfReel : GoodIn wsX1_refusalOfFrame wsX1_refusalOfReel := goodIn_r _ [8, 1, 2, 9, 10, 7, 11, 15, 16, 17, 18, 19, 20, 21, 22, 23, 24, 25, 26, 27, 28, 29, 30, 31] (by decide +kernel) (by decide +kernel)
set_option maxRecDepth 20000 in
theorem gX1_refusalOfFrame_X1_refusalOfReel : GoodIn wsX1_refusalOfFrame (wsV RX1 38 RX1 yX1_refusalOfReel wsX1_refusalOfReel) := goodIn_app (goodIn_of _ (by decide +kernel)) ggX1_refusalOfFrame_X1_refusalOfReel
set_option maxRecDepth 20000 in
theorem ggX1_refusalOfFrame_X1_isOfNumbers : GoodIn wsX1_refusalOfFrame wsX1_isOfNumbers := goodIn_r _ [14] (by decide +kernel) (by decide +kernel)
set_option maxRecDepth 20000 in
theorem gX1_refusalOfFrame_X1_isOfNumbers : GoodIn wsX1_refusalOfFrame (va_wsS RX1 137 yX1_isOfNumbers wsX1_isOfNumbers) := goodIn_app (goodIn_of _ (by decide +kernel)) ggX1_refusalOfFrame_X1_isOfNumbers
theorem dX1_refusalOfFrame_0 : decode cX1_refusalOfFrame 0 = .ok (.aload_n 0, 1) := by decide +kernel
theorem dX1_refusalOfFrame_1 : decode cX1_refusalOfFrame 1 = .ok (.iload_n 1, 1) := by decide +kernel
theorem dX1_refusalOfFrame_2 : decode cX1_refusalOfFrame 2 = .ok (.invokevirtual 38, 3) := by decide +kernel
theorem dX1_refusalOfFrame_5 : decode cX1_refusalOfFrame 5 = .ok (.istore 4, 2) := by decide +kernel
theorem dX1_refusalOfFrame_7 : decode cX1_refusalOfFrame 7 = .ok (.iload 4, 2) := by decide +kernel
theorem dX1_refusalOfFrame_9 : decode cX1_refusalOfFrame 9 = .ok (.ifCond .eq 6, 3) := by decide +kernel
theorem dX1_refusalOfFrame_12 : decode cX1_refusalOfFrame 12 = .ok (.iload 4, 2) := by decide +kernel
theorem dX1_refusalOfFrame_14 : decode cX1_refusalOfFrame 14 = .ok (.ireturn, 1) := by decide +kernel
theorem dX1_refusalOfFrame_15 : decode cX1_refusalOfFrame 15 = .ok (.aload_n 0, 1) := by decide +kernel
theorem dX1_refusalOfFrame_16 : decode cX1_refusalOfFrame 16 = .ok (.getfield 11, 3) := by decide +kernel
theorem dX1_refusalOfFrame_19 : decode cX1_refusalOfFrame 19 = .ok (.iload_n 1, 1) := by decide +kernel
theorem dX1_refusalOfFrame_20 : decode cX1_refusalOfFrame 20 = .ok (.aaload, 1) := by decide +kernel
theorem dX1_refusalOfFrame_21 : decode cX1_refusalOfFrame 21 = .ok (.astore 5, 2) := by decide +kernel
theorem dX1_refusalOfFrame_23 : decode cX1_refusalOfFrame 23 = .ok (.aload 5, 2) := by decide +kernel
theorem dX1_refusalOfFrame_25 : decode cX1_refusalOfFrame 25 = .ok (.getfield 42, 3) := by decide +kernel
theorem dX1_refusalOfFrame_28 : decode cX1_refusalOfFrame 28 = .ok (.invokestatic 137, 3) := by decide +kernel
theorem dX1_refusalOfFrame_31 : decode cX1_refusalOfFrame 31 = .ok (.iload_n 2, 1) := by decide +kernel
theorem dX1_refusalOfFrame_32 : decode cX1_refusalOfFrame 32 = .ok (.if_icmp .eq 5, 3) := by decide +kernel
theorem dX1_refusalOfFrame_35 : decode cX1_refusalOfFrame 35 = .ok (.iconst 3, 1) := by decide +kernel
theorem dX1_refusalOfFrame_36 : decode cX1_refusalOfFrame 36 = .ok (.ireturn, 1) := by decide +kernel
theorem dX1_refusalOfFrame_37 : decode cX1_refusalOfFrame 37 = .ok (.iload_n 3, 1) := by decide +kernel
theorem dX1_refusalOfFrame_38 : decode cX1_refusalOfFrame 38 = .ok (.ifCond .lt 13, 3) := by decide +kernel
theorem dX1_refusalOfFrame_41 : decode cX1_refusalOfFrame 41 = .ok (.iload_n 3, 1) := by decide +kernel
theorem dX1_refusalOfFrame_42 : decode cX1_refusalOfFrame 42 = .ok (.aload 5, 2) := by decide +kernel
theorem dX1_refusalOfFrame_44 : decode cX1_refusalOfFrame 44 = .ok (.getfield 48, 3) := by decide +kernel
theorem dX1_refusalOfFrame_47 : decode cX1_refusalOfFrame 47 = .ok (.arraylength, 1) := by decide +kernel
theorem dX1_refusalOfFrame_48 : decode cX1_refusalOfFrame 48 = .ok (.if_icmp .lt 7, 3) := by decide +kernel
theorem dX1_refusalOfFrame_51 : decode cX1_refusalOfFrame 51 = .ok (.iconst 4, 1) := by decide +kernel
theorem dX1_refusalOfFrame_52 : decode cX1_refusalOfFrame 52 = .ok (.goto 4, 3) := by decide +kernel
theorem dX1_refusalOfFrame_55 : decode cX1_refusalOfFrame 55 = .ok (.iconst 0, 1) := by decide +kernel
theorem dX1_refusalOfFrame_56 : decode cX1_refusalOfFrame 56 = .ok (.ireturn, 1) := by decide +kernel
set_option maxRecDepth 20000 in
theorem ggX1_refusalOfGap_X1_refusalOfReel : GoodIn wsX1_refusalOfGap wsX1_refusalOfReel := goodIn_r _ [7, 1, 8, 9, 10, 6, 11, 22, 23, 24, 25, 26, 27, 28, 29, 30, 31, 32, 33, 34, 35, 36, 37, 38] (by decide +kernel) (by decide +kernel)
set_option maxRecDepth 20000 in
theorem gX1_refusalOfGap_X1_refusalOfReel : GoodIn wsX1_refusalOfGap (wsV RX1 38 RX1 yX1_refusalOfReel wsX1_refusalOfReel) := goodIn_app (goodIn_of _ (by decide +kernel)) ggX1_refusalOfGap_X1_refusalOfReel
set_option maxRecDepth 20000 in
theorem ggX1_refusalOfGap_X1_settle : GoodIn wsX1_refusalOfGap wsX1_settle := goodIn_r _ [15, 16, 17, 18, 22, 23, 24, 25, 26, 27, 28, 29, 30, 31, 32, 33, 34, 35] (by decide +kernel) (by decide +kernel)
set_option maxRecDepth 20000 in
theorem gX1_refusalOfGap_X1_settle : GoodIn wsX1_refusalOfGap (wsV RX1 27 RX1 yX1_settle wsX1_settle) := goodIn_app (goodIn_of _ (by decide +kernel)) ggX1_refusalOfGap_X1_settle
set_option maxRecDepth 20000 in
theorem ggX1_refusalOfGap_X1_wayOut : GoodIn wsX1_refusalOfGap wsX1_wayOut := goodIn_r _ [21] (by decide +kernel) (by decide +kernel)
set_option maxRecDepth 20000 in
theorem gX1_refusalOfGap_X1_wayOut : GoodIn wsX1_refusalOfGap (va_wsS RX1 164 yX1_wayOut wsX1_wayOut) := goodIn_app (goodIn_of _ (by decide +kernel)) ggX1_refusalOfGap_X1_wayOut
theorem dX1_refusalOfGap_0 : decode cX1_refusalOfGap 0 = .ok (.aload_n 0, 1) := by decide +kernel
theorem dX1_refusalOfGap_1 : decode cX1_refusalOfGap 1 = .ok (.iload_n 1, 1) := by decide +kernel
theorem dX1_refusalOfGap_2 : decode cX1_refusalOfGap 2 = .ok (.invokevirtual 38, 3) := by decide +kernel
theorem dX1_refusalOfGap_5 : decode cX1_refusalOfGap 5 = .ok (.istore 4, 2) := by decide +kernel
theorem dX1_refusalOfGap_7 : decode cX1_refusalOfGap 7 = .ok (.iload 4, 2) := by decide +kernel
theorem dX1_refusalOfGap_9 : decode cX1_refusalOfGap 9 = .ok (.ifCond .eq 12, 3) := by decide +kernel
theorem dX1_refusalOfGap_12 : decode cX1_refusalOfGap 12 = .ok (.aload_n 0, 1) := by decide +kernel
theorem dX1_refusalOfGap_13 : decode cX1_refusalOfGap 13 = .ok (.iload 4, 2) := by decide +kernel
theorem dX1_refusalOfGap_15 : decode cX1_refusalOfGap 15 = .ok (.iconst 0, 1) := by decide +kernel
theorem dX1_refusalOfGap_16 : decode cX1_refusalOfGap 16 = .ok (.iconst 0, 1) := by decide +kernel
theorem dX1_refusalOfGap_17 : decode cX1_refusalOfGap 17 = .ok (.invokevirtual 27, 3) := by decide +kernel
theorem dX1_refusalOfGap_20 : decode cX1_refusalOfGap 20 = .ok (.ireturn, 1) := by decide +kernel
theorem dX1_refusalOfGap_21 : decode cX1_refusalOfGap 21 = .ok (.aload_n 0, 1) := by decide +kernel
theorem dX1_refusalOfGap_22 : decode cX1_refusalOfGap 22 = .ok (.getfield 11, 3) := by decide +kernel
theorem dX1_refusalOfGap_25 : decode cX1_refusalOfGap 25 = .ok (.iload_n 1, 1) := by decide +kernel
theorem dX1_refusalOfGap_26 : decode cX1_refusalOfGap 26 = .ok (.aaload, 1) := by decide +kernel
theorem dX1_refusalOfGap_27 : decode cX1_refusalOfGap 27 = .ok (.getfield 48, 3) := by decide +kernel
theorem dX1_refusalOfGap_30 : decode cX1_refusalOfGap 30 = .ok (.arraylength, 1) := by decide +kernel
theorem dX1_refusalOfGap_31 : decode cX1_refusalOfGap 31 = .ok (.istore 5, 2) := by decide +kernel
theorem dX1_refusalOfGap_33 : decode cX1_refusalOfGap 33 = .ok (.iload_n 2, 1) := by decide +kernel
theorem dX1_refusalOfGap_34 : decode cX1_refusalOfGap 34 = .ok (.lconst 0, 1) := by decide +kernel
theorem dX1_refusalOfGap_35 : decode cX1_refusalOfGap 35 = .ok (.iload_n 3, 1) := by decide +kernel
theorem dX1_refusalOfGap_36 : decode cX1_refusalOfGap 36 = .ok (.iload 5, 2) := by decide +kernel
theorem dX1_refusalOfGap_38 : decode cX1_refusalOfGap 38 = .ok (.iload 5, 2) := by decide +kernel
theorem dX1_refusalOfGap_40 : decode cX1_refusalOfGap 40 = .ok (.invokestatic 164, 3) := by decide +kernel
theorem dX1_refusalOfGap_43 : decode cX1_refusalOfGap 43 = .ok (.istore 6, 2) := by decide +kernel
theorem dX1_refusalOfGap_45 : decode cX1_refusalOfGap 45 = .ok (.aload_n 0, 1) := by decide +kernel
theorem dX1_refusalOfGap_46 : decode cX1_refusalOfGap 46 = .ok (.iload 6, 2) := by decide +kernel
theorem dX1_refusalOfGap_48 : decode cX1_refusalOfGap 48 = .ok (.ifCond .ne 7, 3) := by decide +kernel
theorem dX1_refusalOfGap_51 : decode cX1_refusalOfGap 51 = .ok (.iconst 0, 1) := by decide +kernel
theorem dX1_refusalOfGap_52 : decode cX1_refusalOfGap 52 = .ok (.goto 4, 3) := by decide +kernel
theorem dX1_refusalOfGap_55 : decode cX1_refusalOfGap 55 = .ok (.iconst 4, 1) := by decide +kernel
theorem dX1_refusalOfGap_56 : decode cX1_refusalOfGap 56 = .ok (.iload 6, 2) := by decide +kernel
theorem dX1_refusalOfGap_58 : decode cX1_refusalOfGap 58 = .ok (.iconst 0, 1) := by decide +kernel
theorem dX1_refusalOfGap_59 : decode cX1_refusalOfGap 59 = .ok (.invokevirtual 27, 3) := by decide +kernel
theorem dX1_refusalOfGap_62 : decode cX1_refusalOfGap 62 = .ok (.ireturn, 1) := by decide +kernel
set_option maxRecDepth 20000 in
theorem ggX1_refusalOfPair_X1_refusalOfReel : GoodIn wsX1_refusalOfPair wsX1_refusalOfReel := goodIn_r _ [7, 1, 2, 8, 9, 6, 10, 14, 15, 16, 17, 18, 19, 20, 21, 22, 23, 24, 25, 26, 27, 28, 29, 30] (by decide +kernel) (by decide +kernel)
set_option maxRecDepth 20000 in
theorem gX1_refusalOfPair_X1_refusalOfReel : GoodIn wsX1_refusalOfPair (wsV RX1 38 RX1 yX1_refusalOfReel wsX1_refusalOfReel) := goodIn_app (goodIn_of _ (by decide +kernel)) ggX1_refusalOfPair_X1_refusalOfReel
set_option maxRecDepth 20000 in
theorem ggX1_refusalOfPair_X1_isOfNumbers : GoodIn wsX1_refusalOfPair wsX1_isOfNumbers := goodIn_r _ [13] (by decide +kernel) (by decide +kernel)
set_option maxRecDepth 20000 in
theorem gX1_refusalOfPair_X1_isOfNumbers : GoodIn wsX1_refusalOfPair (va_wsS RX1 137 yX1_isOfNumbers wsX1_isOfNumbers) := goodIn_app (goodIn_of _ (by decide +kernel)) ggX1_refusalOfPair_X1_isOfNumbers
theorem dX1_refusalOfPair_0 : decode cX1_refusalOfPair 0 = .ok (.aload_n 0, 1) := by decide +kernel
theorem dX1_refusalOfPair_1 : decode cX1_refusalOfPair 1 = .ok (.iload_n 1, 1) := by decide +kernel
theorem dX1_refusalOfPair_2 : decode cX1_refusalOfPair 2 = .ok (.invokevirtual 38, 3) := by decide +kernel
theorem dX1_refusalOfPair_5 : decode cX1_refusalOfPair 5 = .ok (.istore_n 3, 1) := by decide +kernel
theorem dX1_refusalOfPair_6 : decode cX1_refusalOfPair 6 = .ok (.aload_n 0, 1) := by decide +kernel
theorem dX1_refusalOfPair_7 : decode cX1_refusalOfPair 7 = .ok (.iload_n 2, 1) := by decide +kernel
theorem dX1_refusalOfPair_8 : decode cX1_refusalOfPair 8 = .ok (.invokevirtual 38, 3) := by decide +kernel
theorem dX1_refusalOfPair_11 : decode cX1_refusalOfPair 11 = .ok (.istore 4, 2) := by decide +kernel
theorem dX1_refusalOfPair_13 : decode cX1_refusalOfPair 13 = .ok (.iload_n 3, 1) := by decide +kernel
theorem dX1_refusalOfPair_14 : decode cX1_refusalOfPair 14 = .ok (.bipush 6, 2) := by decide +kernel
theorem dX1_refusalOfPair_16 : decode cX1_refusalOfPair 16 = .ok (.if_icmp .eq 10, 3) := by decide +kernel
theorem dX1_refusalOfPair_19 : decode cX1_refusalOfPair 19 = .ok (.iload 4, 2) := by decide +kernel
theorem dX1_refusalOfPair_21 : decode cX1_refusalOfPair 21 = .ok (.bipush 6, 2) := by decide +kernel
theorem dX1_refusalOfPair_23 : decode cX1_refusalOfPair 23 = .ok (.if_icmp .ne 6, 3) := by decide +kernel
theorem dX1_refusalOfPair_26 : decode cX1_refusalOfPair 26 = .ok (.bipush 6, 2) := by decide +kernel
theorem dX1_refusalOfPair_28 : decode cX1_refusalOfPair 28 = .ok (.ireturn, 1) := by decide +kernel
theorem dX1_refusalOfPair_29 : decode cX1_refusalOfPair 29 = .ok (.iload_n 3, 1) := by decide +kernel
theorem dX1_refusalOfPair_30 : decode cX1_refusalOfPair 30 = .ok (.iconst 1, 1) := by decide +kernel
theorem dX1_refusalOfPair_31 : decode cX1_refusalOfPair 31 = .ok (.if_icmp .eq 9, 3) := by decide +kernel
theorem dX1_refusalOfPair_34 : decode cX1_refusalOfPair 34 = .ok (.iload 4, 2) := by decide +kernel
theorem dX1_refusalOfPair_36 : decode cX1_refusalOfPair 36 = .ok (.iconst 1, 1) := by decide +kernel
theorem dX1_refusalOfPair_37 : decode cX1_refusalOfPair 37 = .ok (.if_icmp .ne 5, 3) := by decide +kernel
theorem dX1_refusalOfPair_40 : decode cX1_refusalOfPair 40 = .ok (.iconst 1, 1) := by decide +kernel
theorem dX1_refusalOfPair_41 : decode cX1_refusalOfPair 41 = .ok (.ireturn, 1) := by decide +kernel
theorem dX1_refusalOfPair_42 : decode cX1_refusalOfPair 42 = .ok (.iload_n 3, 1) := by decide +kernel
theorem dX1_refusalOfPair_43 : decode cX1_refusalOfPair 43 = .ok (.iconst 2, 1) := by decide +kernel
theorem dX1_refusalOfPair_44 : decode cX1_refusalOfPair 44 = .ok (.if_icmp .eq 9, 3) := by decide +kernel
theorem dX1_refusalOfPair_47 : decode cX1_refusalOfPair 47 = .ok (.iload 4, 2) := by decide +kernel
theorem dX1_refusalOfPair_49 : decode cX1_refusalOfPair 49 = .ok (.iconst 2, 1) := by decide +kernel
theorem dX1_refusalOfPair_50 : decode cX1_refusalOfPair 50 = .ok (.if_icmp .ne 5, 3) := by decide +kernel
theorem dX1_refusalOfPair_53 : decode cX1_refusalOfPair 53 = .ok (.iconst 2, 1) := by decide +kernel
theorem dX1_refusalOfPair_54 : decode cX1_refusalOfPair 54 = .ok (.ireturn, 1) := by decide +kernel
theorem dX1_refusalOfPair_55 : decode cX1_refusalOfPair 55 = .ok (.aload_n 0, 1) := by decide +kernel
theorem dX1_refusalOfPair_56 : decode cX1_refusalOfPair 56 = .ok (.getfield 11, 3) := by decide +kernel
theorem dX1_refusalOfPair_59 : decode cX1_refusalOfPair 59 = .ok (.iload_n 1, 1) := by decide +kernel
theorem dX1_refusalOfPair_60 : decode cX1_refusalOfPair 60 = .ok (.aaload, 1) := by decide +kernel
theorem dX1_refusalOfPair_61 : decode cX1_refusalOfPair 61 = .ok (.getfield 42, 3) := by decide +kernel
theorem dX1_refusalOfPair_64 : decode cX1_refusalOfPair 64 = .ok (.istore 5, 2) := by decide +kernel
theorem dX1_refusalOfPair_66 : decode cX1_refusalOfPair 66 = .ok (.aload_n 0, 1) := by decide +kernel
theorem dX1_refusalOfPair_67 : decode cX1_refusalOfPair 67 = .ok (.getfield 11, 3) := by decide +kernel
theorem dX1_refusalOfPair_70 : decode cX1_refusalOfPair 70 = .ok (.iload_n 2, 1) := by decide +kernel
theorem dX1_refusalOfPair_71 : decode cX1_refusalOfPair 71 = .ok (.aaload, 1) := by decide +kernel
theorem dX1_refusalOfPair_72 : decode cX1_refusalOfPair 72 = .ok (.getfield 42, 3) := by decide +kernel
theorem dX1_refusalOfPair_75 : decode cX1_refusalOfPair 75 = .ok (.istore 6, 2) := by decide +kernel
theorem dX1_refusalOfPair_77 : decode cX1_refusalOfPair 77 = .ok (.iload 5, 2) := by decide +kernel
theorem dX1_refusalOfPair_79 : decode cX1_refusalOfPair 79 = .ok (.iload 6, 2) := by decide +kernel
theorem dX1_refusalOfPair_81 : decode cX1_refusalOfPair 81 = .ok (.if_icmp .eq 23, 3) := by decide +kernel
theorem dX1_refusalOfPair_84 : decode cX1_refusalOfPair 84 = .ok (.iload 5, 2) := by decide +kernel
theorem dX1_refusalOfPair_86 : decode cX1_refusalOfPair 86 = .ok (.invokestatic 137, 3) := by decide +kernel
theorem dX1_refusalOfPair_89 : decode cX1_refusalOfPair 89 = .ok (.ifCond .ne 11, 3) := by decide +kernel
theorem dX1_refusalOfPair_92 : decode cX1_refusalOfPair 92 = .ok (.iload 6, 2) := by decide +kernel
theorem dX1_refusalOfPair_94 : decode cX1_refusalOfPair 94 = .ok (.invokestatic 137, 3) := by decide +kernel
theorem dX1_refusalOfPair_97 : decode cX1_refusalOfPair 97 = .ok (.ifCond .eq 7, 3) := by decide +kernel
theorem dX1_refusalOfPair_100 : decode cX1_refusalOfPair 100 = .ok (.iconst 1, 1) := by decide +kernel
theorem dX1_refusalOfPair_101 : decode cX1_refusalOfPair 101 = .ok (.goto 4, 3) := by decide +kernel
theorem dX1_refusalOfPair_104 : decode cX1_refusalOfPair 104 = .ok (.iconst 0, 1) := by decide +kernel
theorem dX1_refusalOfPair_105 : decode cX1_refusalOfPair 105 = .ok (.istore 7, 2) := by decide +kernel
theorem dX1_refusalOfPair_107 : decode cX1_refusalOfPair 107 = .ok (.iload 7, 2) := by decide +kernel
theorem dX1_refusalOfPair_109 : decode cX1_refusalOfPair 109 = .ok (.ifCond .eq 7, 3) := by decide +kernel
theorem dX1_refusalOfPair_112 : decode cX1_refusalOfPair 112 = .ok (.iconst 3, 1) := by decide +kernel
theorem dX1_refusalOfPair_113 : decode cX1_refusalOfPair 113 = .ok (.goto 4, 3) := by decide +kernel
theorem dX1_refusalOfPair_116 : decode cX1_refusalOfPair 116 = .ok (.iconst 0, 1) := by decide +kernel
theorem dX1_refusalOfPair_117 : decode cX1_refusalOfPair 117 = .ok (.ireturn, 1) := by decide +kernel
theorem dX1_wayOut_0 : decode cX1_wayOut 0 = .ok (.iload_n 0, 1) := by decide +kernel
theorem dX1_wayOut_1 : decode cX1_wayOut 1 = .ok (.ifCond .ge 5, 3) := by decide +kernel
theorem dX1_wayOut_4 : decode cX1_wayOut 4 = .ok (.iconst 1, 1) := by decide +kernel
theorem dX1_wayOut_5 : decode cX1_wayOut 5 = .ok (.ireturn, 1) := by decide +kernel
theorem dX1_wayOut_6 : decode cX1_wayOut 6 = .ok (.lload_n 1, 1) := by decide +kernel
theorem dX1_wayOut_7 : decode cX1_wayOut 7 = .ok (.lconst 0, 1) := by decide +kernel
theorem dX1_wayOut_8 : decode cX1_wayOut 8 = .ok (.lcmp, 1) := by decide +kernel
theorem dX1_wayOut_9 : decode cX1_wayOut 9 = .ok (.ifCond .ge 5, 3) := by decide +kernel
theorem dX1_wayOut_12 : decode cX1_wayOut 12 = .ok (.iconst 2, 1) := by decide +kernel
theorem dX1_wayOut_13 : decode cX1_wayOut 13 = .ok (.ireturn, 1) := by decide +kernel
theorem dX1_wayOut_14 : decode cX1_wayOut 14 = .ok (.iload_n 3, 1) := by decide +kernel
theorem dX1_wayOut_15 : decode cX1_wayOut 15 = .ok (.ifCond .ge 5, 3) := by decide +kernel
theorem dX1_wayOut_18 : decode cX1_wayOut 18 = .ok (.iconst 3, 1) := by decide +kernel
theorem dX1_wayOut_19 : decode cX1_wayOut 19 = .ok (.ireturn, 1) := by decide +kernel
theorem dX1_wayOut_20 : decode cX1_wayOut 20 = .ok (.iload_n 0, 1) := by decide +kernel
theorem dX1_wayOut_21 : decode cX1_wayOut 21 = .ok (.i2l, 1) := by decide +kernel
theorem dX1_wayOut_22 : decode cX1_wayOut 22 = .ok (.iload_n 3, 1) := by decide +kernel
theorem dX1_wayOut_23 : decode cX1_wayOut 23 = .ok (.i2l, 1) := by decide +kernel
theorem dX1_wayOut_24 : decode cX1_wayOut 24 = .ok (.ladd, 1) := by decide +kernel
theorem dX1_wayOut_25 : decode cX1_wayOut 25 = .ok (.iload 4, 2) := by decide +kernel
theorem dX1_wayOut_27 : decode cX1_wayOut 27 = .ok (.i2l, 1) := by decide +kernel
theorem dX1_wayOut_28 : decode cX1_wayOut 28 = .ok (.lcmp, 1) := by decide +kernel
theorem dX1_wayOut_29 : decode cX1_wayOut 29 = .ok (.ifCond .le 5, 3) := by decide +kernel
theorem dX1_wayOut_32 : decode cX1_wayOut 32 = .ok (.iconst 4, 1) := by decide +kernel
theorem dX1_wayOut_33 : decode cX1_wayOut 33 = .ok (.ireturn, 1) := by decide +kernel
theorem dX1_wayOut_34 : decode cX1_wayOut 34 = .ok (.lload_n 1, 1) := by decide +kernel
theorem dX1_wayOut_35 : decode cX1_wayOut 35 = .ok (.iload_n 3, 1) := by decide +kernel
theorem dX1_wayOut_36 : decode cX1_wayOut 36 = .ok (.i2l, 1) := by decide +kernel
theorem dX1_wayOut_37 : decode cX1_wayOut 37 = .ok (.ladd, 1) := by decide +kernel
theorem dX1_wayOut_38 : decode cX1_wayOut 38 = .ok (.iload 5, 2) := by decide +kernel
theorem dX1_wayOut_40 : decode cX1_wayOut 40 = .ok (.i2l, 1) := by decide +kernel
theorem dX1_wayOut_41 : decode cX1_wayOut 41 = .ok (.lcmp, 1) := by decide +kernel
theorem dX1_wayOut_42 : decode cX1_wayOut 42 = .ok (.ifCond .le 7, 3) := by decide +kernel
theorem dX1_wayOut_45 : decode cX1_wayOut 45 = .ok (.iconst 5, 1) := by decide +kernel
theorem dX1_wayOut_46 : decode cX1_wayOut 46 = .ok (.goto 4, 3) := by decide +kernel
theorem dX1_wayOut_49 : decode cX1_wayOut 49 = .ok (.iconst 0, 1) := by decide +kernel
theorem dX1_wayOut_50 : decode cX1_wayOut 50 = .ok (.ireturn, 1) := by decide +kernel
set_option maxRecDepth 20000 in
theorem ggX1_doSplice_X1_refusalOfPair : GoodIn wsX1_doSplice wsX1_refusalOfPair := goodIn_r _ [14, 1, 3, 15, 16, 17, 13, 18, 19, 20, 21, 22, 23, 24, 52, 53, 54, 55, 56, 57, 58, 59, 60, 61, 62, 63, 64, 65, 66, 67, 68] (by decide +kernel) (by decide +kernel)
set_option maxRecDepth 20000 in
theorem gX1_doSplice_X1_refusalOfPair : GoodIn wsX1_doSplice (wsV RX1 168 RX1 yX1_refusalOfPair wsX1_refusalOfPair) := goodIn_app (goodIn_of _ (by decide +kernel)) ggX1_doSplice_X1_refusalOfPair
set_option maxRecDepth 20000 in
theorem ggX1_doSplice_X1_settle : GoodIn wsX1_doSplice wsX1_settle := goodIn_r _ [28, 29, 30, 31, 52, 53, 54, 55, 56, 57, 58, 59, 60, 61, 62, 63, 64, 65] (by decide +kernel) (by decide +kernel)
set_option maxRecDepth 20000 in
theorem gX1_doSplice_X1_settle : GoodIn wsX1_doSplice (wsV RX1 27 RX1 yX1_settle wsX1_settle) := goodIn_app (goodIn_of _ (by decide +kernel)) ggX1_doSplice_X1_settle
set_option maxRecDepth 20000 in
theorem ggX1_doSplice_X1_wayOut : GoodIn wsX1_doSplice wsX1_wayOut := goodIn_r _ [34] (by decide +kernel) (by decide +kernel)
set_option maxRecDepth 20000 in
theorem gX1_doSplice_X1_wayOut : GoodIn wsX1_doSplice (va_wsS RX1 164 yX1_wayOut wsX1_wayOut) := goodIn_app (goodIn_of _ (by decide +kernel)) ggX1_doSplice_X1_wayOut
set_option maxRecDepth 20000 in
theorem ggX1_doSplice_X1_borneAhead : GoodIn wsX1_doSplice wsX1_borneAhead := goodIn_r _ [37, 38, 39, 13, 40, 22, 23, 24, 41, 42, 43] (by decide +kernel) (by decide +kernel)
set_option maxRecDepth 20000 in
theorem gX1_doSplice_X1_borneAhead : GoodIn wsX1_doSplice (va_wsS RX1 172 yX1_borneAhead wsX1_borneAhead) := goodIn_app (goodIn_of _ (by decide +kernel)) ggX1_doSplice_X1_borneAhead
set_option maxRecDepth 20000 in
theorem ggX1_doSplice_X1_fillBin : GoodIn wsX1_doSplice wsX1_fillBin := goodIn_r _ [47, 2, 48, 4, 5, 6, 7, 49, 50, 51, 66, 67, 68, 52, 53, 54, 55, 56, 57, 58, 59, 60, 61, 62, 63, 64, 65] (by decide +kernel) (by decide +kernel)
set_option maxRecDepth 20000 in
theorem gX1_doSplice_X1_fillBin : GoodIn wsX1_doSplice (wsV RX1 176 RX1 yX1_fillBin wsX1_fillBin) := goodIn_app (goodIn_of _ (by decide +kernel)) ggX1_doSplice_X1_fillBin
theorem dX1_doSplice_0 : decode cX1_doSplice 0 = .ok (.aload_n 0, 1) := by decide +kernel
theorem dX1_doSplice_1 : decode cX1_doSplice 1 = .ok (.iload_n 1, 1) := by decide +kernel
theorem dX1_doSplice_2 : decode cX1_doSplice 2 = .ok (.iload_n 3, 1) := by decide +kernel
theorem dX1_doSplice_3 : decode cX1_doSplice 3 = .ok (.invokevirtual 168, 3) := by decide +kernel
theorem dX1_doSplice_6 : decode cX1_doSplice 6 = .ok (.istore 7, 2) := by decide +kernel
theorem dX1_doSplice_8 : decode cX1_doSplice 8 = .ok (.iload 7, 2) := by decide +kernel
theorem dX1_doSplice_10 : decode cX1_doSplice 10 = .ok (.ifCond .eq 12, 3) := by decide +kernel
theorem dX1_doSplice_13 : decode cX1_doSplice 13 = .ok (.aload_n 0, 1) := by decide +kernel
theorem dX1_doSplice_14 : decode cX1_doSplice 14 = .ok (.iload 7, 2) := by decide +kernel
theorem dX1_doSplice_16 : decode cX1_doSplice 16 = .ok (.iconst 0, 1) := by decide +kernel
theorem dX1_doSplice_17 : decode cX1_doSplice 17 = .ok (.iconst 0, 1) := by decide +kernel
theorem dX1_doSplice_18 : decode cX1_doSplice 18 = .ok (.invokevirtual 27, 3) := by decide +kernel
theorem dX1_doSplice_21 : decode cX1_doSplice 21 = .ok (.ireturn, 1) := by decide +kernel
theorem dX1_doSplice_22 : decode cX1_doSplice 22 = .ok (.aload_n 0, 1) := by decide +kernel
theorem dX1_doSplice_23 : decode cX1_doSplice 23 = .ok (.getfield 11, 3) := by decide +kernel
theorem dX1_doSplice_26 : decode cX1_doSplice 26 = .ok (.iload_n 1, 1) := by decide +kernel
theorem dX1_doSplice_27 : decode cX1_doSplice 27 = .ok (.aaload, 1) := by decide +kernel
theorem dX1_doSplice_28 : decode cX1_doSplice 28 = .ok (.astore 8, 2) := by decide +kernel
theorem dX1_doSplice_30 : decode cX1_doSplice 30 = .ok (.aload_n 0, 1) := by decide +kernel
theorem dX1_doSplice_31 : decode cX1_doSplice 31 = .ok (.getfield 11, 3) := by decide +kernel
theorem dX1_doSplice_34 : decode cX1_doSplice 34 = .ok (.iload_n 3, 1) := by decide +kernel
theorem dX1_doSplice_35 : decode cX1_doSplice 35 = .ok (.aaload, 1) := by decide +kernel
theorem dX1_doSplice_36 : decode cX1_doSplice 36 = .ok (.astore 9, 2) := by decide +kernel
theorem dX1_doSplice_38 : decode cX1_doSplice 38 = .ok (.iload_n 2, 1) := by decide +kernel
theorem dX1_doSplice_39 : decode cX1_doSplice 39 = .ok (.lload 4, 2) := by decide +kernel
theorem dX1_doSplice_41 : decode cX1_doSplice 41 = .ok (.iload 6, 2) := by decide +kernel
theorem dX1_doSplice_43 : decode cX1_doSplice 43 = .ok (.aload 8, 2) := by decide +kernel
theorem dX1_doSplice_45 : decode cX1_doSplice 45 = .ok (.getfield 48, 3) := by decide +kernel
theorem dX1_doSplice_48 : decode cX1_doSplice 48 = .ok (.arraylength, 1) := by decide +kernel
theorem dX1_doSplice_49 : decode cX1_doSplice 49 = .ok (.aload 9, 2) := by decide +kernel
theorem dX1_doSplice_51 : decode cX1_doSplice 51 = .ok (.getfield 48, 3) := by decide +kernel
theorem dX1_doSplice_54 : decode cX1_doSplice 54 = .ok (.arraylength, 1) := by decide +kernel
theorem dX1_doSplice_55 : decode cX1_doSplice 55 = .ok (.invokestatic 164, 3) := by decide +kernel
theorem dX1_doSplice_58 : decode cX1_doSplice 58 = .ok (.istore 10, 2) := by decide +kernel
theorem dX1_doSplice_60 : decode cX1_doSplice 60 = .ok (.iload 10, 2) := by decide +kernel
theorem dX1_doSplice_62 : decode cX1_doSplice 62 = .ok (.ifCond .eq 12, 3) := by decide +kernel
theorem dX1_doSplice_65 : decode cX1_doSplice 65 = .ok (.aload_n 0, 1) := by decide +kernel
theorem dX1_doSplice_66 : decode cX1_doSplice 66 = .ok (.iconst 4, 1) := by decide +kernel
theorem dX1_doSplice_67 : decode cX1_doSplice 67 = .ok (.iload 10, 2) := by decide +kernel
theorem dX1_doSplice_69 : decode cX1_doSplice 69 = .ok (.iconst 0, 1) := by decide +kernel
theorem dX1_doSplice_70 : decode cX1_doSplice 70 = .ok (.invokevirtual 27, 3) := by decide +kernel
theorem dX1_doSplice_73 : decode cX1_doSplice 73 = .ok (.ireturn, 1) := by decide +kernel
theorem dX1_doSplice_74 : decode cX1_doSplice 74 = .ok (.aload 8, 2) := by decide +kernel
theorem dX1_doSplice_76 : decode cX1_doSplice 76 = .ok (.getfield 48, 3) := by decide +kernel
theorem dX1_doSplice_79 : decode cX1_doSplice 79 = .ok (.iload_n 2, 1) := by decide +kernel
theorem dX1_doSplice_80 : decode cX1_doSplice 80 = .ok (.iload 6, 2) := by decide +kernel
theorem dX1_doSplice_82 : decode cX1_doSplice 82 = .ok (.aload 9, 2) := by decide +kernel
theorem dX1_doSplice_84 : decode cX1_doSplice 84 = .ok (.getfield 42, 3) := by decide +kernel
theorem dX1_doSplice_87 : decode cX1_doSplice 87 = .ok (.invokestatic 172, 3) := by decide +kernel
theorem dX1_doSplice_90 : decode cX1_doSplice 90 = .ok (.istore 11, 2) := by decide +kernel
theorem dX1_doSplice_92 : decode cX1_doSplice 92 = .ok (.iload 11, 2) := by decide +kernel
theorem dX1_doSplice_94 : decode cX1_doSplice 94 = .ok (.ifCond .le 44, 3) := by decide +kernel
theorem dX1_doSplice_97 : decode cX1_doSplice 97 = .ok (.aload_n 0, 1) := by decide +kernel
theorem dX1_doSplice_98 : decode cX1_doSplice 98 = .ok (.aload 9, 2) := by decide +kernel
theorem dX1_doSplice_100 : decode cX1_doSplice 100 = .ok (.lload 4, 2) := by decide +kernel
theorem dX1_doSplice_102 : decode cX1_doSplice 102 = .ok (.l2i, 1) := by decide +kernel
theorem dX1_doSplice_103 : decode cX1_doSplice 103 = .ok (.iload 11, 2) := by decide +kernel
theorem dX1_doSplice_105 : decode cX1_doSplice 105 = .ok (.invokevirtual 176, 3) := by decide +kernel
theorem dX1_doSplice_108 : decode cX1_doSplice 108 = .ok (.aload 8, 2) := by decide +kernel
theorem dX1_doSplice_110 : decode cX1_doSplice 110 = .ok (.getfield 48, 3) := by decide +kernel
theorem dX1_doSplice_113 : decode cX1_doSplice 113 = .ok (.iload_n 2, 1) := by decide +kernel
theorem dX1_doSplice_114 : decode cX1_doSplice 114 = .ok (.aload 9, 2) := by decide +kernel
theorem dX1_doSplice_116 : decode cX1_doSplice 116 = .ok (.getfield 48, 3) := by decide +kernel
theorem dX1_doSplice_119 : decode cX1_doSplice 119 = .ok (.lload 4, 2) := by decide +kernel
theorem dX1_doSplice_121 : decode cX1_doSplice 121 = .ok (.l2i, 1) := by decide +kernel
theorem dX1_doSplice_122 : decode cX1_doSplice 122 = .ok (.iload 11, 2) := by decide +kernel
theorem dX1_doSplice_124 : decode cX1_doSplice 124 = .ok (.invokestatic 82, 3) := by decide +kernel
theorem dX1_doSplice_127 : decode cX1_doSplice 127 = .ok (.aload_n 0, 1) := by decide +kernel
theorem dX1_doSplice_128 : decode cX1_doSplice 128 = .ok (.dup, 1) := by decide +kernel
theorem dX1_doSplice_129 : decode cX1_doSplice 129 = .ok (.getfield 158, 3) := by decide +kernel
theorem dX1_doSplice_132 : decode cX1_doSplice 132 = .ok (.iload 11, 2) := by decide +kernel
theorem dX1_doSplice_134 : decode cX1_doSplice 134 = .ok (.iadd, 1) := by decide +kernel
theorem dX1_doSplice_135 : decode cX1_doSplice 135 = .ok (.putfield 158, 3) := by decide +kernel
theorem dX1_doSplice_138 : decode cX1_doSplice 138 = .ok (.iload 11, 2) := by decide +kernel
theorem dX1_doSplice_140 : decode cX1_doSplice 140 = .ok (.iload 6, 2) := by decide +kernel
theorem dX1_doSplice_142 : decode cX1_doSplice 142 = .ok (.if_icmp .ge 12, 3) := by decide +kernel
theorem dX1_doSplice_145 : decode cX1_doSplice 145 = .ok (.aload_n 0, 1) := by decide +kernel
theorem dX1_doSplice_146 : decode cX1_doSplice 146 = .ok (.iconst 5, 1) := by decide +kernel
theorem dX1_doSplice_147 : decode cX1_doSplice 147 = .ok (.iconst 0, 1) := by decide +kernel
theorem dX1_doSplice_148 : decode cX1_doSplice 148 = .ok (.iload 11, 2) := by decide +kernel
theorem dX1_doSplice_150 : decode cX1_doSplice 150 = .ok (.invokevirtual 27, 3) := by decide +kernel
theorem dX1_doSplice_153 : decode cX1_doSplice 153 = .ok (.ireturn, 1) := by decide +kernel
theorem dX1_doSplice_154 : decode cX1_doSplice 154 = .ok (.aload_n 0, 1) := by decide +kernel
theorem dX1_doSplice_155 : decode cX1_doSplice 155 = .ok (.dup, 1) := by decide +kernel
theorem dX1_doSplice_156 : decode cX1_doSplice 156 = .ok (.getfield 155, 3) := by decide +kernel
theorem dX1_doSplice_159 : decode cX1_doSplice 159 = .ok (.iconst 1, 1) := by decide +kernel
theorem dX1_doSplice_160 : decode cX1_doSplice 160 = .ok (.iadd, 1) := by decide +kernel
theorem dX1_doSplice_161 : decode cX1_doSplice 161 = .ok (.putfield 155, 3) := by decide +kernel
theorem dX1_doSplice_164 : decode cX1_doSplice 164 = .ok (.aload_n 0, 1) := by decide +kernel
theorem dX1_doSplice_165 : decode cX1_doSplice 165 = .ok (.iconst 0, 1) := by decide +kernel
theorem dX1_doSplice_166 : decode cX1_doSplice 166 = .ok (.iconst 0, 1) := by decide +kernel
theorem dX1_doSplice_167 : decode cX1_doSplice 167 = .ok (.iconst 0, 1) := by decide +kernel
theorem dX1_doSplice_168 : decode cX1_doSplice 168 = .ok (.invokevirtual 27, 3) := by decide +kernel
theorem dX1_doSplice_171 : decode cX1_doSplice 171 = .ok (.ireturn, 1) := by decide +kernel
set_option maxRecDepth 20000 in
theorem ggX1_playCut_X1_doSplice : GoodIn wsX1_playCut wsX1_doSplice := goodIn_r _ [6, 7, 8, 9, 10, 11, 12, 13, 14, 15, 16, 17, 18, 5, 19, 20, 21, 22, 23, 24, 25, 26, 27, 28, 29, 30, 31, 32, 33, 34, 35, 36, 37, 38, 39, 40, 41, 42, 43, 44, 45, 46, 47, 48, 49, 50, 51, 52, 53, 54, 55, 56, 57, 58, 59, 60, 61, 62, 63, 64, 65, 66, 67, 68, 69, 70, 71, 72, 73] (by decide +kernel) (by decide +kernel)
set_option maxRecDepth 20000 in
theorem gX1_playCut_X1_doSplice : GoodIn wsX1_playCut (wsV RX1 75 RX1 yX1_doSplice wsX1_doSplice) := goodIn_app (goodIn_of _ (by decide +kernel)) ggX1_playCut_X1_doSplice
theorem dX1_playCut_0 : decode cX1_playCut 0 = .ok (.iload_n 1, 1) := by decide +kernel
theorem dX1_playCut_1 : decode cX1_playCut 1 = .ok (.iconst 5, 1) := by decide +kernel
theorem dX1_playCut_2 : decode cX1_playCut 2 = .ok (.imul, 1) := by decide +kernel
theorem dX1_playCut_3 : decode cX1_playCut 3 = .ok (.istore_n 2, 1) := by decide +kernel
theorem dX1_playCut_4 : decode cX1_playCut 4 = .ok (.aload_n 0, 1) := by decide +kernel
theorem dX1_playCut_5 : decode cX1_playCut 5 = .ok (.aload_n 0, 1) := by decide +kernel
theorem dX1_playCut_6 : decode cX1_playCut 6 = .ok (.getfield 15, 3) := by decide +kernel
theorem dX1_playCut_9 : decode cX1_playCut 9 = .ok (.iload_n 2, 1) := by decide +kernel
theorem dX1_playCut_10 : decode cX1_playCut 10 = .ok (.iaload, 1) := by decide +kernel
theorem dX1_playCut_11 : decode cX1_playCut 11 = .ok (.aload_n 0, 1) := by decide +kernel
theorem dX1_playCut_12 : decode cX1_playCut 12 = .ok (.getfield 15, 3) := by decide +kernel
theorem dX1_playCut_15 : decode cX1_playCut 15 = .ok (.iload_n 2, 1) := by decide +kernel
theorem dX1_playCut_16 : decode cX1_playCut 16 = .ok (.iconst 1, 1) := by decide +kernel
theorem dX1_playCut_17 : decode cX1_playCut 17 = .ok (.iadd, 1) := by decide +kernel
theorem dX1_playCut_18 : decode cX1_playCut 18 = .ok (.iaload, 1) := by decide +kernel
theorem dX1_playCut_19 : decode cX1_playCut 19 = .ok (.aload_n 0, 1) := by decide +kernel
theorem dX1_playCut_20 : decode cX1_playCut 20 = .ok (.getfield 15, 3) := by decide +kernel
theorem dX1_playCut_23 : decode cX1_playCut 23 = .ok (.iload_n 2, 1) := by decide +kernel
theorem dX1_playCut_24 : decode cX1_playCut 24 = .ok (.iconst 2, 1) := by decide +kernel
theorem dX1_playCut_25 : decode cX1_playCut 25 = .ok (.iadd, 1) := by decide +kernel
theorem dX1_playCut_26 : decode cX1_playCut 26 = .ok (.iaload, 1) := by decide +kernel
theorem dX1_playCut_27 : decode cX1_playCut 27 = .ok (.aload_n 0, 1) := by decide +kernel
theorem dX1_playCut_28 : decode cX1_playCut 28 = .ok (.getfield 15, 3) := by decide +kernel
theorem dX1_playCut_31 : decode cX1_playCut 31 = .ok (.iload_n 2, 1) := by decide +kernel
theorem dX1_playCut_32 : decode cX1_playCut 32 = .ok (.iconst 3, 1) := by decide +kernel
theorem dX1_playCut_33 : decode cX1_playCut 33 = .ok (.iadd, 1) := by decide +kernel
theorem dX1_playCut_34 : decode cX1_playCut 34 = .ok (.iaload, 1) := by decide +kernel
theorem dX1_playCut_35 : decode cX1_playCut 35 = .ok (.i2l, 1) := by decide +kernel
theorem dX1_playCut_36 : decode cX1_playCut 36 = .ok (.aload_n 0, 1) := by decide +kernel
theorem dX1_playCut_37 : decode cX1_playCut 37 = .ok (.getfield 15, 3) := by decide +kernel
theorem dX1_playCut_40 : decode cX1_playCut 40 = .ok (.iload_n 2, 1) := by decide +kernel
theorem dX1_playCut_41 : decode cX1_playCut 41 = .ok (.iconst 4, 1) := by decide +kernel
theorem dX1_playCut_42 : decode cX1_playCut 42 = .ok (.iadd, 1) := by decide +kernel
theorem dX1_playCut_43 : decode cX1_playCut 43 = .ok (.iaload, 1) := by decide +kernel
theorem dX1_playCut_44 : decode cX1_playCut 44 = .ok (.invokevirtual 75, 3) := by decide +kernel
theorem dX1_playCut_47 : decode cX1_playCut 47 = .ok (.ireturn, 1) := by decide +kernel
set_option maxRecDepth 20000 in
theorem ggX1_borneAhead_X1_bears : GoodIn wsX1_borneAhead wsX1_bears := goodIn_r _ [4, 5, 6, 3, 7, 8, 9, 10] (by decide +kernel) (by decide +kernel)
set_option maxRecDepth 20000 in
theorem gX1_borneAhead_X1_bears : GoodIn wsX1_borneAhead (va_wsS RX1 71 yX1_bears wsX1_bears) := goodIn_app (goodIn_of _ (by decide +kernel)) ggX1_borneAhead_X1_bears
theorem dX1_borneAhead_0 : decode cX1_borneAhead 0 = .ok (.iconst 0, 1) := by decide +kernel
theorem dX1_borneAhead_1 : decode cX1_borneAhead 1 = .ok (.istore 4, 2) := by decide +kernel
theorem dX1_borneAhead_3 : decode cX1_borneAhead 3 = .ok (.iload 4, 2) := by decide +kernel
theorem dX1_borneAhead_5 : decode cX1_borneAhead 5 = .ok (.iload_n 2, 1) := by decide +kernel
theorem dX1_borneAhead_6 : decode cX1_borneAhead 6 = .ok (.if_icmp .ge 22, 3) := by decide +kernel
theorem dX1_borneAhead_9 : decode cX1_borneAhead 9 = .ok (.iload_n 3, 1) := by decide +kernel
theorem dX1_borneAhead_10 : decode cX1_borneAhead 10 = .ok (.aload_n 0, 1) := by decide +kernel
theorem dX1_borneAhead_11 : decode cX1_borneAhead 11 = .ok (.iload_n 1, 1) := by decide +kernel
theorem dX1_borneAhead_12 : decode cX1_borneAhead 12 = .ok (.iload 4, 2) := by decide +kernel
theorem dX1_borneAhead_14 : decode cX1_borneAhead 14 = .ok (.iadd, 1) := by decide +kernel
theorem dX1_borneAhead_15 : decode cX1_borneAhead 15 = .ok (.laload, 1) := by decide +kernel
theorem dX1_borneAhead_16 : decode cX1_borneAhead 16 = .ok (.invokestatic 71, 3) := by decide +kernel
theorem dX1_borneAhead_19 : decode cX1_borneAhead 19 = .ok (.ifCond .eq 9, 3) := by decide +kernel
theorem dX1_borneAhead_22 : decode cX1_borneAhead 22 = .ok (.iinc 4 1, 3) := by decide +kernel
theorem dX1_borneAhead_25 : decode cX1_borneAhead 25 = .ok (.goto (-22), 3) := by decide +kernel
theorem dX1_borneAhead_28 : decode cX1_borneAhead 28 = .ok (.iload 4, 2) := by decide +kernel
theorem dX1_borneAhead_30 : decode cX1_borneAhead 30 = .ok (.ireturn, 1) := by decide +kernel
theorem dX1_blankFrames_0 : decode cX1_blankFrames 0 = .ok (.iload_n 1, 1) := by decide +kernel
theorem dX1_blankFrames_1 : decode cX1_blankFrames 1 = .ok (.istore_n 3, 1) := by decide +kernel
theorem dX1_blankFrames_2 : decode cX1_blankFrames 2 = .ok (.iload_n 3, 1) := by decide +kernel
theorem dX1_blankFrames_3 : decode cX1_blankFrames 3 = .ok (.iload_n 2, 1) := by decide +kernel
theorem dX1_blankFrames_4 : decode cX1_blankFrames 4 = .ok (.if_icmp .ge 13, 3) := by decide +kernel
theorem dX1_blankFrames_7 : decode cX1_blankFrames 7 = .ok (.aload_n 0, 1) := by decide +kernel
theorem dX1_blankFrames_8 : decode cX1_blankFrames 8 = .ok (.iload_n 3, 1) := by decide +kernel
theorem dX1_blankFrames_9 : decode cX1_blankFrames 9 = .ok (.lconst 0, 1) := by decide +kernel
theorem dX1_blankFrames_10 : decode cX1_blankFrames 10 = .ok (.lastore, 1) := by decide +kernel
theorem dX1_blankFrames_11 : decode cX1_blankFrames 11 = .ok (.iinc 3 1, 3) := by decide +kernel
theorem dX1_blankFrames_14 : decode cX1_blankFrames 14 = .ok (.goto (-12), 3) := by decide +kernel
theorem dX1_blankFrames_17 : decode cX1_blankFrames 17 = .ok (.return_, 1) := by decide +kernel
theorem dX1_fillBin_0 : decode cX1_fillBin 0 = .ok (.aload_n 1, 1) := by decide +kernel
theorem dX1_fillBin_1 : decode cX1_fillBin 1 = .ok (.getfield 48, 3) := by decide +kernel
theorem dX1_fillBin_4 : decode cX1_fillBin 4 = .ok (.iload_n 2, 1) := by decide +kernel
theorem dX1_fillBin_5 : decode cX1_fillBin 5 = .ok (.aload_n 0, 1) := by decide +kernel
theorem dX1_fillBin_6 : decode cX1_fillBin 6 = .ok (.getfield 19, 3) := by decide +kernel
theorem dX1_fillBin_9 : decode cX1_fillBin 9 = .ok (.iconst 0, 1) := by decide +kernel
theorem dX1_fillBin_10 : decode cX1_fillBin 10 = .ok (.iload_n 3, 1) := by decide +kernel
theorem dX1_fillBin_11 : decode cX1_fillBin 11 = .ok (.invokestatic 82, 3) := by decide +kernel
theorem dX1_fillBin_14 : decode cX1_fillBin 14 = .ok (.aload_n 0, 1) := by decide +kernel
theorem dX1_fillBin_15 : decode cX1_fillBin 15 = .ok (.aload_n 1, 1) := by decide +kernel
theorem dX1_fillBin_16 : decode cX1_fillBin 16 = .ok (.putfield 101, 3) := by decide +kernel
theorem dX1_fillBin_19 : decode cX1_fillBin 19 = .ok (.aload_n 0, 1) := by decide +kernel
theorem dX1_fillBin_20 : decode cX1_fillBin 20 = .ok (.iload_n 2, 1) := by decide +kernel
theorem dX1_fillBin_21 : decode cX1_fillBin 21 = .ok (.putfield 105, 3) := by decide +kernel
theorem dX1_fillBin_24 : decode cX1_fillBin 24 = .ok (.aload_n 0, 1) := by decide +kernel
theorem dX1_fillBin_25 : decode cX1_fillBin 25 = .ok (.iload_n 3, 1) := by decide +kernel
theorem dX1_fillBin_26 : decode cX1_fillBin 26 = .ok (.putfield 98, 3) := by decide +kernel
theorem dX1_fillBin_29 : decode cX1_fillBin 29 = .ok (.return_, 1) := by decide +kernel
theorem dX1_emptyBin_0 : decode cX1_emptyBin 0 = .ok (.aload_n 0, 1) := by decide +kernel
theorem dX1_emptyBin_1 : decode cX1_emptyBin 1 = .ok (.aconst_null, 1) := by decide +kernel
theorem dX1_emptyBin_2 : decode cX1_emptyBin 2 = .ok (.putfield 101, 3) := by decide +kernel
theorem dX1_emptyBin_5 : decode cX1_emptyBin 5 = .ok (.aload_n 0, 1) := by decide +kernel
theorem dX1_emptyBin_6 : decode cX1_emptyBin 6 = .ok (.iconst 0, 1) := by decide +kernel
theorem dX1_emptyBin_7 : decode cX1_emptyBin 7 = .ok (.putfield 105, 3) := by decide +kernel
theorem dX1_emptyBin_10 : decode cX1_emptyBin 10 = .ok (.aload_n 0, 1) := by decide +kernel
theorem dX1_emptyBin_11 : decode cX1_emptyBin 11 = .ok (.iconst 0, 1) := by decide +kernel
theorem dX1_emptyBin_12 : decode cX1_emptyBin 12 = .ok (.putfield 98, 3) := by decide +kernel
theorem dX1_emptyBin_15 : decode cX1_emptyBin 15 = .ok (.return_, 1) := by decide +kernel
theorem dX1_fitted_0 : decode cX1_fitted 0 = .ok (.iload_n 0, 1) := by decide +kernel
theorem dX1_fitted_1 : decode cX1_fitted 1 = .ok (.tableswitch 61 0 4 #[35, 61, 39, 44, 49], 35) := by decide +kernel
theorem dX1_fitted_36 : decode cX1_fitted 36 = .ok (.lload_n 1, 1) := by decide +kernel
theorem dX1_fitted_37 : decode cX1_fitted 37 = .ok (.l2i, 1) := by decide +kernel
theorem dX1_fitted_38 : decode cX1_fitted 38 = .ok (.i2l, 1) := by decide +kernel
theorem dX1_fitted_39 : decode cX1_fitted 39 = .ok (.lreturn, 1) := by decide +kernel
theorem dX1_fitted_40 : decode cX1_fitted 40 = .ok (.lload_n 1, 1) := by decide +kernel
theorem dX1_fitted_41 : decode cX1_fitted 41 = .ok (.l2i, 1) := by decide +kernel
theorem dX1_fitted_42 : decode cX1_fitted 42 = .ok (.i2s, 1) := by decide +kernel
theorem dX1_fitted_43 : decode cX1_fitted 43 = .ok (.i2l, 1) := by decide +kernel
theorem dX1_fitted_44 : decode cX1_fitted 44 = .ok (.lreturn, 1) := by decide +kernel
theorem dX1_fitted_45 : decode cX1_fitted 45 = .ok (.lload_n 1, 1) := by decide +kernel
theorem dX1_fitted_46 : decode cX1_fitted 46 = .ok (.l2i, 1) := by decide +kernel
theorem dX1_fitted_47 : decode cX1_fitted 47 = .ok (.i2c, 1) := by decide +kernel
theorem dX1_fitted_48 : decode cX1_fitted 48 = .ok (.i2l, 1) := by decide +kernel
theorem dX1_fitted_49 : decode cX1_fitted 49 = .ok (.lreturn, 1) := by decide +kernel
theorem dX1_fitted_50 : decode cX1_fitted 50 = .ok (.lload_n 1, 1) := by decide +kernel
theorem dX1_fitted_51 : decode cX1_fitted 51 = .ok (.lconst 0, 1) := by decide +kernel
theorem dX1_fitted_52 : decode cX1_fitted 52 = .ok (.lcmp, 1) := by decide +kernel
theorem dX1_fitted_53 : decode cX1_fitted 53 = .ok (.ifCond .ne 7, 3) := by decide +kernel
theorem dX1_fitted_56 : decode cX1_fitted 56 = .ok (.lconst 0, 1) := by decide +kernel
theorem dX1_fitted_57 : decode cX1_fitted 57 = .ok (.goto 4, 3) := by decide +kernel
theorem dX1_fitted_60 : decode cX1_fitted 60 = .ok (.lconst 1, 1) := by decide +kernel
theorem dX1_fitted_61 : decode cX1_fitted 61 = .ok (.lreturn, 1) := by decide +kernel
theorem dX1_fitted_62 : decode cX1_fitted 62 = .ok (.lload_n 1, 1) := by decide +kernel
theorem dX1_fitted_63 : decode cX1_fitted 63 = .ok (.lreturn, 1) := by decide +kernel
set_option maxRecDepth 20000 in
theorem ggX1_newShot_X1_shotOf : GoodIn wsX1_newShot wsX1_shotOf := goodIn_r _ [5, 6] (by decide +kernel) (by decide +kernel)
set_option maxRecDepth 20000 in
theorem gX1_newShot_X1_shotOf : GoodIn wsX1_newShot (va_wsS RX1 180 yX1_shotOf wsX1_shotOf) := goodIn_app (goodIn_of _ (by decide +kernel)) ggX1_newShot_X1_shotOf
theorem dX1_newShot_0 : decode cX1_newShot 0 = .ok (.aload_n 0, 1) := by decide +kernel
theorem dX1_newShot_1 : decode cX1_newShot 1 = .ok (.dup, 1) := by decide +kernel
theorem dX1_newShot_2 : decode cX1_newShot 2 = .ok (.getfield 161, 3) := by decide +kernel
theorem dX1_newShot_5 : decode cX1_newShot 5 = .ok (.iconst 1, 1) := by decide +kernel
theorem dX1_newShot_6 : decode cX1_newShot 6 = .ok (.iadd, 1) := by decide +kernel
theorem dX1_newShot_7 : decode cX1_newShot 7 = .ok (.putfield 161, 3) := by decide +kernel
theorem dX1_newShot_10 : decode cX1_newShot 10 = .ok (.aload_n 0, 1) := by decide +kernel
theorem dX1_newShot_11 : decode cX1_newShot 11 = .ok (.getfield 161, 3) := by decide +kernel
theorem dX1_newShot_14 : decode cX1_newShot 14 = .ok (.iload_n 1, 1) := by decide +kernel
theorem dX1_newShot_15 : decode cX1_newShot 15 = .ok (.iload_n 2, 1) := by decide +kernel
theorem dX1_newShot_16 : decode cX1_newShot 16 = .ok (.invokestatic 180, 3) := by decide +kernel
theorem dX1_newShot_19 : decode cX1_newShot 19 = .ok (.lreturn, 1) := by decide +kernel
theorem dX1_shotOf_0 : decode cX1_shotOf 0 = .ok (.iload_n 0, 1) := by decide +kernel
theorem dX1_shotOf_1 : decode cX1_shotOf 1 = .ok (.i2l, 1) := by decide +kernel
theorem dX1_shotOf_2 : decode cX1_shotOf 2 = .ok (.bipush 34, 2) := by decide +kernel
theorem dX1_shotOf_4 : decode cX1_shotOf 4 = .ok (.lshl, 1) := by decide +kernel
theorem dX1_shotOf_5 : decode cX1_shotOf 5 = .ok (.iload_n 1, 1) := by decide +kernel
theorem dX1_shotOf_6 : decode cX1_shotOf 6 = .ok (.i2l, 1) := by decide +kernel
theorem dX1_shotOf_7 : decode cX1_shotOf 7 = .ok (.bipush 32, 2) := by decide +kernel
theorem dX1_shotOf_9 : decode cX1_shotOf 9 = .ok (.lshl, 1) := by decide +kernel
theorem dX1_shotOf_10 : decode cX1_shotOf 10 = .ok (.lor, 1) := by decide +kernel
theorem dX1_shotOf_11 : decode cX1_shotOf 11 = .ok (.iload_n 2, 1) := by decide +kernel
theorem dX1_shotOf_12 : decode cX1_shotOf 12 = .ok (.i2l, 1) := by decide +kernel
theorem dX1_shotOf_13 : decode cX1_shotOf 13 = .ok (.ldc2_w 184, 3) := by decide +kernel
theorem dX1_shotOf_16 : decode cX1_shotOf 16 = .ok (.land, 1) := by decide +kernel
theorem dX1_shotOf_17 : decode cX1_shotOf 17 = .ok (.lor, 1) := by decide +kernel
theorem dX1_shotOf_18 : decode cX1_shotOf 18 = .ok (.lreturn, 1) := by decide +kernel
theorem dX1_kindOf_0 : decode cX1_kindOf 0 = .ok (.lload_n 0, 1) := by decide +kernel
theorem dX1_kindOf_1 : decode cX1_kindOf 1 = .ok (.bipush 32, 2) := by decide +kernel
theorem dX1_kindOf_3 : decode cX1_kindOf 3 = .ok (.lushr, 1) := by decide +kernel
theorem dX1_kindOf_4 : decode cX1_kindOf 4 = .ok (.l2i, 1) := by decide +kernel
theorem dX1_kindOf_5 : decode cX1_kindOf 5 = .ok (.iconst 3, 1) := by decide +kernel
theorem dX1_kindOf_6 : decode cX1_kindOf 6 = .ok (.iand, 1) := by decide +kernel
theorem dX1_kindOf_7 : decode cX1_kindOf 7 = .ok (.ireturn, 1) := by decide +kernel
theorem dX1_numberOf_0 : decode cX1_numberOf 0 = .ok (.lload_n 0, 1) := by decide +kernel
theorem dX1_numberOf_1 : decode cX1_numberOf 1 = .ok (.l2i, 1) := by decide +kernel
theorem dX1_numberOf_2 : decode cX1_numberOf 2 = .ok (.ireturn, 1) := by decide +kernel
set_option maxRecDepth 20000 in
theorem ggX1_bears_X1_isOfNumbers : GoodIn wsX1_bears wsX1_isOfNumbers := goodIn_r _ [4] (by decide +kernel) (by decide +kernel)
set_option maxRecDepth 20000 in
theorem gX1_bears_X1_isOfNumbers : GoodIn wsX1_bears (va_wsS RX1 137 yX1_isOfNumbers wsX1_isOfNumbers) := goodIn_app (goodIn_of _ (by decide +kernel)) ggX1_bears_X1_isOfNumbers
set_option maxRecDepth 20000 in
theorem ggX1_bears_X1_kindOf : GoodIn wsX1_bears wsX1_kindOf := goodIn_r _ [7] (by decide +kernel) (by decide +kernel)
set_option maxRecDepth 20000 in
theorem gX1_bears_X1_kindOf : GoodIn wsX1_bears (va_wsS RX1 148 yX1_kindOf wsX1_kindOf) := goodIn_app (goodIn_of _ (by decide +kernel)) ggX1_bears_X1_kindOf
theorem dX1_bears_0 : decode cX1_bears 0 = .ok (.iload_n 0, 1) := by decide +kernel
theorem dX1_bears_1 : decode cX1_bears 1 = .ok (.invokestatic 137, 3) := by decide +kernel
theorem dX1_bears_4 : decode cX1_bears 4 = .ok (.ifCond .ne 19, 3) := by decide +kernel
theorem dX1_bears_7 : decode cX1_bears 7 = .ok (.lload_n 1, 1) := by decide +kernel
theorem dX1_bears_8 : decode cX1_bears 8 = .ok (.lconst 0, 1) := by decide +kernel
theorem dX1_bears_9 : decode cX1_bears 9 = .ok (.lcmp, 1) := by decide +kernel
theorem dX1_bears_10 : decode cX1_bears 10 = .ok (.ifCond .eq 13, 3) := by decide +kernel
theorem dX1_bears_13 : decode cX1_bears 13 = .ok (.lload_n 1, 1) := by decide +kernel
theorem dX1_bears_14 : decode cX1_bears 14 = .ok (.invokestatic 148, 3) := by decide +kernel
theorem dX1_bears_17 : decode cX1_bears 17 = .ok (.iload_n 0, 1) := by decide +kernel
theorem dX1_bears_18 : decode cX1_bears 18 = .ok (.iconst 5, 1) := by decide +kernel
theorem dX1_bears_19 : decode cX1_bears 19 = .ok (.isub, 1) := by decide +kernel
theorem dX1_bears_20 : decode cX1_bears 20 = .ok (.if_icmp .lt 7, 3) := by decide +kernel
theorem dX1_bears_23 : decode cX1_bears 23 = .ok (.iconst 1, 1) := by decide +kernel
theorem dX1_bears_24 : decode cX1_bears 24 = .ok (.goto 4, 3) := by decide +kernel
theorem dX1_bears_27 : decode cX1_bears 27 = .ok (.iconst 0, 1) := by decide +kernel
theorem dX1_bears_28 : decode cX1_bears 28 = .ok (.ireturn, 1) := by decide +kernel
theorem dX2_init_0 : decode cX2_init 0 = .ok (.aload_n 0, 1) := by decide +kernel
theorem dX2_init_1 : decode cX2_init 1 = .ok (.invokespecial 1, 3) := by decide +kernel
theorem dX2_init_4 : decode cX2_init 4 = .ok (.aload_n 0, 1) := by decide +kernel
theorem dX2_init_5 : decode cX2_init 5 = .ok (.sipush 513, 3) := by decide +kernel
theorem dX2_init_8 : decode cX2_init 8 = .ok (.newarray .int, 2) := by decide +kernel
theorem dX2_init_10 : decode cX2_init 10 = .ok (.putfield 7, 3) := by decide +kernel
theorem dX2_init_13 : decode cX2_init 13 = .ok (.aload_n 0, 1) := by decide +kernel
theorem dX2_init_14 : decode cX2_init 14 = .ok (.sipush 513, 3) := by decide +kernel
theorem dX2_init_17 : decode cX2_init 17 = .ok (.newarray .int, 2) := by decide +kernel
theorem dX2_init_19 : decode cX2_init 19 = .ok (.putfield 13, 3) := by decide +kernel
theorem dX2_init_22 : decode cX2_init 22 = .ok (.aload_n 0, 1) := by decide +kernel
theorem dX2_init_23 : decode cX2_init 23 = .ok (.sipush 12312, 3) := by decide +kernel
theorem dX2_init_26 : decode cX2_init 26 = .ok (.newarray .long, 2) := by decide +kernel
theorem dX2_init_28 : decode cX2_init 28 = .ok (.putfield 16, 3) := by decide +kernel
theorem dX2_init_31 : decode cX2_init 31 = .ok (.aload_n 0, 1) := by decide +kernel
theorem dX2_init_32 : decode cX2_init 32 = .ok (.bipush 8, 2) := by decide +kernel
theorem dX2_init_34 : decode cX2_init 34 = .ok (.newarray .int, 2) := by decide +kernel
theorem dX2_init_36 : decode cX2_init 36 = .ok (.putfield 20, 3) := by decide +kernel
theorem dX2_init_39 : decode cX2_init 39 = .ok (.aload_n 0, 1) := by decide +kernel
theorem dX2_init_40 : decode cX2_init 40 = .ok (.bipush 8, 2) := by decide +kernel
theorem dX2_init_42 : decode cX2_init 42 = .ok (.newarray .int, 2) := by decide +kernel
theorem dX2_init_44 : decode cX2_init 44 = .ok (.putfield 23, 3) := by decide +kernel
theorem dX2_init_47 : decode cX2_init 47 = .ok (.aload_n 0, 1) := by decide +kernel
theorem dX2_init_48 : decode cX2_init 48 = .ok (.sipush 513, 3) := by decide +kernel
theorem dX2_init_51 : decode cX2_init 51 = .ok (.newarray .int, 2) := by decide +kernel
theorem dX2_init_53 : decode cX2_init 53 = .ok (.putfield 26, 3) := by decide +kernel
theorem dX2_init_56 : decode cX2_init 56 = .ok (.aload_n 0, 1) := by decide +kernel
theorem dX2_init_57 : decode cX2_init 57 = .ok (.sipush 513, 3) := by decide +kernel
theorem dX2_init_60 : decode cX2_init 60 = .ok (.newarray .int, 2) := by decide +kernel
theorem dX2_init_62 : decode cX2_init 62 = .ok (.putfield 29, 3) := by decide +kernel
theorem dX2_init_65 : decode cX2_init 65 = .ok (.aload_n 0, 1) := by decide +kernel
theorem dX2_init_66 : decode cX2_init 66 = .ok (.sipush 513, 3) := by decide +kernel
theorem dX2_init_69 : decode cX2_init 69 = .ok (.newarray .int, 2) := by decide +kernel
theorem dX2_init_71 : decode cX2_init 71 = .ok (.putfield 32, 3) := by decide +kernel
theorem dX2_init_74 : decode cX2_init 74 = .ok (.aload_n 0, 1) := by decide +kernel
theorem dX2_init_75 : decode cX2_init 75 = .ok (.bipush 80, 2) := by decide +kernel
theorem dX2_init_77 : decode cX2_init 77 = .ok (.newarray .int, 2) := by decide +kernel
theorem dX2_init_79 : decode cX2_init 79 = .ok (.putfield 35, 3) := by decide +kernel
theorem dX2_init_82 : decode cX2_init 82 = .ok (.aload_n 0, 1) := by decide +kernel
theorem dX2_init_83 : decode cX2_init 83 = .ok (.bipush 24, 2) := by decide +kernel
theorem dX2_init_85 : decode cX2_init 85 = .ok (.newarray .long, 2) := by decide +kernel
theorem dX2_init_87 : decode cX2_init 87 = .ok (.putfield 38, 3) := by decide +kernel
theorem dX2_init_90 : decode cX2_init 90 = .ok (.aload_n 0, 1) := by decide +kernel
theorem dX2_init_91 : decode cX2_init 91 = .ok (.bipush 24, 2) := by decide +kernel
theorem dX2_init_93 : decode cX2_init 93 = .ok (.newarray .long, 2) := by decide +kernel
theorem dX2_init_95 : decode cX2_init 95 = .ok (.putfield 41, 3) := by decide +kernel
theorem dX2_init_98 : decode cX2_init 98 = .ok (.return_, 1) := by decide +kernel
theorem dX2_thrown_0 : decode cX2_thrown 0 = .ok (.aload_n 0, 1) := by decide +kernel
theorem dX2_thrown_1 : decode cX2_thrown 1 = .ok (.getfield 44, 3) := by decide +kernel
theorem dX2_thrown_4 : decode cX2_thrown 4 = .ok (.ireturn, 1) := by decide +kernel
theorem dX2_isSpindle_0 : decode cX2_isSpindle 0 = .ok (.iload_n 0, 1) := by decide +kernel
theorem dX2_isSpindle_1 : decode cX2_isSpindle 1 = .ok (.ifCond .lt 13, 3) := by decide +kernel
theorem dX2_isSpindle_4 : decode cX2_isSpindle 4 = .ok (.iload_n 0, 1) := by decide +kernel
theorem dX2_isSpindle_5 : decode cX2_isSpindle 5 = .ok (.bipush 7, 2) := by decide +kernel
theorem dX2_isSpindle_7 : decode cX2_isSpindle 7 = .ok (.if_icmp .gt 7, 3) := by decide +kernel
theorem dX2_isSpindle_10 : decode cX2_isSpindle 10 = .ok (.iconst 1, 1) := by decide +kernel
theorem dX2_isSpindle_11 : decode cX2_isSpindle 11 = .ok (.goto 4, 3) := by decide +kernel
theorem dX2_isSpindle_14 : decode cX2_isSpindle 14 = .ok (.iconst 0, 1) := by decide +kernel
theorem dX2_isSpindle_15 : decode cX2_isSpindle 15 = .ok (.ireturn, 1) := by decide +kernel
theorem dX2_isOfNumbers_0 : decode cX2_isOfNumbers 0 = .ok (.iload_n 0, 1) := by decide +kernel
theorem dX2_isOfNumbers_1 : decode cX2_isOfNumbers 1 = .ok (.iconst 5, 1) := by decide +kernel
theorem dX2_isOfNumbers_2 : decode cX2_isOfNumbers 2 = .ok (.if_icmp .ge 7, 3) := by decide +kernel
theorem dX2_isOfNumbers_5 : decode cX2_isOfNumbers 5 = .ok (.iconst 1, 1) := by decide +kernel
theorem dX2_isOfNumbers_6 : decode cX2_isOfNumbers 6 = .ok (.goto 4, 3) := by decide +kernel
theorem dX2_isOfNumbers_9 : decode cX2_isOfNumbers 9 = .ok (.iconst 0, 1) := by decide +kernel
theorem dX2_isOfNumbers_10 : decode cX2_isOfNumbers 10 = .ok (.ireturn, 1) := by decide +kernel
theorem dX2_told_0 : decode cX2_told 0 = .ok (.aload_n 0, 1) := by decide +kernel
theorem dX2_told_1 : decode cX2_told 1 = .ok (.iload_n 1, 1) := by decide +kernel
theorem dX2_told_2 : decode cX2_told 2 = .ok (.putfield 48, 3) := by decide +kernel
theorem dX2_told_5 : decode cX2_told 5 = .ok (.iload_n 1, 1) := by decide +kernel
theorem dX2_told_6 : decode cX2_told 6 = .ok (.iconst 4, 1) := by decide +kernel
theorem dX2_told_7 : decode cX2_told 7 = .ok (.if_icmp .eq 8, 3) := by decide +kernel
theorem dX2_told_10 : decode cX2_told 10 = .ok (.aload_n 0, 1) := by decide +kernel
theorem dX2_told_11 : decode cX2_told 11 = .ok (.iconst 0, 1) := by decide +kernel
theorem dX2_told_12 : decode cX2_told 12 = .ok (.putfield 51, 3) := by decide +kernel
theorem dX2_told_15 : decode cX2_told 15 = .ok (.iload_n 1, 1) := by decide +kernel
theorem dX2_told_16 : decode cX2_told 16 = .ok (.iconst 5, 1) := by decide +kernel
theorem dX2_told_17 : decode cX2_told 17 = .ok (.if_icmp .eq 8, 3) := by decide +kernel
theorem dX2_told_20 : decode cX2_told 20 = .ok (.aload_n 0, 1) := by decide +kernel
theorem dX2_told_21 : decode cX2_told 21 = .ok (.iconst 0, 1) := by decide +kernel
theorem dX2_told_22 : decode cX2_told 22 = .ok (.putfield 54, 3) := by decide +kernel
theorem dX2_told_25 : decode cX2_told 25 = .ok (.iload_n 1, 1) := by decide +kernel
theorem dX2_told_26 : decode cX2_told 26 = .ok (.ireturn, 1) := by decide +kernel
theorem dX2_begin_0 : decode cX2_begin 0 = .ok (.aload_n 0, 1) := by decide +kernel
theorem dX2_begin_1 : decode cX2_begin 1 = .ok (.iconst 0, 1) := by decide +kernel
theorem dX2_begin_2 : decode cX2_begin 2 = .ok (.putfield 51, 3) := by decide +kernel
theorem dX2_begin_5 : decode cX2_begin 5 = .ok (.aload_n 0, 1) := by decide +kernel
theorem dX2_begin_6 : decode cX2_begin 6 = .ok (.iconst 0, 1) := by decide +kernel
theorem dX2_begin_7 : decode cX2_begin 7 = .ok (.putfield 54, 3) := by decide +kernel
theorem dX2_begin_10 : decode cX2_begin 10 = .ok (.return_, 1) := by decide +kernel
theorem dX2_lay_0 : decode cX2_lay 0 = .ok (.aload_n 0, 1) := by decide +kernel
theorem dX2_lay_1 : decode cX2_lay 1 = .ok (.getfield 20, 3) := by decide +kernel
theorem dX2_lay_4 : decode cX2_lay 4 = .ok (.iload_n 1, 1) := by decide +kernel
theorem dX2_lay_5 : decode cX2_lay 5 = .ok (.iload_n 2, 1) := by decide +kernel
theorem dX2_lay_6 : decode cX2_lay 6 = .ok (.iastore, 1) := by decide +kernel
theorem dX2_lay_7 : decode cX2_lay 7 = .ok (.aload_n 0, 1) := by decide +kernel
theorem dX2_lay_8 : decode cX2_lay 8 = .ok (.getfield 23, 3) := by decide +kernel
theorem dX2_lay_11 : decode cX2_lay 11 = .ok (.iload_n 1, 1) := by decide +kernel
theorem dX2_lay_12 : decode cX2_lay 12 = .ok (.iload_n 3, 1) := by decide +kernel
theorem dX2_lay_13 : decode cX2_lay 13 = .ok (.iastore, 1) := by decide +kernel
theorem dX2_lay_14 : decode cX2_lay 14 = .ok (.return_, 1) := by decide +kernel
set_option maxRecDepth 20000 in
theorem ggX2_newReel_X2_isOfNumbers : GoodIn wsX2_newReel wsX2_isOfNumbers := goodIn_r _ [9] (by decide +kernel) (by decide +kernel)
set_option maxRecDepth 20000 in
theorem gX2_newReel_X2_isOfNumbers : GoodIn wsX2_newReel (va_wsS RX2 60 yX2_isOfNumbers wsX2_isOfNumbers) := goodIn_app (goodIn_of _ (by decide +kernel)) ggX2_newReel_X2_isOfNumbers
theorem dX2_newReel_0 : decode cX2_newReel 0 = .ok (.aload_n 0, 1) := by decide +kernel
theorem dX2_newReel_1 : decode cX2_newReel 1 = .ok (.getfield 7, 3) := by decide +kernel
theorem dX2_newReel_4 : decode cX2_newReel 4 = .ok (.aload_n 0, 1) := by decide +kernel
theorem dX2_newReel_5 : decode cX2_newReel 5 = .ok (.getfield 57, 3) := by decide +kernel
theorem dX2_newReel_8 : decode cX2_newReel 8 = .ok (.iload_n 1, 1) := by decide +kernel
theorem dX2_newReel_9 : decode cX2_newReel 9 = .ok (.iastore, 1) := by decide +kernel
theorem dX2_newReel_10 : decode cX2_newReel 10 = .ok (.aload_n 0, 1) := by decide +kernel
theorem dX2_newReel_11 : decode cX2_newReel 11 = .ok (.getfield 13, 3) := by decide +kernel
theorem dX2_newReel_14 : decode cX2_newReel 14 = .ok (.aload_n 0, 1) := by decide +kernel
theorem dX2_newReel_15 : decode cX2_newReel 15 = .ok (.getfield 57, 3) := by decide +kernel
theorem dX2_newReel_18 : decode cX2_newReel 18 = .ok (.iload_n 2, 1) := by decide +kernel
theorem dX2_newReel_19 : decode cX2_newReel 19 = .ok (.iastore, 1) := by decide +kernel
theorem dX2_newReel_20 : decode cX2_newReel 20 = .ok (.iconst 0, 1) := by decide +kernel
theorem dX2_newReel_21 : decode cX2_newReel 21 = .ok (.istore_n 3, 1) := by decide +kernel
theorem dX2_newReel_22 : decode cX2_newReel 22 = .ok (.iload_n 3, 1) := by decide +kernel
theorem dX2_newReel_23 : decode cX2_newReel 23 = .ok (.iload_n 2, 1) := by decide +kernel
theorem dX2_newReel_24 : decode cX2_newReel 24 = .ok (.if_icmp .ge 37, 3) := by decide +kernel
theorem dX2_newReel_27 : decode cX2_newReel 27 = .ok (.aload_n 0, 1) := by decide +kernel
theorem dX2_newReel_28 : decode cX2_newReel 28 = .ok (.getfield 16, 3) := by decide +kernel
theorem dX2_newReel_31 : decode cX2_newReel 31 = .ok (.bipush 24, 2) := by decide +kernel
theorem dX2_newReel_33 : decode cX2_newReel 33 = .ok (.aload_n 0, 1) := by decide +kernel
theorem dX2_newReel_34 : decode cX2_newReel 34 = .ok (.getfield 57, 3) := by decide +kernel
theorem dX2_newReel_37 : decode cX2_newReel 37 = .ok (.imul, 1) := by decide +kernel
theorem dX2_newReel_38 : decode cX2_newReel 38 = .ok (.iload_n 3, 1) := by decide +kernel
theorem dX2_newReel_39 : decode cX2_newReel 39 = .ok (.iadd, 1) := by decide +kernel
theorem dX2_newReel_40 : decode cX2_newReel 40 = .ok (.iload_n 1, 1) := by decide +kernel
theorem dX2_newReel_41 : decode cX2_newReel 41 = .ok (.invokestatic 60, 3) := by decide +kernel
theorem dX2_newReel_44 : decode cX2_newReel 44 = .ok (.ifCond .eq 7, 3) := by decide +kernel
theorem dX2_newReel_47 : decode cX2_newReel 47 = .ok (.lconst 0, 1) := by decide +kernel
theorem dX2_newReel_48 : decode cX2_newReel 48 = .ok (.goto 6, 3) := by decide +kernel
theorem dX2_newReel_51 : decode cX2_newReel 51 = .ok (.ldc2_w 64, 3) := by decide +kernel
theorem dX2_newReel_54 : decode cX2_newReel 54 = .ok (.lastore, 1) := by decide +kernel
theorem dX2_newReel_55 : decode cX2_newReel 55 = .ok (.iinc 3 1, 3) := by decide +kernel
theorem dX2_newReel_58 : decode cX2_newReel 58 = .ok (.goto (-36), 3) := by decide +kernel
theorem dX2_newReel_61 : decode cX2_newReel 61 = .ok (.aload_n 0, 1) := by decide +kernel
theorem dX2_newReel_62 : decode cX2_newReel 62 = .ok (.dup, 1) := by decide +kernel
theorem dX2_newReel_63 : decode cX2_newReel 63 = .ok (.getfield 57, 3) := by decide +kernel
theorem dX2_newReel_66 : decode cX2_newReel 66 = .ok (.iconst 1, 1) := by decide +kernel
theorem dX2_newReel_67 : decode cX2_newReel 67 = .ok (.iadd, 1) := by decide +kernel
theorem dX2_newReel_68 : decode cX2_newReel 68 = .ok (.putfield 57, 3) := by decide +kernel
theorem dX2_newReel_71 : decode cX2_newReel 71 = .ok (.aload_n 0, 1) := by decide +kernel
theorem dX2_newReel_72 : decode cX2_newReel 72 = .ok (.getfield 57, 3) := by decide +kernel
theorem dX2_newReel_75 : decode cX2_newReel 75 = .ok (.iconst 1, 1) := by decide +kernel
theorem dX2_newReel_76 : decode cX2_newReel 76 = .ok (.isub, 1) := by decide +kernel
theorem dX2_newReel_77 : decode cX2_newReel 77 = .ok (.ireturn, 1) := by decide +kernel
set_option maxRecDepth 20000 in
theorem ggX2_thread_X2_begin : GoodIn wsX2_thread wsX2_begin := goodIn_r _ [6, 7, 8, 35, 36, 37, 38, 39, 40, 41, 42, 43, 44, 45, 46, 47, 48, 49, 50, 51, 52, 53, 54, 55, 56, 57, 58] (by decide +kernel) (by decide +kernel)
set_option maxRecDepth 20000 in
theorem gX2_thread_X2_begin : GoodIn wsX2_thread (wsV RX2 66 RX2 yX2_begin wsX2_begin) := goodIn_app (goodIn_of _ (by decide +kernel)) ggX2_thread_X2_begin
set_option maxRecDepth 20000 in
theorem ggX2_thread_X2_isSpindle : GoodIn wsX2_thread wsX2_isSpindle := goodIn_r _ [11] (by decide +kernel) (by decide +kernel)
set_option maxRecDepth 20000 in
theorem gX2_thread_X2_isSpindle : GoodIn wsX2_thread (va_wsS RX2 69 yX2_isSpindle wsX2_isSpindle) := goodIn_app (goodIn_of _ (by decide +kernel)) ggX2_thread_X2_isSpindle
set_option maxRecDepth 20000 in
theorem ggX2_thread_X2_told : GoodIn wsX2_thread wsX2_told := goodIn_r _ [15, 16, 7, 8, 35, 36, 37, 38, 39, 40, 41, 42, 43, 44, 45, 46, 47, 48, 49, 50, 51, 52, 53, 54, 55, 56, 57, 58] (by decide +kernel) (by decide +kernel)
set_option maxRecDepth 20000 in
theorem gX2_thread_X2_told : GoodIn wsX2_thread (wsV RX2 72 RX2 yX2_told wsX2_told) := goodIn_app (goodIn_of _ (by decide +kernel)) ggX2_thread_X2_told
set_option maxRecDepth 20000 in
theorem ggX2_thread_X2_newReel : GoodIn wsX2_thread wsX2_newReel := goodIn_r _ [20, 21, 22, 23, 24, 25, 26, 27, 5, 28, 35, 36, 37, 38, 39, 40, 41, 42, 43, 44, 45, 46, 47, 48, 49, 50, 51, 52, 53, 54, 55, 56, 57, 58] (by decide +kernel) (by decide +kernel)
set_option maxRecDepth 20000 in
theorem gX2_thread_X2_newReel : GoodIn wsX2_thread (wsV RX2 76 RX2 yX2_newReel wsX2_newReel) := goodIn_app (goodIn_of _ (by decide +kernel)) ggX2_thread_X2_newReel
set_option maxRecDepth 20000 in
theorem ggX2_thread_X2_lay : GoodIn wsX2_thread wsX2_lay := goodIn_r _ [32, 33, 34, 35, 36, 37, 38, 39, 40, 41, 42, 43, 44, 45, 46, 47, 48, 49, 50, 51, 52, 53, 54, 55, 56, 57, 58] (by decide +kernel) (by decide +kernel)
set_option maxRecDepth 20000 in
theorem gX2_thread_X2_lay : GoodIn wsX2_thread (wsV RX2 80 RX2 yX2_lay wsX2_lay) := goodIn_app (goodIn_of _ (by decide +kernel)) ggX2_thread_X2_lay
theorem dX2_thread_0 : decode cX2_thread 0 = .ok (.aload_n 0, 1) := by decide +kernel
theorem dX2_thread_1 : decode cX2_thread 1 = .ok (.iconst 0, 1) := by decide +kernel
theorem dX2_thread_2 : decode cX2_thread 2 = .ok (.putfield 44, 3) := by decide +kernel
theorem dX2_thread_5 : decode cX2_thread 5 = .ok (.aload_n 0, 1) := by decide +kernel
theorem dX2_thread_6 : decode cX2_thread 6 = .ok (.invokevirtual 66, 3) := by decide +kernel
theorem dX2_thread_9 : decode cX2_thread 9 = .ok (.iload_n 1, 1) := by decide +kernel
theorem dX2_thread_10 : decode cX2_thread 10 = .ok (.invokestatic 69, 3) := by decide +kernel
theorem dX2_thread_13 : decode cX2_thread 13 = .ok (.ifCond .eq 23, 3) := by decide +kernel
theorem dX2_thread_16 : decode cX2_thread 16 = .ok (.iload_n 2, 1) := by decide +kernel
theorem dX2_thread_17 : decode cX2_thread 17 = .ok (.ifCond .lt 19, 3) := by decide +kernel
theorem dX2_thread_20 : decode cX2_thread 20 = .ok (.iload_n 2, 1) := by decide +kernel
theorem dX2_thread_21 : decode cX2_thread 21 = .ok (.bipush 7, 2) := by decide +kernel
theorem dX2_thread_23 : decode cX2_thread 23 = .ok (.if_icmp .gt 13, 3) := by decide +kernel
theorem dX2_thread_26 : decode cX2_thread 26 = .ok (.iload_n 3, 1) := by decide +kernel
theorem dX2_thread_27 : decode cX2_thread 27 = .ok (.ifCond .lt 9, 3) := by decide +kernel
theorem dX2_thread_30 : decode cX2_thread 30 = .ok (.iload_n 3, 1) := by decide +kernel
theorem dX2_thread_31 : decode cX2_thread 31 = .ok (.bipush 24, 2) := by decide +kernel
theorem dX2_thread_33 : decode cX2_thread 33 = .ok (.if_icmp .le 10, 3) := by decide +kernel
theorem dX2_thread_36 : decode cX2_thread 36 = .ok (.aload_n 0, 1) := by decide +kernel
theorem dX2_thread_37 : decode cX2_thread 37 = .ok (.bipush 6, 2) := by decide +kernel
theorem dX2_thread_39 : decode cX2_thread 39 = .ok (.invokevirtual 72, 3) := by decide +kernel
theorem dX2_thread_42 : decode cX2_thread 42 = .ok (.ireturn, 1) := by decide +kernel
theorem dX2_thread_43 : decode cX2_thread 43 = .ok (.aload_n 0, 1) := by decide +kernel
theorem dX2_thread_44 : decode cX2_thread 44 = .ok (.iload_n 1, 1) := by decide +kernel
theorem dX2_thread_45 : decode cX2_thread 45 = .ok (.iconst 1, 1) := by decide +kernel
theorem dX2_thread_46 : decode cX2_thread 46 = .ok (.aload_n 0, 1) := by decide +kernel
theorem dX2_thread_47 : decode cX2_thread 47 = .ok (.iload_n 2, 1) := by decide +kernel
theorem dX2_thread_48 : decode cX2_thread 48 = .ok (.iload_n 3, 1) := by decide +kernel
theorem dX2_thread_49 : decode cX2_thread 49 = .ok (.invokevirtual 76, 3) := by decide +kernel
theorem dX2_thread_52 : decode cX2_thread 52 = .ok (.invokevirtual 80, 3) := by decide +kernel
theorem dX2_thread_55 : decode cX2_thread 55 = .ok (.aload_n 0, 1) := by decide +kernel
theorem dX2_thread_56 : decode cX2_thread 56 = .ok (.iconst 0, 1) := by decide +kernel
theorem dX2_thread_57 : decode cX2_thread 57 = .ok (.invokevirtual 72, 3) := by decide +kernel
theorem dX2_thread_60 : decode cX2_thread 60 = .ok (.ireturn, 1) := by decide +kernel
set_option maxRecDepth 20000 in
theorem ggX2_tag_X2_begin : GoodIn wsX2_tag wsX2_begin := goodIn_r _ [8, 9, 10, 25, 26, 27, 28, 29, 30, 31, 32, 33, 34, 35, 36, 37, 38, 39, 40, 41, 42, 43, 44, 45, 46, 47, 48] (by decide +kernel) (by decide +kernel)
set_option maxRecDepth 20000 in
theorem gX2_tag_X2_begin : GoodIn wsX2_tag (wsV RX2 66 RX2 yX2_begin wsX2_begin) := goodIn_app (goodIn_of _ (by decide +kernel)) ggX2_tag_X2_begin
set_option maxRecDepth 20000 in
theorem ggX2_tag_X2_isSpindle : GoodIn wsX2_tag wsX2_isSpindle := goodIn_r _ [13] (by decide +kernel) (by decide +kernel)
set_option maxRecDepth 20000 in
theorem gX2_tag_X2_isSpindle : GoodIn wsX2_tag (va_wsS RX2 69 yX2_isSpindle wsX2_isSpindle) := goodIn_app (goodIn_of _ (by decide +kernel)) ggX2_tag_X2_isSpindle
set_option maxRecDepth 20000 in
theorem ggX2_tag_X2_told : GoodIn wsX2_tag wsX2_told := goodIn_r _ [17, 18, 9, 10, 25, 26, 27, 28, 29, 30, 31, 32, 33, 34, 35, 36, 37, 38, 39, 40, 41, 42, 43, 44, 45, 46, 47, 48] (by decide +kernel) (by decide +kernel)
set_option maxRecDepth 20000 in
theorem gX2_tag_X2_told : GoodIn wsX2_tag (wsV RX2 72 RX2 yX2_told wsX2_told) := goodIn_app (goodIn_of _ (by decide +kernel)) ggX2_tag_X2_told
set_option maxRecDepth 20000 in
theorem ggX2_tag_X2_lay : GoodIn wsX2_tag wsX2_lay := goodIn_r _ [22, 23, 24, 25, 26, 27, 28, 29, 30, 31, 32, 33, 34, 35, 36, 37, 38, 39, 40, 41, 42, 43, 44, 45, 46, 47, 48] (by decide +kernel) (by decide +kernel)
set_option maxRecDepth 20000 in
theorem gX2_tag_X2_lay : GoodIn wsX2_tag (wsV RX2 80 RX2 yX2_lay wsX2_lay) := goodIn_app (goodIn_of _ (by decide +kernel)) ggX2_tag_X2_lay
theorem dX2_tag_0 : decode cX2_tag 0 = .ok (.aload_n 0, 1) := by decide +kernel
theorem dX2_tag_1 : decode cX2_tag 1 = .ok (.iconst 0, 1) := by decide +kernel
theorem dX2_tag_2 : decode cX2_tag 2 = .ok (.putfield 44, 3) := by decide +kernel
theorem dX2_tag_5 : decode cX2_tag 5 = .ok (.aload_n 0, 1) := by decide +kernel
theorem dX2_tag_6 : decode cX2_tag 6 = .ok (.invokevirtual 66, 3) := by decide +kernel
theorem dX2_tag_9 : decode cX2_tag 9 = .ok (.iload_n 1, 1) := by decide +kernel
theorem dX2_tag_10 : decode cX2_tag 10 = .ok (.invokestatic 69, 3) := by decide +kernel
theorem dX2_tag_13 : decode cX2_tag 13 = .ok (.ifCond .ne 10, 3) := by decide +kernel
theorem dX2_tag_16 : decode cX2_tag 16 = .ok (.aload_n 0, 1) := by decide +kernel
theorem dX2_tag_17 : decode cX2_tag 17 = .ok (.bipush 6, 2) := by decide +kernel
theorem dX2_tag_19 : decode cX2_tag 19 = .ok (.invokevirtual 72, 3) := by decide +kernel
theorem dX2_tag_22 : decode cX2_tag 22 = .ok (.ireturn, 1) := by decide +kernel
theorem dX2_tag_23 : decode cX2_tag 23 = .ok (.aload_n 0, 1) := by decide +kernel
theorem dX2_tag_24 : decode cX2_tag 24 = .ok (.getfield 26, 3) := by decide +kernel
theorem dX2_tag_27 : decode cX2_tag 27 = .ok (.aload_n 0, 1) := by decide +kernel
theorem dX2_tag_28 : decode cX2_tag 28 = .ok (.getfield 84, 3) := by decide +kernel
theorem dX2_tag_31 : decode cX2_tag 31 = .ok (.iload_n 2, 1) := by decide +kernel
theorem dX2_tag_32 : decode cX2_tag 32 = .ok (.iastore, 1) := by decide +kernel
theorem dX2_tag_33 : decode cX2_tag 33 = .ok (.aload_n 0, 1) := by decide +kernel
theorem dX2_tag_34 : decode cX2_tag 34 = .ok (.iload_n 1, 1) := by decide +kernel
theorem dX2_tag_35 : decode cX2_tag 35 = .ok (.iconst 2, 1) := by decide +kernel
theorem dX2_tag_36 : decode cX2_tag 36 = .ok (.aload_n 0, 1) := by decide +kernel
theorem dX2_tag_37 : decode cX2_tag 37 = .ok (.getfield 84, 3) := by decide +kernel
theorem dX2_tag_40 : decode cX2_tag 40 = .ok (.invokevirtual 80, 3) := by decide +kernel
theorem dX2_tag_43 : decode cX2_tag 43 = .ok (.aload_n 0, 1) := by decide +kernel
theorem dX2_tag_44 : decode cX2_tag 44 = .ok (.dup, 1) := by decide +kernel
theorem dX2_tag_45 : decode cX2_tag 45 = .ok (.getfield 84, 3) := by decide +kernel
theorem dX2_tag_48 : decode cX2_tag 48 = .ok (.iconst 1, 1) := by decide +kernel
theorem dX2_tag_49 : decode cX2_tag 49 = .ok (.iadd, 1) := by decide +kernel
theorem dX2_tag_50 : decode cX2_tag 50 = .ok (.putfield 84, 3) := by decide +kernel
theorem dX2_tag_53 : decode cX2_tag 53 = .ok (.aload_n 0, 1) := by decide +kernel
theorem dX2_tag_54 : decode cX2_tag 54 = .ok (.iconst 0, 1) := by decide +kernel
theorem dX2_tag_55 : decode cX2_tag 55 = .ok (.invokevirtual 72, 3) := by decide +kernel
theorem dX2_tag_58 : decode cX2_tag 58 = .ok (.ireturn, 1) := by decide +kernel
set_option maxRecDepth 20000 in
theorem ggX2_share_X2_begin : GoodIn wsX2_share wsX2_begin := goodIn_r _ [8, 9, 10, 23, 24, 25, 26, 27, 28, 29, 30, 31, 32, 33, 34, 35, 36, 37, 38, 39, 40, 41, 42, 43, 44, 45, 46] (by decide +kernel) (by decide +kernel)
set_option maxRecDepth 20000 in
theorem gX2_share_X2_begin : GoodIn wsX2_share (wsV RX2 66 RX2 yX2_begin wsX2_begin) := goodIn_app (goodIn_of _ (by decide +kernel)) ggX2_share_X2_begin
set_option maxRecDepth 20000 in
theorem ggX2_share_X2_isSpindle : GoodIn wsX2_share wsX2_isSpindle := goodIn_r _ [13] (by decide +kernel) (by decide +kernel)
set_option maxRecDepth 20000 in
theorem gX2_share_X2_isSpindle : GoodIn wsX2_share (va_wsS RX2 69 yX2_isSpindle wsX2_isSpindle) := goodIn_app (goodIn_of _ (by decide +kernel)) ggX2_share_X2_isSpindle
set_option maxRecDepth 20000 in
theorem ggX2_share_X2_told : GoodIn wsX2_share wsX2_told := goodIn_r _ [17, 18, 9, 10, 23, 24, 25, 26, 27, 28, 29, 30, 31, 32, 33, 34, 35, 36, 37, 38, 39, 40, 41, 42, 43, 44, 45, 46] (by decide +kernel) (by decide +kernel)
set_option maxRecDepth 20000 in
theorem gX2_share_X2_told : GoodIn wsX2_share (wsV RX2 72 RX2 yX2_told wsX2_told) := goodIn_app (goodIn_of _ (by decide +kernel)) ggX2_share_X2_told
set_option maxRecDepth 20000 in
theorem ggX2_share_X2_lay : GoodIn wsX2_share wsX2_lay := goodIn_r _ [22, 2, 3, 23, 24, 25, 26, 27, 28, 29, 30, 31, 32, 33, 34, 35, 36, 37, 38, 39, 40, 41, 42, 43, 44, 45, 46] (by decide +kernel) (by decide +kernel)
set_option maxRecDepth 20000 in
theorem gX2_share_X2_lay : GoodIn wsX2_share (wsV RX2 80 RX2 yX2_lay wsX2_lay) := goodIn_app (goodIn_of _ (by decide +kernel)) ggX2_share_X2_lay
theorem dX2_share_0 : decode cX2_share 0 = .ok (.aload_n 0, 1) := by decide +kernel
theorem dX2_share_1 : decode cX2_share 1 = .ok (.iconst 0, 1) := by decide +kernel
theorem dX2_share_2 : decode cX2_share 2 = .ok (.putfield 44, 3) := by decide +kernel
theorem dX2_share_5 : decode cX2_share 5 = .ok (.aload_n 0, 1) := by decide +kernel
theorem dX2_share_6 : decode cX2_share 6 = .ok (.invokevirtual 66, 3) := by decide +kernel
theorem dX2_share_9 : decode cX2_share 9 = .ok (.iload_n 1, 1) := by decide +kernel
theorem dX2_share_10 : decode cX2_share 10 = .ok (.invokestatic 69, 3) := by decide +kernel
theorem dX2_share_13 : decode cX2_share 13 = .ok (.ifCond .eq 10, 3) := by decide +kernel
theorem dX2_share_16 : decode cX2_share 16 = .ok (.iload_n 2, 1) := by decide +kernel
theorem dX2_share_17 : decode cX2_share 17 = .ok (.invokestatic 69, 3) := by decide +kernel
theorem dX2_share_20 : decode cX2_share 20 = .ok (.ifCond .ne 10, 3) := by decide +kernel
theorem dX2_share_23 : decode cX2_share 23 = .ok (.aload_n 0, 1) := by decide +kernel
theorem dX2_share_24 : decode cX2_share 24 = .ok (.bipush 6, 2) := by decide +kernel
theorem dX2_share_26 : decode cX2_share 26 = .ok (.invokevirtual 72, 3) := by decide +kernel
theorem dX2_share_29 : decode cX2_share 29 = .ok (.ireturn, 1) := by decide +kernel
theorem dX2_share_30 : decode cX2_share 30 = .ok (.aload_n 0, 1) := by decide +kernel
theorem dX2_share_31 : decode cX2_share 31 = .ok (.iload_n 2, 1) := by decide +kernel
theorem dX2_share_32 : decode cX2_share 32 = .ok (.aload_n 0, 1) := by decide +kernel
theorem dX2_share_33 : decode cX2_share 33 = .ok (.getfield 20, 3) := by decide +kernel
theorem dX2_share_36 : decode cX2_share 36 = .ok (.iload_n 1, 1) := by decide +kernel
theorem dX2_share_37 : decode cX2_share 37 = .ok (.iaload, 1) := by decide +kernel
theorem dX2_share_38 : decode cX2_share 38 = .ok (.aload_n 0, 1) := by decide +kernel
theorem dX2_share_39 : decode cX2_share 39 = .ok (.getfield 23, 3) := by decide +kernel
theorem dX2_share_42 : decode cX2_share 42 = .ok (.iload_n 1, 1) := by decide +kernel
theorem dX2_share_43 : decode cX2_share 43 = .ok (.iaload, 1) := by decide +kernel
theorem dX2_share_44 : decode cX2_share 44 = .ok (.invokevirtual 80, 3) := by decide +kernel
theorem dX2_share_47 : decode cX2_share 47 = .ok (.aload_n 0, 1) := by decide +kernel
theorem dX2_share_48 : decode cX2_share 48 = .ok (.iconst 0, 1) := by decide +kernel
theorem dX2_share_49 : decode cX2_share 49 = .ok (.invokevirtual 72, 3) := by decide +kernel
theorem dX2_share_52 : decode cX2_share 52 = .ok (.ireturn, 1) := by decide +kernel
set_option maxRecDepth 20000 in
theorem ggX2_noReel_X2_isSpindle : GoodIn wsX2_noReel wsX2_isSpindle := goodIn_r _ [5] (by decide +kernel) (by decide +kernel)
set_option maxRecDepth 20000 in
theorem gX2_noReel_X2_isSpindle : GoodIn wsX2_noReel (va_wsS RX2 69 yX2_isSpindle wsX2_isSpindle) := goodIn_app (goodIn_of _ (by decide +kernel)) ggX2_noReel_X2_isSpindle
theorem dX2_noReel_0 : decode cX2_noReel 0 = .ok (.iload_n 1, 1) := by decide +kernel
theorem dX2_noReel_1 : decode cX2_noReel 1 = .ok (.invokestatic 69, 3) := by decide +kernel
theorem dX2_noReel_4 : decode cX2_noReel 4 = .ok (.ifCond .ne 8, 3) := by decide +kernel
theorem dX2_noReel_7 : decode cX2_noReel 7 = .ok (.bipush 6, 2) := by decide +kernel
theorem dX2_noReel_9 : decode cX2_noReel 9 = .ok (.goto 31, 3) := by decide +kernel
theorem dX2_noReel_12 : decode cX2_noReel 12 = .ok (.aload_n 0, 1) := by decide +kernel
theorem dX2_noReel_13 : decode cX2_noReel 13 = .ok (.getfield 20, 3) := by decide +kernel
theorem dX2_noReel_16 : decode cX2_noReel 16 = .ok (.iload_n 1, 1) := by decide +kernel
theorem dX2_noReel_17 : decode cX2_noReel 17 = .ok (.iaload, 1) := by decide +kernel
theorem dX2_noReel_18 : decode cX2_noReel 18 = .ok (.ifCond .ne 7, 3) := by decide +kernel
theorem dX2_noReel_21 : decode cX2_noReel 21 = .ok (.iconst 1, 1) := by decide +kernel
theorem dX2_noReel_22 : decode cX2_noReel 22 = .ok (.goto 18, 3) := by decide +kernel
theorem dX2_noReel_25 : decode cX2_noReel 25 = .ok (.aload_n 0, 1) := by decide +kernel
theorem dX2_noReel_26 : decode cX2_noReel 26 = .ok (.getfield 20, 3) := by decide +kernel
theorem dX2_noReel_29 : decode cX2_noReel 29 = .ok (.iload_n 1, 1) := by decide +kernel
theorem dX2_noReel_30 : decode cX2_noReel 30 = .ok (.iaload, 1) := by decide +kernel
theorem dX2_noReel_31 : decode cX2_noReel 31 = .ok (.iconst 2, 1) := by decide +kernel
theorem dX2_noReel_32 : decode cX2_noReel 32 = .ok (.if_icmp .ne 7, 3) := by decide +kernel
theorem dX2_noReel_35 : decode cX2_noReel 35 = .ok (.iconst 2, 1) := by decide +kernel
theorem dX2_noReel_36 : decode cX2_noReel 36 = .ok (.goto 4, 3) := by decide +kernel
theorem dX2_noReel_39 : decode cX2_noReel 39 = .ok (.iconst 0, 1) := by decide +kernel
theorem dX2_noReel_40 : decode cX2_noReel 40 = .ok (.ireturn, 1) := by decide +kernel
set_option maxRecDepth 20000 in
theorem ggX2_copy_X2_begin : GoodIn wsX2_copy wsX2_begin := goodIn_r _ [10, 11, 12, 39, 40, 41, 42, 43, 44, 45, 46, 47, 48, 49, 50, 51, 52, 53, 54, 55, 56, 57, 58, 59, 60, 61, 62] (by decide +kernel) (by decide +kernel)
set_option maxRecDepth 20000 in
theorem gX2_copy_X2_begin : GoodIn wsX2_copy (wsV RX2 66 RX2 yX2_begin wsX2_begin) := goodIn_app (goodIn_of _ (by decide +kernel)) ggX2_copy_X2_begin
set_option maxRecDepth 20000 in
theorem ggX2_copy_X2_isSpindle : GoodIn wsX2_copy wsX2_isSpindle := goodIn_r _ [15] (by decide +kernel) (by decide +kernel)
set_option maxRecDepth 20000 in
theorem gX2_copy_X2_isSpindle : GoodIn wsX2_copy (va_wsS RX2 69 yX2_isSpindle wsX2_isSpindle) := goodIn_app (goodIn_of _ (by decide +kernel)) ggX2_copy_X2_isSpindle
set_option maxRecDepth 20000 in
theorem ggX2_copy_X2_noReel : GoodIn wsX2_copy wsX2_noReel := goodIn_r _ [19, 20, 13, 14, 9, 15, 39, 40, 41, 42, 43, 44, 45, 46, 47, 48, 49, 50, 51, 52, 53, 54, 55, 56, 57, 58, 59, 60, 61, 62] (by decide +kernel) (by decide +kernel)
set_option maxRecDepth 20000 in
theorem gX2_copy_X2_noReel : GoodIn wsX2_copy (wsV RX2 87 RX2 yX2_noReel wsX2_noReel) := goodIn_app (goodIn_of _ (by decide +kernel)) ggX2_copy_X2_noReel
set_option maxRecDepth 20000 in
theorem ggX2_copy_X2_told : GoodIn wsX2_copy wsX2_told := goodIn_r _ [24, 25, 11, 12, 39, 40, 41, 42, 43, 44, 45, 46, 47, 48, 49, 50, 51, 52, 53, 54, 55, 56, 57, 58, 59, 60, 61, 62] (by decide +kernel) (by decide +kernel)
set_option maxRecDepth 20000 in
theorem gX2_copy_X2_told : GoodIn wsX2_copy (wsV RX2 72 RX2 yX2_told wsX2_told) := goodIn_app (goodIn_of _ (by decide +kernel)) ggX2_copy_X2_told
set_option maxRecDepth 20000 in
theorem ggX2_copy_X2_newReel : GoodIn wsX2_copy wsX2_newReel := goodIn_r _ [29, 3, 30, 4, 5, 31, 32, 33, 9, 34, 39, 40, 41, 42, 43, 44, 45, 46, 47, 48, 49, 50, 51, 52, 53, 54, 55, 56, 57, 58, 59, 60, 61, 62] (by decide +kernel) (by decide +kernel)
set_option maxRecDepth 20000 in
theorem gX2_copy_X2_newReel : GoodIn wsX2_copy (wsV RX2 76 RX2 yX2_newReel wsX2_newReel) := goodIn_app (goodIn_of _ (by decide +kernel)) ggX2_copy_X2_newReel
set_option maxRecDepth 20000 in
theorem ggX2_copy_X2_lay : GoodIn wsX2_copy wsX2_lay := goodIn_r _ [38, 20, 2, 39, 40, 41, 42, 43, 44, 45, 46, 47, 48, 49, 50, 51, 52, 53, 54, 55, 56, 57, 58, 59, 60, 61, 62] (by decide +kernel) (by decide +kernel)
set_option maxRecDepth 20000 in
theorem gX2_copy_X2_lay : GoodIn wsX2_copy (wsV RX2 80 RX2 yX2_lay wsX2_lay) := goodIn_app (goodIn_of _ (by decide +kernel)) ggX2_copy_X2_lay
theorem dX2_copy_0 : decode cX2_copy 0 = .ok (.aload_n 0, 1) := by decide +kernel
theorem dX2_copy_1 : decode cX2_copy 1 = .ok (.iconst 0, 1) := by decide +kernel
theorem dX2_copy_2 : decode cX2_copy 2 = .ok (.putfield 44, 3) := by decide +kernel
theorem dX2_copy_5 : decode cX2_copy 5 = .ok (.aload_n 0, 1) := by decide +kernel
theorem dX2_copy_6 : decode cX2_copy 6 = .ok (.invokevirtual 66, 3) := by decide +kernel
theorem dX2_copy_9 : decode cX2_copy 9 = .ok (.iload_n 2, 1) := by decide +kernel
theorem dX2_copy_10 : decode cX2_copy 10 = .ok (.invokestatic 69, 3) := by decide +kernel
theorem dX2_copy_13 : decode cX2_copy 13 = .ok (.ifCond .eq 11, 3) := by decide +kernel
theorem dX2_copy_16 : decode cX2_copy 16 = .ok (.aload_n 0, 1) := by decide +kernel
theorem dX2_copy_17 : decode cX2_copy 17 = .ok (.iload_n 1, 1) := by decide +kernel
theorem dX2_copy_18 : decode cX2_copy 18 = .ok (.invokevirtual 87, 3) := by decide +kernel
theorem dX2_copy_21 : decode cX2_copy 21 = .ok (.goto 5, 3) := by decide +kernel
theorem dX2_copy_24 : decode cX2_copy 24 = .ok (.bipush 6, 2) := by decide +kernel
theorem dX2_copy_26 : decode cX2_copy 26 = .ok (.istore_n 3, 1) := by decide +kernel
theorem dX2_copy_27 : decode cX2_copy 27 = .ok (.iload_n 3, 1) := by decide +kernel
theorem dX2_copy_28 : decode cX2_copy 28 = .ok (.ifCond .le 9, 3) := by decide +kernel
theorem dX2_copy_31 : decode cX2_copy 31 = .ok (.aload_n 0, 1) := by decide +kernel
theorem dX2_copy_32 : decode cX2_copy 32 = .ok (.iload_n 3, 1) := by decide +kernel
theorem dX2_copy_33 : decode cX2_copy 33 = .ok (.invokevirtual 72, 3) := by decide +kernel
theorem dX2_copy_36 : decode cX2_copy 36 = .ok (.ireturn, 1) := by decide +kernel
theorem dX2_copy_37 : decode cX2_copy 37 = .ok (.aload_n 0, 1) := by decide +kernel
theorem dX2_copy_38 : decode cX2_copy 38 = .ok (.getfield 23, 3) := by decide +kernel
theorem dX2_copy_41 : decode cX2_copy 41 = .ok (.iload_n 1, 1) := by decide +kernel
theorem dX2_copy_42 : decode cX2_copy 42 = .ok (.iaload, 1) := by decide +kernel
theorem dX2_copy_43 : decode cX2_copy 43 = .ok (.istore 4, 2) := by decide +kernel
theorem dX2_copy_45 : decode cX2_copy 45 = .ok (.aload_n 0, 1) := by decide +kernel
theorem dX2_copy_46 : decode cX2_copy 46 = .ok (.aload_n 0, 1) := by decide +kernel
theorem dX2_copy_47 : decode cX2_copy 47 = .ok (.getfield 7, 3) := by decide +kernel
theorem dX2_copy_50 : decode cX2_copy 50 = .ok (.iload 4, 2) := by decide +kernel
theorem dX2_copy_52 : decode cX2_copy 52 = .ok (.iaload, 1) := by decide +kernel
theorem dX2_copy_53 : decode cX2_copy 53 = .ok (.aload_n 0, 1) := by decide +kernel
theorem dX2_copy_54 : decode cX2_copy 54 = .ok (.getfield 13, 3) := by decide +kernel
theorem dX2_copy_57 : decode cX2_copy 57 = .ok (.iload 4, 2) := by decide +kernel
theorem dX2_copy_59 : decode cX2_copy 59 = .ok (.iaload, 1) := by decide +kernel
theorem dX2_copy_60 : decode cX2_copy 60 = .ok (.invokevirtual 76, 3) := by decide +kernel
theorem dX2_copy_63 : decode cX2_copy 63 = .ok (.istore 5, 2) := by decide +kernel
theorem dX2_copy_65 : decode cX2_copy 65 = .ok (.iconst 0, 1) := by decide +kernel
theorem dX2_copy_66 : decode cX2_copy 66 = .ok (.istore 6, 2) := by decide +kernel
theorem dX2_copy_68 : decode cX2_copy 68 = .ok (.iload 6, 2) := by decide +kernel
theorem dX2_copy_70 : decode cX2_copy 70 = .ok (.aload_n 0, 1) := by decide +kernel
theorem dX2_copy_71 : decode cX2_copy 71 = .ok (.getfield 13, 3) := by decide +kernel
theorem dX2_copy_74 : decode cX2_copy 74 = .ok (.iload 4, 2) := by decide +kernel
theorem dX2_copy_76 : decode cX2_copy 76 = .ok (.iaload, 1) := by decide +kernel
theorem dX2_copy_77 : decode cX2_copy 77 = .ok (.if_icmp .ge 35, 3) := by decide +kernel
theorem dX2_copy_80 : decode cX2_copy 80 = .ok (.aload_n 0, 1) := by decide +kernel
theorem dX2_copy_81 : decode cX2_copy 81 = .ok (.getfield 16, 3) := by decide +kernel
theorem dX2_copy_84 : decode cX2_copy 84 = .ok (.bipush 24, 2) := by decide +kernel
theorem dX2_copy_86 : decode cX2_copy 86 = .ok (.iload 5, 2) := by decide +kernel
theorem dX2_copy_88 : decode cX2_copy 88 = .ok (.imul, 1) := by decide +kernel
theorem dX2_copy_89 : decode cX2_copy 89 = .ok (.iload 6, 2) := by decide +kernel
theorem dX2_copy_91 : decode cX2_copy 91 = .ok (.iadd, 1) := by decide +kernel
theorem dX2_copy_92 : decode cX2_copy 92 = .ok (.aload_n 0, 1) := by decide +kernel
theorem dX2_copy_93 : decode cX2_copy 93 = .ok (.getfield 16, 3) := by decide +kernel
theorem dX2_copy_96 : decode cX2_copy 96 = .ok (.bipush 24, 2) := by decide +kernel
theorem dX2_copy_98 : decode cX2_copy 98 = .ok (.iload 4, 2) := by decide +kernel
theorem dX2_copy_100 : decode cX2_copy 100 = .ok (.imul, 1) := by decide +kernel
theorem dX2_copy_101 : decode cX2_copy 101 = .ok (.iload 6, 2) := by decide +kernel
theorem dX2_copy_103 : decode cX2_copy 103 = .ok (.iadd, 1) := by decide +kernel
theorem dX2_copy_104 : decode cX2_copy 104 = .ok (.laload, 1) := by decide +kernel
theorem dX2_copy_105 : decode cX2_copy 105 = .ok (.lastore, 1) := by decide +kernel
theorem dX2_copy_106 : decode cX2_copy 106 = .ok (.iinc 6 1, 3) := by decide +kernel
theorem dX2_copy_109 : decode cX2_copy 109 = .ok (.goto (-41), 3) := by decide +kernel
theorem dX2_copy_112 : decode cX2_copy 112 = .ok (.aload_n 0, 1) := by decide +kernel
theorem dX2_copy_113 : decode cX2_copy 113 = .ok (.iload_n 2, 1) := by decide +kernel
theorem dX2_copy_114 : decode cX2_copy 114 = .ok (.iconst 1, 1) := by decide +kernel
theorem dX2_copy_115 : decode cX2_copy 115 = .ok (.iload 5, 2) := by decide +kernel
theorem dX2_copy_117 : decode cX2_copy 117 = .ok (.invokevirtual 80, 3) := by decide +kernel
theorem dX2_copy_120 : decode cX2_copy 120 = .ok (.aload_n 0, 1) := by decide +kernel
theorem dX2_copy_121 : decode cX2_copy 121 = .ok (.iconst 0, 1) := by decide +kernel
theorem dX2_copy_122 : decode cX2_copy 122 = .ok (.invokevirtual 72, 3) := by decide +kernel
theorem dX2_copy_125 : decode cX2_copy 125 = .ok (.ireturn, 1) := by decide +kernel
set_option maxRecDepth 20000 in
theorem ggX2_clear_X2_begin : GoodIn wsX2_clear wsX2_begin := goodIn_r _ [6, 7, 8, 23, 24, 25, 26, 27, 28, 29, 30, 31, 32, 33, 34, 35, 36, 37, 38, 39, 40, 41, 42, 43, 44, 45, 46] (by decide +kernel) (by decide +kernel)
set_option maxRecDepth 20000 in
theorem gX2_clear_X2_begin : GoodIn wsX2_clear (wsV RX2 66 RX2 yX2_begin wsX2_begin) := goodIn_app (goodIn_of _ (by decide +kernel)) ggX2_clear_X2_begin
set_option maxRecDepth 20000 in
theorem ggX2_clear_X2_isSpindle : GoodIn wsX2_clear wsX2_isSpindle := goodIn_r _ [11] (by decide +kernel) (by decide +kernel)
set_option maxRecDepth 20000 in
theorem gX2_clear_X2_isSpindle : GoodIn wsX2_clear (va_wsS RX2 69 yX2_isSpindle wsX2_isSpindle) := goodIn_app (goodIn_of _ (by decide +kernel)) ggX2_clear_X2_isSpindle
set_option maxRecDepth 20000 in
theorem ggX2_clear_X2_told : GoodIn wsX2_clear wsX2_told := goodIn_r _ [15, 16, 7, 8, 23, 24, 25, 26, 27, 28, 29, 30, 31, 32, 33, 34, 35, 36, 37, 38, 39, 40, 41, 42, 43, 44, 45, 46] (by decide +kernel) (by decide +kernel)
set_option maxRecDepth 20000 in
theorem gX2_clear_X2_told : GoodIn wsX2_clear (wsV RX2 72 RX2 yX2_told wsX2_told) := goodIn_app (goodIn_of _ (by decide +kernel)) ggX2_clear_X2_told
set_option maxRecDepth 20000 in
theorem ggX2_clear_X2_lay : GoodIn wsX2_clear wsX2_lay := goodIn_r _ [20, 21, 22, 23, 24, 25, 26, 27, 28, 29, 30, 31, 32, 33, 34, 35, 36, 37, 38, 39, 40, 41, 42, 43, 44, 45, 46] (by decide +kernel) (by decide +kernel)
set_option maxRecDepth 20000 in
theorem gX2_clear_X2_lay : GoodIn wsX2_clear (wsV RX2 80 RX2 yX2_lay wsX2_lay) := goodIn_app (goodIn_of _ (by decide +kernel)) ggX2_clear_X2_lay
theorem dX2_clear_0 : decode cX2_clear 0 = .ok (.aload_n 0, 1) := by decide +kernel
theorem dX2_clear_1 : decode cX2_clear 1 = .ok (.iconst 0, 1) := by decide +kernel
theorem dX2_clear_2 : decode cX2_clear 2 = .ok (.putfield 44, 3) := by decide +kernel
theorem dX2_clear_5 : decode cX2_clear 5 = .ok (.aload_n 0, 1) := by decide +kernel
theorem dX2_clear_6 : decode cX2_clear 6 = .ok (.invokevirtual 66, 3) := by decide +kernel
theorem dX2_clear_9 : decode cX2_clear 9 = .ok (.iload_n 1, 1) := by decide +kernel
theorem dX2_clear_10 : decode cX2_clear 10 = .ok (.invokestatic 69, 3) := by decide +kernel
theorem dX2_clear_13 : decode cX2_clear 13 = .ok (.ifCond .ne 10, 3) := by decide +kernel
theorem dX2_clear_16 : decode cX2_clear 16 = .ok (.aload_n 0, 1) := by decide +kernel
theorem dX2_clear_17 : decode cX2_clear 17 = .ok (.bipush 6, 2) := by decide +kernel
theorem dX2_clear_19 : decode cX2_clear 19 = .ok (.invokevirtual 72, 3) := by decide +kernel
theorem dX2_clear_22 : decode cX2_clear 22 = .ok (.ireturn, 1) := by decide +kernel
theorem dX2_clear_23 : decode cX2_clear 23 = .ok (.aload_n 0, 1) := by decide +kernel
theorem dX2_clear_24 : decode cX2_clear 24 = .ok (.iload_n 1, 1) := by decide +kernel
theorem dX2_clear_25 : decode cX2_clear 25 = .ok (.iconst 0, 1) := by decide +kernel
theorem dX2_clear_26 : decode cX2_clear 26 = .ok (.iconst 0, 1) := by decide +kernel
theorem dX2_clear_27 : decode cX2_clear 27 = .ok (.invokevirtual 80, 3) := by decide +kernel
theorem dX2_clear_30 : decode cX2_clear 30 = .ok (.aload_n 0, 1) := by decide +kernel
theorem dX2_clear_31 : decode cX2_clear 31 = .ok (.iconst 0, 1) := by decide +kernel
theorem dX2_clear_32 : decode cX2_clear 32 = .ok (.invokevirtual 72, 3) := by decide +kernel
theorem dX2_clear_35 : decode cX2_clear 35 = .ok (.ireturn, 1) := by decide +kernel
theorem dX2_cutTo_0 : decode cX2_cutTo 0 = .ok (.iload_n 0, 1) := by decide +kernel
theorem dX2_cutTo_1 : decode cX2_cutTo 1 = .ok (.tableswitch 62 0 4 #[35, 62, 39, 44, 50], 35) := by decide +kernel
theorem dX2_cutTo_36 : decode cX2_cutTo 36 = .ok (.lload_n 1, 1) := by decide +kernel
theorem dX2_cutTo_37 : decode cX2_cutTo 37 = .ok (.l2i, 1) := by decide +kernel
theorem dX2_cutTo_38 : decode cX2_cutTo 38 = .ok (.i2l, 1) := by decide +kernel
theorem dX2_cutTo_39 : decode cX2_cutTo 39 = .ok (.lreturn, 1) := by decide +kernel
theorem dX2_cutTo_40 : decode cX2_cutTo 40 = .ok (.lload_n 1, 1) := by decide +kernel
theorem dX2_cutTo_41 : decode cX2_cutTo 41 = .ok (.l2i, 1) := by decide +kernel
theorem dX2_cutTo_42 : decode cX2_cutTo 42 = .ok (.i2s, 1) := by decide +kernel
theorem dX2_cutTo_43 : decode cX2_cutTo 43 = .ok (.i2l, 1) := by decide +kernel
theorem dX2_cutTo_44 : decode cX2_cutTo 44 = .ok (.lreturn, 1) := by decide +kernel
theorem dX2_cutTo_45 : decode cX2_cutTo 45 = .ok (.lload_n 1, 1) := by decide +kernel
theorem dX2_cutTo_46 : decode cX2_cutTo 46 = .ok (.ldc2_w 90, 3) := by decide +kernel
theorem dX2_cutTo_49 : decode cX2_cutTo 49 = .ok (.land, 1) := by decide +kernel
theorem dX2_cutTo_50 : decode cX2_cutTo 50 = .ok (.lreturn, 1) := by decide +kernel
theorem dX2_cutTo_51 : decode cX2_cutTo 51 = .ok (.lload_n 1, 1) := by decide +kernel
theorem dX2_cutTo_52 : decode cX2_cutTo 52 = .ok (.lconst 0, 1) := by decide +kernel
theorem dX2_cutTo_53 : decode cX2_cutTo 53 = .ok (.lcmp, 1) := by decide +kernel
theorem dX2_cutTo_54 : decode cX2_cutTo 54 = .ok (.ifCond .eq 7, 3) := by decide +kernel
theorem dX2_cutTo_57 : decode cX2_cutTo 57 = .ok (.lconst 1, 1) := by decide +kernel
theorem dX2_cutTo_58 : decode cX2_cutTo 58 = .ok (.goto 4, 3) := by decide +kernel
theorem dX2_cutTo_61 : decode cX2_cutTo 61 = .ok (.lconst 0, 1) := by decide +kernel
theorem dX2_cutTo_62 : decode cX2_cutTo 62 = .ok (.lreturn, 1) := by decide +kernel
theorem dX2_cutTo_63 : decode cX2_cutTo 63 = .ok (.lload_n 1, 1) := by decide +kernel
theorem dX2_cutTo_64 : decode cX2_cutTo 64 = .ok (.lreturn, 1) := by decide +kernel
set_option maxRecDepth 20000 in
theorem ggX2_put_X2_begin : GoodIn wsX2_put wsX2_begin := goodIn_r _ [11, 12, 13, 34, 35, 36, 37, 38, 39, 40, 41, 42, 43, 44, 45, 46, 47, 48, 49, 50, 51, 52, 53, 54, 55, 56, 57] (by decide +kernel) (by decide +kernel)
set_option maxRecDepth 20000 in
theorem gX2_put_X2_begin : GoodIn wsX2_put (wsV RX2 66 RX2 yX2_begin wsX2_begin) := goodIn_app (goodIn_of _ (by decide +kernel)) ggX2_put_X2_begin
set_option maxRecDepth 20000 in
theorem ggX2_put_X2_noReel : GoodIn wsX2_put wsX2_noReel := goodIn_r _ [17, 18, 19, 20, 10, 21, 34, 35, 36, 37, 38, 39, 40, 41, 42, 43, 44, 45, 46, 47, 48, 49, 50, 51, 52, 53, 54, 55, 56, 57] (by decide +kernel) (by decide +kernel)
set_option maxRecDepth 20000 in
theorem gX2_put_X2_noReel : GoodIn wsX2_put (wsV RX2 87 RX2 yX2_noReel wsX2_noReel) := goodIn_app (goodIn_of _ (by decide +kernel)) ggX2_put_X2_noReel
set_option maxRecDepth 20000 in
theorem ggX2_put_X2_told : GoodIn wsX2_put wsX2_told := goodIn_r _ [25, 26, 12, 13, 34, 35, 36, 37, 38, 39, 40, 41, 42, 43, 44, 45, 46, 47, 48, 49, 50, 51, 52, 53, 54, 55, 56, 57] (by decide +kernel) (by decide +kernel)
set_option maxRecDepth 20000 in
theorem gX2_put_X2_told : GoodIn wsX2_put (wsV RX2 72 RX2 yX2_told wsX2_told) := goodIn_app (goodIn_of _ (by decide +kernel)) ggX2_put_X2_told
set_option maxRecDepth 20000 in
theorem ggX2_put_X2_isOfNumbers : GoodIn wsX2_put wsX2_isOfNumbers := goodIn_r _ [29] (by decide +kernel) (by decide +kernel)
set_option maxRecDepth 20000 in
theorem gX2_put_X2_isOfNumbers : GoodIn wsX2_put (va_wsS RX2 60 yX2_isOfNumbers wsX2_isOfNumbers) := goodIn_app (goodIn_of _ (by decide +kernel)) ggX2_put_X2_isOfNumbers
set_option maxRecDepth 20000 in
theorem ggX2_put_X2_cutTo : GoodIn wsX2_put wsX2_cutTo := goodIn_r _ [32, 33] (by decide +kernel) (by decide +kernel)
set_option maxRecDepth 20000 in
theorem gX2_put_X2_cutTo : GoodIn wsX2_put (va_wsS RX2 92 yX2_cutTo wsX2_cutTo) := goodIn_app (goodIn_of _ (by decide +kernel)) ggX2_put_X2_cutTo
theorem dX2_put_0 : decode cX2_put 0 = .ok (.aload_n 0, 1) := by decide +kernel
theorem dX2_put_1 : decode cX2_put 1 = .ok (.iconst 0, 1) := by decide +kernel
theorem dX2_put_2 : decode cX2_put 2 = .ok (.putfield 44, 3) := by decide +kernel
theorem dX2_put_5 : decode cX2_put 5 = .ok (.aload_n 0, 1) := by decide +kernel
theorem dX2_put_6 : decode cX2_put 6 = .ok (.invokevirtual 66, 3) := by decide +kernel
theorem dX2_put_9 : decode cX2_put 9 = .ok (.aload_n 0, 1) := by decide +kernel
theorem dX2_put_10 : decode cX2_put 10 = .ok (.iload_n 1, 1) := by decide +kernel
theorem dX2_put_11 : decode cX2_put 11 = .ok (.invokevirtual 87, 3) := by decide +kernel
theorem dX2_put_14 : decode cX2_put 14 = .ok (.istore 5, 2) := by decide +kernel
theorem dX2_put_16 : decode cX2_put 16 = .ok (.iload 5, 2) := by decide +kernel
theorem dX2_put_18 : decode cX2_put 18 = .ok (.ifCond .le 10, 3) := by decide +kernel
theorem dX2_put_21 : decode cX2_put 21 = .ok (.aload_n 0, 1) := by decide +kernel
theorem dX2_put_22 : decode cX2_put 22 = .ok (.iload 5, 2) := by decide +kernel
theorem dX2_put_24 : decode cX2_put 24 = .ok (.invokevirtual 72, 3) := by decide +kernel
theorem dX2_put_27 : decode cX2_put 27 = .ok (.ireturn, 1) := by decide +kernel
theorem dX2_put_28 : decode cX2_put 28 = .ok (.aload_n 0, 1) := by decide +kernel
theorem dX2_put_29 : decode cX2_put 29 = .ok (.getfield 23, 3) := by decide +kernel
theorem dX2_put_32 : decode cX2_put 32 = .ok (.iload_n 1, 1) := by decide +kernel
theorem dX2_put_33 : decode cX2_put 33 = .ok (.iaload, 1) := by decide +kernel
theorem dX2_put_34 : decode cX2_put 34 = .ok (.istore 6, 2) := by decide +kernel
theorem dX2_put_36 : decode cX2_put 36 = .ok (.aload_n 0, 1) := by decide +kernel
theorem dX2_put_37 : decode cX2_put 37 = .ok (.getfield 7, 3) := by decide +kernel
theorem dX2_put_40 : decode cX2_put 40 = .ok (.iload 6, 2) := by decide +kernel
theorem dX2_put_42 : decode cX2_put 42 = .ok (.iaload, 1) := by decide +kernel
theorem dX2_put_43 : decode cX2_put 43 = .ok (.invokestatic 60, 3) := by decide +kernel
theorem dX2_put_46 : decode cX2_put 46 = .ok (.ifCond .ne 9, 3) := by decide +kernel
theorem dX2_put_49 : decode cX2_put 49 = .ok (.aload_n 0, 1) := by decide +kernel
theorem dX2_put_50 : decode cX2_put 50 = .ok (.iconst 3, 1) := by decide +kernel
theorem dX2_put_51 : decode cX2_put 51 = .ok (.invokevirtual 72, 3) := by decide +kernel
theorem dX2_put_54 : decode cX2_put 54 = .ok (.ireturn, 1) := by decide +kernel
theorem dX2_put_55 : decode cX2_put 55 = .ok (.iload_n 2, 1) := by decide +kernel
theorem dX2_put_56 : decode cX2_put 56 = .ok (.ifCond .lt 14, 3) := by decide +kernel
theorem dX2_put_59 : decode cX2_put 59 = .ok (.iload_n 2, 1) := by decide +kernel
theorem dX2_put_60 : decode cX2_put 60 = .ok (.aload_n 0, 1) := by decide +kernel
theorem dX2_put_61 : decode cX2_put 61 = .ok (.getfield 13, 3) := by decide +kernel
theorem dX2_put_64 : decode cX2_put 64 = .ok (.iload 6, 2) := by decide +kernel
theorem dX2_put_66 : decode cX2_put 66 = .ok (.iaload, 1) := by decide +kernel
theorem dX2_put_67 : decode cX2_put 67 = .ok (.if_icmp .lt 9, 3) := by decide +kernel
theorem dX2_put_70 : decode cX2_put 70 = .ok (.aload_n 0, 1) := by decide +kernel
theorem dX2_put_71 : decode cX2_put 71 = .ok (.iconst 4, 1) := by decide +kernel
theorem dX2_put_72 : decode cX2_put 72 = .ok (.invokevirtual 72, 3) := by decide +kernel
theorem dX2_put_75 : decode cX2_put 75 = .ok (.ireturn, 1) := by decide +kernel
theorem dX2_put_76 : decode cX2_put 76 = .ok (.aload_n 0, 1) := by decide +kernel
theorem dX2_put_77 : decode cX2_put 77 = .ok (.getfield 16, 3) := by decide +kernel
theorem dX2_put_80 : decode cX2_put 80 = .ok (.bipush 24, 2) := by decide +kernel
theorem dX2_put_82 : decode cX2_put 82 = .ok (.iload 6, 2) := by decide +kernel
theorem dX2_put_84 : decode cX2_put 84 = .ok (.imul, 1) := by decide +kernel
theorem dX2_put_85 : decode cX2_put 85 = .ok (.iload_n 2, 1) := by decide +kernel
theorem dX2_put_86 : decode cX2_put 86 = .ok (.iadd, 1) := by decide +kernel
theorem dX2_put_87 : decode cX2_put 87 = .ok (.aload_n 0, 1) := by decide +kernel
theorem dX2_put_88 : decode cX2_put 88 = .ok (.getfield 7, 3) := by decide +kernel
theorem dX2_put_91 : decode cX2_put 91 = .ok (.iload 6, 2) := by decide +kernel
theorem dX2_put_93 : decode cX2_put 93 = .ok (.iaload, 1) := by decide +kernel
theorem dX2_put_94 : decode cX2_put 94 = .ok (.lload_n 3, 1) := by decide +kernel
theorem dX2_put_95 : decode cX2_put 95 = .ok (.invokestatic 92, 3) := by decide +kernel
theorem dX2_put_98 : decode cX2_put 98 = .ok (.lastore, 1) := by decide +kernel
theorem dX2_put_99 : decode cX2_put 99 = .ok (.aload_n 0, 1) := by decide +kernel
theorem dX2_put_100 : decode cX2_put 100 = .ok (.iconst 0, 1) := by decide +kernel
theorem dX2_put_101 : decode cX2_put 101 = .ok (.putfield 96, 3) := by decide +kernel
theorem dX2_put_104 : decode cX2_put 104 = .ok (.aload_n 0, 1) := by decide +kernel
theorem dX2_put_105 : decode cX2_put 105 = .ok (.iconst 0, 1) := by decide +kernel
theorem dX2_put_106 : decode cX2_put 106 = .ok (.invokevirtual 72, 3) := by decide +kernel
theorem dX2_put_109 : decode cX2_put 109 = .ok (.ireturn, 1) := by decide +kernel
set_option maxRecDepth 20000 in
theorem ggX2_bears_X2_isOfNumbers : GoodIn wsX2_bears wsX2_isOfNumbers := goodIn_r _ [5] (by decide +kernel) (by decide +kernel)
set_option maxRecDepth 20000 in
theorem gX2_bears_X2_isOfNumbers : GoodIn wsX2_bears (va_wsS RX2 60 yX2_isOfNumbers wsX2_isOfNumbers) := goodIn_app (goodIn_of _ (by decide +kernel)) ggX2_bears_X2_isOfNumbers
theorem dX2_bears_0 : decode cX2_bears 0 = .ok (.iload_n 1, 1) := by decide +kernel
theorem dX2_bears_1 : decode cX2_bears 1 = .ok (.invokestatic 60, 3) := by decide +kernel
theorem dX2_bears_4 : decode cX2_bears 4 = .ok (.ifCond .ne 9, 3) := by decide +kernel
theorem dX2_bears_7 : decode cX2_bears 7 = .ok (.lload_n 2, 1) := by decide +kernel
theorem dX2_bears_8 : decode cX2_bears 8 = .ok (.lconst 0, 1) := by decide +kernel
theorem dX2_bears_9 : decode cX2_bears 9 = .ok (.lcmp, 1) := by decide +kernel
theorem dX2_bears_10 : decode cX2_bears 10 = .ok (.ifCond .ge 5, 3) := by decide +kernel
theorem dX2_bears_13 : decode cX2_bears 13 = .ok (.iconst 1, 1) := by decide +kernel
theorem dX2_bears_14 : decode cX2_bears 14 = .ok (.ireturn, 1) := by decide +kernel
theorem dX2_bears_15 : decode cX2_bears 15 = .ok (.aload_n 0, 1) := by decide +kernel
theorem dX2_bears_16 : decode cX2_bears 16 = .ok (.getfield 32, 3) := by decide +kernel
theorem dX2_bears_19 : decode cX2_bears 19 = .ok (.lload_n 2, 1) := by decide +kernel
theorem dX2_bears_20 : decode cX2_bears 20 = .ok (.l2i, 1) := by decide +kernel
theorem dX2_bears_21 : decode cX2_bears 21 = .ok (.iaload, 1) := by decide +kernel
theorem dX2_bears_22 : decode cX2_bears 22 = .ok (.istore 4, 2) := by decide +kernel
theorem dX2_bears_24 : decode cX2_bears 24 = .ok (.iload_n 1, 1) := by decide +kernel
theorem dX2_bears_25 : decode cX2_bears 25 = .ok (.iconst 5, 1) := by decide +kernel
theorem dX2_bears_26 : decode cX2_bears 26 = .ok (.if_icmp .eq 21, 3) := by decide +kernel
theorem dX2_bears_29 : decode cX2_bears 29 = .ok (.iload 4, 2) := by decide +kernel
theorem dX2_bears_31 : decode cX2_bears 31 = .ok (.iconst 2, 1) := by decide +kernel
theorem dX2_bears_32 : decode cX2_bears 32 = .ok (.if_icmp .eq 15, 3) := by decide +kernel
theorem dX2_bears_35 : decode cX2_bears 35 = .ok (.iload_n 1, 1) := by decide +kernel
theorem dX2_bears_36 : decode cX2_bears 36 = .ok (.bipush 6, 2) := by decide +kernel
theorem dX2_bears_38 : decode cX2_bears 38 = .ok (.if_icmp .ne 13, 3) := by decide +kernel
theorem dX2_bears_41 : decode cX2_bears 41 = .ok (.iload 4, 2) := by decide +kernel
theorem dX2_bears_43 : decode cX2_bears 43 = .ok (.iconst 1, 1) := by decide +kernel
theorem dX2_bears_44 : decode cX2_bears 44 = .ok (.if_icmp .ne 7, 3) := by decide +kernel
theorem dX2_bears_47 : decode cX2_bears 47 = .ok (.iconst 1, 1) := by decide +kernel
theorem dX2_bears_48 : decode cX2_bears 48 = .ok (.goto 4, 3) := by decide +kernel
theorem dX2_bears_51 : decode cX2_bears 51 = .ok (.iconst 0, 1) := by decide +kernel
theorem dX2_bears_52 : decode cX2_bears 52 = .ok (.ireturn, 1) := by decide +kernel
set_option maxRecDepth 20000 in
theorem ggX2_shoot_X2_begin : GoodIn wsX2_shoot wsX2_begin := goodIn_r _ [15, 16, 17, 38, 39, 40, 41, 42, 43, 44, 45, 46, 47, 48, 49, 50, 51, 52, 53, 54, 55, 56, 57, 58, 59, 60, 61] (by decide +kernel) (by decide +kernel)
set_option maxRecDepth 20000 in
theorem gX2_shoot_X2_begin : GoodIn wsX2_shoot (wsV RX2 66 RX2 yX2_begin wsX2_begin) := goodIn_app (goodIn_of _ (by decide +kernel)) ggX2_shoot_X2_begin
set_option maxRecDepth 20000 in
theorem ggX2_shoot_X2_noReel : GoodIn wsX2_shoot wsX2_noReel := goodIn_r _ [21, 22, 23, 24, 14, 25, 38, 39, 40, 41, 42, 43, 44, 45, 46, 47, 48, 49, 50, 51, 52, 53, 54, 55, 56, 57, 58, 59, 60, 61] (by decide +kernel) (by decide +kernel)
set_option maxRecDepth 20000 in
theorem gX2_shoot_X2_noReel : GoodIn wsX2_shoot (wsV RX2 87 RX2 yX2_noReel wsX2_noReel) := goodIn_app (goodIn_of _ (by decide +kernel)) ggX2_shoot_X2_noReel
set_option maxRecDepth 20000 in
theorem ggX2_shoot_X2_told : GoodIn wsX2_shoot wsX2_told := goodIn_r _ [29, 30, 16, 17, 38, 39, 40, 41, 42, 43, 44, 45, 46, 47, 48, 49, 50, 51, 52, 53, 54, 55, 56, 57, 58, 59, 60, 61] (by decide +kernel) (by decide +kernel)
set_option maxRecDepth 20000 in
theorem gX2_shoot_X2_told : GoodIn wsX2_shoot (wsV RX2 72 RX2 yX2_told wsX2_told) := goodIn_app (goodIn_of _ (by decide +kernel)) ggX2_shoot_X2_told
set_option maxRecDepth 20000 in
theorem ggX2_shoot_X2_isOfNumbers : GoodIn wsX2_shoot wsX2_isOfNumbers := goodIn_r _ [33] (by decide +kernel) (by decide +kernel)
set_option maxRecDepth 20000 in
theorem gX2_shoot_X2_isOfNumbers : GoodIn wsX2_shoot (va_wsS RX2 60 yX2_isOfNumbers wsX2_isOfNumbers) := goodIn_app (goodIn_of _ (by decide +kernel)) ggX2_shoot_X2_isOfNumbers
set_option maxRecDepth 20000 in
theorem ggX2_shoot_X2_bears : GoodIn wsX2_shoot wsX2_bears := goodIn_r _ [37, 5, 31, 32, 14, 33, 38, 39, 40, 41, 42, 43, 44, 45, 46, 47, 48, 49, 50, 51, 52, 53, 54, 55, 56, 57, 58, 59, 60, 61] (by decide +kernel) (by decide +kernel)
set_option maxRecDepth 20000 in
theorem gX2_shoot_X2_bears : GoodIn wsX2_shoot (wsV RX2 102 RX2 yX2_bears wsX2_bears) := goodIn_app (goodIn_of _ (by decide +kernel)) ggX2_shoot_X2_bears
theorem dX2_shoot_0 : decode cX2_shoot 0 = .ok (.aload_n 0, 1) := by decide +kernel
theorem dX2_shoot_1 : decode cX2_shoot 1 = .ok (.iconst 0, 1) := by decide +kernel
theorem dX2_shoot_2 : decode cX2_shoot 2 = .ok (.putfield 44, 3) := by decide +kernel
theorem dX2_shoot_5 : decode cX2_shoot 5 = .ok (.aload_n 0, 1) := by decide +kernel
theorem dX2_shoot_6 : decode cX2_shoot 6 = .ok (.invokevirtual 66, 3) := by decide +kernel
theorem dX2_shoot_9 : decode cX2_shoot 9 = .ok (.iload_n 3, 1) := by decide +kernel
theorem dX2_shoot_10 : decode cX2_shoot 10 = .ok (.ifCond .lt 8, 3) := by decide +kernel
theorem dX2_shoot_13 : decode cX2_shoot 13 = .ok (.iload_n 3, 1) := by decide +kernel
theorem dX2_shoot_14 : decode cX2_shoot 14 = .ok (.iconst 3, 1) := by decide +kernel
theorem dX2_shoot_15 : decode cX2_shoot 15 = .ok (.if_icmp .le 8, 3) := by decide +kernel
theorem dX2_shoot_18 : decode cX2_shoot 18 = .ok (.bipush 6, 2) := by decide +kernel
theorem dX2_shoot_20 : decode cX2_shoot 20 = .ok (.goto 8, 3) := by decide +kernel
theorem dX2_shoot_23 : decode cX2_shoot 23 = .ok (.aload_n 0, 1) := by decide +kernel
theorem dX2_shoot_24 : decode cX2_shoot 24 = .ok (.iload_n 1, 1) := by decide +kernel
theorem dX2_shoot_25 : decode cX2_shoot 25 = .ok (.invokevirtual 87, 3) := by decide +kernel
theorem dX2_shoot_28 : decode cX2_shoot 28 = .ok (.istore 5, 2) := by decide +kernel
theorem dX2_shoot_30 : decode cX2_shoot 30 = .ok (.iload 5, 2) := by decide +kernel
theorem dX2_shoot_32 : decode cX2_shoot 32 = .ok (.ifCond .le 10, 3) := by decide +kernel
theorem dX2_shoot_35 : decode cX2_shoot 35 = .ok (.aload_n 0, 1) := by decide +kernel
theorem dX2_shoot_36 : decode cX2_shoot 36 = .ok (.iload 5, 2) := by decide +kernel
theorem dX2_shoot_38 : decode cX2_shoot 38 = .ok (.invokevirtual 72, 3) := by decide +kernel
theorem dX2_shoot_41 : decode cX2_shoot 41 = .ok (.ireturn, 1) := by decide +kernel
theorem dX2_shoot_42 : decode cX2_shoot 42 = .ok (.aload_n 0, 1) := by decide +kernel
theorem dX2_shoot_43 : decode cX2_shoot 43 = .ok (.getfield 23, 3) := by decide +kernel
theorem dX2_shoot_46 : decode cX2_shoot 46 = .ok (.iload_n 1, 1) := by decide +kernel
theorem dX2_shoot_47 : decode cX2_shoot 47 = .ok (.iaload, 1) := by decide +kernel
theorem dX2_shoot_48 : decode cX2_shoot 48 = .ok (.istore 6, 2) := by decide +kernel
theorem dX2_shoot_50 : decode cX2_shoot 50 = .ok (.aload_n 0, 1) := by decide +kernel
theorem dX2_shoot_51 : decode cX2_shoot 51 = .ok (.getfield 7, 3) := by decide +kernel
theorem dX2_shoot_54 : decode cX2_shoot 54 = .ok (.iload 6, 2) := by decide +kernel
theorem dX2_shoot_56 : decode cX2_shoot 56 = .ok (.iaload, 1) := by decide +kernel
theorem dX2_shoot_57 : decode cX2_shoot 57 = .ok (.invokestatic 60, 3) := by decide +kernel
theorem dX2_shoot_60 : decode cX2_shoot 60 = .ok (.ifCond .eq 9, 3) := by decide +kernel
theorem dX2_shoot_63 : decode cX2_shoot 63 = .ok (.aload_n 0, 1) := by decide +kernel
theorem dX2_shoot_64 : decode cX2_shoot 64 = .ok (.iconst 3, 1) := by decide +kernel
theorem dX2_shoot_65 : decode cX2_shoot 65 = .ok (.invokevirtual 72, 3) := by decide +kernel
theorem dX2_shoot_68 : decode cX2_shoot 68 = .ok (.ireturn, 1) := by decide +kernel
theorem dX2_shoot_69 : decode cX2_shoot 69 = .ok (.ldc2_w 64, 3) := by decide +kernel
theorem dX2_shoot_72 : decode cX2_shoot 72 = .ok (.lstore 7, 2) := by decide +kernel
theorem dX2_shoot_74 : decode cX2_shoot 74 = .ok (.iload_n 3, 1) := by decide +kernel
theorem dX2_shoot_75 : decode cX2_shoot 75 = .ok (.iconst 3, 1) := by decide +kernel
theorem dX2_shoot_76 : decode cX2_shoot 76 = .ok (.if_icmp .ge 41, 3) := by decide +kernel
theorem dX2_shoot_79 : decode cX2_shoot 79 = .ok (.aload_n 0, 1) := by decide +kernel
theorem dX2_shoot_80 : decode cX2_shoot 80 = .ok (.getfield 32, 3) := by decide +kernel
theorem dX2_shoot_83 : decode cX2_shoot 83 = .ok (.aload_n 0, 1) := by decide +kernel
theorem dX2_shoot_84 : decode cX2_shoot 84 = .ok (.getfield 99, 3) := by decide +kernel
theorem dX2_shoot_87 : decode cX2_shoot 87 = .ok (.iload_n 3, 1) := by decide +kernel
theorem dX2_shoot_88 : decode cX2_shoot 88 = .ok (.iastore, 1) := by decide +kernel
theorem dX2_shoot_89 : decode cX2_shoot 89 = .ok (.aload_n 0, 1) := by decide +kernel
theorem dX2_shoot_90 : decode cX2_shoot 90 = .ok (.getfield 29, 3) := by decide +kernel
theorem dX2_shoot_93 : decode cX2_shoot 93 = .ok (.aload_n 0, 1) := by decide +kernel
theorem dX2_shoot_94 : decode cX2_shoot 94 = .ok (.getfield 99, 3) := by decide +kernel
theorem dX2_shoot_97 : decode cX2_shoot 97 = .ok (.iload 4, 2) := by decide +kernel
theorem dX2_shoot_99 : decode cX2_shoot 99 = .ok (.iastore, 1) := by decide +kernel
theorem dX2_shoot_100 : decode cX2_shoot 100 = .ok (.aload_n 0, 1) := by decide +kernel
theorem dX2_shoot_101 : decode cX2_shoot 101 = .ok (.getfield 99, 3) := by decide +kernel
theorem dX2_shoot_104 : decode cX2_shoot 104 = .ok (.i2l, 1) := by decide +kernel
theorem dX2_shoot_105 : decode cX2_shoot 105 = .ok (.lstore 7, 2) := by decide +kernel
theorem dX2_shoot_107 : decode cX2_shoot 107 = .ok (.aload_n 0, 1) := by decide +kernel
theorem dX2_shoot_108 : decode cX2_shoot 108 = .ok (.dup, 1) := by decide +kernel
theorem dX2_shoot_109 : decode cX2_shoot 109 = .ok (.getfield 99, 3) := by decide +kernel
theorem dX2_shoot_112 : decode cX2_shoot 112 = .ok (.iconst 1, 1) := by decide +kernel
theorem dX2_shoot_113 : decode cX2_shoot 113 = .ok (.iadd, 1) := by decide +kernel
theorem dX2_shoot_114 : decode cX2_shoot 114 = .ok (.putfield 99, 3) := by decide +kernel
theorem dX2_shoot_117 : decode cX2_shoot 117 = .ok (.iload_n 2, 1) := by decide +kernel
theorem dX2_shoot_118 : decode cX2_shoot 118 = .ok (.ifCond .lt 14, 3) := by decide +kernel
theorem dX2_shoot_121 : decode cX2_shoot 121 = .ok (.iload_n 2, 1) := by decide +kernel
theorem dX2_shoot_122 : decode cX2_shoot 122 = .ok (.aload_n 0, 1) := by decide +kernel
theorem dX2_shoot_123 : decode cX2_shoot 123 = .ok (.getfield 13, 3) := by decide +kernel
theorem dX2_shoot_126 : decode cX2_shoot 126 = .ok (.iload 6, 2) := by decide +kernel
theorem dX2_shoot_128 : decode cX2_shoot 128 = .ok (.iaload, 1) := by decide +kernel
theorem dX2_shoot_129 : decode cX2_shoot 129 = .ok (.if_icmp .lt 9, 3) := by decide +kernel
theorem dX2_shoot_132 : decode cX2_shoot 132 = .ok (.aload_n 0, 1) := by decide +kernel
theorem dX2_shoot_133 : decode cX2_shoot 133 = .ok (.iconst 4, 1) := by decide +kernel
theorem dX2_shoot_134 : decode cX2_shoot 134 = .ok (.invokevirtual 72, 3) := by decide +kernel
theorem dX2_shoot_137 : decode cX2_shoot 137 = .ok (.ireturn, 1) := by decide +kernel
theorem dX2_shoot_138 : decode cX2_shoot 138 = .ok (.aload_n 0, 1) := by decide +kernel
theorem dX2_shoot_139 : decode cX2_shoot 139 = .ok (.aload_n 0, 1) := by decide +kernel
theorem dX2_shoot_140 : decode cX2_shoot 140 = .ok (.getfield 7, 3) := by decide +kernel
theorem dX2_shoot_143 : decode cX2_shoot 143 = .ok (.iload 6, 2) := by decide +kernel
theorem dX2_shoot_145 : decode cX2_shoot 145 = .ok (.iaload, 1) := by decide +kernel
theorem dX2_shoot_146 : decode cX2_shoot 146 = .ok (.lload 7, 2) := by decide +kernel
theorem dX2_shoot_148 : decode cX2_shoot 148 = .ok (.invokevirtual 102, 3) := by decide +kernel
theorem dX2_shoot_151 : decode cX2_shoot 151 = .ok (.ifCond .ne 9, 3) := by decide +kernel
theorem dX2_shoot_154 : decode cX2_shoot 154 = .ok (.aload_n 0, 1) := by decide +kernel
theorem dX2_shoot_155 : decode cX2_shoot 155 = .ok (.iconst 5, 1) := by decide +kernel
theorem dX2_shoot_156 : decode cX2_shoot 156 = .ok (.invokevirtual 72, 3) := by decide +kernel
theorem dX2_shoot_159 : decode cX2_shoot 159 = .ok (.ireturn, 1) := by decide +kernel
theorem dX2_shoot_160 : decode cX2_shoot 160 = .ok (.aload_n 0, 1) := by decide +kernel
theorem dX2_shoot_161 : decode cX2_shoot 161 = .ok (.getfield 16, 3) := by decide +kernel
theorem dX2_shoot_164 : decode cX2_shoot 164 = .ok (.bipush 24, 2) := by decide +kernel
theorem dX2_shoot_166 : decode cX2_shoot 166 = .ok (.iload 6, 2) := by decide +kernel
theorem dX2_shoot_168 : decode cX2_shoot 168 = .ok (.imul, 1) := by decide +kernel
theorem dX2_shoot_169 : decode cX2_shoot 169 = .ok (.iload_n 2, 1) := by decide +kernel
theorem dX2_shoot_170 : decode cX2_shoot 170 = .ok (.iadd, 1) := by decide +kernel
theorem dX2_shoot_171 : decode cX2_shoot 171 = .ok (.lload 7, 2) := by decide +kernel
theorem dX2_shoot_173 : decode cX2_shoot 173 = .ok (.lastore, 1) := by decide +kernel
theorem dX2_shoot_174 : decode cX2_shoot 174 = .ok (.aload_n 0, 1) := by decide +kernel
theorem dX2_shoot_175 : decode cX2_shoot 175 = .ok (.iconst 0, 1) := by decide +kernel
theorem dX2_shoot_176 : decode cX2_shoot 176 = .ok (.putfield 96, 3) := by decide +kernel
theorem dX2_shoot_179 : decode cX2_shoot 179 = .ok (.aload_n 0, 1) := by decide +kernel
theorem dX2_shoot_180 : decode cX2_shoot 180 = .ok (.iconst 0, 1) := by decide +kernel
theorem dX2_shoot_181 : decode cX2_shoot 181 = .ok (.invokevirtual 72, 3) := by decide +kernel
theorem dX2_shoot_184 : decode cX2_shoot 184 = .ok (.ireturn, 1) := by decide +kernel
theorem dX2_wayOf_0 : decode cX2_wayOf 0 = .ok (.lload_n 0, 1) := by decide +kernel
theorem dX2_wayOf_1 : decode cX2_wayOf 1 = .ok (.lconst 0, 1) := by decide +kernel
theorem dX2_wayOf_2 : decode cX2_wayOf 2 = .ok (.lcmp, 1) := by decide +kernel
theorem dX2_wayOf_3 : decode cX2_wayOf 3 = .ok (.ifCond .ge 5, 3) := by decide +kernel
theorem dX2_wayOf_6 : decode cX2_wayOf 6 = .ok (.iconst 1, 1) := by decide +kernel
theorem dX2_wayOf_7 : decode cX2_wayOf 7 = .ok (.ireturn, 1) := by decide +kernel
theorem dX2_wayOf_8 : decode cX2_wayOf 8 = .ok (.lload_n 2, 1) := by decide +kernel
theorem dX2_wayOf_9 : decode cX2_wayOf 9 = .ok (.lconst 0, 1) := by decide +kernel
theorem dX2_wayOf_10 : decode cX2_wayOf 10 = .ok (.lcmp, 1) := by decide +kernel
theorem dX2_wayOf_11 : decode cX2_wayOf 11 = .ok (.ifCond .ge 5, 3) := by decide +kernel
theorem dX2_wayOf_14 : decode cX2_wayOf 14 = .ok (.iconst 2, 1) := by decide +kernel
theorem dX2_wayOf_15 : decode cX2_wayOf 15 = .ok (.ireturn, 1) := by decide +kernel
theorem dX2_wayOf_16 : decode cX2_wayOf 16 = .ok (.lload 4, 2) := by decide +kernel
theorem dX2_wayOf_18 : decode cX2_wayOf 18 = .ok (.lconst 0, 1) := by decide +kernel
theorem dX2_wayOf_19 : decode cX2_wayOf 19 = .ok (.lcmp, 1) := by decide +kernel
theorem dX2_wayOf_20 : decode cX2_wayOf 20 = .ok (.ifCond .ge 5, 3) := by decide +kernel
theorem dX2_wayOf_23 : decode cX2_wayOf 23 = .ok (.iconst 3, 1) := by decide +kernel
theorem dX2_wayOf_24 : decode cX2_wayOf 24 = .ok (.ireturn, 1) := by decide +kernel
theorem dX2_wayOf_25 : decode cX2_wayOf 25 = .ok (.lload_n 0, 1) := by decide +kernel
theorem dX2_wayOf_26 : decode cX2_wayOf 26 = .ok (.lload 4, 2) := by decide +kernel
theorem dX2_wayOf_28 : decode cX2_wayOf 28 = .ok (.ladd, 1) := by decide +kernel
theorem dX2_wayOf_29 : decode cX2_wayOf 29 = .ok (.iload 6, 2) := by decide +kernel
theorem dX2_wayOf_31 : decode cX2_wayOf 31 = .ok (.i2l, 1) := by decide +kernel
theorem dX2_wayOf_32 : decode cX2_wayOf 32 = .ok (.lcmp, 1) := by decide +kernel
theorem dX2_wayOf_33 : decode cX2_wayOf 33 = .ok (.ifCond .le 5, 3) := by decide +kernel
theorem dX2_wayOf_36 : decode cX2_wayOf 36 = .ok (.iconst 4, 1) := by decide +kernel
theorem dX2_wayOf_37 : decode cX2_wayOf 37 = .ok (.ireturn, 1) := by decide +kernel
theorem dX2_wayOf_38 : decode cX2_wayOf 38 = .ok (.lload_n 2, 1) := by decide +kernel
theorem dX2_wayOf_39 : decode cX2_wayOf 39 = .ok (.lload 4, 2) := by decide +kernel
theorem dX2_wayOf_41 : decode cX2_wayOf 41 = .ok (.ladd, 1) := by decide +kernel
theorem dX2_wayOf_42 : decode cX2_wayOf 42 = .ok (.iload 7, 2) := by decide +kernel
theorem dX2_wayOf_44 : decode cX2_wayOf 44 = .ok (.i2l, 1) := by decide +kernel
theorem dX2_wayOf_45 : decode cX2_wayOf 45 = .ok (.lcmp, 1) := by decide +kernel
theorem dX2_wayOf_46 : decode cX2_wayOf 46 = .ok (.ifCond .le 7, 3) := by decide +kernel
theorem dX2_wayOf_49 : decode cX2_wayOf 49 = .ok (.iconst 5, 1) := by decide +kernel
theorem dX2_wayOf_50 : decode cX2_wayOf 50 = .ok (.goto 4, 3) := by decide +kernel
theorem dX2_wayOf_53 : decode cX2_wayOf 53 = .ok (.iconst 0, 1) := by decide +kernel
theorem dX2_wayOf_54 : decode cX2_wayOf 54 = .ok (.ireturn, 1) := by decide +kernel
set_option maxRecDepth 20000 in
theorem ggX2_spliced_X2_begin : GoodIn wsX2_spliced wsX2_begin := goodIn_r _ [14, 5, 8, 38, 39, 40, 41, 42, 43, 44, 45, 46, 47, 48, 49, 50, 51, 52, 53, 54, 55, 56, 57, 58, 59, 60, 61] (by decide +kernel) (by decide +kernel)
set_option maxRecDepth 20000 in
theorem gX2_spliced_X2_begin : GoodIn wsX2_spliced (wsV RX2 66 RX2 yX2_begin wsX2_begin) := goodIn_app (goodIn_of _ (by decide +kernel)) ggX2_spliced_X2_begin
set_option maxRecDepth 20000 in
theorem ggX2_spliced_X2_isSpindle : GoodIn wsX2_spliced wsX2_isSpindle := goodIn_r _ [17] (by decide +kernel) (by decide +kernel)
set_option maxRecDepth 20000 in
theorem gX2_spliced_X2_isSpindle : GoodIn wsX2_spliced (va_wsS RX2 69 yX2_isSpindle wsX2_isSpindle) := goodIn_app (goodIn_of _ (by decide +kernel)) ggX2_spliced_X2_isSpindle
set_option maxRecDepth 20000 in
theorem ggX2_spliced_X2_isOfNumbers : GoodIn wsX2_spliced wsX2_isOfNumbers := goodIn_r _ [20] (by decide +kernel) (by decide +kernel)
set_option maxRecDepth 20000 in
theorem gX2_spliced_X2_isOfNumbers : GoodIn wsX2_spliced (va_wsS RX2 60 yX2_isOfNumbers wsX2_isOfNumbers) := goodIn_app (goodIn_of _ (by decide +kernel)) ggX2_spliced_X2_isOfNumbers
set_option maxRecDepth 20000 in
theorem ggX2_spliced_X2_wayOf : GoodIn wsX2_spliced wsX2_wayOf := goodIn_r _ [23] (by decide +kernel) (by decide +kernel)
set_option maxRecDepth 20000 in
theorem gX2_spliced_X2_wayOf : GoodIn wsX2_spliced (va_wsS RX2 106 yX2_wayOf wsX2_wayOf) := goodIn_app (goodIn_of _ (by decide +kernel)) ggX2_spliced_X2_wayOf
set_option maxRecDepth 20000 in
theorem ggX2_spliced_X2_bears : GoodIn wsX2_spliced wsX2_bears := goodIn_r _ [27, 28, 18, 19, 13, 20, 38, 39, 40, 41, 42, 43, 44, 45, 46, 47, 48, 49, 50, 51, 52, 53, 54, 55, 56, 57, 58, 59, 60, 61] (by decide +kernel) (by decide +kernel)
set_option maxRecDepth 20000 in
theorem gX2_spliced_X2_bears : GoodIn wsX2_spliced (wsV RX2 102 RX2 yX2_bears wsX2_bears) := goodIn_app (goodIn_of _ (by decide +kernel)) ggX2_spliced_X2_bears
set_option maxRecDepth 20000 in
theorem ggX2_spliced_X2_goes : GoodIn wsX2_spliced wsX2_goes := goodIn_r _ [32, 33, 34, 35, 36, 6, 7, 37, 38, 39, 40, 41, 42, 43, 44, 45, 46, 47, 48, 49, 50, 51, 52, 53, 54, 55, 56, 57, 58, 59, 60, 61] (by decide +kernel) (by decide +kernel)
set_option maxRecDepth 20000 in
theorem gX2_spliced_X2_goes : GoodIn wsX2_spliced (wsV RX2 110 RX2 yX2_goes wsX2_goes) := goodIn_app (goodIn_of _ (by decide +kernel)) ggX2_spliced_X2_goes
theorem dX2_spliced_0 : decode cX2_spliced 0 = .ok (.aload_n 0, 1) := by decide +kernel
theorem dX2_spliced_1 : decode cX2_spliced 1 = .ok (.invokevirtual 66, 3) := by decide +kernel
theorem dX2_spliced_4 : decode cX2_spliced 4 = .ok (.iload_n 1, 1) := by decide +kernel
theorem dX2_spliced_5 : decode cX2_spliced 5 = .ok (.invokestatic 69, 3) := by decide +kernel
theorem dX2_spliced_8 : decode cX2_spliced 8 = .ok (.ifCond .eq 11, 3) := by decide +kernel
theorem dX2_spliced_11 : decode cX2_spliced 11 = .ok (.iload 4, 2) := by decide +kernel
theorem dX2_spliced_13 : decode cX2_spliced 13 = .ok (.invokestatic 69, 3) := by decide +kernel
theorem dX2_spliced_16 : decode cX2_spliced 16 = .ok (.ifCond .ne 6, 3) := by decide +kernel
theorem dX2_spliced_19 : decode cX2_spliced 19 = .ok (.bipush 6, 2) := by decide +kernel
theorem dX2_spliced_21 : decode cX2_spliced 21 = .ok (.ireturn, 1) := by decide +kernel
theorem dX2_spliced_22 : decode cX2_spliced 22 = .ok (.aload_n 0, 1) := by decide +kernel
theorem dX2_spliced_23 : decode cX2_spliced 23 = .ok (.getfield 20, 3) := by decide +kernel
theorem dX2_spliced_26 : decode cX2_spliced 26 = .ok (.iload_n 1, 1) := by decide +kernel
theorem dX2_spliced_27 : decode cX2_spliced 27 = .ok (.iaload, 1) := by decide +kernel
theorem dX2_spliced_28 : decode cX2_spliced 28 = .ok (.ifCond .eq 13, 3) := by decide +kernel
theorem dX2_spliced_31 : decode cX2_spliced 31 = .ok (.aload_n 0, 1) := by decide +kernel
theorem dX2_spliced_32 : decode cX2_spliced 32 = .ok (.getfield 20, 3) := by decide +kernel
theorem dX2_spliced_35 : decode cX2_spliced 35 = .ok (.iload 4, 2) := by decide +kernel
theorem dX2_spliced_37 : decode cX2_spliced 37 = .ok (.iaload, 1) := by decide +kernel
theorem dX2_spliced_38 : decode cX2_spliced 38 = .ok (.ifCond .ne 5, 3) := by decide +kernel
theorem dX2_spliced_41 : decode cX2_spliced 41 = .ok (.iconst 1, 1) := by decide +kernel
theorem dX2_spliced_42 : decode cX2_spliced 42 = .ok (.ireturn, 1) := by decide +kernel
theorem dX2_spliced_43 : decode cX2_spliced 43 = .ok (.aload_n 0, 1) := by decide +kernel
theorem dX2_spliced_44 : decode cX2_spliced 44 = .ok (.getfield 20, 3) := by decide +kernel
theorem dX2_spliced_47 : decode cX2_spliced 47 = .ok (.iload_n 1, 1) := by decide +kernel
theorem dX2_spliced_48 : decode cX2_spliced 48 = .ok (.iaload, 1) := by decide +kernel
theorem dX2_spliced_49 : decode cX2_spliced 49 = .ok (.iconst 2, 1) := by decide +kernel
theorem dX2_spliced_50 : decode cX2_spliced 50 = .ok (.if_icmp .eq 14, 3) := by decide +kernel
theorem dX2_spliced_53 : decode cX2_spliced 53 = .ok (.aload_n 0, 1) := by decide +kernel
theorem dX2_spliced_54 : decode cX2_spliced 54 = .ok (.getfield 20, 3) := by decide +kernel
theorem dX2_spliced_57 : decode cX2_spliced 57 = .ok (.iload 4, 2) := by decide +kernel
theorem dX2_spliced_59 : decode cX2_spliced 59 = .ok (.iaload, 1) := by decide +kernel
theorem dX2_spliced_60 : decode cX2_spliced 60 = .ok (.iconst 2, 1) := by decide +kernel
theorem dX2_spliced_61 : decode cX2_spliced 61 = .ok (.if_icmp .ne 5, 3) := by decide +kernel
theorem dX2_spliced_64 : decode cX2_spliced 64 = .ok (.iconst 2, 1) := by decide +kernel
theorem dX2_spliced_65 : decode cX2_spliced 65 = .ok (.ireturn, 1) := by decide +kernel
theorem dX2_spliced_66 : decode cX2_spliced 66 = .ok (.aload_n 0, 1) := by decide +kernel
theorem dX2_spliced_67 : decode cX2_spliced 67 = .ok (.getfield 23, 3) := by decide +kernel
theorem dX2_spliced_70 : decode cX2_spliced 70 = .ok (.iload_n 1, 1) := by decide +kernel
theorem dX2_spliced_71 : decode cX2_spliced 71 = .ok (.iaload, 1) := by decide +kernel
theorem dX2_spliced_72 : decode cX2_spliced 72 = .ok (.istore 9, 2) := by decide +kernel
theorem dX2_spliced_74 : decode cX2_spliced 74 = .ok (.aload_n 0, 1) := by decide +kernel
theorem dX2_spliced_75 : decode cX2_spliced 75 = .ok (.getfield 23, 3) := by decide +kernel
theorem dX2_spliced_78 : decode cX2_spliced 78 = .ok (.iload 4, 2) := by decide +kernel
theorem dX2_spliced_80 : decode cX2_spliced 80 = .ok (.iaload, 1) := by decide +kernel
theorem dX2_spliced_81 : decode cX2_spliced 81 = .ok (.istore 10, 2) := by decide +kernel
theorem dX2_spliced_83 : decode cX2_spliced 83 = .ok (.aload_n 0, 1) := by decide +kernel
theorem dX2_spliced_84 : decode cX2_spliced 84 = .ok (.getfield 7, 3) := by decide +kernel
theorem dX2_spliced_87 : decode cX2_spliced 87 = .ok (.iload 9, 2) := by decide +kernel
theorem dX2_spliced_89 : decode cX2_spliced 89 = .ok (.iaload, 1) := by decide +kernel
theorem dX2_spliced_90 : decode cX2_spliced 90 = .ok (.aload_n 0, 1) := by decide +kernel
theorem dX2_spliced_91 : decode cX2_spliced 91 = .ok (.getfield 7, 3) := by decide +kernel
theorem dX2_spliced_94 : decode cX2_spliced 94 = .ok (.iload 10, 2) := by decide +kernel
theorem dX2_spliced_96 : decode cX2_spliced 96 = .ok (.iaload, 1) := by decide +kernel
theorem dX2_spliced_97 : decode cX2_spliced 97 = .ok (.if_icmp .eq 31, 3) := by decide +kernel
theorem dX2_spliced_100 : decode cX2_spliced 100 = .ok (.aload_n 0, 1) := by decide +kernel
theorem dX2_spliced_101 : decode cX2_spliced 101 = .ok (.getfield 7, 3) := by decide +kernel
theorem dX2_spliced_104 : decode cX2_spliced 104 = .ok (.iload 9, 2) := by decide +kernel
theorem dX2_spliced_106 : decode cX2_spliced 106 = .ok (.iaload, 1) := by decide +kernel
theorem dX2_spliced_107 : decode cX2_spliced 107 = .ok (.invokestatic 60, 3) := by decide +kernel
theorem dX2_spliced_110 : decode cX2_spliced 110 = .ok (.ifCond .ne 16, 3) := by decide +kernel
theorem dX2_spliced_113 : decode cX2_spliced 113 = .ok (.aload_n 0, 1) := by decide +kernel
theorem dX2_spliced_114 : decode cX2_spliced 114 = .ok (.getfield 7, 3) := by decide +kernel
theorem dX2_spliced_117 : decode cX2_spliced 117 = .ok (.iload 10, 2) := by decide +kernel
theorem dX2_spliced_119 : decode cX2_spliced 119 = .ok (.iaload, 1) := by decide +kernel
theorem dX2_spliced_120 : decode cX2_spliced 120 = .ok (.invokestatic 60, 3) := by decide +kernel
theorem dX2_spliced_123 : decode cX2_spliced 123 = .ok (.ifCond .eq 5, 3) := by decide +kernel
theorem dX2_spliced_126 : decode cX2_spliced 126 = .ok (.iconst 3, 1) := by decide +kernel
theorem dX2_spliced_127 : decode cX2_spliced 127 = .ok (.ireturn, 1) := by decide +kernel
theorem dX2_spliced_128 : decode cX2_spliced 128 = .ok (.aload_n 0, 1) := by decide +kernel
theorem dX2_spliced_129 : decode cX2_spliced 129 = .ok (.lload_n 2, 1) := by decide +kernel
theorem dX2_spliced_130 : decode cX2_spliced 130 = .ok (.lload 5, 2) := by decide +kernel
theorem dX2_spliced_132 : decode cX2_spliced 132 = .ok (.lload 7, 2) := by decide +kernel
theorem dX2_spliced_134 : decode cX2_spliced 134 = .ok (.aload_n 0, 1) := by decide +kernel
theorem dX2_spliced_135 : decode cX2_spliced 135 = .ok (.getfield 13, 3) := by decide +kernel
theorem dX2_spliced_138 : decode cX2_spliced 138 = .ok (.iload 9, 2) := by decide +kernel
theorem dX2_spliced_140 : decode cX2_spliced 140 = .ok (.iaload, 1) := by decide +kernel
theorem dX2_spliced_141 : decode cX2_spliced 141 = .ok (.aload_n 0, 1) := by decide +kernel
theorem dX2_spliced_142 : decode cX2_spliced 142 = .ok (.getfield 13, 3) := by decide +kernel
theorem dX2_spliced_145 : decode cX2_spliced 145 = .ok (.iload 10, 2) := by decide +kernel
theorem dX2_spliced_147 : decode cX2_spliced 147 = .ok (.iaload, 1) := by decide +kernel
theorem dX2_spliced_148 : decode cX2_spliced 148 = .ok (.invokestatic 106, 3) := by decide +kernel
theorem dX2_spliced_151 : decode cX2_spliced 151 = .ok (.putfield 51, 3) := by decide +kernel
theorem dX2_spliced_154 : decode cX2_spliced 154 = .ok (.aload_n 0, 1) := by decide +kernel
theorem dX2_spliced_155 : decode cX2_spliced 155 = .ok (.getfield 51, 3) := by decide +kernel
theorem dX2_spliced_158 : decode cX2_spliced 158 = .ok (.ifCond .le 5, 3) := by decide +kernel
theorem dX2_spliced_161 : decode cX2_spliced 161 = .ok (.iconst 4, 1) := by decide +kernel
theorem dX2_spliced_162 : decode cX2_spliced 162 = .ok (.ireturn, 1) := by decide +kernel
theorem dX2_spliced_163 : decode cX2_spliced 163 = .ok (.iconst 0, 1) := by decide +kernel
theorem dX2_spliced_164 : decode cX2_spliced 164 = .ok (.istore 11, 2) := by decide +kernel
theorem dX2_spliced_166 : decode cX2_spliced 166 = .ok (.iload 11, 2) := by decide +kernel
theorem dX2_spliced_168 : decode cX2_spliced 168 = .ok (.i2l, 1) := by decide +kernel
theorem dX2_spliced_169 : decode cX2_spliced 169 = .ok (.lload 7, 2) := by decide +kernel
theorem dX2_spliced_171 : decode cX2_spliced 171 = .ok (.lcmp, 1) := by decide +kernel
theorem dX2_spliced_172 : decode cX2_spliced 172 = .ok (.ifCond .ge 62, 3) := by decide +kernel
theorem dX2_spliced_175 : decode cX2_spliced 175 = .ok (.aload_n 0, 1) := by decide +kernel
theorem dX2_spliced_176 : decode cX2_spliced 176 = .ok (.aload_n 0, 1) := by decide +kernel
theorem dX2_spliced_177 : decode cX2_spliced 177 = .ok (.getfield 7, 3) := by decide +kernel
theorem dX2_spliced_180 : decode cX2_spliced 180 = .ok (.iload 10, 2) := by decide +kernel
theorem dX2_spliced_182 : decode cX2_spliced 182 = .ok (.iaload, 1) := by decide +kernel
theorem dX2_spliced_183 : decode cX2_spliced 183 = .ok (.aload_n 0, 1) := by decide +kernel
theorem dX2_spliced_184 : decode cX2_spliced 184 = .ok (.getfield 16, 3) := by decide +kernel
theorem dX2_spliced_187 : decode cX2_spliced 187 = .ok (.bipush 24, 2) := by decide +kernel
theorem dX2_spliced_189 : decode cX2_spliced 189 = .ok (.iload 9, 2) := by decide +kernel
theorem dX2_spliced_191 : decode cX2_spliced 191 = .ok (.imul, 1) := by decide +kernel
theorem dX2_spliced_192 : decode cX2_spliced 192 = .ok (.lload_n 2, 1) := by decide +kernel
theorem dX2_spliced_193 : decode cX2_spliced 193 = .ok (.l2i, 1) := by decide +kernel
theorem dX2_spliced_194 : decode cX2_spliced 194 = .ok (.iadd, 1) := by decide +kernel
theorem dX2_spliced_195 : decode cX2_spliced 195 = .ok (.iload 11, 2) := by decide +kernel
theorem dX2_spliced_197 : decode cX2_spliced 197 = .ok (.iadd, 1) := by decide +kernel
theorem dX2_spliced_198 : decode cX2_spliced 198 = .ok (.laload, 1) := by decide +kernel
theorem dX2_spliced_199 : decode cX2_spliced 199 = .ok (.invokevirtual 102, 3) := by decide +kernel
theorem dX2_spliced_202 : decode cX2_spliced 202 = .ok (.ifCond .eq 32, 3) := by decide +kernel
theorem dX2_spliced_205 : decode cX2_spliced 205 = .ok (.aload_n 0, 1) := by decide +kernel
theorem dX2_spliced_206 : decode cX2_spliced 206 = .ok (.getfield 41, 3) := by decide +kernel
theorem dX2_spliced_209 : decode cX2_spliced 209 = .ok (.iload 11, 2) := by decide +kernel
theorem dX2_spliced_211 : decode cX2_spliced 211 = .ok (.aload_n 0, 1) := by decide +kernel
theorem dX2_spliced_212 : decode cX2_spliced 212 = .ok (.getfield 16, 3) := by decide +kernel
theorem dX2_spliced_215 : decode cX2_spliced 215 = .ok (.bipush 24, 2) := by decide +kernel
theorem dX2_spliced_217 : decode cX2_spliced 217 = .ok (.iload 9, 2) := by decide +kernel
theorem dX2_spliced_219 : decode cX2_spliced 219 = .ok (.imul, 1) := by decide +kernel
theorem dX2_spliced_220 : decode cX2_spliced 220 = .ok (.lload_n 2, 1) := by decide +kernel
theorem dX2_spliced_221 : decode cX2_spliced 221 = .ok (.l2i, 1) := by decide +kernel
theorem dX2_spliced_222 : decode cX2_spliced 222 = .ok (.iadd, 1) := by decide +kernel
theorem dX2_spliced_223 : decode cX2_spliced 223 = .ok (.iload 11, 2) := by decide +kernel
theorem dX2_spliced_225 : decode cX2_spliced 225 = .ok (.iadd, 1) := by decide +kernel
theorem dX2_spliced_226 : decode cX2_spliced 226 = .ok (.laload, 1) := by decide +kernel
theorem dX2_spliced_227 : decode cX2_spliced 227 = .ok (.lastore, 1) := by decide +kernel
theorem dX2_spliced_228 : decode cX2_spliced 228 = .ok (.iinc 11 1, 3) := by decide +kernel
theorem dX2_spliced_231 : decode cX2_spliced 231 = .ok (.goto (-65), 3) := by decide +kernel
theorem dX2_spliced_234 : decode cX2_spliced 234 = .ok (.iload 11, 2) := by decide +kernel
theorem dX2_spliced_236 : decode cX2_spliced 236 = .ok (.ifCond .le 14, 3) := by decide +kernel
theorem dX2_spliced_239 : decode cX2_spliced 239 = .ok (.aload_n 0, 1) := by decide +kernel
theorem dX2_spliced_240 : decode cX2_spliced 240 = .ok (.iload 10, 2) := by decide +kernel
theorem dX2_spliced_242 : decode cX2_spliced 242 = .ok (.lload 5, 2) := by decide +kernel
theorem dX2_spliced_244 : decode cX2_spliced 244 = .ok (.l2i, 1) := by decide +kernel
theorem dX2_spliced_245 : decode cX2_spliced 245 = .ok (.iload 11, 2) := by decide +kernel
theorem dX2_spliced_247 : decode cX2_spliced 247 = .ok (.invokevirtual 110, 3) := by decide +kernel
theorem dX2_spliced_250 : decode cX2_spliced 250 = .ok (.iload 11, 2) := by decide +kernel
theorem dX2_spliced_252 : decode cX2_spliced 252 = .ok (.i2l, 1) := by decide +kernel
theorem dX2_spliced_253 : decode cX2_spliced 253 = .ok (.lload 7, 2) := by decide +kernel
theorem dX2_spliced_255 : decode cX2_spliced 255 = .ok (.lcmp, 1) := by decide +kernel
theorem dX2_spliced_256 : decode cX2_spliced 256 = .ok (.ifCond .ge 11, 3) := by decide +kernel
theorem dX2_spliced_259 : decode cX2_spliced 259 = .ok (.aload_n 0, 1) := by decide +kernel
theorem dX2_spliced_260 : decode cX2_spliced 260 = .ok (.iload 11, 2) := by decide +kernel
theorem dX2_spliced_262 : decode cX2_spliced 262 = .ok (.putfield 54, 3) := by decide +kernel
theorem dX2_spliced_265 : decode cX2_spliced 265 = .ok (.iconst 5, 1) := by decide +kernel
theorem dX2_spliced_266 : decode cX2_spliced 266 = .ok (.ireturn, 1) := by decide +kernel
theorem dX2_spliced_267 : decode cX2_spliced 267 = .ok (.aload_n 0, 1) := by decide +kernel
theorem dX2_spliced_268 : decode cX2_spliced 268 = .ok (.dup, 1) := by decide +kernel
theorem dX2_spliced_269 : decode cX2_spliced 269 = .ok (.getfield 113, 3) := by decide +kernel
theorem dX2_spliced_272 : decode cX2_spliced 272 = .ok (.iconst 1, 1) := by decide +kernel
theorem dX2_spliced_273 : decode cX2_spliced 273 = .ok (.iadd, 1) := by decide +kernel
theorem dX2_spliced_274 : decode cX2_spliced 274 = .ok (.putfield 113, 3) := by decide +kernel
theorem dX2_spliced_277 : decode cX2_spliced 277 = .ok (.iconst 0, 1) := by decide +kernel
theorem dX2_spliced_278 : decode cX2_spliced 278 = .ok (.ireturn, 1) := by decide +kernel
theorem dX2_goes_0 : decode cX2_goes 0 = .ok (.aload_n 0, 1) := by decide +kernel
theorem dX2_goes_1 : decode cX2_goes 1 = .ok (.iload_n 1, 1) := by decide +kernel
theorem dX2_goes_2 : decode cX2_goes 2 = .ok (.putfield 116, 3) := by decide +kernel
theorem dX2_goes_5 : decode cX2_goes 5 = .ok (.aload_n 0, 1) := by decide +kernel
theorem dX2_goes_6 : decode cX2_goes 6 = .ok (.iload_n 2, 1) := by decide +kernel
theorem dX2_goes_7 : decode cX2_goes 7 = .ok (.putfield 119, 3) := by decide +kernel
theorem dX2_goes_10 : decode cX2_goes 10 = .ok (.aload_n 0, 1) := by decide +kernel
theorem dX2_goes_11 : decode cX2_goes 11 = .ok (.iload_n 3, 1) := by decide +kernel
theorem dX2_goes_12 : decode cX2_goes 12 = .ok (.putfield 96, 3) := by decide +kernel
theorem dX2_goes_15 : decode cX2_goes 15 = .ok (.iconst 0, 1) := by decide +kernel
theorem dX2_goes_16 : decode cX2_goes 16 = .ok (.istore 4, 2) := by decide +kernel
theorem dX2_goes_18 : decode cX2_goes 18 = .ok (.iload 4, 2) := by decide +kernel
theorem dX2_goes_20 : decode cX2_goes 20 = .ok (.iload_n 3, 1) := by decide +kernel
theorem dX2_goes_21 : decode cX2_goes 21 = .ok (.if_icmp .ge 51, 3) := by decide +kernel
theorem dX2_goes_24 : decode cX2_goes 24 = .ok (.aload_n 0, 1) := by decide +kernel
theorem dX2_goes_25 : decode cX2_goes 25 = .ok (.getfield 38, 3) := by decide +kernel
theorem dX2_goes_28 : decode cX2_goes 28 = .ok (.iload 4, 2) := by decide +kernel
theorem dX2_goes_30 : decode cX2_goes 30 = .ok (.aload_n 0, 1) := by decide +kernel
theorem dX2_goes_31 : decode cX2_goes 31 = .ok (.getfield 16, 3) := by decide +kernel
theorem dX2_goes_34 : decode cX2_goes 34 = .ok (.bipush 24, 2) := by decide +kernel
theorem dX2_goes_36 : decode cX2_goes 36 = .ok (.iload_n 1, 1) := by decide +kernel
theorem dX2_goes_37 : decode cX2_goes 37 = .ok (.imul, 1) := by decide +kernel
theorem dX2_goes_38 : decode cX2_goes 38 = .ok (.iload_n 2, 1) := by decide +kernel
theorem dX2_goes_39 : decode cX2_goes 39 = .ok (.iadd, 1) := by decide +kernel
theorem dX2_goes_40 : decode cX2_goes 40 = .ok (.iload 4, 2) := by decide +kernel
theorem dX2_goes_42 : decode cX2_goes 42 = .ok (.iadd, 1) := by decide +kernel
theorem dX2_goes_43 : decode cX2_goes 43 = .ok (.laload, 1) := by decide +kernel
theorem dX2_goes_44 : decode cX2_goes 44 = .ok (.lastore, 1) := by decide +kernel
theorem dX2_goes_45 : decode cX2_goes 45 = .ok (.aload_n 0, 1) := by decide +kernel
theorem dX2_goes_46 : decode cX2_goes 46 = .ok (.getfield 16, 3) := by decide +kernel
theorem dX2_goes_49 : decode cX2_goes 49 = .ok (.bipush 24, 2) := by decide +kernel
theorem dX2_goes_51 : decode cX2_goes 51 = .ok (.iload_n 1, 1) := by decide +kernel
theorem dX2_goes_52 : decode cX2_goes 52 = .ok (.imul, 1) := by decide +kernel
theorem dX2_goes_53 : decode cX2_goes 53 = .ok (.iload_n 2, 1) := by decide +kernel
theorem dX2_goes_54 : decode cX2_goes 54 = .ok (.iadd, 1) := by decide +kernel
theorem dX2_goes_55 : decode cX2_goes 55 = .ok (.iload 4, 2) := by decide +kernel
theorem dX2_goes_57 : decode cX2_goes 57 = .ok (.iadd, 1) := by decide +kernel
theorem dX2_goes_58 : decode cX2_goes 58 = .ok (.aload_n 0, 1) := by decide +kernel
theorem dX2_goes_59 : decode cX2_goes 59 = .ok (.getfield 41, 3) := by decide +kernel
theorem dX2_goes_62 : decode cX2_goes 62 = .ok (.iload 4, 2) := by decide +kernel
theorem dX2_goes_64 : decode cX2_goes 64 = .ok (.laload, 1) := by decide +kernel
theorem dX2_goes_65 : decode cX2_goes 65 = .ok (.lastore, 1) := by decide +kernel
theorem dX2_goes_66 : decode cX2_goes 66 = .ok (.iinc 4 1, 3) := by decide +kernel
theorem dX2_goes_69 : decode cX2_goes 69 = .ok (.goto (-51), 3) := by decide +kernel
theorem dX2_goes_72 : decode cX2_goes 72 = .ok (.aload_n 0, 1) := by decide +kernel
theorem dX2_goes_73 : decode cX2_goes 73 = .ok (.dup, 1) := by decide +kernel
theorem dX2_goes_74 : decode cX2_goes 74 = .ok (.getfield 122, 3) := by decide +kernel
theorem dX2_goes_77 : decode cX2_goes 77 = .ok (.iload_n 3, 1) := by decide +kernel
theorem dX2_goes_78 : decode cX2_goes 78 = .ok (.iadd, 1) := by decide +kernel
theorem dX2_goes_79 : decode cX2_goes 79 = .ok (.putfield 122, 3) := by decide +kernel
theorem dX2_goes_82 : decode cX2_goes 82 = .ok (.return_, 1) := by decide +kernel
set_option maxRecDepth 20000 in
theorem ggX2_splice_X2_spliced : GoodIn wsX2_splice wsX2_spliced := goodIn_r _ [6, 7, 8, 9, 10, 11, 12, 13, 14, 15, 16, 17, 18, 5, 19, 20, 21, 22, 23, 24, 25, 26, 27, 28, 29, 30, 31, 32, 33, 34, 35, 36, 37, 38, 39, 40, 41, 42, 48, 49, 50, 51, 52, 53, 54, 55, 56, 57, 58, 59, 60, 61, 62, 63, 64, 65, 66, 67, 68, 69, 70, 71] (by decide +kernel) (by decide +kernel)
set_option maxRecDepth 20000 in
theorem gX2_splice_X2_spliced : GoodIn wsX2_splice (wsV RX2 125 RX2 yX2_spliced wsX2_spliced) := goodIn_app (goodIn_of _ (by decide +kernel)) ggX2_splice_X2_spliced
set_option maxRecDepth 20000 in
theorem ggX2_splice_X2_told : GoodIn wsX2_splice wsX2_told := goodIn_r _ [46, 47, 11, 14, 48, 49, 50, 51, 52, 53, 54, 55, 56, 57, 58, 59, 60, 61, 62, 63, 64, 65, 66, 67, 68, 69, 70, 71] (by decide +kernel) (by decide +kernel)
set_option maxRecDepth 20000 in
theorem gX2_splice_X2_told : GoodIn wsX2_splice (wsV RX2 72 RX2 yX2_told wsX2_told) := goodIn_app (goodIn_of _ (by decide +kernel)) ggX2_splice_X2_told
theorem dX2_splice_0 : decode cX2_splice 0 = .ok (.aload_n 0, 1) := by decide +kernel
theorem dX2_splice_1 : decode cX2_splice 1 = .ok (.iconst 0, 1) := by decide +kernel
theorem dX2_splice_2 : decode cX2_splice 2 = .ok (.putfield 44, 3) := by decide +kernel
theorem dX2_splice_5 : decode cX2_splice 5 = .ok (.aload_n 0, 1) := by decide +kernel
theorem dX2_splice_6 : decode cX2_splice 6 = .ok (.aload_n 0, 1) := by decide +kernel
theorem dX2_splice_7 : decode cX2_splice 7 = .ok (.iload_n 1, 1) := by decide +kernel
theorem dX2_splice_8 : decode cX2_splice 8 = .ok (.iload_n 2, 1) := by decide +kernel
theorem dX2_splice_9 : decode cX2_splice 9 = .ok (.i2l, 1) := by decide +kernel
theorem dX2_splice_10 : decode cX2_splice 10 = .ok (.iload_n 3, 1) := by decide +kernel
theorem dX2_splice_11 : decode cX2_splice 11 = .ok (.iload 4, 2) := by decide +kernel
theorem dX2_splice_13 : decode cX2_splice 13 = .ok (.i2l, 1) := by decide +kernel
theorem dX2_splice_14 : decode cX2_splice 14 = .ok (.iload 5, 2) := by decide +kernel
theorem dX2_splice_16 : decode cX2_splice 16 = .ok (.i2l, 1) := by decide +kernel
theorem dX2_splice_17 : decode cX2_splice 17 = .ok (.invokevirtual 125, 3) := by decide +kernel
theorem dX2_splice_20 : decode cX2_splice 20 = .ok (.invokevirtual 72, 3) := by decide +kernel
theorem dX2_splice_23 : decode cX2_splice 23 = .ok (.istore 6, 2) := by decide +kernel
theorem dX2_splice_25 : decode cX2_splice 25 = .ok (.iload 6, 2) := by decide +kernel
theorem dX2_splice_27 : decode cX2_splice 27 = .ok (.ifCond .le 9, 3) := by decide +kernel
theorem dX2_splice_30 : decode cX2_splice 30 = .ok (.iload 6, 2) := by decide +kernel
theorem dX2_splice_32 : decode cX2_splice 32 = .ok (.ineg, 1) := by decide +kernel
theorem dX2_splice_33 : decode cX2_splice 33 = .ok (.goto 5, 3) := by decide +kernel
theorem dX2_splice_36 : decode cX2_splice 36 = .ok (.iload 5, 2) := by decide +kernel
theorem dX2_splice_38 : decode cX2_splice 38 = .ok (.ireturn, 1) := by decide +kernel
set_option maxRecDepth 20000 in
theorem ggX2_loop_X2_begin : GoodIn wsX2_loop wsX2_begin := goodIn_r _ [6, 7, 8, 48, 49, 50, 51, 52, 53, 54, 55, 56, 57, 58, 59, 60, 61, 62, 63, 64, 65, 66, 67, 68, 69, 70, 71] (by decide +kernel) (by decide +kernel)
set_option maxRecDepth 20000 in
theorem gX2_loop_X2_begin : GoodIn wsX2_loop (wsV RX2 66 RX2 yX2_begin wsX2_begin) := goodIn_app (goodIn_of _ (by decide +kernel)) ggX2_loop_X2_begin
set_option maxRecDepth 20000 in
theorem ggX2_loop_X2_isSpindle : GoodIn wsX2_loop wsX2_isSpindle := goodIn_r _ [11] (by decide +kernel) (by decide +kernel)
set_option maxRecDepth 20000 in
theorem gX2_loop_X2_isSpindle : GoodIn wsX2_loop (va_wsS RX2 69 yX2_isSpindle wsX2_isSpindle) := goodIn_app (goodIn_of _ (by decide +kernel)) ggX2_loop_X2_isSpindle
set_option maxRecDepth 20000 in
theorem ggX2_loop_X2_told : GoodIn wsX2_loop wsX2_told := goodIn_r _ [15, 16, 7, 8, 48, 49, 50, 51, 52, 53, 54, 55, 56, 57, 58, 59, 60, 61, 62, 63, 64, 65, 66, 67, 68, 69, 70, 71] (by decide +kernel) (by decide +kernel)
set_option maxRecDepth 20000 in
theorem gX2_loop_X2_told : GoodIn wsX2_loop (wsV RX2 72 RX2 yX2_told wsX2_told) := goodIn_app (goodIn_of _ (by decide +kernel)) ggX2_loop_X2_told
set_option maxRecDepth 20000 in
theorem ggX2_loop_X2_spliced : GoodIn wsX2_loop wsX2_spliced := goodIn_r _ [20, 21, 22, 23, 24, 7, 25, 26, 8, 27, 2, 3, 4, 5, 6, 9, 10, 11, 28, 29, 30, 31, 32, 33, 34, 35, 36, 37, 38, 39, 40, 41, 42, 43, 44, 45, 46, 47, 48, 49, 50, 51, 52, 53, 54, 55, 56, 57, 58, 59, 60, 61, 62, 63, 64, 65, 66, 67, 68, 69, 70, 71] (by decide +kernel) (by decide +kernel)
set_option maxRecDepth 20000 in
theorem gX2_loop_X2_spliced : GoodIn wsX2_loop (wsV RX2 125 RX2 yX2_spliced wsX2_spliced) := goodIn_app (goodIn_of _ (by decide +kernel)) ggX2_loop_X2_spliced
theorem dX2_loop_0 : decode cX2_loop 0 = .ok (.aload_n 0, 1) := by decide +kernel
theorem dX2_loop_1 : decode cX2_loop 1 = .ok (.iconst 0, 1) := by decide +kernel
theorem dX2_loop_2 : decode cX2_loop 2 = .ok (.putfield 44, 3) := by decide +kernel
theorem dX2_loop_5 : decode cX2_loop 5 = .ok (.aload_n 0, 1) := by decide +kernel
theorem dX2_loop_6 : decode cX2_loop 6 = .ok (.invokevirtual 66, 3) := by decide +kernel
theorem dX2_loop_9 : decode cX2_loop 9 = .ok (.iload_n 1, 1) := by decide +kernel
theorem dX2_loop_10 : decode cX2_loop 10 = .ok (.invokestatic 69, 3) := by decide +kernel
theorem dX2_loop_13 : decode cX2_loop 13 = .ok (.ifCond .eq 15, 3) := by decide +kernel
theorem dX2_loop_16 : decode cX2_loop 16 = .ok (.iload 4, 2) := by decide +kernel
theorem dX2_loop_18 : decode cX2_loop 18 = .ok (.ifCond .lt 10, 3) := by decide +kernel
theorem dX2_loop_21 : decode cX2_loop 21 = .ok (.iload 4, 2) := by decide +kernel
theorem dX2_loop_23 : decode cX2_loop 23 = .ok (.bipush 20, 2) := by decide +kernel
theorem dX2_loop_25 : decode cX2_loop 25 = .ok (.if_icmp .le 11, 3) := by decide +kernel
theorem dX2_loop_28 : decode cX2_loop 28 = .ok (.aload_n 0, 1) := by decide +kernel
theorem dX2_loop_29 : decode cX2_loop 29 = .ok (.bipush 6, 2) := by decide +kernel
theorem dX2_loop_31 : decode cX2_loop 31 = .ok (.invokevirtual 72, 3) := by decide +kernel
theorem dX2_loop_34 : decode cX2_loop 34 = .ok (.ineg, 1) := by decide +kernel
theorem dX2_loop_35 : decode cX2_loop 35 = .ok (.ireturn, 1) := by decide +kernel
theorem dX2_loop_36 : decode cX2_loop 36 = .ok (.iconst 0, 1) := by decide +kernel
theorem dX2_loop_37 : decode cX2_loop 37 = .ok (.istore 5, 2) := by decide +kernel
theorem dX2_loop_39 : decode cX2_loop 39 = .ok (.iconst 0, 1) := by decide +kernel
theorem dX2_loop_40 : decode cX2_loop 40 = .ok (.istore 6, 2) := by decide +kernel
theorem dX2_loop_42 : decode cX2_loop 42 = .ok (.iconst 1, 1) := by decide +kernel
theorem dX2_loop_43 : decode cX2_loop 43 = .ok (.istore 7, 2) := by decide +kernel
theorem dX2_loop_45 : decode cX2_loop 45 = .ok (.iload 7, 2) := by decide +kernel
theorem dX2_loop_47 : decode cX2_loop 47 = .ok (.iload 4, 2) := by decide +kernel
theorem dX2_loop_49 : decode cX2_loop 49 = .ok (.if_icmp .gt 50, 3) := by decide +kernel
theorem dX2_loop_52 : decode cX2_loop 52 = .ok (.iload 6, 2) := by decide +kernel
theorem dX2_loop_54 : decode cX2_loop 54 = .ok (.ifCond .ne 45, 3) := by decide +kernel
theorem dX2_loop_57 : decode cX2_loop 57 = .ok (.aload_n 0, 1) := by decide +kernel
theorem dX2_loop_58 : decode cX2_loop 58 = .ok (.iload_n 1, 1) := by decide +kernel
theorem dX2_loop_59 : decode cX2_loop 59 = .ok (.iload_n 2, 1) := by decide +kernel
theorem dX2_loop_60 : decode cX2_loop 60 = .ok (.i2l, 1) := by decide +kernel
theorem dX2_loop_61 : decode cX2_loop 61 = .ok (.iload_n 1, 1) := by decide +kernel
theorem dX2_loop_62 : decode cX2_loop 62 = .ok (.iload_n 2, 1) := by decide +kernel
theorem dX2_loop_63 : decode cX2_loop 63 = .ok (.i2l, 1) := by decide +kernel
theorem dX2_loop_64 : decode cX2_loop 64 = .ok (.iload 7, 2) := by decide +kernel
theorem dX2_loop_66 : decode cX2_loop 66 = .ok (.i2l, 1) := by decide +kernel
theorem dX2_loop_67 : decode cX2_loop 67 = .ok (.iload_n 3, 1) := by decide +kernel
theorem dX2_loop_68 : decode cX2_loop 68 = .ok (.i2l, 1) := by decide +kernel
theorem dX2_loop_69 : decode cX2_loop 69 = .ok (.lmul, 1) := by decide +kernel
theorem dX2_loop_70 : decode cX2_loop 70 = .ok (.ladd, 1) := by decide +kernel
theorem dX2_loop_71 : decode cX2_loop 71 = .ok (.iload_n 3, 1) := by decide +kernel
theorem dX2_loop_72 : decode cX2_loop 72 = .ok (.i2l, 1) := by decide +kernel
theorem dX2_loop_73 : decode cX2_loop 73 = .ok (.invokevirtual 125, 3) := by decide +kernel
theorem dX2_loop_76 : decode cX2_loop 76 = .ok (.istore 6, 2) := by decide +kernel
theorem dX2_loop_78 : decode cX2_loop 78 = .ok (.iload 5, 2) := by decide +kernel
theorem dX2_loop_80 : decode cX2_loop 80 = .ok (.iload 6, 2) := by decide +kernel
theorem dX2_loop_82 : decode cX2_loop 82 = .ok (.ifCond .ne 7, 3) := by decide +kernel
theorem dX2_loop_85 : decode cX2_loop 85 = .ok (.iconst 1, 1) := by decide +kernel
theorem dX2_loop_86 : decode cX2_loop 86 = .ok (.goto 4, 3) := by decide +kernel
theorem dX2_loop_89 : decode cX2_loop 89 = .ok (.iconst 0, 1) := by decide +kernel
theorem dX2_loop_90 : decode cX2_loop 90 = .ok (.iadd, 1) := by decide +kernel
theorem dX2_loop_91 : decode cX2_loop 91 = .ok (.istore 5, 2) := by decide +kernel
theorem dX2_loop_93 : decode cX2_loop 93 = .ok (.iinc 7 1, 3) := by decide +kernel
theorem dX2_loop_96 : decode cX2_loop 96 = .ok (.goto (-51), 3) := by decide +kernel
theorem dX2_loop_99 : decode cX2_loop 99 = .ok (.aload_n 0, 1) := by decide +kernel
theorem dX2_loop_100 : decode cX2_loop 100 = .ok (.iload 6, 2) := by decide +kernel
theorem dX2_loop_102 : decode cX2_loop 102 = .ok (.invokevirtual 72, 3) := by decide +kernel
theorem dX2_loop_105 : decode cX2_loop 105 = .ok (.pop, 1) := by decide +kernel
theorem dX2_loop_106 : decode cX2_loop 106 = .ok (.iload 5, 2) := by decide +kernel
theorem dX2_loop_108 : decode cX2_loop 108 = .ok (.ireturn, 1) := by decide +kernel
theorem dX2_note_0 : decode cX2_note 0 = .ok (.aload_n 0, 1) := by decide +kernel
theorem dX2_note_1 : decode cX2_note 1 = .ok (.iconst 0, 1) := by decide +kernel
theorem dX2_note_2 : decode cX2_note 2 = .ok (.putfield 44, 3) := by decide +kernel
theorem dX2_note_5 : decode cX2_note 5 = .ok (.aload_n 0, 1) := by decide +kernel
theorem dX2_note_6 : decode cX2_note 6 = .ok (.getfield 129, 3) := by decide +kernel
theorem dX2_note_9 : decode cX2_note 9 = .ok (.bipush 16, 2) := by decide +kernel
theorem dX2_note_11 : decode cX2_note 11 = .ok (.if_icmp .ne 5, 3) := by decide +kernel
theorem dX2_note_14 : decode cX2_note 14 = .ok (.iconst (-1), 1) := by decide +kernel
theorem dX2_note_15 : decode cX2_note 15 = .ok (.ireturn, 1) := by decide +kernel
theorem dX2_note_16 : decode cX2_note 16 = .ok (.aload_n 0, 1) := by decide +kernel
theorem dX2_note_17 : decode cX2_note 17 = .ok (.getfield 35, 3) := by decide +kernel
theorem dX2_note_20 : decode cX2_note 20 = .ok (.iconst 5, 1) := by decide +kernel
theorem dX2_note_21 : decode cX2_note 21 = .ok (.aload_n 0, 1) := by decide +kernel
theorem dX2_note_22 : decode cX2_note 22 = .ok (.getfield 129, 3) := by decide +kernel
theorem dX2_note_25 : decode cX2_note 25 = .ok (.imul, 1) := by decide +kernel
theorem dX2_note_26 : decode cX2_note 26 = .ok (.iload_n 1, 1) := by decide +kernel
theorem dX2_note_27 : decode cX2_note 27 = .ok (.iastore, 1) := by decide +kernel
theorem dX2_note_28 : decode cX2_note 28 = .ok (.aload_n 0, 1) := by decide +kernel
theorem dX2_note_29 : decode cX2_note 29 = .ok (.getfield 35, 3) := by decide +kernel
theorem dX2_note_32 : decode cX2_note 32 = .ok (.iconst 5, 1) := by decide +kernel
theorem dX2_note_33 : decode cX2_note 33 = .ok (.aload_n 0, 1) := by decide +kernel
theorem dX2_note_34 : decode cX2_note 34 = .ok (.getfield 129, 3) := by decide +kernel
theorem dX2_note_37 : decode cX2_note 37 = .ok (.imul, 1) := by decide +kernel
theorem dX2_note_38 : decode cX2_note 38 = .ok (.iconst 1, 1) := by decide +kernel
theorem dX2_note_39 : decode cX2_note 39 = .ok (.iadd, 1) := by decide +kernel
theorem dX2_note_40 : decode cX2_note 40 = .ok (.iload_n 2, 1) := by decide +kernel
theorem dX2_note_41 : decode cX2_note 41 = .ok (.iastore, 1) := by decide +kernel
theorem dX2_note_42 : decode cX2_note 42 = .ok (.aload_n 0, 1) := by decide +kernel
theorem dX2_note_43 : decode cX2_note 43 = .ok (.getfield 35, 3) := by decide +kernel
theorem dX2_note_46 : decode cX2_note 46 = .ok (.iconst 5, 1) := by decide +kernel
theorem dX2_note_47 : decode cX2_note 47 = .ok (.aload_n 0, 1) := by decide +kernel
theorem dX2_note_48 : decode cX2_note 48 = .ok (.getfield 129, 3) := by decide +kernel
theorem dX2_note_51 : decode cX2_note 51 = .ok (.imul, 1) := by decide +kernel
theorem dX2_note_52 : decode cX2_note 52 = .ok (.iconst 2, 1) := by decide +kernel
theorem dX2_note_53 : decode cX2_note 53 = .ok (.iadd, 1) := by decide +kernel
theorem dX2_note_54 : decode cX2_note 54 = .ok (.iload_n 3, 1) := by decide +kernel
theorem dX2_note_55 : decode cX2_note 55 = .ok (.iastore, 1) := by decide +kernel
theorem dX2_note_56 : decode cX2_note 56 = .ok (.aload_n 0, 1) := by decide +kernel
theorem dX2_note_57 : decode cX2_note 57 = .ok (.getfield 35, 3) := by decide +kernel
theorem dX2_note_60 : decode cX2_note 60 = .ok (.iconst 5, 1) := by decide +kernel
theorem dX2_note_61 : decode cX2_note 61 = .ok (.aload_n 0, 1) := by decide +kernel
theorem dX2_note_62 : decode cX2_note 62 = .ok (.getfield 129, 3) := by decide +kernel
theorem dX2_note_65 : decode cX2_note 65 = .ok (.imul, 1) := by decide +kernel
theorem dX2_note_66 : decode cX2_note 66 = .ok (.iconst 3, 1) := by decide +kernel
theorem dX2_note_67 : decode cX2_note 67 = .ok (.iadd, 1) := by decide +kernel
theorem dX2_note_68 : decode cX2_note 68 = .ok (.iload 4, 2) := by decide +kernel
theorem dX2_note_70 : decode cX2_note 70 = .ok (.iastore, 1) := by decide +kernel
theorem dX2_note_71 : decode cX2_note 71 = .ok (.aload_n 0, 1) := by decide +kernel
theorem dX2_note_72 : decode cX2_note 72 = .ok (.getfield 35, 3) := by decide +kernel
theorem dX2_note_75 : decode cX2_note 75 = .ok (.iconst 5, 1) := by decide +kernel
theorem dX2_note_76 : decode cX2_note 76 = .ok (.aload_n 0, 1) := by decide +kernel
theorem dX2_note_77 : decode cX2_note 77 = .ok (.getfield 129, 3) := by decide +kernel
theorem dX2_note_80 : decode cX2_note 80 = .ok (.imul, 1) := by decide +kernel
theorem dX2_note_81 : decode cX2_note 81 = .ok (.iconst 4, 1) := by decide +kernel
theorem dX2_note_82 : decode cX2_note 82 = .ok (.iadd, 1) := by decide +kernel
theorem dX2_note_83 : decode cX2_note 83 = .ok (.iload 5, 2) := by decide +kernel
theorem dX2_note_85 : decode cX2_note 85 = .ok (.iastore, 1) := by decide +kernel
theorem dX2_note_86 : decode cX2_note 86 = .ok (.aload_n 0, 1) := by decide +kernel
theorem dX2_note_87 : decode cX2_note 87 = .ok (.dup, 1) := by decide +kernel
theorem dX2_note_88 : decode cX2_note 88 = .ok (.getfield 129, 3) := by decide +kernel
theorem dX2_note_91 : decode cX2_note 91 = .ok (.iconst 1, 1) := by decide +kernel
theorem dX2_note_92 : decode cX2_note 92 = .ok (.iadd, 1) := by decide +kernel
theorem dX2_note_93 : decode cX2_note 93 = .ok (.putfield 129, 3) := by decide +kernel
theorem dX2_note_96 : decode cX2_note 96 = .ok (.aload_n 0, 1) := by decide +kernel
theorem dX2_note_97 : decode cX2_note 97 = .ok (.getfield 129, 3) := by decide +kernel
theorem dX2_note_100 : decode cX2_note 100 = .ok (.ireturn, 1) := by decide +kernel
set_option maxRecDepth 20000 in
theorem ggX2_play_X2_begin : GoodIn wsX2_play wsX2_begin := goodIn_r _ [8, 9, 10, 50, 51, 52, 53, 54, 55, 56, 57, 58, 59, 60, 61, 62, 63, 64, 65, 66, 67, 68, 69, 70, 71, 72, 73] (by decide +kernel) (by decide +kernel)
set_option maxRecDepth 20000 in
theorem gX2_play_X2_begin : GoodIn wsX2_play (wsV RX2 66 RX2 yX2_begin wsX2_begin) := goodIn_app (goodIn_of _ (by decide +kernel)) ggX2_play_X2_begin
set_option maxRecDepth 20000 in
theorem ggX2_play_X2_spliced : GoodIn wsX2_play wsX2_spliced := goodIn_r _ [14, 15, 16, 17, 18, 9, 19, 20, 10, 21, 4, 5, 6, 7, 8, 22, 23, 24, 25, 26, 27, 28, 29, 30, 31, 32, 33, 34, 35, 36, 37, 38, 39, 40, 41, 42, 43, 44, 50, 51, 52, 53, 54, 55, 56, 57, 58, 59, 60, 61, 62, 63, 64, 65, 66, 67, 68, 69, 70, 71, 72, 73] (by decide +kernel) (by decide +kernel)
set_option maxRecDepth 20000 in
theorem gX2_play_X2_spliced : GoodIn wsX2_play (wsV RX2 125 RX2 yX2_spliced wsX2_spliced) := goodIn_app (goodIn_of _ (by decide +kernel)) ggX2_play_X2_spliced
set_option maxRecDepth 20000 in
theorem ggX2_play_X2_told : GoodIn wsX2_play wsX2_told := goodIn_r _ [48, 49, 9, 10, 50, 51, 52, 53, 54, 55, 56, 57, 58, 59, 60, 61, 62, 63, 64, 65, 66, 67, 68, 69, 70, 71, 72, 73] (by decide +kernel) (by decide +kernel)
set_option maxRecDepth 20000 in
theorem gX2_play_X2_told : GoodIn wsX2_play (wsV RX2 72 RX2 yX2_told wsX2_told) := goodIn_app (goodIn_of _ (by decide +kernel)) ggX2_play_X2_told
theorem dX2_play_0 : decode cX2_play 0 = .ok (.aload_n 0, 1) := by decide +kernel
theorem dX2_play_1 : decode cX2_play 1 = .ok (.iconst 0, 1) := by decide +kernel
theorem dX2_play_2 : decode cX2_play 2 = .ok (.putfield 44, 3) := by decide +kernel
theorem dX2_play_5 : decode cX2_play 5 = .ok (.aload_n 0, 1) := by decide +kernel
theorem dX2_play_6 : decode cX2_play 6 = .ok (.invokevirtual 66, 3) := by decide +kernel
theorem dX2_play_9 : decode cX2_play 9 = .ok (.iconst 0, 1) := by decide +kernel
theorem dX2_play_10 : decode cX2_play 10 = .ok (.istore_n 1, 1) := by decide +kernel
theorem dX2_play_11 : decode cX2_play 11 = .ok (.iconst 0, 1) := by decide +kernel
theorem dX2_play_12 : decode cX2_play 12 = .ok (.istore_n 2, 1) := by decide +kernel
theorem dX2_play_13 : decode cX2_play 13 = .ok (.iload_n 1, 1) := by decide +kernel
theorem dX2_play_14 : decode cX2_play 14 = .ok (.aload_n 0, 1) := by decide +kernel
theorem dX2_play_15 : decode cX2_play 15 = .ok (.getfield 129, 3) := by decide +kernel
theorem dX2_play_18 : decode cX2_play 18 = .ok (.if_icmp .ge 78, 3) := by decide +kernel
theorem dX2_play_21 : decode cX2_play 21 = .ok (.iload_n 2, 1) := by decide +kernel
theorem dX2_play_22 : decode cX2_play 22 = .ok (.ifCond .ne 74, 3) := by decide +kernel
theorem dX2_play_25 : decode cX2_play 25 = .ok (.aload_n 0, 1) := by decide +kernel
theorem dX2_play_26 : decode cX2_play 26 = .ok (.aload_n 0, 1) := by decide +kernel
theorem dX2_play_27 : decode cX2_play 27 = .ok (.getfield 35, 3) := by decide +kernel
theorem dX2_play_30 : decode cX2_play 30 = .ok (.iconst 5, 1) := by decide +kernel
theorem dX2_play_31 : decode cX2_play 31 = .ok (.iload_n 1, 1) := by decide +kernel
theorem dX2_play_32 : decode cX2_play 32 = .ok (.imul, 1) := by decide +kernel
theorem dX2_play_33 : decode cX2_play 33 = .ok (.iaload, 1) := by decide +kernel
theorem dX2_play_34 : decode cX2_play 34 = .ok (.aload_n 0, 1) := by decide +kernel
theorem dX2_play_35 : decode cX2_play 35 = .ok (.getfield 35, 3) := by decide +kernel
theorem dX2_play_38 : decode cX2_play 38 = .ok (.iconst 5, 1) := by decide +kernel
theorem dX2_play_39 : decode cX2_play 39 = .ok (.iload_n 1, 1) := by decide +kernel
theorem dX2_play_40 : decode cX2_play 40 = .ok (.imul, 1) := by decide +kernel
theorem dX2_play_41 : decode cX2_play 41 = .ok (.iconst 1, 1) := by decide +kernel
theorem dX2_play_42 : decode cX2_play 42 = .ok (.iadd, 1) := by decide +kernel
theorem dX2_play_43 : decode cX2_play 43 = .ok (.iaload, 1) := by decide +kernel
theorem dX2_play_44 : decode cX2_play 44 = .ok (.i2l, 1) := by decide +kernel
theorem dX2_play_45 : decode cX2_play 45 = .ok (.aload_n 0, 1) := by decide +kernel
theorem dX2_play_46 : decode cX2_play 46 = .ok (.getfield 35, 3) := by decide +kernel
theorem dX2_play_49 : decode cX2_play 49 = .ok (.iconst 5, 1) := by decide +kernel
theorem dX2_play_50 : decode cX2_play 50 = .ok (.iload_n 1, 1) := by decide +kernel
theorem dX2_play_51 : decode cX2_play 51 = .ok (.imul, 1) := by decide +kernel
theorem dX2_play_52 : decode cX2_play 52 = .ok (.iconst 2, 1) := by decide +kernel
theorem dX2_play_53 : decode cX2_play 53 = .ok (.iadd, 1) := by decide +kernel
theorem dX2_play_54 : decode cX2_play 54 = .ok (.iaload, 1) := by decide +kernel
theorem dX2_play_55 : decode cX2_play 55 = .ok (.aload_n 0, 1) := by decide +kernel
theorem dX2_play_56 : decode cX2_play 56 = .ok (.getfield 35, 3) := by decide +kernel
theorem dX2_play_59 : decode cX2_play 59 = .ok (.iconst 5, 1) := by decide +kernel
theorem dX2_play_60 : decode cX2_play 60 = .ok (.iload_n 1, 1) := by decide +kernel
theorem dX2_play_61 : decode cX2_play 61 = .ok (.imul, 1) := by decide +kernel
theorem dX2_play_62 : decode cX2_play 62 = .ok (.iconst 3, 1) := by decide +kernel
theorem dX2_play_63 : decode cX2_play 63 = .ok (.iadd, 1) := by decide +kernel
theorem dX2_play_64 : decode cX2_play 64 = .ok (.iaload, 1) := by decide +kernel
theorem dX2_play_65 : decode cX2_play 65 = .ok (.i2l, 1) := by decide +kernel
theorem dX2_play_66 : decode cX2_play 66 = .ok (.aload_n 0, 1) := by decide +kernel
theorem dX2_play_67 : decode cX2_play 67 = .ok (.getfield 35, 3) := by decide +kernel
theorem dX2_play_70 : decode cX2_play 70 = .ok (.iconst 5, 1) := by decide +kernel
theorem dX2_play_71 : decode cX2_play 71 = .ok (.iload_n 1, 1) := by decide +kernel
theorem dX2_play_72 : decode cX2_play 72 = .ok (.imul, 1) := by decide +kernel
theorem dX2_play_73 : decode cX2_play 73 = .ok (.iconst 4, 1) := by decide +kernel
theorem dX2_play_74 : decode cX2_play 74 = .ok (.iadd, 1) := by decide +kernel
theorem dX2_play_75 : decode cX2_play 75 = .ok (.iaload, 1) := by decide +kernel
theorem dX2_play_76 : decode cX2_play 76 = .ok (.i2l, 1) := by decide +kernel
theorem dX2_play_77 : decode cX2_play 77 = .ok (.invokevirtual 125, 3) := by decide +kernel
theorem dX2_play_80 : decode cX2_play 80 = .ok (.istore_n 2, 1) := by decide +kernel
theorem dX2_play_81 : decode cX2_play 81 = .ok (.iload_n 1, 1) := by decide +kernel
theorem dX2_play_82 : decode cX2_play 82 = .ok (.iload_n 2, 1) := by decide +kernel
theorem dX2_play_83 : decode cX2_play 83 = .ok (.ifCond .ne 7, 3) := by decide +kernel
theorem dX2_play_86 : decode cX2_play 86 = .ok (.iconst 1, 1) := by decide +kernel
theorem dX2_play_87 : decode cX2_play 87 = .ok (.goto 4, 3) := by decide +kernel
theorem dX2_play_90 : decode cX2_play 90 = .ok (.iconst 0, 1) := by decide +kernel
theorem dX2_play_91 : decode cX2_play 91 = .ok (.iadd, 1) := by decide +kernel
theorem dX2_play_92 : decode cX2_play 92 = .ok (.istore_n 1, 1) := by decide +kernel
theorem dX2_play_93 : decode cX2_play 93 = .ok (.goto (-80), 3) := by decide +kernel
theorem dX2_play_96 : decode cX2_play 96 = .ok (.iconst 5, 1) := by decide +kernel
theorem dX2_play_97 : decode cX2_play 97 = .ok (.iload_n 1, 1) := by decide +kernel
theorem dX2_play_98 : decode cX2_play 98 = .ok (.imul, 1) := by decide +kernel
theorem dX2_play_99 : decode cX2_play 99 = .ok (.istore_n 3, 1) := by decide +kernel
theorem dX2_play_100 : decode cX2_play 100 = .ok (.iload_n 3, 1) := by decide +kernel
theorem dX2_play_101 : decode cX2_play 101 = .ok (.iconst 5, 1) := by decide +kernel
theorem dX2_play_102 : decode cX2_play 102 = .ok (.aload_n 0, 1) := by decide +kernel
theorem dX2_play_103 : decode cX2_play 103 = .ok (.getfield 129, 3) := by decide +kernel
theorem dX2_play_106 : decode cX2_play 106 = .ok (.imul, 1) := by decide +kernel
theorem dX2_play_107 : decode cX2_play 107 = .ok (.if_icmp .ge 25, 3) := by decide +kernel
theorem dX2_play_110 : decode cX2_play 110 = .ok (.aload_n 0, 1) := by decide +kernel
theorem dX2_play_111 : decode cX2_play 111 = .ok (.getfield 35, 3) := by decide +kernel
theorem dX2_play_114 : decode cX2_play 114 = .ok (.iload_n 3, 1) := by decide +kernel
theorem dX2_play_115 : decode cX2_play 115 = .ok (.iconst 5, 1) := by decide +kernel
theorem dX2_play_116 : decode cX2_play 116 = .ok (.iload_n 1, 1) := by decide +kernel
theorem dX2_play_117 : decode cX2_play 117 = .ok (.imul, 1) := by decide +kernel
theorem dX2_play_118 : decode cX2_play 118 = .ok (.isub, 1) := by decide +kernel
theorem dX2_play_119 : decode cX2_play 119 = .ok (.aload_n 0, 1) := by decide +kernel
theorem dX2_play_120 : decode cX2_play 120 = .ok (.getfield 35, 3) := by decide +kernel
theorem dX2_play_123 : decode cX2_play 123 = .ok (.iload_n 3, 1) := by decide +kernel
theorem dX2_play_124 : decode cX2_play 124 = .ok (.iaload, 1) := by decide +kernel
theorem dX2_play_125 : decode cX2_play 125 = .ok (.iastore, 1) := by decide +kernel
theorem dX2_play_126 : decode cX2_play 126 = .ok (.iinc 3 1, 3) := by decide +kernel
theorem dX2_play_129 : decode cX2_play 129 = .ok (.goto (-29), 3) := by decide +kernel
theorem dX2_play_132 : decode cX2_play 132 = .ok (.aload_n 0, 1) := by decide +kernel
theorem dX2_play_133 : decode cX2_play 133 = .ok (.dup, 1) := by decide +kernel
theorem dX2_play_134 : decode cX2_play 134 = .ok (.getfield 129, 3) := by decide +kernel
theorem dX2_play_137 : decode cX2_play 137 = .ok (.iload_n 1, 1) := by decide +kernel
theorem dX2_play_138 : decode cX2_play 138 = .ok (.isub, 1) := by decide +kernel
theorem dX2_play_139 : decode cX2_play 139 = .ok (.putfield 129, 3) := by decide +kernel
theorem dX2_play_142 : decode cX2_play 142 = .ok (.aload_n 0, 1) := by decide +kernel
theorem dX2_play_143 : decode cX2_play 143 = .ok (.iload_n 2, 1) := by decide +kernel
theorem dX2_play_144 : decode cX2_play 144 = .ok (.invokevirtual 72, 3) := by decide +kernel
theorem dX2_play_147 : decode cX2_play 147 = .ok (.pop, 1) := by decide +kernel
theorem dX2_play_148 : decode cX2_play 148 = .ok (.iload_n 1, 1) := by decide +kernel
theorem dX2_play_149 : decode cX2_play 149 = .ok (.ireturn, 1) := by decide +kernel
theorem dX2_takeBack_0 : decode cX2_takeBack 0 = .ok (.aload_n 0, 1) := by decide +kernel
theorem dX2_takeBack_1 : decode cX2_takeBack 1 = .ok (.iconst 0, 1) := by decide +kernel
theorem dX2_takeBack_2 : decode cX2_takeBack 2 = .ok (.putfield 44, 3) := by decide +kernel
theorem dX2_takeBack_5 : decode cX2_takeBack 5 = .ok (.aload_n 0, 1) := by decide +kernel
theorem dX2_takeBack_6 : decode cX2_takeBack 6 = .ok (.getfield 96, 3) := by decide +kernel
theorem dX2_takeBack_9 : decode cX2_takeBack 9 = .ok (.istore_n 1, 1) := by decide +kernel
theorem dX2_takeBack_10 : decode cX2_takeBack 10 = .ok (.iconst 0, 1) := by decide +kernel
theorem dX2_takeBack_11 : decode cX2_takeBack 11 = .ok (.istore_n 2, 1) := by decide +kernel
theorem dX2_takeBack_12 : decode cX2_takeBack 12 = .ok (.iload_n 2, 1) := by decide +kernel
theorem dX2_takeBack_13 : decode cX2_takeBack 13 = .ok (.iload_n 1, 1) := by decide +kernel
theorem dX2_takeBack_14 : decode cX2_takeBack 14 = .ok (.if_icmp .ge 34, 3) := by decide +kernel
theorem dX2_takeBack_17 : decode cX2_takeBack 17 = .ok (.aload_n 0, 1) := by decide +kernel
theorem dX2_takeBack_18 : decode cX2_takeBack 18 = .ok (.getfield 16, 3) := by decide +kernel
theorem dX2_takeBack_21 : decode cX2_takeBack 21 = .ok (.bipush 24, 2) := by decide +kernel
theorem dX2_takeBack_23 : decode cX2_takeBack 23 = .ok (.aload_n 0, 1) := by decide +kernel
theorem dX2_takeBack_24 : decode cX2_takeBack 24 = .ok (.getfield 116, 3) := by decide +kernel
theorem dX2_takeBack_27 : decode cX2_takeBack 27 = .ok (.imul, 1) := by decide +kernel
theorem dX2_takeBack_28 : decode cX2_takeBack 28 = .ok (.aload_n 0, 1) := by decide +kernel
theorem dX2_takeBack_29 : decode cX2_takeBack 29 = .ok (.getfield 119, 3) := by decide +kernel
theorem dX2_takeBack_32 : decode cX2_takeBack 32 = .ok (.iadd, 1) := by decide +kernel
theorem dX2_takeBack_33 : decode cX2_takeBack 33 = .ok (.iload_n 2, 1) := by decide +kernel
theorem dX2_takeBack_34 : decode cX2_takeBack 34 = .ok (.iadd, 1) := by decide +kernel
theorem dX2_takeBack_35 : decode cX2_takeBack 35 = .ok (.aload_n 0, 1) := by decide +kernel
theorem dX2_takeBack_36 : decode cX2_takeBack 36 = .ok (.getfield 38, 3) := by decide +kernel
theorem dX2_takeBack_39 : decode cX2_takeBack 39 = .ok (.iload_n 2, 1) := by decide +kernel
theorem dX2_takeBack_40 : decode cX2_takeBack 40 = .ok (.laload, 1) := by decide +kernel
theorem dX2_takeBack_41 : decode cX2_takeBack 41 = .ok (.lastore, 1) := by decide +kernel
theorem dX2_takeBack_42 : decode cX2_takeBack 42 = .ok (.iinc 2 1, 3) := by decide +kernel
theorem dX2_takeBack_45 : decode cX2_takeBack 45 = .ok (.goto (-33), 3) := by decide +kernel
theorem dX2_takeBack_48 : decode cX2_takeBack 48 = .ok (.aload_n 0, 1) := by decide +kernel
theorem dX2_takeBack_49 : decode cX2_takeBack 49 = .ok (.iconst 0, 1) := by decide +kernel
theorem dX2_takeBack_50 : decode cX2_takeBack 50 = .ok (.putfield 96, 3) := by decide +kernel
theorem dX2_takeBack_53 : decode cX2_takeBack 53 = .ok (.iload_n 1, 1) := by decide +kernel
theorem dX2_takeBack_54 : decode cX2_takeBack 54 = .ok (.ireturn, 1) := by decide +kernel
set_option maxRecDepth 20000 in
theorem ggX2_noGap_X2_begin : GoodIn wsX2_noGap wsX2_begin := goodIn_r _ [9, 4, 10, 22, 23, 24, 25, 26, 27, 28, 29, 30, 31, 32, 33, 34, 35, 36, 37, 38, 39, 40, 41, 42, 43, 44, 45] (by decide +kernel) (by decide +kernel)
set_option maxRecDepth 20000 in
theorem gX2_noGap_X2_begin : GoodIn wsX2_noGap (wsV RX2 66 RX2 yX2_begin wsX2_begin) := goodIn_app (goodIn_of _ (by decide +kernel)) ggX2_noGap_X2_begin
set_option maxRecDepth 20000 in
theorem ggX2_noGap_X2_noReel : GoodIn wsX2_noGap wsX2_noReel := goodIn_r _ [14, 15, 16, 17, 8, 18, 22, 23, 24, 25, 26, 27, 28, 29, 30, 31, 32, 33, 34, 35, 36, 37, 38, 39, 40, 41, 42, 43, 44, 45] (by decide +kernel) (by decide +kernel)
set_option maxRecDepth 20000 in
theorem gX2_noGap_X2_noReel : GoodIn wsX2_noGap (wsV RX2 87 RX2 yX2_noReel wsX2_noReel) := goodIn_app (goodIn_of _ (by decide +kernel)) ggX2_noGap_X2_noReel
set_option maxRecDepth 20000 in
theorem ggX2_noGap_X2_wayOf : GoodIn wsX2_noGap wsX2_wayOf := goodIn_r _ [21] (by decide +kernel) (by decide +kernel)
set_option maxRecDepth 20000 in
theorem gX2_noGap_X2_wayOf : GoodIn wsX2_noGap (va_wsS RX2 106 yX2_wayOf wsX2_wayOf) := goodIn_app (goodIn_of _ (by decide +kernel)) ggX2_noGap_X2_wayOf
theorem dX2_noGap_0 : decode cX2_noGap 0 = .ok (.aload_n 0, 1) := by decide +kernel
theorem dX2_noGap_1 : decode cX2_noGap 1 = .ok (.invokevirtual 66, 3) := by decide +kernel
theorem dX2_noGap_4 : decode cX2_noGap 4 = .ok (.aload_n 0, 1) := by decide +kernel
theorem dX2_noGap_5 : decode cX2_noGap 5 = .ok (.iload_n 1, 1) := by decide +kernel
theorem dX2_noGap_6 : decode cX2_noGap 6 = .ok (.invokevirtual 87, 3) := by decide +kernel
theorem dX2_noGap_9 : decode cX2_noGap 9 = .ok (.istore 4, 2) := by decide +kernel
theorem dX2_noGap_11 : decode cX2_noGap 11 = .ok (.iload 4, 2) := by decide +kernel
theorem dX2_noGap_13 : decode cX2_noGap 13 = .ok (.ifCond .le 6, 3) := by decide +kernel
theorem dX2_noGap_16 : decode cX2_noGap 16 = .ok (.iload 4, 2) := by decide +kernel
theorem dX2_noGap_18 : decode cX2_noGap 18 = .ok (.ireturn, 1) := by decide +kernel
theorem dX2_noGap_19 : decode cX2_noGap 19 = .ok (.aload_n 0, 1) := by decide +kernel
theorem dX2_noGap_20 : decode cX2_noGap 20 = .ok (.iload_n 2, 1) := by decide +kernel
theorem dX2_noGap_21 : decode cX2_noGap 21 = .ok (.i2l, 1) := by decide +kernel
theorem dX2_noGap_22 : decode cX2_noGap 22 = .ok (.lconst 0, 1) := by decide +kernel
theorem dX2_noGap_23 : decode cX2_noGap 23 = .ok (.iload_n 3, 1) := by decide +kernel
theorem dX2_noGap_24 : decode cX2_noGap 24 = .ok (.i2l, 1) := by decide +kernel
theorem dX2_noGap_25 : decode cX2_noGap 25 = .ok (.aload_n 0, 1) := by decide +kernel
theorem dX2_noGap_26 : decode cX2_noGap 26 = .ok (.getfield 13, 3) := by decide +kernel
theorem dX2_noGap_29 : decode cX2_noGap 29 = .ok (.aload_n 0, 1) := by decide +kernel
theorem dX2_noGap_30 : decode cX2_noGap 30 = .ok (.getfield 23, 3) := by decide +kernel
theorem dX2_noGap_33 : decode cX2_noGap 33 = .ok (.iload_n 1, 1) := by decide +kernel
theorem dX2_noGap_34 : decode cX2_noGap 34 = .ok (.iaload, 1) := by decide +kernel
theorem dX2_noGap_35 : decode cX2_noGap 35 = .ok (.iaload, 1) := by decide +kernel
theorem dX2_noGap_36 : decode cX2_noGap 36 = .ok (.ldc 132, 2) := by decide +kernel
theorem dX2_noGap_38 : decode cX2_noGap 38 = .ok (.invokestatic 106, 3) := by decide +kernel
theorem dX2_noGap_41 : decode cX2_noGap 41 = .ok (.putfield 51, 3) := by decide +kernel
theorem dX2_noGap_44 : decode cX2_noGap 44 = .ok (.aload_n 0, 1) := by decide +kernel
theorem dX2_noGap_45 : decode cX2_noGap 45 = .ok (.getfield 51, 3) := by decide +kernel
theorem dX2_noGap_48 : decode cX2_noGap 48 = .ok (.ifCond .le 7, 3) := by decide +kernel
theorem dX2_noGap_51 : decode cX2_noGap 51 = .ok (.iconst 4, 1) := by decide +kernel
theorem dX2_noGap_52 : decode cX2_noGap 52 = .ok (.goto 4, 3) := by decide +kernel
theorem dX2_noGap_55 : decode cX2_noGap 55 = .ok (.iconst 0, 1) := by decide +kernel
theorem dX2_noGap_56 : decode cX2_noGap 56 = .ok (.ireturn, 1) := by decide +kernel
set_option maxRecDepth 20000 in
theorem ggX2_open_X2_noGap : GoodIn wsX2_open wsX2_noGap := goodIn_r _ [12, 3, 2, 13, 14, 15, 16, 17, 11, 18, 19, 20, 21, 22, 23, 24, 25, 26, 27, 28, 29, 30, 39, 40, 41, 42, 43, 44, 45, 46, 47, 48, 49, 50, 51, 52, 53, 54, 55, 56, 57, 58, 59, 60, 61, 62] (by decide +kernel) (by decide +kernel)
set_option maxRecDepth 20000 in
theorem gX2_open_X2_noGap : GoodIn wsX2_open (wsV RX2 133 RX2 yX2_noGap wsX2_noGap) := goodIn_app (goodIn_of _ (by decide +kernel)) ggX2_open_X2_noGap
set_option maxRecDepth 20000 in
theorem ggX2_open_X2_told : GoodIn wsX2_open wsX2_told := goodIn_r _ [34, 35, 14, 19, 39, 40, 41, 42, 43, 44, 45, 46, 47, 48, 49, 50, 51, 52, 53, 54, 55, 56, 57, 58, 59, 60, 61, 62] (by decide +kernel) (by decide +kernel)
set_option maxRecDepth 20000 in
theorem gX2_open_X2_told : GoodIn wsX2_open (wsV RX2 72 RX2 yX2_told wsX2_told) := goodIn_app (goodIn_of _ (by decide +kernel)) ggX2_open_X2_told
set_option maxRecDepth 20000 in
theorem ggX2_open_X2_isOfNumbers : GoodIn wsX2_open wsX2_isOfNumbers := goodIn_r _ [38] (by decide +kernel) (by decide +kernel)
set_option maxRecDepth 20000 in
theorem gX2_open_X2_isOfNumbers : GoodIn wsX2_open (va_wsS RX2 60 yX2_isOfNumbers wsX2_isOfNumbers) := goodIn_app (goodIn_of _ (by decide +kernel)) ggX2_open_X2_isOfNumbers
theorem dX2_open_0 : decode cX2_open 0 = .ok (.aload_n 0, 1) := by decide +kernel
theorem dX2_open_1 : decode cX2_open 1 = .ok (.iconst 0, 1) := by decide +kernel
theorem dX2_open_2 : decode cX2_open 2 = .ok (.putfield 44, 3) := by decide +kernel
theorem dX2_open_5 : decode cX2_open 5 = .ok (.aload_n 0, 1) := by decide +kernel
theorem dX2_open_6 : decode cX2_open 6 = .ok (.iload_n 1, 1) := by decide +kernel
theorem dX2_open_7 : decode cX2_open 7 = .ok (.iload_n 2, 1) := by decide +kernel
theorem dX2_open_8 : decode cX2_open 8 = .ok (.iload_n 3, 1) := by decide +kernel
theorem dX2_open_9 : decode cX2_open 9 = .ok (.invokevirtual 133, 3) := by decide +kernel
theorem dX2_open_12 : decode cX2_open 12 = .ok (.istore 4, 2) := by decide +kernel
theorem dX2_open_14 : decode cX2_open 14 = .ok (.iload 4, 2) := by decide +kernel
theorem dX2_open_16 : decode cX2_open 16 = .ok (.ifCond .le 11, 3) := by decide +kernel
theorem dX2_open_19 : decode cX2_open 19 = .ok (.aload_n 0, 1) := by decide +kernel
theorem dX2_open_20 : decode cX2_open 20 = .ok (.iload 4, 2) := by decide +kernel
theorem dX2_open_22 : decode cX2_open 22 = .ok (.invokevirtual 72, 3) := by decide +kernel
theorem dX2_open_25 : decode cX2_open 25 = .ok (.ineg, 1) := by decide +kernel
theorem dX2_open_26 : decode cX2_open 26 = .ok (.ireturn, 1) := by decide +kernel
theorem dX2_open_27 : decode cX2_open 27 = .ok (.aload_n 0, 1) := by decide +kernel
theorem dX2_open_28 : decode cX2_open 28 = .ok (.getfield 23, 3) := by decide +kernel
theorem dX2_open_31 : decode cX2_open 31 = .ok (.iload_n 1, 1) := by decide +kernel
theorem dX2_open_32 : decode cX2_open 32 = .ok (.iaload, 1) := by decide +kernel
theorem dX2_open_33 : decode cX2_open 33 = .ok (.istore 5, 2) := by decide +kernel
theorem dX2_open_35 : decode cX2_open 35 = .ok (.aload_n 0, 1) := by decide +kernel
theorem dX2_open_36 : decode cX2_open 36 = .ok (.getfield 13, 3) := by decide +kernel
theorem dX2_open_39 : decode cX2_open 39 = .ok (.iload 5, 2) := by decide +kernel
theorem dX2_open_41 : decode cX2_open 41 = .ok (.iaload, 1) := by decide +kernel
theorem dX2_open_42 : decode cX2_open 42 = .ok (.istore 6, 2) := by decide +kernel
theorem dX2_open_44 : decode cX2_open 44 = .ok (.iload 6, 2) := by decide +kernel
theorem dX2_open_46 : decode cX2_open 46 = .ok (.iconst 1, 1) := by decide +kernel
theorem dX2_open_47 : decode cX2_open 47 = .ok (.isub, 1) := by decide +kernel
theorem dX2_open_48 : decode cX2_open 48 = .ok (.istore 7, 2) := by decide +kernel
theorem dX2_open_50 : decode cX2_open 50 = .ok (.iload 7, 2) := by decide +kernel
theorem dX2_open_52 : decode cX2_open 52 = .ok (.iload_n 2, 1) := by decide +kernel
theorem dX2_open_53 : decode cX2_open 53 = .ok (.iload_n 3, 1) := by decide +kernel
theorem dX2_open_54 : decode cX2_open 54 = .ok (.iadd, 1) := by decide +kernel
theorem dX2_open_55 : decode cX2_open 55 = .ok (.if_icmp .lt 37, 3) := by decide +kernel
theorem dX2_open_58 : decode cX2_open 58 = .ok (.aload_n 0, 1) := by decide +kernel
theorem dX2_open_59 : decode cX2_open 59 = .ok (.getfield 16, 3) := by decide +kernel
theorem dX2_open_62 : decode cX2_open 62 = .ok (.bipush 24, 2) := by decide +kernel
theorem dX2_open_64 : decode cX2_open 64 = .ok (.iload 5, 2) := by decide +kernel
theorem dX2_open_66 : decode cX2_open 66 = .ok (.imul, 1) := by decide +kernel
theorem dX2_open_67 : decode cX2_open 67 = .ok (.iload 7, 2) := by decide +kernel
theorem dX2_open_69 : decode cX2_open 69 = .ok (.iadd, 1) := by decide +kernel
theorem dX2_open_70 : decode cX2_open 70 = .ok (.aload_n 0, 1) := by decide +kernel
theorem dX2_open_71 : decode cX2_open 71 = .ok (.getfield 16, 3) := by decide +kernel
theorem dX2_open_74 : decode cX2_open 74 = .ok (.bipush 24, 2) := by decide +kernel
theorem dX2_open_76 : decode cX2_open 76 = .ok (.iload 5, 2) := by decide +kernel
theorem dX2_open_78 : decode cX2_open 78 = .ok (.imul, 1) := by decide +kernel
theorem dX2_open_79 : decode cX2_open 79 = .ok (.iload 7, 2) := by decide +kernel
theorem dX2_open_81 : decode cX2_open 81 = .ok (.iadd, 1) := by decide +kernel
theorem dX2_open_82 : decode cX2_open 82 = .ok (.iload_n 3, 1) := by decide +kernel
theorem dX2_open_83 : decode cX2_open 83 = .ok (.isub, 1) := by decide +kernel
theorem dX2_open_84 : decode cX2_open 84 = .ok (.laload, 1) := by decide +kernel
theorem dX2_open_85 : decode cX2_open 85 = .ok (.lastore, 1) := by decide +kernel
theorem dX2_open_86 : decode cX2_open 86 = .ok (.iinc 7 (-1), 3) := by decide +kernel
theorem dX2_open_89 : decode cX2_open 89 = .ok (.goto (-39), 3) := by decide +kernel
theorem dX2_open_92 : decode cX2_open 92 = .ok (.iload_n 2, 1) := by decide +kernel
theorem dX2_open_93 : decode cX2_open 93 = .ok (.istore 7, 2) := by decide +kernel
theorem dX2_open_95 : decode cX2_open 95 = .ok (.iload 7, 2) := by decide +kernel
theorem dX2_open_97 : decode cX2_open 97 = .ok (.iload_n 2, 1) := by decide +kernel
theorem dX2_open_98 : decode cX2_open 98 = .ok (.iload_n 3, 1) := by decide +kernel
theorem dX2_open_99 : decode cX2_open 99 = .ok (.iadd, 1) := by decide +kernel
theorem dX2_open_100 : decode cX2_open 100 = .ok (.if_icmp .ge 42, 3) := by decide +kernel
theorem dX2_open_103 : decode cX2_open 103 = .ok (.aload_n 0, 1) := by decide +kernel
theorem dX2_open_104 : decode cX2_open 104 = .ok (.getfield 16, 3) := by decide +kernel
theorem dX2_open_107 : decode cX2_open 107 = .ok (.bipush 24, 2) := by decide +kernel
theorem dX2_open_109 : decode cX2_open 109 = .ok (.iload 5, 2) := by decide +kernel
theorem dX2_open_111 : decode cX2_open 111 = .ok (.imul, 1) := by decide +kernel
theorem dX2_open_112 : decode cX2_open 112 = .ok (.iload 7, 2) := by decide +kernel
theorem dX2_open_114 : decode cX2_open 114 = .ok (.iadd, 1) := by decide +kernel
theorem dX2_open_115 : decode cX2_open 115 = .ok (.aload_n 0, 1) := by decide +kernel
theorem dX2_open_116 : decode cX2_open 116 = .ok (.getfield 7, 3) := by decide +kernel
theorem dX2_open_119 : decode cX2_open 119 = .ok (.iload 5, 2) := by decide +kernel
theorem dX2_open_121 : decode cX2_open 121 = .ok (.iaload, 1) := by decide +kernel
theorem dX2_open_122 : decode cX2_open 122 = .ok (.invokestatic 60, 3) := by decide +kernel
theorem dX2_open_125 : decode cX2_open 125 = .ok (.ifCond .eq 7, 3) := by decide +kernel
theorem dX2_open_128 : decode cX2_open 128 = .ok (.lconst 0, 1) := by decide +kernel
theorem dX2_open_129 : decode cX2_open 129 = .ok (.goto 6, 3) := by decide +kernel
theorem dX2_open_132 : decode cX2_open 132 = .ok (.ldc2_w 64, 3) := by decide +kernel
theorem dX2_open_135 : decode cX2_open 135 = .ok (.lastore, 1) := by decide +kernel
theorem dX2_open_136 : decode cX2_open 136 = .ok (.iinc 7 1, 3) := by decide +kernel
theorem dX2_open_139 : decode cX2_open 139 = .ok (.goto (-44), 3) := by decide +kernel
theorem dX2_open_142 : decode cX2_open 142 = .ok (.aload_n 0, 1) := by decide +kernel
theorem dX2_open_143 : decode cX2_open 143 = .ok (.iconst 0, 1) := by decide +kernel
theorem dX2_open_144 : decode cX2_open 144 = .ok (.putfield 96, 3) := by decide +kernel
theorem dX2_open_147 : decode cX2_open 147 = .ok (.aload_n 0, 1) := by decide +kernel
theorem dX2_open_148 : decode cX2_open 148 = .ok (.iconst 0, 1) := by decide +kernel
theorem dX2_open_149 : decode cX2_open 149 = .ok (.invokevirtual 72, 3) := by decide +kernel
theorem dX2_open_152 : decode cX2_open 152 = .ok (.pop, 1) := by decide +kernel
theorem dX2_open_153 : decode cX2_open 153 = .ok (.iload 6, 2) := by decide +kernel
theorem dX2_open_155 : decode cX2_open 155 = .ok (.iload_n 2, 1) := by decide +kernel
theorem dX2_open_156 : decode cX2_open 156 = .ok (.isub, 1) := by decide +kernel
theorem dX2_open_157 : decode cX2_open 157 = .ok (.iload_n 3, 1) := by decide +kernel
theorem dX2_open_158 : decode cX2_open 158 = .ok (.isub, 1) := by decide +kernel
theorem dX2_open_159 : decode cX2_open 159 = .ok (.ireturn, 1) := by decide +kernel
set_option maxRecDepth 20000 in
theorem ggX2_close_X2_noGap : GoodIn wsX2_close wsX2_noGap := goodIn_r _ [12, 3, 2, 13, 14, 15, 16, 17, 11, 18, 19, 20, 21, 22, 23, 24, 25, 26, 27, 28, 29, 30, 39, 40, 41, 42, 43, 44, 45, 46, 47, 48, 49, 50, 51, 52, 53, 54, 55, 56, 57, 58, 59, 60, 61, 62] (by decide +kernel) (by decide +kernel)
set_option maxRecDepth 20000 in
theorem gX2_close_X2_noGap : GoodIn wsX2_close (wsV RX2 133 RX2 yX2_noGap wsX2_noGap) := goodIn_app (goodIn_of _ (by decide +kernel)) ggX2_close_X2_noGap
set_option maxRecDepth 20000 in
theorem ggX2_close_X2_told : GoodIn wsX2_close wsX2_told := goodIn_r _ [34, 35, 14, 19, 39, 40, 41, 42, 43, 44, 45, 46, 47, 48, 49, 50, 51, 52, 53, 54, 55, 56, 57, 58, 59, 60, 61, 62] (by decide +kernel) (by decide +kernel)
set_option maxRecDepth 20000 in
theorem gX2_close_X2_told : GoodIn wsX2_close (wsV RX2 72 RX2 yX2_told wsX2_told) := goodIn_app (goodIn_of _ (by decide +kernel)) ggX2_close_X2_told
set_option maxRecDepth 20000 in
theorem ggX2_close_X2_isOfNumbers : GoodIn wsX2_close wsX2_isOfNumbers := goodIn_r _ [38] (by decide +kernel) (by decide +kernel)
set_option maxRecDepth 20000 in
theorem gX2_close_X2_isOfNumbers : GoodIn wsX2_close (va_wsS RX2 60 yX2_isOfNumbers wsX2_isOfNumbers) := goodIn_app (goodIn_of _ (by decide +kernel)) ggX2_close_X2_isOfNumbers
theorem dX2_close_0 : decode cX2_close 0 = .ok (.aload_n 0, 1) := by decide +kernel
theorem dX2_close_1 : decode cX2_close 1 = .ok (.iconst 0, 1) := by decide +kernel
theorem dX2_close_2 : decode cX2_close 2 = .ok (.putfield 44, 3) := by decide +kernel
theorem dX2_close_5 : decode cX2_close 5 = .ok (.aload_n 0, 1) := by decide +kernel
theorem dX2_close_6 : decode cX2_close 6 = .ok (.iload_n 1, 1) := by decide +kernel
theorem dX2_close_7 : decode cX2_close 7 = .ok (.iload_n 2, 1) := by decide +kernel
theorem dX2_close_8 : decode cX2_close 8 = .ok (.iload_n 3, 1) := by decide +kernel
theorem dX2_close_9 : decode cX2_close 9 = .ok (.invokevirtual 133, 3) := by decide +kernel
theorem dX2_close_12 : decode cX2_close 12 = .ok (.istore 4, 2) := by decide +kernel
theorem dX2_close_14 : decode cX2_close 14 = .ok (.iload 4, 2) := by decide +kernel
theorem dX2_close_16 : decode cX2_close 16 = .ok (.ifCond .le 11, 3) := by decide +kernel
theorem dX2_close_19 : decode cX2_close 19 = .ok (.aload_n 0, 1) := by decide +kernel
theorem dX2_close_20 : decode cX2_close 20 = .ok (.iload 4, 2) := by decide +kernel
theorem dX2_close_22 : decode cX2_close 22 = .ok (.invokevirtual 72, 3) := by decide +kernel
theorem dX2_close_25 : decode cX2_close 25 = .ok (.ineg, 1) := by decide +kernel
theorem dX2_close_26 : decode cX2_close 26 = .ok (.ireturn, 1) := by decide +kernel
theorem dX2_close_27 : decode cX2_close 27 = .ok (.aload_n 0, 1) := by decide +kernel
theorem dX2_close_28 : decode cX2_close 28 = .ok (.getfield 23, 3) := by decide +kernel
theorem dX2_close_31 : decode cX2_close 31 = .ok (.iload_n 1, 1) := by decide +kernel
theorem dX2_close_32 : decode cX2_close 32 = .ok (.iaload, 1) := by decide +kernel
theorem dX2_close_33 : decode cX2_close 33 = .ok (.istore 5, 2) := by decide +kernel
theorem dX2_close_35 : decode cX2_close 35 = .ok (.aload_n 0, 1) := by decide +kernel
theorem dX2_close_36 : decode cX2_close 36 = .ok (.getfield 13, 3) := by decide +kernel
theorem dX2_close_39 : decode cX2_close 39 = .ok (.iload 5, 2) := by decide +kernel
theorem dX2_close_41 : decode cX2_close 41 = .ok (.iaload, 1) := by decide +kernel
theorem dX2_close_42 : decode cX2_close 42 = .ok (.istore 6, 2) := by decide +kernel
theorem dX2_close_44 : decode cX2_close 44 = .ok (.iload_n 2, 1) := by decide +kernel
theorem dX2_close_45 : decode cX2_close 45 = .ok (.istore 7, 2) := by decide +kernel
theorem dX2_close_47 : decode cX2_close 47 = .ok (.iload 7, 2) := by decide +kernel
theorem dX2_close_49 : decode cX2_close 49 = .ok (.iload 6, 2) := by decide +kernel
theorem dX2_close_51 : decode cX2_close 51 = .ok (.iload_n 3, 1) := by decide +kernel
theorem dX2_close_52 : decode cX2_close 52 = .ok (.isub, 1) := by decide +kernel
theorem dX2_close_53 : decode cX2_close 53 = .ok (.if_icmp .ge 37, 3) := by decide +kernel
theorem dX2_close_56 : decode cX2_close 56 = .ok (.aload_n 0, 1) := by decide +kernel
theorem dX2_close_57 : decode cX2_close 57 = .ok (.getfield 16, 3) := by decide +kernel
theorem dX2_close_60 : decode cX2_close 60 = .ok (.bipush 24, 2) := by decide +kernel
theorem dX2_close_62 : decode cX2_close 62 = .ok (.iload 5, 2) := by decide +kernel
theorem dX2_close_64 : decode cX2_close 64 = .ok (.imul, 1) := by decide +kernel
theorem dX2_close_65 : decode cX2_close 65 = .ok (.iload 7, 2) := by decide +kernel
theorem dX2_close_67 : decode cX2_close 67 = .ok (.iadd, 1) := by decide +kernel
theorem dX2_close_68 : decode cX2_close 68 = .ok (.aload_n 0, 1) := by decide +kernel
theorem dX2_close_69 : decode cX2_close 69 = .ok (.getfield 16, 3) := by decide +kernel
theorem dX2_close_72 : decode cX2_close 72 = .ok (.bipush 24, 2) := by decide +kernel
theorem dX2_close_74 : decode cX2_close 74 = .ok (.iload 5, 2) := by decide +kernel
theorem dX2_close_76 : decode cX2_close 76 = .ok (.imul, 1) := by decide +kernel
theorem dX2_close_77 : decode cX2_close 77 = .ok (.iload 7, 2) := by decide +kernel
theorem dX2_close_79 : decode cX2_close 79 = .ok (.iadd, 1) := by decide +kernel
theorem dX2_close_80 : decode cX2_close 80 = .ok (.iload_n 3, 1) := by decide +kernel
theorem dX2_close_81 : decode cX2_close 81 = .ok (.iadd, 1) := by decide +kernel
theorem dX2_close_82 : decode cX2_close 82 = .ok (.laload, 1) := by decide +kernel
theorem dX2_close_83 : decode cX2_close 83 = .ok (.lastore, 1) := by decide +kernel
theorem dX2_close_84 : decode cX2_close 84 = .ok (.iinc 7 1, 3) := by decide +kernel
theorem dX2_close_87 : decode cX2_close 87 = .ok (.goto (-40), 3) := by decide +kernel
theorem dX2_close_90 : decode cX2_close 90 = .ok (.iload 6, 2) := by decide +kernel
theorem dX2_close_92 : decode cX2_close 92 = .ok (.iload_n 3, 1) := by decide +kernel
theorem dX2_close_93 : decode cX2_close 93 = .ok (.isub, 1) := by decide +kernel
theorem dX2_close_94 : decode cX2_close 94 = .ok (.istore 7, 2) := by decide +kernel
theorem dX2_close_96 : decode cX2_close 96 = .ok (.iload 7, 2) := by decide +kernel
theorem dX2_close_98 : decode cX2_close 98 = .ok (.iload 6, 2) := by decide +kernel
theorem dX2_close_100 : decode cX2_close 100 = .ok (.if_icmp .ge 42, 3) := by decide +kernel
theorem dX2_close_103 : decode cX2_close 103 = .ok (.aload_n 0, 1) := by decide +kernel
theorem dX2_close_104 : decode cX2_close 104 = .ok (.getfield 16, 3) := by decide +kernel
theorem dX2_close_107 : decode cX2_close 107 = .ok (.bipush 24, 2) := by decide +kernel
theorem dX2_close_109 : decode cX2_close 109 = .ok (.iload 5, 2) := by decide +kernel
theorem dX2_close_111 : decode cX2_close 111 = .ok (.imul, 1) := by decide +kernel
theorem dX2_close_112 : decode cX2_close 112 = .ok (.iload 7, 2) := by decide +kernel
theorem dX2_close_114 : decode cX2_close 114 = .ok (.iadd, 1) := by decide +kernel
theorem dX2_close_115 : decode cX2_close 115 = .ok (.aload_n 0, 1) := by decide +kernel
theorem dX2_close_116 : decode cX2_close 116 = .ok (.getfield 7, 3) := by decide +kernel
theorem dX2_close_119 : decode cX2_close 119 = .ok (.iload 5, 2) := by decide +kernel
theorem dX2_close_121 : decode cX2_close 121 = .ok (.iaload, 1) := by decide +kernel
theorem dX2_close_122 : decode cX2_close 122 = .ok (.invokestatic 60, 3) := by decide +kernel
theorem dX2_close_125 : decode cX2_close 125 = .ok (.ifCond .eq 7, 3) := by decide +kernel
theorem dX2_close_128 : decode cX2_close 128 = .ok (.lconst 0, 1) := by decide +kernel
theorem dX2_close_129 : decode cX2_close 129 = .ok (.goto 6, 3) := by decide +kernel
theorem dX2_close_132 : decode cX2_close 132 = .ok (.ldc2_w 64, 3) := by decide +kernel
theorem dX2_close_135 : decode cX2_close 135 = .ok (.lastore, 1) := by decide +kernel
theorem dX2_close_136 : decode cX2_close 136 = .ok (.iinc 7 1, 3) := by decide +kernel
theorem dX2_close_139 : decode cX2_close 139 = .ok (.goto (-43), 3) := by decide +kernel
theorem dX2_close_142 : decode cX2_close 142 = .ok (.aload_n 0, 1) := by decide +kernel
theorem dX2_close_143 : decode cX2_close 143 = .ok (.iconst 0, 1) := by decide +kernel
theorem dX2_close_144 : decode cX2_close 144 = .ok (.putfield 96, 3) := by decide +kernel
theorem dX2_close_147 : decode cX2_close 147 = .ok (.aload_n 0, 1) := by decide +kernel
theorem dX2_close_148 : decode cX2_close 148 = .ok (.iconst 0, 1) := by decide +kernel
theorem dX2_close_149 : decode cX2_close 149 = .ok (.invokevirtual 72, 3) := by decide +kernel
theorem dX2_close_152 : decode cX2_close 152 = .ok (.pop, 1) := by decide +kernel
theorem dX2_close_153 : decode cX2_close 153 = .ok (.iload 6, 2) := by decide +kernel
theorem dX2_close_155 : decode cX2_close 155 = .ok (.iload_n 2, 1) := by decide +kernel
theorem dX2_close_156 : decode cX2_close 156 = .ok (.isub, 1) := by decide +kernel
theorem dX2_close_157 : decode cX2_close 157 = .ok (.iload_n 3, 1) := by decide +kernel
theorem dX2_close_158 : decode cX2_close 158 = .ok (.isub, 1) := by decide +kernel
theorem dX2_close_159 : decode cX2_close 159 = .ok (.ireturn, 1) := by decide +kernel
theorem dX2_refusal_0 : decode cX2_refusal 0 = .ok (.aload_n 0, 1) := by decide +kernel
theorem dX2_refusal_1 : decode cX2_refusal 1 = .ok (.iconst 0, 1) := by decide +kernel
theorem dX2_refusal_2 : decode cX2_refusal 2 = .ok (.putfield 44, 3) := by decide +kernel
theorem dX2_refusal_5 : decode cX2_refusal 5 = .ok (.iload_n 1, 1) := by decide +kernel
theorem dX2_refusal_6 : decode cX2_refusal 6 = .ok (.ifCond .ne 10, 3) := by decide +kernel
theorem dX2_refusal_9 : decode cX2_refusal 9 = .ok (.aload_n 0, 1) := by decide +kernel
theorem dX2_refusal_10 : decode cX2_refusal 10 = .ok (.getfield 48, 3) := by decide +kernel
theorem dX2_refusal_13 : decode cX2_refusal 13 = .ok (.goto 28, 3) := by decide +kernel
theorem dX2_refusal_16 : decode cX2_refusal 16 = .ok (.iload_n 1, 1) := by decide +kernel
theorem dX2_refusal_17 : decode cX2_refusal 17 = .ok (.iconst 1, 1) := by decide +kernel
theorem dX2_refusal_18 : decode cX2_refusal 18 = .ok (.if_icmp .ne 10, 3) := by decide +kernel
theorem dX2_refusal_21 : decode cX2_refusal 21 = .ok (.aload_n 0, 1) := by decide +kernel
theorem dX2_refusal_22 : decode cX2_refusal 22 = .ok (.getfield 51, 3) := by decide +kernel
theorem dX2_refusal_25 : decode cX2_refusal 25 = .ok (.goto 16, 3) := by decide +kernel
theorem dX2_refusal_28 : decode cX2_refusal 28 = .ok (.iload_n 1, 1) := by decide +kernel
theorem dX2_refusal_29 : decode cX2_refusal 29 = .ok (.iconst 2, 1) := by decide +kernel
theorem dX2_refusal_30 : decode cX2_refusal 30 = .ok (.if_icmp .ne 10, 3) := by decide +kernel
theorem dX2_refusal_33 : decode cX2_refusal 33 = .ok (.aload_n 0, 1) := by decide +kernel
theorem dX2_refusal_34 : decode cX2_refusal 34 = .ok (.getfield 54, 3) := by decide +kernel
theorem dX2_refusal_37 : decode cX2_refusal 37 = .ok (.goto 4, 3) := by decide +kernel
theorem dX2_refusal_40 : decode cX2_refusal 40 = .ok (.iconst (-1), 1) := by decide +kernel
theorem dX2_refusal_41 : decode cX2_refusal 41 = .ok (.ireturn, 1) := by decide +kernel
set_option maxRecDepth 20000 in
theorem ggX2_look_X2_isSpindle : GoodIn wsX2_look wsX2_isSpindle := goodIn_r _ [10] (by decide +kernel) (by decide +kernel)
set_option maxRecDepth 20000 in
theorem gX2_look_X2_isSpindle : GoodIn wsX2_look (va_wsS RX2 69 yX2_isSpindle wsX2_isSpindle) := goodIn_app (goodIn_of _ (by decide +kernel)) ggX2_look_X2_isSpindle
theorem dX2_look_0 : decode cX2_look 0 = .ok (.aload_n 0, 1) := by decide +kernel
theorem dX2_look_1 : decode cX2_look 1 = .ok (.iconst 0, 1) := by decide +kernel
theorem dX2_look_2 : decode cX2_look 2 = .ok (.putfield 44, 3) := by decide +kernel
theorem dX2_look_5 : decode cX2_look 5 = .ok (.iload_n 1, 1) := by decide +kernel
theorem dX2_look_6 : decode cX2_look 6 = .ok (.invokestatic 69, 3) := by decide +kernel
theorem dX2_look_9 : decode cX2_look 9 = .ok (.ifCond .eq 21, 3) := by decide +kernel
theorem dX2_look_12 : decode cX2_look 12 = .ok (.iload_n 2, 1) := by decide +kernel
theorem dX2_look_13 : decode cX2_look 13 = .ok (.ifCond .lt 17, 3) := by decide +kernel
theorem dX2_look_16 : decode cX2_look 16 = .ok (.iload_n 2, 1) := by decide +kernel
theorem dX2_look_17 : decode cX2_look 17 = .ok (.iconst 2, 1) := by decide +kernel
theorem dX2_look_18 : decode cX2_look 18 = .ok (.if_icmp .gt 12, 3) := by decide +kernel
theorem dX2_look_21 : decode cX2_look 21 = .ok (.aload_n 0, 1) := by decide +kernel
theorem dX2_look_22 : decode cX2_look 22 = .ok (.getfield 20, 3) := by decide +kernel
theorem dX2_look_25 : decode cX2_look 25 = .ok (.iload_n 1, 1) := by decide +kernel
theorem dX2_look_26 : decode cX2_look 26 = .ok (.iaload, 1) := by decide +kernel
theorem dX2_look_27 : decode cX2_look 27 = .ok (.ifCond .ne 5, 3) := by decide +kernel
theorem dX2_look_30 : decode cX2_look 30 = .ok (.iconst (-1), 1) := by decide +kernel
theorem dX2_look_31 : decode cX2_look 31 = .ok (.ireturn, 1) := by decide +kernel
theorem dX2_look_32 : decode cX2_look 32 = .ok (.aload_n 0, 1) := by decide +kernel
theorem dX2_look_33 : decode cX2_look 33 = .ok (.getfield 20, 3) := by decide +kernel
theorem dX2_look_36 : decode cX2_look 36 = .ok (.iload_n 1, 1) := by decide +kernel
theorem dX2_look_37 : decode cX2_look 37 = .ok (.iaload, 1) := by decide +kernel
theorem dX2_look_38 : decode cX2_look 38 = .ok (.iconst 2, 1) := by decide +kernel
theorem dX2_look_39 : decode cX2_look 39 = .ok (.if_icmp .ne 7, 3) := by decide +kernel
theorem dX2_look_42 : decode cX2_look 42 = .ok (.iconst 1, 1) := by decide +kernel
theorem dX2_look_43 : decode cX2_look 43 = .ok (.goto 4, 3) := by decide +kernel
theorem dX2_look_46 : decode cX2_look 46 = .ok (.iconst 0, 1) := by decide +kernel
theorem dX2_look_47 : decode cX2_look 47 = .ok (.istore_n 3, 1) := by decide +kernel
theorem dX2_look_48 : decode cX2_look 48 = .ok (.iload_n 2, 1) := by decide +kernel
theorem dX2_look_49 : decode cX2_look 49 = .ok (.ifCond .ne 24, 3) := by decide +kernel
theorem dX2_look_52 : decode cX2_look 52 = .ok (.iload_n 3, 1) := by decide +kernel
theorem dX2_look_53 : decode cX2_look 53 = .ok (.ifCond .eq 8, 3) := by decide +kernel
theorem dX2_look_56 : decode cX2_look 56 = .ok (.bipush 8, 2) := by decide +kernel
theorem dX2_look_58 : decode cX2_look 58 = .ok (.goto 14, 3) := by decide +kernel
theorem dX2_look_61 : decode cX2_look 61 = .ok (.aload_n 0, 1) := by decide +kernel
theorem dX2_look_62 : decode cX2_look 62 = .ok (.getfield 7, 3) := by decide +kernel
theorem dX2_look_65 : decode cX2_look 65 = .ok (.aload_n 0, 1) := by decide +kernel
theorem dX2_look_66 : decode cX2_look 66 = .ok (.getfield 23, 3) := by decide +kernel
theorem dX2_look_69 : decode cX2_look 69 = .ok (.iload_n 1, 1) := by decide +kernel
theorem dX2_look_70 : decode cX2_look 70 = .ok (.iaload, 1) := by decide +kernel
theorem dX2_look_71 : decode cX2_look 71 = .ok (.iaload, 1) := by decide +kernel
theorem dX2_look_72 : decode cX2_look 72 = .ok (.ireturn, 1) := by decide +kernel
theorem dX2_look_73 : decode cX2_look 73 = .ok (.iload_n 2, 1) := by decide +kernel
theorem dX2_look_74 : decode cX2_look 74 = .ok (.iconst 1, 1) := by decide +kernel
theorem dX2_look_75 : decode cX2_look 75 = .ok (.if_icmp .ne 33, 3) := by decide +kernel
theorem dX2_look_78 : decode cX2_look 78 = .ok (.iload_n 3, 1) := by decide +kernel
theorem dX2_look_79 : decode cX2_look 79 = .ok (.ifCond .eq 17, 3) := by decide +kernel
theorem dX2_look_82 : decode cX2_look 82 = .ok (.aload_n 0, 1) := by decide +kernel
theorem dX2_look_83 : decode cX2_look 83 = .ok (.getfield 26, 3) := by decide +kernel
theorem dX2_look_86 : decode cX2_look 86 = .ok (.aload_n 0, 1) := by decide +kernel
theorem dX2_look_87 : decode cX2_look 87 = .ok (.getfield 23, 3) := by decide +kernel
theorem dX2_look_90 : decode cX2_look 90 = .ok (.iload_n 1, 1) := by decide +kernel
theorem dX2_look_91 : decode cX2_look 91 = .ok (.iaload, 1) := by decide +kernel
theorem dX2_look_92 : decode cX2_look 92 = .ok (.iaload, 1) := by decide +kernel
theorem dX2_look_93 : decode cX2_look 93 = .ok (.goto 14, 3) := by decide +kernel
theorem dX2_look_96 : decode cX2_look 96 = .ok (.aload_n 0, 1) := by decide +kernel
theorem dX2_look_97 : decode cX2_look 97 = .ok (.getfield 13, 3) := by decide +kernel
theorem dX2_look_100 : decode cX2_look 100 = .ok (.aload_n 0, 1) := by decide +kernel
theorem dX2_look_101 : decode cX2_look 101 = .ok (.getfield 23, 3) := by decide +kernel
theorem dX2_look_104 : decode cX2_look 104 = .ok (.iload_n 1, 1) := by decide +kernel
theorem dX2_look_105 : decode cX2_look 105 = .ok (.iaload, 1) := by decide +kernel
theorem dX2_look_106 : decode cX2_look 106 = .ok (.iaload, 1) := by decide +kernel
theorem dX2_look_107 : decode cX2_look 107 = .ok (.ireturn, 1) := by decide +kernel
theorem dX2_look_108 : decode cX2_look 108 = .ok (.iload_n 1, 1) := by decide +kernel
theorem dX2_look_109 : decode cX2_look 109 = .ok (.istore 4, 2) := by decide +kernel
theorem dX2_look_111 : decode cX2_look 111 = .ok (.bipush 7, 2) := by decide +kernel
theorem dX2_look_113 : decode cX2_look 113 = .ok (.istore 5, 2) := by decide +kernel
theorem dX2_look_115 : decode cX2_look 115 = .ok (.iload 5, 2) := by decide +kernel
theorem dX2_look_117 : decode cX2_look 117 = .ok (.ifCond .lt 50, 3) := by decide +kernel
theorem dX2_look_120 : decode cX2_look 120 = .ok (.aload_n 0, 1) := by decide +kernel
theorem dX2_look_121 : decode cX2_look 121 = .ok (.getfield 20, 3) := by decide +kernel
theorem dX2_look_124 : decode cX2_look 124 = .ok (.iload 5, 2) := by decide +kernel
theorem dX2_look_126 : decode cX2_look 126 = .ok (.iaload, 1) := by decide +kernel
theorem dX2_look_127 : decode cX2_look 127 = .ok (.aload_n 0, 1) := by decide +kernel
theorem dX2_look_128 : decode cX2_look 128 = .ok (.getfield 20, 3) := by decide +kernel
theorem dX2_look_131 : decode cX2_look 131 = .ok (.iload_n 1, 1) := by decide +kernel
theorem dX2_look_132 : decode cX2_look 132 = .ok (.iaload, 1) := by decide +kernel
theorem dX2_look_133 : decode cX2_look 133 = .ok (.if_icmp .ne 24, 3) := by decide +kernel
theorem dX2_look_136 : decode cX2_look 136 = .ok (.aload_n 0, 1) := by decide +kernel
theorem dX2_look_137 : decode cX2_look 137 = .ok (.getfield 23, 3) := by decide +kernel
theorem dX2_look_140 : decode cX2_look 140 = .ok (.iload 5, 2) := by decide +kernel
theorem dX2_look_142 : decode cX2_look 142 = .ok (.iaload, 1) := by decide +kernel
theorem dX2_look_143 : decode cX2_look 143 = .ok (.aload_n 0, 1) := by decide +kernel
theorem dX2_look_144 : decode cX2_look 144 = .ok (.getfield 23, 3) := by decide +kernel
theorem dX2_look_147 : decode cX2_look 147 = .ok (.iload_n 1, 1) := by decide +kernel
theorem dX2_look_148 : decode cX2_look 148 = .ok (.iaload, 1) := by decide +kernel
theorem dX2_look_149 : decode cX2_look 149 = .ok (.if_icmp .ne 8, 3) := by decide +kernel
theorem dX2_look_152 : decode cX2_look 152 = .ok (.iload 5, 2) := by decide +kernel
theorem dX2_look_154 : decode cX2_look 154 = .ok (.goto 5, 3) := by decide +kernel
theorem dX2_look_157 : decode cX2_look 157 = .ok (.iload 4, 2) := by decide +kernel
theorem dX2_look_159 : decode cX2_look 159 = .ok (.istore 4, 2) := by decide +kernel
theorem dX2_look_161 : decode cX2_look 161 = .ok (.iinc 5 (-1), 3) := by decide +kernel
theorem dX2_look_164 : decode cX2_look 164 = .ok (.goto (-49), 3) := by decide +kernel
theorem dX2_look_167 : decode cX2_look 167 = .ok (.iload 4, 2) := by decide +kernel
theorem dX2_look_169 : decode cX2_look 169 = .ok (.ireturn, 1) := by decide +kernel
set_option maxRecDepth 20000 in
theorem ggX2_at_X2_noReel : GoodIn wsX2_at wsX2_noReel := goodIn_r _ [14, 15, 16, 17, 13, 18, 22, 23, 24, 25, 26, 27, 28, 29, 30, 31, 32, 33, 34, 35, 36, 37, 38, 39, 40, 41, 42, 43, 44, 45] (by decide +kernel) (by decide +kernel)
set_option maxRecDepth 20000 in
theorem gX2_at_X2_noReel : GoodIn wsX2_at (wsV RX2 87 RX2 yX2_noReel wsX2_noReel) := goodIn_app (goodIn_of _ (by decide +kernel)) ggX2_at_X2_noReel
set_option maxRecDepth 20000 in
theorem ggX2_at_X2_isOfNumbers : GoodIn wsX2_at wsX2_isOfNumbers := goodIn_r _ [21] (by decide +kernel) (by decide +kernel)
set_option maxRecDepth 20000 in
theorem gX2_at_X2_isOfNumbers : GoodIn wsX2_at (va_wsS RX2 60 yX2_isOfNumbers wsX2_isOfNumbers) := goodIn_app (goodIn_of _ (by decide +kernel)) ggX2_at_X2_isOfNumbers
theorem dX2_at_0 : decode cX2_at 0 = .ok (.aload_n 0, 1) := by decide +kernel
theorem dX2_at_1 : decode cX2_at 1 = .ok (.aload_n 0, 1) := by decide +kernel
theorem dX2_at_2 : decode cX2_at 2 = .ok (.iload_n 1, 1) := by decide +kernel
theorem dX2_at_3 : decode cX2_at 3 = .ok (.invokevirtual 87, 3) := by decide +kernel
theorem dX2_at_6 : decode cX2_at 6 = .ok (.ifCond .le 7, 3) := by decide +kernel
theorem dX2_at_9 : decode cX2_at 9 = .ok (.iconst 1, 1) := by decide +kernel
theorem dX2_at_10 : decode cX2_at 10 = .ok (.goto 4, 3) := by decide +kernel
theorem dX2_at_13 : decode cX2_at 13 = .ok (.iconst 0, 1) := by decide +kernel
theorem dX2_at_14 : decode cX2_at 14 = .ok (.putfield 44, 3) := by decide +kernel
theorem dX2_at_17 : decode cX2_at 17 = .ok (.aload_n 0, 1) := by decide +kernel
theorem dX2_at_18 : decode cX2_at 18 = .ok (.getfield 44, 3) := by decide +kernel
theorem dX2_at_21 : decode cX2_at 21 = .ok (.ifCond .le 5, 3) := by decide +kernel
theorem dX2_at_24 : decode cX2_at 24 = .ok (.lconst 0, 1) := by decide +kernel
theorem dX2_at_25 : decode cX2_at 25 = .ok (.lreturn, 1) := by decide +kernel
theorem dX2_at_26 : decode cX2_at 26 = .ok (.aload_n 0, 1) := by decide +kernel
theorem dX2_at_27 : decode cX2_at 27 = .ok (.getfield 23, 3) := by decide +kernel
theorem dX2_at_30 : decode cX2_at 30 = .ok (.iload_n 1, 1) := by decide +kernel
theorem dX2_at_31 : decode cX2_at 31 = .ok (.iaload, 1) := by decide +kernel
theorem dX2_at_32 : decode cX2_at 32 = .ok (.istore_n 3, 1) := by decide +kernel
theorem dX2_at_33 : decode cX2_at 33 = .ok (.aload_n 0, 1) := by decide +kernel
theorem dX2_at_34 : decode cX2_at 34 = .ok (.iload_n 2, 1) := by decide +kernel
theorem dX2_at_35 : decode cX2_at 35 = .ok (.ifCond .lt 13, 3) := by decide +kernel
theorem dX2_at_38 : decode cX2_at 38 = .ok (.iload_n 2, 1) := by decide +kernel
theorem dX2_at_39 : decode cX2_at 39 = .ok (.aload_n 0, 1) := by decide +kernel
theorem dX2_at_40 : decode cX2_at 40 = .ok (.getfield 13, 3) := by decide +kernel
theorem dX2_at_43 : decode cX2_at 43 = .ok (.iload_n 3, 1) := by decide +kernel
theorem dX2_at_44 : decode cX2_at 44 = .ok (.iaload, 1) := by decide +kernel
theorem dX2_at_45 : decode cX2_at 45 = .ok (.if_icmp .lt 7, 3) := by decide +kernel
theorem dX2_at_48 : decode cX2_at 48 = .ok (.iconst 2, 1) := by decide +kernel
theorem dX2_at_49 : decode cX2_at 49 = .ok (.goto 4, 3) := by decide +kernel
theorem dX2_at_52 : decode cX2_at 52 = .ok (.iconst 0, 1) := by decide +kernel
theorem dX2_at_53 : decode cX2_at 53 = .ok (.putfield 44, 3) := by decide +kernel
theorem dX2_at_56 : decode cX2_at 56 = .ok (.aload_n 0, 1) := by decide +kernel
theorem dX2_at_57 : decode cX2_at 57 = .ok (.getfield 44, 3) := by decide +kernel
theorem dX2_at_60 : decode cX2_at 60 = .ok (.ifCond .le 5, 3) := by decide +kernel
theorem dX2_at_63 : decode cX2_at 63 = .ok (.lconst 0, 1) := by decide +kernel
theorem dX2_at_64 : decode cX2_at 64 = .ok (.lreturn, 1) := by decide +kernel
theorem dX2_at_65 : decode cX2_at 65 = .ok (.aload_n 0, 1) := by decide +kernel
theorem dX2_at_66 : decode cX2_at 66 = .ok (.getfield 16, 3) := by decide +kernel
theorem dX2_at_69 : decode cX2_at 69 = .ok (.bipush 24, 2) := by decide +kernel
theorem dX2_at_71 : decode cX2_at 71 = .ok (.iload_n 3, 1) := by decide +kernel
theorem dX2_at_72 : decode cX2_at 72 = .ok (.imul, 1) := by decide +kernel
theorem dX2_at_73 : decode cX2_at 73 = .ok (.iload_n 2, 1) := by decide +kernel
theorem dX2_at_74 : decode cX2_at 74 = .ok (.iadd, 1) := by decide +kernel
theorem dX2_at_75 : decode cX2_at 75 = .ok (.laload, 1) := by decide +kernel
theorem dX2_at_76 : decode cX2_at 76 = .ok (.lstore 4, 2) := by decide +kernel
theorem dX2_at_78 : decode cX2_at 78 = .ok (.aload_n 0, 1) := by decide +kernel
theorem dX2_at_79 : decode cX2_at 79 = .ok (.getfield 7, 3) := by decide +kernel
theorem dX2_at_82 : decode cX2_at 82 = .ok (.iload_n 3, 1) := by decide +kernel
theorem dX2_at_83 : decode cX2_at 83 = .ok (.iaload, 1) := by decide +kernel
theorem dX2_at_84 : decode cX2_at 84 = .ok (.invokestatic 60, 3) := by decide +kernel
theorem dX2_at_87 : decode cX2_at 87 = .ok (.ifCond .eq 6, 3) := by decide +kernel
theorem dX2_at_90 : decode cX2_at 90 = .ok (.lload 4, 2) := by decide +kernel
theorem dX2_at_92 : decode cX2_at 92 = .ok (.lreturn, 1) := by decide +kernel
theorem dX2_at_93 : decode cX2_at 93 = .ok (.lload 4, 2) := by decide +kernel
theorem dX2_at_95 : decode cX2_at 95 = .ok (.lconst 0, 1) := by decide +kernel
theorem dX2_at_96 : decode cX2_at 96 = .ok (.lcmp, 1) := by decide +kernel
theorem dX2_at_97 : decode cX2_at 97 = .ok (.ifCond .ge 9, 3) := by decide +kernel
theorem dX2_at_100 : decode cX2_at 100 = .ok (.ldc2_w 64, 3) := by decide +kernel
theorem dX2_at_103 : decode cX2_at 103 = .ok (.goto 26, 3) := by decide +kernel
theorem dX2_at_106 : decode cX2_at 106 = .ok (.ldc2_w 137, 3) := by decide +kernel
theorem dX2_at_109 : decode cX2_at 109 = .ok (.aload_n 0, 1) := by decide +kernel
theorem dX2_at_110 : decode cX2_at 110 = .ok (.getfield 29, 3) := by decide +kernel
theorem dX2_at_113 : decode cX2_at 113 = .ok (.lload 4, 2) := by decide +kernel
theorem dX2_at_115 : decode cX2_at 115 = .ok (.l2i, 1) := by decide +kernel
theorem dX2_at_116 : decode cX2_at 116 = .ok (.iaload, 1) := by decide +kernel
theorem dX2_at_117 : decode cX2_at 117 = .ok (.i2l, 1) := by decide +kernel
theorem dX2_at_118 : decode cX2_at 118 = .ok (.lmul, 1) := by decide +kernel
theorem dX2_at_119 : decode cX2_at 119 = .ok (.aload_n 0, 1) := by decide +kernel
theorem dX2_at_120 : decode cX2_at 120 = .ok (.getfield 32, 3) := by decide +kernel
theorem dX2_at_123 : decode cX2_at 123 = .ok (.lload 4, 2) := by decide +kernel
theorem dX2_at_125 : decode cX2_at 125 = .ok (.l2i, 1) := by decide +kernel
theorem dX2_at_126 : decode cX2_at 126 = .ok (.iaload, 1) := by decide +kernel
theorem dX2_at_127 : decode cX2_at 127 = .ok (.i2l, 1) := by decide +kernel
theorem dX2_at_128 : decode cX2_at 128 = .ok (.ladd, 1) := by decide +kernel
theorem dX2_at_129 : decode cX2_at 129 = .ok (.lreturn, 1) := by decide +kernel
set_option maxRecDepth 20000 in
theorem ggX2_alike_X2_isSpindle : GoodIn wsX2_alike wsX2_isSpindle := goodIn_r _ [11] (by decide +kernel) (by decide +kernel)
set_option maxRecDepth 20000 in
theorem gX2_alike_X2_isSpindle : GoodIn wsX2_alike (va_wsS RX2 69 yX2_isSpindle wsX2_isSpindle) := goodIn_app (goodIn_of _ (by decide +kernel)) ggX2_alike_X2_isSpindle
theorem dX2_alike_0 : decode cX2_alike 0 = .ok (.aload_n 0, 1) := by decide +kernel
theorem dX2_alike_1 : decode cX2_alike 1 = .ok (.iconst 0, 1) := by decide +kernel
theorem dX2_alike_2 : decode cX2_alike 2 = .ok (.putfield 44, 3) := by decide +kernel
theorem dX2_alike_5 : decode cX2_alike 5 = .ok (.iload_n 1, 1) := by decide +kernel
theorem dX2_alike_6 : decode cX2_alike 6 = .ok (.invokestatic 69, 3) := by decide +kernel
theorem dX2_alike_9 : decode cX2_alike 9 = .ok (.ifCond .eq 25, 3) := by decide +kernel
theorem dX2_alike_12 : decode cX2_alike 12 = .ok (.iload_n 2, 1) := by decide +kernel
theorem dX2_alike_13 : decode cX2_alike 13 = .ok (.invokestatic 69, 3) := by decide +kernel
theorem dX2_alike_16 : decode cX2_alike 16 = .ok (.ifCond .eq 18, 3) := by decide +kernel
theorem dX2_alike_19 : decode cX2_alike 19 = .ok (.aload_n 0, 1) := by decide +kernel
theorem dX2_alike_20 : decode cX2_alike 20 = .ok (.getfield 20, 3) := by decide +kernel
theorem dX2_alike_23 : decode cX2_alike 23 = .ok (.iload_n 1, 1) := by decide +kernel
theorem dX2_alike_24 : decode cX2_alike 24 = .ok (.iaload, 1) := by decide +kernel
theorem dX2_alike_25 : decode cX2_alike 25 = .ok (.aload_n 0, 1) := by decide +kernel
theorem dX2_alike_26 : decode cX2_alike 26 = .ok (.getfield 20, 3) := by decide +kernel
theorem dX2_alike_29 : decode cX2_alike 29 = .ok (.iload_n 2, 1) := by decide +kernel
theorem dX2_alike_30 : decode cX2_alike 30 = .ok (.iaload, 1) := by decide +kernel
theorem dX2_alike_31 : decode cX2_alike 31 = .ok (.if_icmp .eq 5, 3) := by decide +kernel
theorem dX2_alike_34 : decode cX2_alike 34 = .ok (.iconst 0, 1) := by decide +kernel
theorem dX2_alike_35 : decode cX2_alike 35 = .ok (.ireturn, 1) := by decide +kernel
theorem dX2_alike_36 : decode cX2_alike 36 = .ok (.aload_n 0, 1) := by decide +kernel
theorem dX2_alike_37 : decode cX2_alike 37 = .ok (.getfield 20, 3) := by decide +kernel
theorem dX2_alike_40 : decode cX2_alike 40 = .ok (.iload_n 1, 1) := by decide +kernel
theorem dX2_alike_41 : decode cX2_alike 41 = .ok (.iaload, 1) := by decide +kernel
theorem dX2_alike_42 : decode cX2_alike 42 = .ok (.ifCond .ne 5, 3) := by decide +kernel
theorem dX2_alike_45 : decode cX2_alike 45 = .ok (.iconst 1, 1) := by decide +kernel
theorem dX2_alike_46 : decode cX2_alike 46 = .ok (.ireturn, 1) := by decide +kernel
theorem dX2_alike_47 : decode cX2_alike 47 = .ok (.aload_n 0, 1) := by decide +kernel
theorem dX2_alike_48 : decode cX2_alike 48 = .ok (.getfield 23, 3) := by decide +kernel
theorem dX2_alike_51 : decode cX2_alike 51 = .ok (.iload_n 1, 1) := by decide +kernel
theorem dX2_alike_52 : decode cX2_alike 52 = .ok (.iaload, 1) := by decide +kernel
theorem dX2_alike_53 : decode cX2_alike 53 = .ok (.istore_n 3, 1) := by decide +kernel
theorem dX2_alike_54 : decode cX2_alike 54 = .ok (.aload_n 0, 1) := by decide +kernel
theorem dX2_alike_55 : decode cX2_alike 55 = .ok (.getfield 23, 3) := by decide +kernel
theorem dX2_alike_58 : decode cX2_alike 58 = .ok (.iload_n 2, 1) := by decide +kernel
theorem dX2_alike_59 : decode cX2_alike 59 = .ok (.iaload, 1) := by decide +kernel
theorem dX2_alike_60 : decode cX2_alike 60 = .ok (.istore 4, 2) := by decide +kernel
theorem dX2_alike_62 : decode cX2_alike 62 = .ok (.aload_n 0, 1) := by decide +kernel
theorem dX2_alike_63 : decode cX2_alike 63 = .ok (.getfield 20, 3) := by decide +kernel
theorem dX2_alike_66 : decode cX2_alike 66 = .ok (.iload_n 1, 1) := by decide +kernel
theorem dX2_alike_67 : decode cX2_alike 67 = .ok (.iaload, 1) := by decide +kernel
theorem dX2_alike_68 : decode cX2_alike 68 = .ok (.iconst 2, 1) := by decide +kernel
theorem dX2_alike_69 : decode cX2_alike 69 = .ok (.if_icmp .ne 25, 3) := by decide +kernel
theorem dX2_alike_72 : decode cX2_alike 72 = .ok (.aload_n 0, 1) := by decide +kernel
theorem dX2_alike_73 : decode cX2_alike 73 = .ok (.getfield 26, 3) := by decide +kernel
theorem dX2_alike_76 : decode cX2_alike 76 = .ok (.iload_n 3, 1) := by decide +kernel
theorem dX2_alike_77 : decode cX2_alike 77 = .ok (.iaload, 1) := by decide +kernel
theorem dX2_alike_78 : decode cX2_alike 78 = .ok (.aload_n 0, 1) := by decide +kernel
theorem dX2_alike_79 : decode cX2_alike 79 = .ok (.getfield 26, 3) := by decide +kernel
theorem dX2_alike_82 : decode cX2_alike 82 = .ok (.iload 4, 2) := by decide +kernel
theorem dX2_alike_84 : decode cX2_alike 84 = .ok (.iaload, 1) := by decide +kernel
theorem dX2_alike_85 : decode cX2_alike 85 = .ok (.if_icmp .ne 7, 3) := by decide +kernel
theorem dX2_alike_88 : decode cX2_alike 88 = .ok (.iconst 1, 1) := by decide +kernel
theorem dX2_alike_89 : decode cX2_alike 89 = .ok (.goto 4, 3) := by decide +kernel
theorem dX2_alike_92 : decode cX2_alike 92 = .ok (.iconst 0, 1) := by decide +kernel
theorem dX2_alike_93 : decode cX2_alike 93 = .ok (.ireturn, 1) := by decide +kernel
theorem dX2_alike_94 : decode cX2_alike 94 = .ok (.aload_n 0, 1) := by decide +kernel
theorem dX2_alike_95 : decode cX2_alike 95 = .ok (.getfield 7, 3) := by decide +kernel
theorem dX2_alike_98 : decode cX2_alike 98 = .ok (.iload_n 3, 1) := by decide +kernel
theorem dX2_alike_99 : decode cX2_alike 99 = .ok (.iaload, 1) := by decide +kernel
theorem dX2_alike_100 : decode cX2_alike 100 = .ok (.aload_n 0, 1) := by decide +kernel
theorem dX2_alike_101 : decode cX2_alike 101 = .ok (.getfield 7, 3) := by decide +kernel
theorem dX2_alike_104 : decode cX2_alike 104 = .ok (.iload 4, 2) := by decide +kernel
theorem dX2_alike_106 : decode cX2_alike 106 = .ok (.iaload, 1) := by decide +kernel
theorem dX2_alike_107 : decode cX2_alike 107 = .ok (.if_icmp .ne 23, 3) := by decide +kernel
theorem dX2_alike_110 : decode cX2_alike 110 = .ok (.aload_n 0, 1) := by decide +kernel
theorem dX2_alike_111 : decode cX2_alike 111 = .ok (.getfield 13, 3) := by decide +kernel
theorem dX2_alike_114 : decode cX2_alike 114 = .ok (.iload_n 3, 1) := by decide +kernel
theorem dX2_alike_115 : decode cX2_alike 115 = .ok (.iaload, 1) := by decide +kernel
theorem dX2_alike_116 : decode cX2_alike 116 = .ok (.aload_n 0, 1) := by decide +kernel
theorem dX2_alike_117 : decode cX2_alike 117 = .ok (.getfield 13, 3) := by decide +kernel
theorem dX2_alike_120 : decode cX2_alike 120 = .ok (.iload 4, 2) := by decide +kernel
theorem dX2_alike_122 : decode cX2_alike 122 = .ok (.iaload, 1) := by decide +kernel
theorem dX2_alike_123 : decode cX2_alike 123 = .ok (.if_icmp .ne 7, 3) := by decide +kernel
theorem dX2_alike_126 : decode cX2_alike 126 = .ok (.iconst 1, 1) := by decide +kernel
theorem dX2_alike_127 : decode cX2_alike 127 = .ok (.goto 4, 3) := by decide +kernel
theorem dX2_alike_130 : decode cX2_alike 130 = .ok (.iconst 0, 1) := by decide +kernel
theorem dX2_alike_131 : decode cX2_alike 131 = .ok (.istore 5, 2) := by decide +kernel
theorem dX2_alike_133 : decode cX2_alike 133 = .ok (.iconst 0, 1) := by decide +kernel
theorem dX2_alike_134 : decode cX2_alike 134 = .ok (.istore 6, 2) := by decide +kernel
theorem dX2_alike_136 : decode cX2_alike 136 = .ok (.iload 6, 2) := by decide +kernel
theorem dX2_alike_138 : decode cX2_alike 138 = .ok (.aload_n 0, 1) := by decide +kernel
theorem dX2_alike_139 : decode cX2_alike 139 = .ok (.getfield 13, 3) := by decide +kernel
theorem dX2_alike_142 : decode cX2_alike 142 = .ok (.iload_n 3, 1) := by decide +kernel
theorem dX2_alike_143 : decode cX2_alike 143 = .ok (.iaload, 1) := by decide +kernel
theorem dX2_alike_144 : decode cX2_alike 144 = .ok (.if_icmp .ge 50, 3) := by decide +kernel
theorem dX2_alike_147 : decode cX2_alike 147 = .ok (.iload 5, 2) := by decide +kernel
theorem dX2_alike_149 : decode cX2_alike 149 = .ok (.ifCond .eq 45, 3) := by decide +kernel
theorem dX2_alike_152 : decode cX2_alike 152 = .ok (.aload_n 0, 1) := by decide +kernel
theorem dX2_alike_153 : decode cX2_alike 153 = .ok (.getfield 16, 3) := by decide +kernel
theorem dX2_alike_156 : decode cX2_alike 156 = .ok (.bipush 24, 2) := by decide +kernel
theorem dX2_alike_158 : decode cX2_alike 158 = .ok (.iload_n 3, 1) := by decide +kernel
theorem dX2_alike_159 : decode cX2_alike 159 = .ok (.imul, 1) := by decide +kernel
theorem dX2_alike_160 : decode cX2_alike 160 = .ok (.iload 6, 2) := by decide +kernel
theorem dX2_alike_162 : decode cX2_alike 162 = .ok (.iadd, 1) := by decide +kernel
theorem dX2_alike_163 : decode cX2_alike 163 = .ok (.laload, 1) := by decide +kernel
theorem dX2_alike_164 : decode cX2_alike 164 = .ok (.aload_n 0, 1) := by decide +kernel
theorem dX2_alike_165 : decode cX2_alike 165 = .ok (.getfield 16, 3) := by decide +kernel
theorem dX2_alike_168 : decode cX2_alike 168 = .ok (.bipush 24, 2) := by decide +kernel
theorem dX2_alike_170 : decode cX2_alike 170 = .ok (.iload 4, 2) := by decide +kernel
theorem dX2_alike_172 : decode cX2_alike 172 = .ok (.imul, 1) := by decide +kernel
theorem dX2_alike_173 : decode cX2_alike 173 = .ok (.iload 6, 2) := by decide +kernel
theorem dX2_alike_175 : decode cX2_alike 175 = .ok (.iadd, 1) := by decide +kernel
theorem dX2_alike_176 : decode cX2_alike 176 = .ok (.laload, 1) := by decide +kernel
theorem dX2_alike_177 : decode cX2_alike 177 = .ok (.lcmp, 1) := by decide +kernel
theorem dX2_alike_178 : decode cX2_alike 178 = .ok (.ifCond .ne 7, 3) := by decide +kernel
theorem dX2_alike_181 : decode cX2_alike 181 = .ok (.iconst 1, 1) := by decide +kernel
theorem dX2_alike_182 : decode cX2_alike 182 = .ok (.goto 4, 3) := by decide +kernel
theorem dX2_alike_185 : decode cX2_alike 185 = .ok (.iconst 0, 1) := by decide +kernel
theorem dX2_alike_186 : decode cX2_alike 186 = .ok (.istore 5, 2) := by decide +kernel
theorem dX2_alike_188 : decode cX2_alike 188 = .ok (.iinc 6 1, 3) := by decide +kernel
theorem dX2_alike_191 : decode cX2_alike 191 = .ok (.goto (-55), 3) := by decide +kernel
theorem dX2_alike_194 : decode cX2_alike 194 = .ok (.iload 5, 2) := by decide +kernel
theorem dX2_alike_196 : decode cX2_alike 196 = .ok (.ireturn, 1) := by decide +kernel
theorem dX2_count_0 : decode cX2_count 0 = .ok (.aload_n 0, 1) := by decide +kernel
theorem dX2_count_1 : decode cX2_count 1 = .ok (.iconst 0, 1) := by decide +kernel
theorem dX2_count_2 : decode cX2_count 2 = .ok (.putfield 44, 3) := by decide +kernel
theorem dX2_count_5 : decode cX2_count 5 = .ok (.iload_n 1, 1) := by decide +kernel
theorem dX2_count_6 : decode cX2_count 6 = .ok (.tableswitch 68 0 5 #[38, 43, 48, 53, 58, 63], 38) := by decide +kernel
theorem dX2_count_44 : decode cX2_count 44 = .ok (.aload_n 0, 1) := by decide +kernel
theorem dX2_count_45 : decode cX2_count 45 = .ok (.getfield 57, 3) := by decide +kernel
theorem dX2_count_48 : decode cX2_count 48 = .ok (.ireturn, 1) := by decide +kernel
theorem dX2_count_49 : decode cX2_count 49 = .ok (.aload_n 0, 1) := by decide +kernel
theorem dX2_count_50 : decode cX2_count 50 = .ok (.getfield 113, 3) := by decide +kernel
theorem dX2_count_53 : decode cX2_count 53 = .ok (.ireturn, 1) := by decide +kernel
theorem dX2_count_54 : decode cX2_count 54 = .ok (.aload_n 0, 1) := by decide +kernel
theorem dX2_count_55 : decode cX2_count 55 = .ok (.getfield 122, 3) := by decide +kernel
theorem dX2_count_58 : decode cX2_count 58 = .ok (.ireturn, 1) := by decide +kernel
theorem dX2_count_59 : decode cX2_count 59 = .ok (.aload_n 0, 1) := by decide +kernel
theorem dX2_count_60 : decode cX2_count 60 = .ok (.getfield 129, 3) := by decide +kernel
theorem dX2_count_63 : decode cX2_count 63 = .ok (.ireturn, 1) := by decide +kernel
theorem dX2_count_64 : decode cX2_count 64 = .ok (.aload_n 0, 1) := by decide +kernel
theorem dX2_count_65 : decode cX2_count 65 = .ok (.getfield 96, 3) := by decide +kernel
theorem dX2_count_68 : decode cX2_count 68 = .ok (.ireturn, 1) := by decide +kernel
theorem dX2_count_69 : decode cX2_count 69 = .ok (.aload_n 0, 1) := by decide +kernel
theorem dX2_count_70 : decode cX2_count 70 = .ok (.getfield 99, 3) := by decide +kernel
theorem dX2_count_73 : decode cX2_count 73 = .ok (.ireturn, 1) := by decide +kernel
theorem dX2_count_74 : decode cX2_count 74 = .ok (.iconst (-1), 1) := by decide +kernel
theorem dX2_count_75 : decode cX2_count 75 = .ok (.ireturn, 1) := by decide +kernel
abbrev vwCl : List vw_C := [(RX0, TX0, 3), (RX1, TX1, 14), (RX2, TX2, 24)]
/-! ===== END printed: names ===== -/
end
section
section MWorld
/-- the reference's numbers: int fields by slot; int arrays, long arrays by their place in the world -/
def mS : Type := (Nat → Int32) × (Nat → Nat → Int32) × (Nat → Nat → Int64)
def mS.fi (S : mS) (k : Nat) : Int32 := S.1 k
def mS.ia (S : mS) (j : Nat) : Nat → Int32 := S.2.1 j
def mS.la (S : mS) (j : Nat) : Nat → Int64 := S.2.2 j
def mS.si (S : mS) (k : Nat) (v : Int32) : mS := (upd S.1 k v, S.2.1, S.2.2)
def mS.sa (S : mS) (j k : Nat) (v : Int32) : mS := (S.1, va_up S.2.1 j (upd (S.2.1 j) k v), S.2.2)
def mS.sl (S : mS) (j k : Nat) (v : Int64) : mS := (S.1, S.2.1, va_up S.2.2 j (vp_updL (S.2.2 j) k v))
def mfs (h : Nat → Nat) (S : mS) : List Value := [.ref (h 1), .ref (h 2), .ref (h 3), .int (S.fi 3), .ref (h 4), .ref (h 5), .ref (h 6), .int (S.fi 7), .ref (h 7), .ref (h 8), .int (S.fi 10), .ref (h 9), .int (S.fi 12), .ref (h 10), .int (S.fi 14), .int (S.fi 15), .int (S.fi 16), .ref (h 11), .int (S.fi 18), .int (S.fi 19), .int (S.fi 20), .int (S.fi 21), .int (S.fi 22), .int (S.fi 23)]
def mW (cI cJ : ClassId) (h : Nat → Nat) (S : mS) : va_W := [(h 0, .inr (2, mfs h S)), (h 1, .inl (cI, 513, .inl (S.ia 1))), (h 2, .inl (cI, 513, .inl (S.ia 2))), (h 3, .inl (cJ, 12312, .inr (.inl (S.la 3)))), (h 4, .inl (cI, 8, .inl (S.ia 4))), (h 5, .inl (cI, 8, .inl (S.ia 5))), (h 6, .inl (cI, 513, .inl (S.ia 6))), (h 7, .inl (cI, 513, .inl (S.ia 7))), (h 8, .inl (cI, 513, .inl (S.ia 8))), (h 9, .inl (cI, 80, .inl (S.ia 9))), (h 10, .inl (cJ, 24, .inr (.inl (S.la 10)))), (h 11, .inl (cJ, 24, .inr (.inl (S.la 11))))]
def tysM (cI cJ : ClassId) : List (ClassId × FieldType) := [(cI, .int), (cJ, .long)]
def mI (D : va_G) (cI cJ : ClassId) (h : Nat → Nat) (A : Nat → Prop) (s : State) (H0 H : Heap) (locs : List Loc) (S : mS) : Prop :=
  va_K D vwCl (tysM cI cJ) s ∧ va_P D vwCl (mW cI cJ h S) H ∧ va_D A (mW cI cJ h S) ∧ va_S A H0 H locs ∧ ∀ q, H0.size ≤ q → A q
def mInt : List Nat := [3, 7, 10, 12, 14, 15, 16, 18, 19, 20, 21, 22, 23]
theorem m_pf {k : Nat} (hk : k ∈ mInt) : k < 24 ∧ (TX2 k).2.2.2 = false ∧ parseFieldDescriptor (TX2 k).2.2.1 = some .int ∧ (∀ (h : Nat → Nat) (S : mS), (mfs h S)[k]? = some (.int (S.fi k))) ∧ ∀ (h : Nat → Nat) (S : mS) (v : Int32), (mfs h S).set k (.int v) = mfs h (S.si k v) := by
  simp only [mInt, List.mem_cons, List.not_mem_nil, or_false] at hk
  rcases hk with rfl | rfl | rfl | rfl | rfl | rfl | rfl | rfl | rfl | rfl | rfl | rfl | rfl <;> exact ⟨by decide, rfl, tyX2_ok _ (by decide), fun _ _ => rfl, fun _ _ _ => rfl⟩
def mIa : List (Nat × Nat) := [(1, 513), (2, 513), (4, 8), (5, 8), (6, 513), (7, 513), (8, 513), (9, 80)]
def mLa : List (Nat × Nat) := [(3, 12312), (10, 24), (11, 24)]
theorem m_ia {j n : Nat} (hj : (j, n) ∈ mIa) (cI cJ : ClassId) (h : Nat → Nat) (S : mS) : (mW cI cJ h S)[j]? = some (h j, .inl (cI, n, .inl (S.ia j))) ∧ ∀ (k : Nat) (v : Int32), (mW cI cJ h S).set j (h j, .inl (cI, n, .inl (upd (S.ia j) k v))) = mW cI cJ h (S.sa j k v) := by
  simp only [mIa, List.mem_cons, List.not_mem_nil, or_false, Prod.mk.injEq] at hj
  rcases hj with ⟨rfl, rfl⟩ | ⟨rfl, rfl⟩ | ⟨rfl, rfl⟩ | ⟨rfl, rfl⟩ | ⟨rfl, rfl⟩ | ⟨rfl, rfl⟩ | ⟨rfl, rfl⟩ | ⟨rfl, rfl⟩ <;> exact ⟨rfl, fun _ _ => rfl⟩
theorem m_la {j n : Nat} (hj : (j, n) ∈ mLa) (cI cJ : ClassId) (h : Nat → Nat) (S : mS) : (mW cI cJ h S)[j]? = some (h j, .inl (cJ, n, .inr (.inl (S.la j)))) ∧ ∀ (k : Nat) (v : Int64), (mW cI cJ h S).set j (h j, .inl (cJ, n, .inr (.inl (vp_updL (S.la j) k v)))) = mW cI cJ h (S.sl j k v) := by
  simp only [mLa, List.mem_cons, List.not_mem_nil, or_false, Prod.mk.injEq] at hj
  rcases hj with ⟨rfl, rfl⟩ | ⟨rfl, rfl⟩ | ⟨rfl, rfl⟩ <;> exact ⟨rfl, fun _ _ => rfl⟩
def mPc (D : va_G) (cI cJ : ClassId) (h : Nat → Nat) (S : mS) (sz : Nat) (As : List Value) : Array Value → State → Prop :=
  va_Pc As (fun U => U.heap.size = sz ∧ va_P D vwCl (mW cI cJ h S) U.heap ∧ va_K D vwCl (tysM cI cJ) U ∧ va_D (fun _ => True) (mW cI cJ h S))
def mB (D : va_G) (cI cJ : ClassId) (h : Nat → Nat) (A : Nat → Prop) (u : mS) (t : State) : Prop := va_P D vwCl (mW cI cJ h u) t.heap ∧ va_K D vwCl (tysM cI cJ) t ∧ va_D A (mW cI cJ h u)
/-- a contract of a method of the reference: int, long, void -/
def mMi (l : Launch) (D : va_G) (cI cJ : ClassId) (h : Nat → Nat) (y : MethodName) (ws : List Cond) (rm : Room) (As : List Value) (K : Int32 → mS → Prop) (S : mS) : Prop :=
  ∀ sz : Nat, Met l y ws rm (mPc D cI cJ h S sz As) (va_Qi K (mB D cI cJ h (va_A (mW cI cJ h S) sz)) (va_A (mW cI cJ h S) sz)) 0 0 (va_A (mW cI cJ h S) sz)
def mMl (l : Launch) (D : va_G) (cI cJ : ClassId) (h : Nat → Nat) (y : MethodName) (ws : List Cond) (rm : Room) (As : List Value) (K : Int64 → mS → Prop) (S : mS) : Prop :=
  ∀ sz : Nat, Met l y ws rm (mPc D cI cJ h S sz As) (va_Ql K (mB D cI cJ h (va_A (mW cI cJ h S) sz)) (va_A (mW cI cJ h S) sz)) 0 0 (va_A (mW cI cJ h S) sz)
def mMv (l : Launch) (D : va_G) (cI cJ : ClassId) (h : Nat → Nat) (y : MethodName) (ws : List Cond) (rm : Room) (As : List Value) (K : mS → Prop) (S : mS) : Prop :=
  ∀ sz : Nat, Met l y ws rm (mPc D cI cJ h S sz As) (va_Qv K (mB D cI cJ h (va_A (mW cI cJ h S) sz)) (va_A (mW cI cJ h S) sz)) 0 0 (va_A (mW cI cJ h S) sz)
/-- a contract of a static method that touches no heap -/
def sMi (l : Launch) (y : MethodName) (ws : List Cond) (rm : Room) (As : List Value) (K : Int32 → Prop) : Prop := Met l y ws rm (va_Pc As (fun _ => True)) (vp_Si K) 0 0 (fun _ => False)
def sMl (l : Launch) (y : MethodName) (ws : List Cond) (rm : Room) (As : List Value) (K : Int64 → Prop) : Prop := Met l y ws rm (va_Pc As (fun _ => True)) (vp_Sl K) 0 0 (fun _ => False)
section Rows
variable {p : Program} {l : Launch} {e : Env} {R : Room} {s : State} {m : MethodId} {args : Array Value} {below : List Frame} {meth : Method} {c : Code} {H H0 : Heap} {locs : List Loc} {cells slots : Nat} {Q : State → Prop} {cc : ByteArray} {nL pc : Nat} {ls : Array Slot} {rest st0 : List Value} {Ts : List Cond} {D : va_G} {cI cJ : ClassId} {h : Nat → Nat} {A : Nat → Prop} {S : mS} {own : String}
theorem m_get (F : CallFix p m c cc nL s args Ts RX2) (hin : ∀ w ∈ u_ws RX2 TX2 24, w ∈ Ts) (I : mI D cI cJ h A s H0 H locs S) (k : Nat) (hk : k < 24) {v : Value} (hv : (mfs h S)[k]? = some v) {index : Nat} (hlink : (Cond.fieldLink RX2 index (TX2 k).1 (TX2 k).2.1 (TX2 k).2.2.1).before args s = true) (hdg : decode cc pc = .ok (.getfield index, 3))
    (kk : W p l e R s m args below meth c H locs cells slots Q (F0 m (pc + 3) ls (v :: rest))) : W p l e R s m args below meth c H locs cells slots Q (F0 m pc ls (.ref (h 0) :: rest)) :=
  va_get (D := D) (cl := vwCl) (ci := 2) (C := RX2) (T := TX2) (N := 24) (ws := mW cI cJ h S) F.1 F.2.1 F.2.2.2.2 hin F.2.2.2.1 I.1 I.2.1 0 rfl rfl k hk hlink (fun _ q => q) hv hdg kk
theorem m_put (F : CallFix p m c cc nL s args Ts RX2) (hin : ∀ w ∈ u_ws RX2 TX2 24, w ∈ Ts) (I : mI D cI cJ h A s H0 H locs S) (k : Nat) (hk : k ∈ mInt) {v : Int32} {index : Nat} (hlink : (Cond.fieldLink RX2 index (TX2 k).1 (TX2 k).2.1 (TX2 k).2.2.1).before args s = true) (hdg : decode cc pc = .ok (.putfield index, 3))
    (kk : ∀ (H1 : Heap) (locs1 : List Loc), mI D cI cJ h A s H0 H1 locs1 (S.si k v) → W p l e R s m args below meth c H1 locs1 cells slots Q (F0 m (pc + 3) ls rest)) : W p l e R s m args below meth c H locs cells slots Q (F0 m pc ls (.int v :: .ref (h 0) :: rest)) := by
  obtain ⟨h1, h2, h3, -, h4⟩ := m_pf hk
  refine va_put (D := D) (cl := vwCl) (ci := 2) (C := RX2) (T := TX2) (N := 24) (ws := mW cI cJ h S) (fs := mfs h S) F.1 F.2.1 F.2.2.2.2 hin tyX2 tyX2_ok nmX2 F.2.2.2.1 I.1 I.2.1 I.2.2.1 I.2.2.2.1 0 rfl rfl k h1 hlink (fun _ q => q) h2 h3 rfl rfl h1 hdg (fun H1 locs1 hP hD hS => kk H1 locs1 ⟨I.1, ?_, ?_, hS, I.2.2.2.2⟩)
  · rw [h4] at hP; exact hP
  · rw [h4] at hD; exact hD
theorem m_iald (F : CallFix p m c cc nL s args Ts RX2) (I : mI D cI cJ h A s H0 H locs S) (j n : Nat) (hj : (j, n) ∈ mIa) {i : Int32} (hi : vp_in i n) (hdg : decode cc pc = .ok (.iaload, 1))
    (kk : W p l e R s m args below meth c H locs cells slots Q (F0 m (pc + 1) ls (.int (S.ia j i.toNatClampNeg) :: rest))) : W p l e R s m args below meth c H locs cells slots Q (F0 m pc ls (.int i :: .ref (h j) :: rest)) :=
  va_iald F.1 F.2.1 I.1 I.2.1 j 0 (m_ia hj cI cJ h S).1 rfl hi hdg kk
theorem m_iast (F : CallFix p m c cc nL s args Ts RX2) (I : mI D cI cJ h A s H0 H locs S) (j n : Nat) (hj : (j, n) ∈ mIa) {i x : Int32} (hi : vp_in i n) (hdg : decode cc pc = .ok (.iastore, 1))
    (kk : ∀ (H1 : Heap) (locs1 : List Loc), mI D cI cJ h A s H0 H1 locs1 (S.sa j i.toNatClampNeg x) → W p l e R s m args below meth c H1 locs1 cells slots Q (F0 m (pc + 1) ls rest)) : W p l e R s m args below meth c H locs cells slots Q (F0 m pc ls (.int x :: .int i :: .ref (h j) :: rest)) := by
  refine va_iast F.1 F.2.1 I.1 I.2.1 I.2.2.1 I.2.2.2.1 j 0 (m_ia hj cI cJ h S).1 rfl hi hdg (fun H1 locs1 hP hD hS => kk H1 locs1 ⟨I.1, ?_, ?_, hS, I.2.2.2.2⟩)
  · rw [(m_ia hj cI cJ h S).2] at hP; exact hP
  · rw [(m_ia hj cI cJ h S).2] at hD; exact hD
theorem m_lald (F : CallFix p m c cc nL s args Ts RX2) (I : mI D cI cJ h A s H0 H locs S) (j n : Nat) (hj : (j, n) ∈ mLa) {i : Int32} (hi : vp_in i n) (hdg : decode cc pc = .ok (.laload, 1))
    (kk : W p l e R s m args below meth c H locs cells slots Q (F0 m (pc + 1) ls (.long (S.la j i.toNatClampNeg) :: rest))) : W p l e R s m args below meth c H locs cells slots Q (F0 m pc ls (.int i :: .ref (h j) :: rest)) :=
  va_lald F.1 F.2.1 I.1 I.2.1 j 1 (m_la hj cI cJ h S).1 rfl hi hdg kk
theorem m_last (F : CallFix p m c cc nL s args Ts RX2) (I : mI D cI cJ h A s H0 H locs S) (j n : Nat) (hj : (j, n) ∈ mLa) {i : Int32} {x : Int64} (hi : vp_in i n) (hdg : decode cc pc = .ok (.lastore, 1))
    (kk : ∀ (H1 : Heap) (locs1 : List Loc), mI D cI cJ h A s H0 H1 locs1 (S.sl j i.toNatClampNeg x) → W p l e R s m args below meth c H1 locs1 cells slots Q (F0 m (pc + 1) ls rest)) : W p l e R s m args below meth c H locs cells slots Q (F0 m pc ls (.long x :: .int i :: .ref (h j) :: rest)) := by
  refine va_last F.1 F.2.1 I.1 I.2.1 I.2.2.1 I.2.2.2.1 j 1 (m_la hj cI cJ h S).1 rfl hi hdg (fun H1 locs1 hP hD hS => kk H1 locs1 ⟨I.1, ?_, ?_, hS, I.2.2.2.2⟩)
  · rw [(m_la hj cI cJ h S).2] at hP; exact hP
  · rw [(m_la hj cI cJ h S).2] at hD; exact hD
theorem m_reti {K : Int32 → mS → Prop} (F : CallFix p m c cc nL s args Ts own) (hr : meth.sig.returnType = some .int) (hlk : meth.locks = false) (I : mI D cI cJ h A s s.heap H locs S) {v : Int32} (hdg : decode cc pc = .ok (.ireturn, 1)) (hK : K v S) : W p l e R s m args below meth c H locs cells slots (MQ below (va_Qi K (mB D cI cJ h A) A) args s cells slots A) (F0 m pc ls [.int v]) :=
  W.iret (v := v) F.1 F.2.1 hr (fun t ht hW => ⟨⟨v, S, rfl, hK, by rw [ht]; exact I.2.1, va_K.moved hW.alike I.1, I.2.2.1⟩, I.2.2.2.1.F ht⟩) I.2.2.2.1.2.2 hdg hlk
theorem m_retz {K : Int32 → mS → Prop} (F : CallFix p m c cc nL s args Ts own) (hr : meth.sig.returnType = some .boolean) (hlk : meth.locks = false) (I : mI D cI cJ h A s s.heap H locs S) {v : Int32} (hdg : decode cc pc = .ok (.ireturn, 1)) (hK : K v S ∧ narrow .boolean (.int v) = .int v) : W p l e R s m args below meth c H locs cells slots (MQ below (va_Qi K (mB D cI cJ h A) A) args s cells slots A) (F0 m pc ls [.int v]) :=
  W.zret (v := v) F.1 F.2.1 hr hK.2 (fun t ht hW => ⟨⟨v, S, rfl, hK.1, by rw [ht]; exact I.2.1, va_K.moved hW.alike I.1, I.2.2.1⟩, I.2.2.2.1.F ht⟩) I.2.2.2.1.2.2 hdg hlk
theorem m_retl {K : Int64 → mS → Prop} (F : CallFix p m c cc nL s args Ts own) (hr : meth.sig.returnType = some .long) (hlk : meth.locks = false) (I : mI D cI cJ h A s s.heap H locs S) {v : Int64} (hdg : decode cc pc = .ok (.lreturn, 1)) (hK : K v S) : W p l e R s m args below meth c H locs cells slots (MQ below (va_Ql K (mB D cI cJ h A) A) args s cells slots A) (F0 m pc ls [.long v]) :=
  W.lret (v := v) F.1 F.2.1 hr (fun t ht hW => ⟨⟨v, S, rfl, hK, by rw [ht]; exact I.2.1, va_K.moved hW.alike I.1, I.2.2.1⟩, I.2.2.2.1.F ht⟩) I.2.2.2.1.2.2 hdg hlk
theorem m_retv {K : mS → Prop} (F : CallFix p m c cc nL s args Ts own) (hr : meth.sig.returnType = none) (hlk : meth.locks = false) (I : mI D cI cJ h A s s.heap H locs S) (hdg : decode cc pc = .ok (.return_, 1)) (hK : K S) : W p l e R s m args below meth c H locs cells slots (MQ below (va_Qv K (mB D cI cJ h A) A) args s cells slots A) (F0 m pc ls []) :=
  W.vret F.1 F.2.1 hr (fun t ht hW => ⟨⟨S, rfl, hK, by rw [ht]; exact I.2.1, va_K.moved hW.alike I.1, I.2.2.1⟩, I.2.2.2.1.F ht⟩) I.2.2.2.1.2.2 hdg hlk
theorem s_reti {K : Int32 → Prop} (F : CallFix p m c cc nL s args Ts own) (hr : meth.sig.returnType = some .int) (hlk : meth.locks = false) {v : Int32} (hdg : decode cc pc = .ok (.ireturn, 1)) (hK : K v) : W p l e R s m args below meth c s.heap [] cells slots (MQ below (vp_Si K) args s cells slots (fun _ => False)) (F0 m pc ls [.int v]) :=
  W.iret (v := v) F.1 F.2.1 hr (fun t ht _ => ⟨v, rfl, hK, ht⟩) (fun _ q => by cases q) hdg hlk
theorem s_retz {K : Int32 → Prop} (F : CallFix p m c cc nL s args Ts own) (hr : meth.sig.returnType = some .boolean) (hlk : meth.locks = false) {v : Int32} (hdg : decode cc pc = .ok (.ireturn, 1)) (hK : K v ∧ narrow .boolean (.int v) = .int v) : W p l e R s m args below meth c s.heap [] cells slots (MQ below (vp_Si K) args s cells slots (fun _ => False)) (F0 m pc ls [.int v]) :=
  W.zret (v := v) F.1 F.2.1 hr hK.2 (fun t ht _ => ⟨v, rfl, hK.1, ht⟩) (fun _ q => by cases q) hdg hlk
theorem s_retl {K : Int64 → Prop} (F : CallFix p m c cc nL s args Ts own) (hr : meth.sig.returnType = some .long) (hlk : meth.locks = false) {v : Int64} (hdg : decode cc pc = .ok (.lreturn, 1)) (hK : K v) : W p l e R s m args below meth c s.heap [] cells slots (MQ below (vp_Sl K) args s cells slots (fun _ => False)) (F0 m pc ls [.long v]) :=
  W.lret (v := v) F.1 F.2.1 hr (fun t ht _ => ⟨v, rfl, hK, ht⟩) (fun _ q => by cases q) hdg hlk
theorem m_free (I : mI D cI cJ h A s H0 H locs S) : ∀ q, va_A (mW cI cJ h S) H.size q → A q := by
  intro q hq
  rcases hq with ⟨k, e, hk⟩ | hq
  · exact I.2.2.1.2 k _ hk
  · exact I.2.2.2.2 q (Nat.le_trans I.2.2.2.1.1 hq)
theorem m_blind {As : List Value} {sz : Nat} : FrameBlind (mPc D cI cJ h S sz As) := fun a U g mk q => by
  obtain ⟨q0, q1, qP, qK, qD⟩ := q
  exact ⟨q0, q1, qP, va_K.moved (u := U) (U := U.calling g mk a) (Vm.Alike.refl U.vm) qK, qD⟩
theorem m_pre (I : mI D cI cJ h A s H0 H locs S) (As : List Value) : ∀ U : State, U.heap = H → s.WarmedH U.vm → mPc D cI cJ h S H.size As As.toArray U :=
  fun U hU hW => ⟨rfl, by rw [hU], by rw [hU]; exact I.2.1, va_K.moved hW.alike I.1, I.2.2.1.weaken (fun _ _ _ _ => trivial)⟩
theorem m_recv (I : mI D cI cJ h A s H0 H locs S) : ∃ cell : Cell, H[h 0]? = some cell ∧ cell.vm.isStatics = false ∧ s.vm.findClass RX2 = some cell.cls :=
  va_recv (q0 := 0) (ci := 2) (q := (RX2, TX2, 24)) (fs := mfs h S) I.1 I.2.1 rfl rfl
theorem m_back (I : mI D cI cJ h A s H0 H locs S) {u : mS} {t : State} {H1 : Heap} {locs1 : List Loc} (ht : t.heap = H1) (hvm : s.vm.Alike t.vm) (hB : mB D cI cJ h (va_A (mW cI cJ h S) H.size) u t) (hS : va_S A H0 H1 locs1) : mI D cI cJ h A s H0 H1 locs1 u := by
  obtain ⟨hP, -, hD⟩ := hB
  rw [ht] at hP
  exact ⟨I.1, hP, hD.weaken (fun k q hk hq => m_free I _ hq), hS, I.2.2.2.2⟩
theorem m_start {y : MethodName} {ws ws' : List Cond} {maxL : Nat} {rm : Room} {As : List Value} {Qc : (Nat → Prop) → Array Value → State → Outcome → State → Prop} {rt : Option FieldType} (hy : plainName y.cls = true) (hw : ws = Cond.code y cc maxL rt :: ws') (hy2 : y.cls = RX2) (hA : (lg_sl As).length ≤ maxL)
    (body : ∀ (p : Program) (e : Env) (s : State) (m : MethodId) (below : List Frame) (meth : Method) (c : Code) (A : Nat → Prop) (ls : Array Slot), CallFix p m c cc maxL s As.toArray ws RX2 → meth.sig.returnType = rt → meth.locks = false → mI D cI cJ h A s s.heap s.heap [] S → lv_has ls maxL (lv_args 0 As) → W p l e rm s m As.toArray below meth c s.heap [] 0 0 (MQ below (Qc A) As.toArray s 0 0 A) (F0 m 0 ls [])) :
    ∀ sz : Nat, Met l y ws rm (mPc D cI cJ h S sz As) (Qc (va_A (mW cI cJ h S) sz)) 0 0 (va_A (mW cI cJ h S) sz) := by
  intro sz
  refine Met.ofW (cc := cc) (maxL := maxL) (ret := rt) hy hw ?_
  intro p e s m args below meth c s₁ B hml hv
  obtain ⟨rfl, hsz, hP, hK, hD0⟩ := hv
  have hown : s.vm.findClass RX2 = some m.cls := hy2 ▸ findClass_of_methodNamed B.named
  subst hsz
  have hl := lv_entry As (n := maxL) hA
  rw [lg_entry_eq]
  exact body p e s m below meth c _ _ ⟨B.exec, B.bytes, hml, hown, atoms_spec (ws := ws) B.pre⟩ B.returns B.notSynchronized ⟨hK, hP, hD0.self (sz := s.heap.size), va_S.rf, fun q hq => Or.inr hq⟩ hl
theorem s_start {y : MethodName} {ws ws' : List Cond} {maxL : Nat} {rm : Room} {As : List Value} {Qc : Array Value → State → Outcome → State → Prop} {rt : Option FieldType} {R0 : String} (hy : plainName y.cls = true) (hw : ws = Cond.code y cc maxL rt :: ws') (hy2 : y.cls = R0) (hA : (lg_sl As).length ≤ maxL)
    (body : ∀ (p : Program) (e : Env) (s : State) (m : MethodId) (below : List Frame) (meth : Method) (c : Code) (ls : Array Slot), CallFix p m c cc maxL s As.toArray ws R0 → meth.sig.returnType = rt → meth.locks = false → lv_has ls maxL (lv_args 0 As) → W p l e rm s m As.toArray below meth c s.heap [] 0 0 (MQ below Qc As.toArray s 0 0 (fun _ => False)) (F0 m 0 ls [])) :
    Met l y ws rm (va_Pc As (fun _ => True)) Qc 0 0 (fun _ => False) := by
  refine Met.ofW (cc := cc) (maxL := maxL) (ret := rt) hy hw ?_
  intro p e s m args below meth c s₁ B hml hv
  obtain ⟨rfl, -⟩ := hv
  have hown : s.vm.findClass R0 = some m.cls := hy2 ▸ findClass_of_methodNamed B.named
  have hl := lv_entry As (n := maxL) hA
  rw [lg_entry_eq]
  exact body p e s m below meth c _ ⟨B.exec, B.bytes, hml, hown, atoms_spec (ws := ws) B.pre⟩ B.returns B.notSynchronized hl
theorem m_starti {y : MethodName} {ws ws' : List Cond} {maxL : Nat} {rm : Room} {As : List Value} {K : Int32 → mS → Prop} {rt : Option FieldType} (hy : plainName y.cls = true) (hw : ws = Cond.code y cc maxL rt :: ws') (hy2 : y.cls = RX2) (hA : (lg_sl As).length ≤ maxL)
    (body : ∀ (p : Program) (e : Env) (s : State) (m : MethodId) (below : List Frame) (meth : Method) (c : Code) (A : Nat → Prop) (ls : Array Slot), CallFix p m c cc maxL s As.toArray ws RX2 → meth.sig.returnType = rt → meth.locks = false → mI D cI cJ h A s s.heap s.heap [] S → lv_has ls maxL (lv_args 0 As) → W p l e rm s m As.toArray below meth c s.heap [] 0 0 (MQ below (va_Qi K (mB D cI cJ h A) A) As.toArray s 0 0 A) (F0 m 0 ls [])) :
    mMi l D cI cJ h y ws rm As K S := m_start (Qc := fun A => va_Qi K (mB D cI cJ h A) A) hy hw hy2 hA body
theorem m_startl {y : MethodName} {ws ws' : List Cond} {maxL : Nat} {rm : Room} {As : List Value} {K : Int64 → mS → Prop} {rt : Option FieldType} (hy : plainName y.cls = true) (hw : ws = Cond.code y cc maxL rt :: ws') (hy2 : y.cls = RX2) (hA : (lg_sl As).length ≤ maxL)
    (body : ∀ (p : Program) (e : Env) (s : State) (m : MethodId) (below : List Frame) (meth : Method) (c : Code) (A : Nat → Prop) (ls : Array Slot), CallFix p m c cc maxL s As.toArray ws RX2 → meth.sig.returnType = rt → meth.locks = false → mI D cI cJ h A s s.heap s.heap [] S → lv_has ls maxL (lv_args 0 As) → W p l e rm s m As.toArray below meth c s.heap [] 0 0 (MQ below (va_Ql K (mB D cI cJ h A) A) As.toArray s 0 0 A) (F0 m 0 ls [])) :
    mMl l D cI cJ h y ws rm As K S := m_start (Qc := fun A => va_Ql K (mB D cI cJ h A) A) hy hw hy2 hA body
theorem m_startv {y : MethodName} {ws ws' : List Cond} {maxL : Nat} {rm : Room} {As : List Value} {K : mS → Prop} {rt : Option FieldType} (hy : plainName y.cls = true) (hw : ws = Cond.code y cc maxL rt :: ws') (hy2 : y.cls = RX2) (hA : (lg_sl As).length ≤ maxL)
    (body : ∀ (p : Program) (e : Env) (s : State) (m : MethodId) (below : List Frame) (meth : Method) (c : Code) (A : Nat → Prop) (ls : Array Slot), CallFix p m c cc maxL s As.toArray ws RX2 → meth.sig.returnType = rt → meth.locks = false → mI D cI cJ h A s s.heap s.heap [] S → lv_has ls maxL (lv_args 0 As) → W p l e rm s m As.toArray below meth c s.heap [] 0 0 (MQ below (va_Qv K (mB D cI cJ h A) A) As.toArray s 0 0 A) (F0 m 0 ls [])) :
    mMv l D cI cJ h y ws rm As K S := m_start (Qc := fun A => va_Qv K (mB D cI cJ h A) A) hy hw hy2 hA body
section Calls
variable {y : MethodName} {ws : List Cond} {rm : Room} {bytes : ByteArray} {maxL index n : Nat} {ret : Option FieldType} {As : List Value}
theorem m_calli {K : Int32 → mS → Prop} (F : CallFix p m c cc nL s args Ts own) (I : mI D cI cJ h A s H0 H locs S) (hM : mMi l D cI cJ h y ws rm (.ref (h 0) :: As) K S) (cw : CallW R s args own RX2 index y bytes maxL ret ws rm 0 0 n) (hn : As.length = n) (hsize : ls.size = nL) (hstack : st0 = As.reverse ++ .ref (h 0) :: rest) (hW : (rest.map fun v => v.category).sum ≤ 8) (hdg : decode cc pc = .ok (.invokevirtual index, 3)) (hf : cells ≤ R.cells ∧ slots ≤ R.slots)
    (kk : ∀ (r : Int32) (u : mS) (H1 : Heap) (locs1 : List Loc), K r u → mI D cI cJ h A s H0 H1 locs1 u → W p l e R s m args below meth c H1 locs1 cells slots Q (F0 m (pc + 3) ls (.int r :: rest))) : W p l e R s m args below meth c H locs cells slots Q (F0 m pc ls st0) :=
  va_calli (va_runV F (hM H.size) cw ⟨m_blind, m_recv I, m_pre I _⟩ rfl hn hsize hstack (lv_room hW) hdg hf) I.2.2.2.1 (fun q _ hq => m_free I q hq) (m_free I) (fun r u t H1 locs1 ht hvm hw hB hz hk hS => kk r u H1 locs1 hw (m_back I ht hvm hB hS))
theorem m_calll {K : Int64 → mS → Prop} (F : CallFix p m c cc nL s args Ts own) (I : mI D cI cJ h A s H0 H locs S) (hM : mMl l D cI cJ h y ws rm (.ref (h 0) :: As) K S) (cw : CallW R s args own RX2 index y bytes maxL ret ws rm 0 0 n) (hn : As.length = n) (hsize : ls.size = nL) (hstack : st0 = As.reverse ++ .ref (h 0) :: rest) (hW : (rest.map fun v => v.category).sum ≤ 8) (hdg : decode cc pc = .ok (.invokevirtual index, 3)) (hf : cells ≤ R.cells ∧ slots ≤ R.slots)
    (kk : ∀ (r : Int64) (u : mS) (H1 : Heap) (locs1 : List Loc), K r u → mI D cI cJ h A s H0 H1 locs1 u → W p l e R s m args below meth c H1 locs1 cells slots Q (F0 m (pc + 3) ls (.long r :: rest))) : W p l e R s m args below meth c H locs cells slots Q (F0 m pc ls st0) :=
  va_calll (va_runV F (hM H.size) cw ⟨m_blind, m_recv I, m_pre I _⟩ rfl hn hsize hstack (lv_room hW) hdg hf) I.2.2.2.1 (fun q _ hq => m_free I q hq) (m_free I) (fun r u t H1 locs1 ht hvm hw hB hz hk hS => kk r u H1 locs1 hw (m_back I ht hvm hB hS))
theorem m_callv {K : mS → Prop} (F : CallFix p m c cc nL s args Ts own) (I : mI D cI cJ h A s H0 H locs S) (hM : mMv l D cI cJ h y ws rm (.ref (h 0) :: As) K S) (cw : CallW R s args own RX2 index y bytes maxL ret ws rm 0 0 n) (hn : As.length = n) (hsize : ls.size = nL) (hstack : st0 = As.reverse ++ .ref (h 0) :: rest) (hW : (rest.map fun v => v.category).sum ≤ 8) (hdg : decode cc pc = .ok (.invokevirtual index, 3)) (hf : cells ≤ R.cells ∧ slots ≤ R.slots)
    (kk : ∀ (u : mS) (H1 : Heap) (locs1 : List Loc), K u → mI D cI cJ h A s H0 H1 locs1 u → W p l e R s m args below meth c H1 locs1 cells slots Q (F0 m (pc + 3) ls rest)) : W p l e R s m args below meth c H locs cells slots Q (F0 m pc ls st0) :=
  va_callv (va_runV F (hM H.size) cw ⟨m_blind, m_recv I, m_pre I _⟩ rfl hn hsize hstack (lv_room hW) hdg hf) I.2.2.2.1 (fun q _ hq => m_free I q hq) (m_free I) (fun u t H1 locs1 ht hvm hw hB hz hk hS => kk u H1 locs1 hw (m_back I ht hvm hB hS))
theorem s_calli {K : Int32 → Prop} (F : CallFix p m c cc nL s args Ts own) (hM : sMi l y ws rm As K) (cw : CallB R s args own index y bytes maxL ret ws rm 0 0 n ∧ (Cond.static y).before args s = true) (hn : As.length = n) (hsize : ls.size = nL) (hstack : st0 = As.reverse ++ rest) (hW : (rest.map fun v => v.category).sum ≤ 8) (hdg : decode cc pc = .ok (.invokestatic index, 3)) (hf : cells ≤ R.cells ∧ slots ≤ R.slots)
    (kk : ∀ r : Int32, K r → W p l e R s m args below meth c H locs cells slots Q (F0 m (pc + 3) ls (.int r :: rest))) : W p l e R s m args below meth c H locs cells slots Q (F0 m pc ls st0) :=
  vp_callSi (W.runS F hM cw ⟨fun _ _ _ _ q => ⟨q.1, trivial⟩, fun _ _ _ => ⟨rfl, trivial⟩⟩ rfl hn hsize hstack (lv_room hW) hdg hf) kk
theorem s_calll {K : Int64 → Prop} (F : CallFix p m c cc nL s args Ts own) (hM : sMl l y ws rm As K) (cw : CallB R s args own index y bytes maxL ret ws rm 0 0 n ∧ (Cond.static y).before args s = true) (hn : As.length = n) (hsize : ls.size = nL) (hstack : st0 = As.reverse ++ rest) (hW : (rest.map fun v => v.category).sum ≤ 8) (hdg : decode cc pc = .ok (.invokestatic index, 3)) (hf : cells ≤ R.cells ∧ slots ≤ R.slots)
    (kk : ∀ r : Int64, K r → W p l e R s m args below meth c H locs cells slots Q (F0 m (pc + 3) ls (.long r :: rest))) : W p l e R s m args below meth c H locs cells slots Q (F0 m pc ls st0) :=
  vp_callSl (W.runS F hM cw ⟨fun _ _ _ _ q => ⟨q.1, trivial⟩, fun _ _ _ => ⟨rfl, trivial⟩⟩ rfl hn hsize hstack (lv_room hW) hdg hf) kk
end Calls
end Rows
end MWorld
end
section
abbrev rm_X2_isSpindle : Room := { frames := 0, cells := 0, slots := 0, locals := 0 }
def wp_X2_isSpindle (p0 : Int32) (K : Int32 → Prop) : Prop := ((p0 < 0 → K (0 : Int32)) ∧ (¬ p0 < 0 → (((7 : Int32) < p0 → K (0 : Int32)) ∧ (¬ (7 : Int32) < p0 → K (1 : Int32)))))
set_option maxHeartbeats 4000000 in
set_option maxRecDepth 100000 in
theorem c_X2_isSpindle {l : Launch} (p0 : Int32) (K : Int32 → Prop) (hw : wp_X2_isSpindle p0 K) : sMi l yX2_isSpindle wsX2_isSpindle rm_X2_isSpindle [.int (p0)] K := by
  refine s_start (rt := some .boolean) (R0 := RX2) (by decide) rfl rfl (Nat.le_of_ble_eq_true rfl) ?_
  intro p e s m below meth c ls F hr hlk hl
  obtain ⟨hx, hb, hml, hown, hts⟩ := id F
  have hl : lv_has ls 1 [(0, .int (p0))] := hl
  unfold wp_X2_isSpindle at hw
  refine lv_iload_n hx hb dX2_isSpindle_0 rfl (lv_at hl 0 rfl) ?_
  refine lv_if_lt (tgt := 14) hx hb dX2_isSpindle_1 (by decide) (fun c_1 => ?_) (fun c_1 => ?_)
  · have hw := hw.1 c_1
    refine lv_iconst (v := (0 : Int32)) hx hb dX2_isSpindle_14 (by decide) ?_
    exact s_retz F hr hlk dX2_isSpindle_15 ⟨hw, by decide⟩
  · have hw := hw.2 c_1
    refine lv_iload_n hx hb dX2_isSpindle_4 rfl (lv_at hl 0 rfl) ?_
    refine lv_bipush (v := (7 : Int32)) hx hb dX2_isSpindle_5 (by decide) ?_
    refine lv_icmp_gt (tgt := 14) hx hb dX2_isSpindle_7 (by decide) (fun c_2 => ?_) (fun c_2 => ?_)
    · have hw := hw.1 c_2
      refine lv_iconst (v := (0 : Int32)) hx hb dX2_isSpindle_14 (by decide) ?_
      exact s_retz F hr hlk dX2_isSpindle_15 ⟨hw, by decide⟩
    · have hw := hw.2 c_2
      refine lv_iconst (v := (1 : Int32)) hx hb dX2_isSpindle_10 (by decide) ?_
      refine lv_goto (tgt := 15) hx hb dX2_isSpindle_11 (by decide) ?_
      exact s_retz F hr hlk dX2_isSpindle_15 ⟨hw, by decide⟩
abbrev rm_X2_isOfNumbers : Room := { frames := 0, cells := 0, slots := 0, locals := 0 }
def wp_X2_isOfNumbers (p0 : Int32) (K : Int32 → Prop) : Prop := (((5 : Int32) ≤ p0 → K (0 : Int32)) ∧ (¬ (5 : Int32) ≤ p0 → K (1 : Int32)))
set_option maxHeartbeats 4000000 in
set_option maxRecDepth 100000 in
theorem c_X2_isOfNumbers {l : Launch} (p0 : Int32) (K : Int32 → Prop) (hw : wp_X2_isOfNumbers p0 K) : sMi l yX2_isOfNumbers wsX2_isOfNumbers rm_X2_isOfNumbers [.int (p0)] K := by
  refine s_start (rt := some .boolean) (R0 := RX2) (by decide) rfl rfl (Nat.le_of_ble_eq_true rfl) ?_
  intro p e s m below meth c ls F hr hlk hl
  obtain ⟨hx, hb, hml, hown, hts⟩ := id F
  have hl : lv_has ls 1 [(0, .int (p0))] := hl
  unfold wp_X2_isOfNumbers at hw
  refine lv_iload_n hx hb dX2_isOfNumbers_0 rfl (lv_at hl 0 rfl) ?_
  refine lv_iconst (v := (5 : Int32)) hx hb dX2_isOfNumbers_1 (by decide) ?_
  refine lv_icmp_ge (tgt := 9) hx hb dX2_isOfNumbers_2 (by decide) (fun c_1 => ?_) (fun c_1 => ?_)
  · have hw := hw.1 c_1
    refine lv_iconst (v := (0 : Int32)) hx hb dX2_isOfNumbers_9 (by decide) ?_
    exact s_retz F hr hlk dX2_isOfNumbers_10 ⟨hw, by decide⟩
  · have hw := hw.2 c_1
    refine lv_iconst (v := (1 : Int32)) hx hb dX2_isOfNumbers_5 (by decide) ?_
    refine lv_goto (tgt := 10) hx hb dX2_isOfNumbers_6 (by decide) ?_
    exact s_retz F hr hlk dX2_isOfNumbers_10 ⟨hw, by decide⟩
abbrev rm_X2_told : Room := { frames := 0, cells := 0, slots := 0, locals := 0 }
def wp_X2_told (p0 : Int32) (S : mS) (K : Int32 → mS → Prop) : Prop := ((p0 = (4 : Int32) → ((p0 = (5 : Int32) → K (p0) (S.si 18 (p0))) ∧ (¬ p0 = (5 : Int32) → K (p0) ((S.si 18 (p0)).si 20 (0 : Int32))))) ∧ (¬ p0 = (4 : Int32) → ((p0 = (5 : Int32) → K (p0) ((S.si 18 (p0)).si 19 (0 : Int32))) ∧ (¬ p0 = (5 : Int32) → K (p0) (((S.si 18 (p0)).si 19 (0 : Int32)).si 20 (0 : Int32))))))
set_option maxHeartbeats 4000000 in
set_option maxRecDepth 100000 in
theorem c_X2_told {l : Launch} {D : va_G} {cI cJ : ClassId} {h : Nat → Nat} (p0 : Int32) (S : mS) (K : Int32 → mS → Prop) (hw : wp_X2_told p0 S K) : mMi l D cI cJ h yX2_told wsX2_told rm_X2_told [.ref (h 0), .int (p0)] K S := by
  refine m_starti (rt := some .int) (by decide) rfl rfl (Nat.le_of_ble_eq_true rfl) ?_
  intro p e s m below meth c A ls F hr hlk I hl
  have hin : ∀ w ∈ u_ws RX2 TX2 24, w ∈ wsX2_told := by decide +kernel
  obtain ⟨hx, hb, hml, hown, hts⟩ := id F
  have hl : lv_has ls 2 [(0, .ref (h 0)), (1, .int (p0))] := hl
  unfold wp_X2_told at hw
  refine lv_aload_n hx hb dX2_told_0 rfl (lv_at hl 0 rfl) ?_
  refine lv_iload_n hx hb dX2_told_1 rfl (lv_at hl 1 rfl) ?_
  refine m_put F hin I 18 (by decide) (hts (.fieldLink RX2 48 "CuttingTableModel" "refused" "I") (by decide +kernel)) dX2_told_2 (fun H locs I => ?_)
  refine lv_iload_n hx hb dX2_told_5 rfl (lv_at hl 1 rfl) ?_
  refine lv_iconst (v := (4 : Int32)) hx hb dX2_told_6 (by decide) ?_
  refine lv_icmp_eq (tgt := 15) hx hb dX2_told_7 (by decide) (fun c_1 => ?_) (fun c_1 => ?_)
  · have hw := hw.1 c_1
    refine lv_iload_n hx hb dX2_told_15 rfl (lv_at hl 1 rfl) ?_
    refine lv_iconst (v := (5 : Int32)) hx hb dX2_told_16 (by decide) ?_
    refine lv_icmp_eq (tgt := 25) hx hb dX2_told_17 (by decide) (fun c_2 => ?_) (fun c_2 => ?_)
    · have hw := hw.1 c_2
      refine lv_iload_n hx hb dX2_told_25 rfl (lv_at hl 1 rfl) ?_
      exact m_reti F hr hlk I dX2_told_26 hw
    · have hw := hw.2 c_2
      refine lv_aload_n hx hb dX2_told_20 rfl (lv_at hl 0 rfl) ?_
      refine lv_iconst (v := (0 : Int32)) hx hb dX2_told_21 (by decide) ?_
      refine m_put F hin I 20 (by decide) (hts (.fieldLink RX2 54 "CuttingTableModel" "ahead" "I") (by decide +kernel)) dX2_told_22 (fun H locs I => ?_)
      refine lv_iload_n hx hb dX2_told_25 rfl (lv_at hl 1 rfl) ?_
      exact m_reti F hr hlk I dX2_told_26 hw
  · have hw := hw.2 c_1
    refine lv_aload_n hx hb dX2_told_10 rfl (lv_at hl 0 rfl) ?_
    refine lv_iconst (v := (0 : Int32)) hx hb dX2_told_11 (by decide) ?_
    refine m_put F hin I 19 (by decide) (hts (.fieldLink RX2 51 "CuttingTableModel" "way" "I") (by decide +kernel)) dX2_told_12 (fun H locs I => ?_)
    refine lv_iload_n hx hb dX2_told_15 rfl (lv_at hl 1 rfl) ?_
    refine lv_iconst (v := (5 : Int32)) hx hb dX2_told_16 (by decide) ?_
    refine lv_icmp_eq (tgt := 25) hx hb dX2_told_17 (by decide) (fun c_3 => ?_) (fun c_3 => ?_)
    · have hw := hw.1 c_3
      refine lv_iload_n hx hb dX2_told_25 rfl (lv_at hl 1 rfl) ?_
      exact m_reti F hr hlk I dX2_told_26 hw
    · have hw := hw.2 c_3
      refine lv_aload_n hx hb dX2_told_20 rfl (lv_at hl 0 rfl) ?_
      refine lv_iconst (v := (0 : Int32)) hx hb dX2_told_21 (by decide) ?_
      refine m_put F hin I 20 (by decide) (hts (.fieldLink RX2 54 "CuttingTableModel" "ahead" "I") (by decide +kernel)) dX2_told_22 (fun H locs I => ?_)
      refine lv_iload_n hx hb dX2_told_25 rfl (lv_at hl 1 rfl) ?_
      exact m_reti F hr hlk I dX2_told_26 hw
abbrev rm_X2_begin : Room := { frames := 0, cells := 0, slots := 0, locals := 0 }
def wp_X2_begin  (S : mS) (K : mS → Prop) : Prop := K ((S.si 19 (0 : Int32)).si 20 (0 : Int32))
set_option maxHeartbeats 4000000 in
set_option maxRecDepth 100000 in
theorem c_X2_begin {l : Launch} {D : va_G} {cI cJ : ClassId} {h : Nat → Nat}  (S : mS) (K : mS → Prop) (hw : wp_X2_begin  S K) : mMv l D cI cJ h yX2_begin wsX2_begin rm_X2_begin [.ref (h 0)] K S := by
  refine m_startv (rt := none) (by decide) rfl rfl (Nat.le_of_ble_eq_true rfl) ?_
  intro p e s m below meth c A ls F hr hlk I hl
  have hin : ∀ w ∈ u_ws RX2 TX2 24, w ∈ wsX2_begin := by decide +kernel
  obtain ⟨hx, hb, hml, hown, hts⟩ := id F
  have hl : lv_has ls 1 [(0, .ref (h 0))] := hl
  unfold wp_X2_begin at hw
  refine lv_aload_n hx hb dX2_begin_0 rfl (lv_at hl 0 rfl) ?_
  refine lv_iconst (v := (0 : Int32)) hx hb dX2_begin_1 (by decide) ?_
  refine m_put F hin I 19 (by decide) (hts (.fieldLink RX2 51 "CuttingTableModel" "way" "I") (by decide +kernel)) dX2_begin_2 (fun H locs I => ?_)
  refine lv_aload_n hx hb dX2_begin_5 rfl (lv_at hl 0 rfl) ?_
  refine lv_iconst (v := (0 : Int32)) hx hb dX2_begin_6 (by decide) ?_
  refine m_put F hin I 20 (by decide) (hts (.fieldLink RX2 54 "CuttingTableModel" "ahead" "I") (by decide +kernel)) dX2_begin_7 (fun H locs I => ?_)
  exact m_retv F hr hlk I dX2_begin_10 hw
abbrev rm_X2_lay : Room := { frames := 0, cells := 0, slots := 0, locals := 0 }
def wp_X2_lay (p0 : Int32) (p1 : Int32) (p2 : Int32) (S : mS) (K : mS → Prop) : Prop := (vp_in (p0) 8 ∧ (vp_in (p0) 8 ∧ K ((S.sa 4 (p0).toNatClampNeg (p1)).sa 5 (p0).toNatClampNeg (p2))))
set_option maxHeartbeats 4000000 in
set_option maxRecDepth 100000 in
theorem c_X2_lay {l : Launch} {D : va_G} {cI cJ : ClassId} {h : Nat → Nat} (p0 : Int32) (p1 : Int32) (p2 : Int32) (S : mS) (K : mS → Prop) (hw : wp_X2_lay p0 p1 p2 S K) : mMv l D cI cJ h yX2_lay wsX2_lay rm_X2_lay [.ref (h 0), .int (p0), .int (p1), .int (p2)] K S := by
  refine m_startv (rt := none) (by decide) rfl rfl (Nat.le_of_ble_eq_true rfl) ?_
  intro p e s m below meth c A ls F hr hlk I hl
  have hin : ∀ w ∈ u_ws RX2 TX2 24, w ∈ wsX2_lay := by decide +kernel
  obtain ⟨hx, hb, hml, hown, hts⟩ := id F
  have hl : lv_has ls 4 [(0, .ref (h 0)), (1, .int (p0)), (2, .int (p1)), (3, .int (p2))] := hl
  unfold wp_X2_lay at hw
  refine lv_aload_n hx hb dX2_lay_0 rfl (lv_at hl 0 rfl) ?_
  refine m_get F hin I 4 (by decide) (v := .ref (h 4)) rfl (hts (.fieldLink RX2 20 "CuttingTableModel" "lies" "[I") (by decide +kernel)) dX2_lay_1 ?_
  refine lv_iload_n hx hb dX2_lay_4 rfl (lv_at hl 1 rfl) ?_
  refine lv_iload_n hx hb dX2_lay_5 rfl (lv_at hl 2 rfl) ?_
  obtain ⟨hi1, hw⟩ := hw
  refine m_iast F I 4 8 (by decide) hi1 dX2_lay_6 (fun H locs I => ?_)
  refine lv_aload_n hx hb dX2_lay_7 rfl (lv_at hl 0 rfl) ?_
  refine m_get F hin I 5 (by decide) (v := .ref (h 5)) rfl (hts (.fieldLink RX2 23 "CuttingTableModel" "which" "[I") (by decide +kernel)) dX2_lay_8 ?_
  refine lv_iload_n hx hb dX2_lay_11 rfl (lv_at hl 1 rfl) ?_
  refine lv_iload_n hx hb dX2_lay_12 rfl (lv_at hl 3 rfl) ?_
  obtain ⟨hi2, hw⟩ := hw
  refine m_iast F I 5 8 (by decide) hi2 dX2_lay_13 (fun H locs I => ?_)
  exact m_retv F hr hlk I dX2_lay_14 hw
abbrev rm_X2_newReel : Room := { frames := 1, cells := 0, slots := 0, locals := 20 }
def wl_X2_newReel_22 (K : Int32 → mS → Prop) : Nat → Int32 → Int32 → Int32 → mS → Prop
  | 0, _, _, _, _ => False
  | n + 1, v1, v2, v3, S => ((v2 ≤ v3 → K (((((S.si 3 ((((S).fi 3) + (1 : Int32))))).fi 3) - (1 : Int32))) (S.si 3 ((((S).fi 3) + (1 : Int32))))) ∧ (¬ v2 ≤ v3 → wp_X2_isOfNumbers (v1) (fun r4 => ((r4 = 0 → (vp_in ((((24 : Int32) * ((S).fi 3)) + v3)) 12312 ∧ wl_X2_newReel_22 K n (v1) (v2) ((v3 + (1 : Int32))) (S.sl 3 ((((24 : Int32) * ((S).fi 3)) + v3)).toNatClampNeg ((-1 : Int64))))) ∧ (¬ r4 = 0 → (vp_in ((((24 : Int32) * ((S).fi 3)) + v3)) 12312 ∧ wl_X2_newReel_22 K n (v1) (v2) ((v3 + (1 : Int32))) (S.sl 3 ((((24 : Int32) * ((S).fi 3)) + v3)).toNatClampNeg ((0 : Int64)))))))))
def wp_X2_newReel (p0 : Int32) (p1 : Int32) (S : mS) (K : Int32 → mS → Prop) : Prop := (vp_in (((S).fi 3)) 513 ∧ (vp_in ((((S.sa 1 (((S).fi 3)).toNatClampNeg (p0))).fi 3)) 513 ∧ (∃ n22 : Nat, wl_X2_newReel_22 K n22 (p0) (p1) ((0 : Int32)) ((S.sa 1 (((S).fi 3)).toNatClampNeg (p0)).sa 2 ((((S.sa 1 (((S).fi 3)).toNatClampNeg (p0))).fi 3)).toNatClampNeg (p1)))))
set_option maxHeartbeats 4000000 in
set_option maxRecDepth 100000 in
theorem lp_X2_newReel_22 {p : Program} {l : Launch} {e : Env} {s : State} {m : MethodId} {args : Array Value} {below : List Frame} {meth : Method} {c : Code} {D : va_G} {cI cJ : ClassId} {h : Nat → Nat} {A : Nat → Prop} {K : Int32 → mS → Prop} (F : CallFix p m c cX2_newReel 4 s args wsX2_newReel RX2) (hin : ∀ w ∈ u_ws RX2 TX2 24, w ∈ wsX2_newReel) (hr : meth.sig.returnType = some .int) (hlk : meth.locks = false) :
    ∀ (n : Nat) (v1 : Int32) (v2 : Int32) (v3 : Int32) (S : mS) (H : Heap) (locs : List Loc), mI D cI cJ h A s s.heap H locs S → ∀ (ls : Array Slot), lv_has ls 4 [(0, .ref (h 0)), (1, .int (v1)), (2, .int (v2)), (3, .int (v3))] → wl_X2_newReel_22 K n v1 v2 v3 S → W p l e rm_X2_newReel s m args below meth c H locs 0 0 (MQ below (va_Qi K (mB D cI cJ h A) A) args s 0 0 A) (F0 m 22 ls []) := by
  obtain ⟨hx, hb, hml, hown, hts⟩ := id F
  intro n
  induction n with
  | zero => intro v1 v2 v3 S H locs I ls hl hw; exact hw.elim
  | succ n ih =>
    intro v1 v2 v3 S H locs I ls hl hw
    rw [wl_X2_newReel_22] at hw
    refine lv_iload_n hx hb dX2_newReel_22 rfl (lv_at hl 3 rfl) ?_
    refine lv_iload_n hx hb dX2_newReel_23 rfl (lv_at hl 2 rfl) ?_
    refine lv_icmp_ge (tgt := 61) hx hb dX2_newReel_24 (by decide) (fun c_3 => ?_) (fun c_3 => ?_)
    · have hw := hw.1 c_3
      refine lv_aload_n hx hb dX2_newReel_61 rfl (lv_at hl 0 rfl) ?_
      refine lv_dup hx hb dX2_newReel_62 rfl ?_
      refine m_get F hin I 3 (by decide) (v := .int (((S).fi 3))) rfl (hts (.fieldLink RX2 57 "CuttingTableModel" "reels" "I") (by decide +kernel)) dX2_newReel_63 ?_
      refine lv_iconst (v := (1 : Int32)) hx hb dX2_newReel_66 (by decide) ?_
      refine lv_iadd hx hb dX2_newReel_67 ?_
      refine m_put F hin I 3 (by decide) (hts (.fieldLink RX2 57 "CuttingTableModel" "reels" "I") (by decide +kernel)) dX2_newReel_68 (fun H locs I => ?_)
      refine lv_aload_n hx hb dX2_newReel_71 rfl (lv_at hl 0 rfl) ?_
      refine m_get F hin I 3 (by decide) (v := .int ((((S.si 3 ((((S).fi 3) + (1 : Int32))))).fi 3))) rfl (hts (.fieldLink RX2 57 "CuttingTableModel" "reels" "I") (by decide +kernel)) dX2_newReel_72 ?_
      refine lv_iconst (v := (1 : Int32)) hx hb dX2_newReel_75 (by decide) ?_
      refine lv_isub hx hb dX2_newReel_76 ?_
      exact m_reti F hr hlk I dX2_newReel_77 hw
    · have hw := hw.2 c_3
      refine lv_aload_n hx hb dX2_newReel_27 rfl (lv_at hl 0 rfl) ?_
      refine m_get F hin I 2 (by decide) (v := .ref (h 3)) rfl (hts (.fieldLink RX2 16 "CuttingTableModel" "cells" "[J") (by decide +kernel)) dX2_newReel_28 ?_
      refine lv_bipush (v := (24 : Int32)) hx hb dX2_newReel_31 (by decide) ?_
      refine lv_aload_n hx hb dX2_newReel_33 rfl (lv_at hl 0 rfl) ?_
      refine m_get F hin I 3 (by decide) (v := .int (((S).fi 3))) rfl (hts (.fieldLink RX2 57 "CuttingTableModel" "reels" "I") (by decide +kernel)) dX2_newReel_34 ?_
      refine lv_imul hx hb dX2_newReel_37 ?_
      refine lv_iload_n hx hb dX2_newReel_38 rfl (lv_at hl 3 rfl) ?_
      refine lv_iadd hx hb dX2_newReel_39 ?_
      refine lv_iload_n hx hb dX2_newReel_40 rfl (lv_at hl 1 rfl) ?_
      refine s_calli (rest := [.int ((((24 : Int32) * ((S).fi 3)) + v3)), .ref (h 3)]) F (c_X2_isOfNumbers (v1) _ hw) (va_cwS 1 hts gX2_newReel_X2_isOfNumbers rfl rfl rfl (by decide +kernel) ⟨Nat.le_of_ble_eq_true rfl, Nat.le_of_ble_eq_true rfl⟩) rfl hl.1 rfl (Nat.le_of_ble_eq_true rfl) dX2_newReel_41 ⟨Nat.zero_le _, Nat.zero_le _⟩ (fun r4 hw => ?_)
      refine lv_if_eq (tgt := 51) hx hb dX2_newReel_44 (by decide) (fun c_5 => ?_) (fun c_5 => ?_)
      · have hw := hw.1 c_5
        refine lv_ldc2 hx hb hown (hts (.constantLong RX2 64 (-1)) (by decide +kernel)) dX2_newReel_51 ?_
        obtain ⟨hi6, hw⟩ := hw
        refine m_last F I 3 12312 (by decide) hi6 dX2_newReel_54 (fun H locs I => ?_)
        refine lv_iinc (v := (v3 + (1 : Int32))) (lv' := [(3, .int ((v3 + (1 : Int32)))), (0, .ref (h 0)), (1, .int (v1)), (2, .int (v2))]) hx hb dX2_newReel_55 hl (k := 3) rfl rfl (by decide) rfl (fun ls hl => ?_)
        refine lv_goto (tgt := 22) hx hb dX2_newReel_58 (by decide) ?_
        exact ih (v1) (v2) ((v3 + (1 : Int32))) (S.sl 3 ((((24 : Int32) * ((S).fi 3)) + v3)).toNatClampNeg ((-1 : Int64))) _ _ I ls (lv_sub hl [1, 2, 3, 0] rfl) hw
      · have hw := hw.2 c_5
        refine lv_lconst (v := (0 : Int64)) hx hb dX2_newReel_47 (by decide) ?_
        refine lv_goto (tgt := 54) hx hb dX2_newReel_48 (by decide) ?_
        obtain ⟨hi7, hw⟩ := hw
        refine m_last F I 3 12312 (by decide) hi7 dX2_newReel_54 (fun H locs I => ?_)
        refine lv_iinc (v := (v3 + (1 : Int32))) (lv' := [(3, .int ((v3 + (1 : Int32)))), (0, .ref (h 0)), (1, .int (v1)), (2, .int (v2))]) hx hb dX2_newReel_55 hl (k := 3) rfl rfl (by decide) rfl (fun ls hl => ?_)
        refine lv_goto (tgt := 22) hx hb dX2_newReel_58 (by decide) ?_
        exact ih (v1) (v2) ((v3 + (1 : Int32))) (S.sl 3 ((((24 : Int32) * ((S).fi 3)) + v3)).toNatClampNeg ((0 : Int64))) _ _ I ls (lv_sub hl [1, 2, 3, 0] rfl) hw
set_option maxHeartbeats 4000000 in
set_option maxRecDepth 100000 in
theorem c_X2_newReel {l : Launch} {D : va_G} {cI cJ : ClassId} {h : Nat → Nat} (p0 : Int32) (p1 : Int32) (S : mS) (K : Int32 → mS → Prop) (hw : wp_X2_newReel p0 p1 S K) : mMi l D cI cJ h yX2_newReel wsX2_newReel rm_X2_newReel [.ref (h 0), .int (p0), .int (p1)] K S := by
  refine m_starti (rt := some .int) (by decide) rfl rfl (Nat.le_of_ble_eq_true rfl) ?_
  intro p e s m below meth c A ls F hr hlk I hl
  have hin : ∀ w ∈ u_ws RX2 TX2 24, w ∈ wsX2_newReel := by decide +kernel
  obtain ⟨hx, hb, hml, hown, hts⟩ := id F
  have hl : lv_has ls 4 [(0, .ref (h 0)), (1, .int (p0)), (2, .int (p1))] := hl
  unfold wp_X2_newReel at hw
  refine lv_aload_n hx hb dX2_newReel_0 rfl (lv_at hl 0 rfl) ?_
  refine m_get F hin I 0 (by decide) (v := .ref (h 1)) rfl (hts (.fieldLink RX2 7 "CuttingTableModel" "stocks" "[I") (by decide +kernel)) dX2_newReel_1 ?_
  refine lv_aload_n hx hb dX2_newReel_4 rfl (lv_at hl 0 rfl) ?_
  refine m_get F hin I 3 (by decide) (v := .int (((S).fi 3))) rfl (hts (.fieldLink RX2 57 "CuttingTableModel" "reels" "I") (by decide +kernel)) dX2_newReel_5 ?_
  refine lv_iload_n hx hb dX2_newReel_8 rfl (lv_at hl 1 rfl) ?_
  obtain ⟨hi1, hw⟩ := hw
  refine m_iast F I 1 513 (by decide) hi1 dX2_newReel_9 (fun H locs I => ?_)
  refine lv_aload_n hx hb dX2_newReel_10 rfl (lv_at hl 0 rfl) ?_
  refine m_get F hin I 1 (by decide) (v := .ref (h 2)) rfl (hts (.fieldLink RX2 13 "CuttingTableModel" "sizes" "[I") (by decide +kernel)) dX2_newReel_11 ?_
  refine lv_aload_n hx hb dX2_newReel_14 rfl (lv_at hl 0 rfl) ?_
  refine m_get F hin I 3 (by decide) (v := .int ((((S.sa 1 (((S).fi 3)).toNatClampNeg (p0))).fi 3))) rfl (hts (.fieldLink RX2 57 "CuttingTableModel" "reels" "I") (by decide +kernel)) dX2_newReel_15 ?_
  refine lv_iload_n hx hb dX2_newReel_18 rfl (lv_at hl 2 rfl) ?_
  obtain ⟨hi2, hw⟩ := hw
  refine m_iast F I 2 513 (by decide) hi2 dX2_newReel_19 (fun H locs I => ?_)
  refine lv_iconst (v := (0 : Int32)) hx hb dX2_newReel_20 (by decide) ?_
  refine lv_istore_n (lv' := [(3, .int ((0 : Int32))), (0, .ref (h 0)), (1, .int (p0)), (2, .int (p1))]) hx hb dX2_newReel_21 rfl hl (by decide) rfl (fun ls hl => ?_)
  obtain ⟨n22, hw⟩ := hw
  exact lp_X2_newReel_22 F hin hr hlk n22 (p0) (p1) ((0 : Int32)) ((S.sa 1 (((S).fi 3)).toNatClampNeg (p0)).sa 2 ((((S.sa 1 (((S).fi 3)).toNatClampNeg (p0))).fi 3)).toNatClampNeg (p1)) _ _ I ls (lv_sub hl [1, 2, 3, 0] rfl) hw
abbrev rm_X2_thread : Room := { frames := 2, cells := 0, slots := 0, locals := 43 }
def wp_X2_thread (p0 : Int32) (p1 : Int32) (p2 : Int32) (S : mS) (K : Int32 → mS → Prop) : Prop := wp_X2_begin  (S.si 23 (0 : Int32)) (fun S2 => wp_X2_isSpindle (p0) (fun r3 => ((r3 = 0 → wp_X2_told ((6 : Int32)) S2 (fun r5 S6 => K (r5) S6)) ∧ (¬ r3 = 0 → ((p1 < 0 → wp_X2_told ((6 : Int32)) S2 (fun r8 S9 => K (r8) S9)) ∧ (¬ p1 < 0 → (((7 : Int32) < p1 → wp_X2_told ((6 : Int32)) S2 (fun r11 S12 => K (r11) S12)) ∧ (¬ (7 : Int32) < p1 → ((p2 < 0 → wp_X2_told ((6 : Int32)) S2 (fun r14 S15 => K (r14) S15)) ∧ (¬ p2 < 0 → ((p2 ≤ (24 : Int32) → wp_X2_newReel (p1) (p2) S2 (fun r17 S18 => wp_X2_lay (p0) ((1 : Int32)) (r17) S18 (fun S20 => wp_X2_told ((0 : Int32)) S20 (fun r21 S22 => K (r21) S22)))) ∧ (¬ p2 ≤ (24 : Int32) → wp_X2_told ((6 : Int32)) S2 (fun r23 S24 => K (r23) S24)))))))))))))
set_option maxHeartbeats 4000000 in
set_option maxRecDepth 100000 in
theorem c_X2_thread {l : Launch} {D : va_G} {cI cJ : ClassId} {h : Nat → Nat} (p0 : Int32) (p1 : Int32) (p2 : Int32) (S : mS) (K : Int32 → mS → Prop) (hw : wp_X2_thread p0 p1 p2 S K) : mMi l D cI cJ h yX2_thread wsX2_thread rm_X2_thread [.ref (h 0), .int (p0), .int (p1), .int (p2)] K S := by
  refine m_starti (rt := some .int) (by decide) rfl rfl (Nat.le_of_ble_eq_true rfl) ?_
  intro p e s m below meth c A ls F hr hlk I hl
  have hin : ∀ w ∈ u_ws RX2 TX2 24, w ∈ wsX2_thread := by decide +kernel
  obtain ⟨hx, hb, hml, hown, hts⟩ := id F
  have hl : lv_has ls 4 [(0, .ref (h 0)), (1, .int (p0)), (2, .int (p1)), (3, .int (p2))] := hl
  unfold wp_X2_thread at hw
  refine lv_aload_n hx hb dX2_thread_0 rfl (lv_at hl 0 rfl) ?_
  refine lv_iconst (v := (0 : Int32)) hx hb dX2_thread_1 (by decide) ?_
  refine m_put F hin I 23 (by decide) (hts (.fieldLink RX2 44 "CuttingTableModel" "thrown" "I") (by decide +kernel)) dX2_thread_2 (fun H locs I => ?_)
  refine lv_aload_n hx hb dX2_thread_5 rfl (lv_at hl 0 rfl) ?_
  refine m_callv (rest := []) F I (c_X2_begin  _ _ hw) (cwV 0 hts gX2_thread_X2_begin rfl rfl rfl (by decide +kernel) ⟨Nat.le_of_ble_eq_true rfl, Nat.le_of_ble_eq_true rfl⟩) rfl hl.1 rfl (Nat.le_of_ble_eq_true rfl) dX2_thread_6 ⟨Nat.zero_le _, Nat.zero_le _⟩ (fun S2 H locs hw I => ?_)
  refine lv_iload_n hx hb dX2_thread_9 rfl (lv_at hl 1 rfl) ?_
  refine s_calli (rest := []) F (c_X2_isSpindle (p0) _ hw) (va_cwS 1 hts gX2_thread_X2_isSpindle rfl rfl rfl (by decide +kernel) ⟨Nat.le_of_ble_eq_true rfl, Nat.le_of_ble_eq_true rfl⟩) rfl hl.1 rfl (Nat.le_of_ble_eq_true rfl) dX2_thread_10 ⟨Nat.zero_le _, Nat.zero_le _⟩ (fun r3 hw => ?_)
  refine lv_if_eq (tgt := 36) hx hb dX2_thread_13 (by decide) (fun c_4 => ?_) (fun c_4 => ?_)
  · have hw := hw.1 c_4
    refine lv_aload_n hx hb dX2_thread_36 rfl (lv_at hl 0 rfl) ?_
    refine lv_bipush (v := (6 : Int32)) hx hb dX2_thread_37 (by decide) ?_
    refine m_calli (rest := []) F I (c_X2_told ((6 : Int32)) _ _ hw) (cwV 1 hts gX2_thread_X2_told rfl rfl rfl (by decide +kernel) ⟨Nat.le_of_ble_eq_true rfl, Nat.le_of_ble_eq_true rfl⟩) rfl hl.1 rfl (Nat.le_of_ble_eq_true rfl) dX2_thread_39 ⟨Nat.zero_le _, Nat.zero_le _⟩ (fun r5 S6 H locs hw I => ?_)
    exact m_reti F hr hlk I dX2_thread_42 hw
  · have hw := hw.2 c_4
    refine lv_iload_n hx hb dX2_thread_16 rfl (lv_at hl 2 rfl) ?_
    refine lv_if_lt (tgt := 36) hx hb dX2_thread_17 (by decide) (fun c_7 => ?_) (fun c_7 => ?_)
    · have hw := hw.1 c_7
      refine lv_aload_n hx hb dX2_thread_36 rfl (lv_at hl 0 rfl) ?_
      refine lv_bipush (v := (6 : Int32)) hx hb dX2_thread_37 (by decide) ?_
      refine m_calli (rest := []) F I (c_X2_told ((6 : Int32)) _ _ hw) (cwV 1 hts gX2_thread_X2_told rfl rfl rfl (by decide +kernel) ⟨Nat.le_of_ble_eq_true rfl, Nat.le_of_ble_eq_true rfl⟩) rfl hl.1 rfl (Nat.le_of_ble_eq_true rfl) dX2_thread_39 ⟨Nat.zero_le _, Nat.zero_le _⟩ (fun r8 S9 H locs hw I => ?_)
      exact m_reti F hr hlk I dX2_thread_42 hw
    · have hw := hw.2 c_7
      refine lv_iload_n hx hb dX2_thread_20 rfl (lv_at hl 2 rfl) ?_
      refine lv_bipush (v := (7 : Int32)) hx hb dX2_thread_21 (by decide) ?_
      refine lv_icmp_gt (tgt := 36) hx hb dX2_thread_23 (by decide) (fun c_10 => ?_) (fun c_10 => ?_)
      · have hw := hw.1 c_10
        refine lv_aload_n hx hb dX2_thread_36 rfl (lv_at hl 0 rfl) ?_
        refine lv_bipush (v := (6 : Int32)) hx hb dX2_thread_37 (by decide) ?_
        refine m_calli (rest := []) F I (c_X2_told ((6 : Int32)) _ _ hw) (cwV 1 hts gX2_thread_X2_told rfl rfl rfl (by decide +kernel) ⟨Nat.le_of_ble_eq_true rfl, Nat.le_of_ble_eq_true rfl⟩) rfl hl.1 rfl (Nat.le_of_ble_eq_true rfl) dX2_thread_39 ⟨Nat.zero_le _, Nat.zero_le _⟩ (fun r11 S12 H locs hw I => ?_)
        exact m_reti F hr hlk I dX2_thread_42 hw
      · have hw := hw.2 c_10
        refine lv_iload_n hx hb dX2_thread_26 rfl (lv_at hl 3 rfl) ?_
        refine lv_if_lt (tgt := 36) hx hb dX2_thread_27 (by decide) (fun c_13 => ?_) (fun c_13 => ?_)
        · have hw := hw.1 c_13
          refine lv_aload_n hx hb dX2_thread_36 rfl (lv_at hl 0 rfl) ?_
          refine lv_bipush (v := (6 : Int32)) hx hb dX2_thread_37 (by decide) ?_
          refine m_calli (rest := []) F I (c_X2_told ((6 : Int32)) _ _ hw) (cwV 1 hts gX2_thread_X2_told rfl rfl rfl (by decide +kernel) ⟨Nat.le_of_ble_eq_true rfl, Nat.le_of_ble_eq_true rfl⟩) rfl hl.1 rfl (Nat.le_of_ble_eq_true rfl) dX2_thread_39 ⟨Nat.zero_le _, Nat.zero_le _⟩ (fun r14 S15 H locs hw I => ?_)
          exact m_reti F hr hlk I dX2_thread_42 hw
        · have hw := hw.2 c_13
          refine lv_iload_n hx hb dX2_thread_30 rfl (lv_at hl 3 rfl) ?_
          refine lv_bipush (v := (24 : Int32)) hx hb dX2_thread_31 (by decide) ?_
          refine lv_icmp_le (tgt := 43) hx hb dX2_thread_33 (by decide) (fun c_16 => ?_) (fun c_16 => ?_)
          · have hw := hw.1 c_16
            refine lv_aload_n hx hb dX2_thread_43 rfl (lv_at hl 0 rfl) ?_
            refine lv_iload_n hx hb dX2_thread_44 rfl (lv_at hl 1 rfl) ?_
            refine lv_iconst (v := (1 : Int32)) hx hb dX2_thread_45 (by decide) ?_
            refine lv_aload_n hx hb dX2_thread_46 rfl (lv_at hl 0 rfl) ?_
            refine lv_iload_n hx hb dX2_thread_47 rfl (lv_at hl 2 rfl) ?_
            refine lv_iload_n hx hb dX2_thread_48 rfl (lv_at hl 3 rfl) ?_
            refine m_calli (rest := [.int ((1 : Int32)), .int (p0), .ref (h 0)]) F I (c_X2_newReel (p1) (p2) _ _ hw) (cwV 2 hts gX2_thread_X2_newReel rfl rfl rfl (by decide +kernel) ⟨Nat.le_of_ble_eq_true rfl, Nat.le_of_ble_eq_true rfl⟩) rfl hl.1 rfl (Nat.le_of_ble_eq_true rfl) dX2_thread_49 ⟨Nat.zero_le _, Nat.zero_le _⟩ (fun r17 S18 H locs hw I => ?_)
            refine m_callv (rest := []) F I (c_X2_lay (p0) ((1 : Int32)) (r17) _ _ hw) (cwV 3 hts gX2_thread_X2_lay rfl rfl rfl (by decide +kernel) ⟨Nat.le_of_ble_eq_true rfl, Nat.le_of_ble_eq_true rfl⟩) rfl hl.1 rfl (Nat.le_of_ble_eq_true rfl) dX2_thread_52 ⟨Nat.zero_le _, Nat.zero_le _⟩ (fun S20 H locs hw I => ?_)
            refine lv_aload_n hx hb dX2_thread_55 rfl (lv_at hl 0 rfl) ?_
            refine lv_iconst (v := (0 : Int32)) hx hb dX2_thread_56 (by decide) ?_
            refine m_calli (rest := []) F I (c_X2_told ((0 : Int32)) _ _ hw) (cwV 1 hts gX2_thread_X2_told rfl rfl rfl (by decide +kernel) ⟨Nat.le_of_ble_eq_true rfl, Nat.le_of_ble_eq_true rfl⟩) rfl hl.1 rfl (Nat.le_of_ble_eq_true rfl) dX2_thread_57 ⟨Nat.zero_le _, Nat.zero_le _⟩ (fun r21 S22 H locs hw I => ?_)
            exact m_reti F hr hlk I dX2_thread_60 hw
          · have hw := hw.2 c_16
            refine lv_aload_n hx hb dX2_thread_36 rfl (lv_at hl 0 rfl) ?_
            refine lv_bipush (v := (6 : Int32)) hx hb dX2_thread_37 (by decide) ?_
            refine m_calli (rest := []) F I (c_X2_told ((6 : Int32)) _ _ hw) (cwV 1 hts gX2_thread_X2_told rfl rfl rfl (by decide +kernel) ⟨Nat.le_of_ble_eq_true rfl, Nat.le_of_ble_eq_true rfl⟩) rfl hl.1 rfl (Nat.le_of_ble_eq_true rfl) dX2_thread_39 ⟨Nat.zero_le _, Nat.zero_le _⟩ (fun r23 S24 H locs hw I => ?_)
            exact m_reti F hr hlk I dX2_thread_42 hw
abbrev rm_X2_tag : Room := { frames := 1, cells := 0, slots := 0, locals := 23 }
def wp_X2_tag (p0 : Int32) (p1 : Int32) (S : mS) (K : Int32 → mS → Prop) : Prop := wp_X2_begin  (S.si 23 (0 : Int32)) (fun S2 => wp_X2_isSpindle (p0) (fun r3 => ((¬ r3 = 0 → (vp_in (((S2).fi 7)) 513 ∧ wp_X2_lay (p0) ((2 : Int32)) ((((S2.sa 6 (((S2).fi 7)).toNatClampNeg (p1))).fi 7)) (S2.sa 6 (((S2).fi 7)).toNatClampNeg (p1)) (fun S7 => wp_X2_told ((0 : Int32)) (S7.si 7 ((((S7).fi 7) + (1 : Int32)))) (fun r8 S9 => K (r8) S9)))) ∧ (r3 = 0 → wp_X2_told ((6 : Int32)) S2 (fun r10 S11 => K (r10) S11)))))
set_option maxHeartbeats 4000000 in
set_option maxRecDepth 100000 in
theorem c_X2_tag {l : Launch} {D : va_G} {cI cJ : ClassId} {h : Nat → Nat} (p0 : Int32) (p1 : Int32) (S : mS) (K : Int32 → mS → Prop) (hw : wp_X2_tag p0 p1 S K) : mMi l D cI cJ h yX2_tag wsX2_tag rm_X2_tag [.ref (h 0), .int (p0), .int (p1)] K S := by
  refine m_starti (rt := some .int) (by decide) rfl rfl (Nat.le_of_ble_eq_true rfl) ?_
  intro p e s m below meth c A ls F hr hlk I hl
  have hin : ∀ w ∈ u_ws RX2 TX2 24, w ∈ wsX2_tag := by decide +kernel
  obtain ⟨hx, hb, hml, hown, hts⟩ := id F
  have hl : lv_has ls 3 [(0, .ref (h 0)), (1, .int (p0)), (2, .int (p1))] := hl
  unfold wp_X2_tag at hw
  refine lv_aload_n hx hb dX2_tag_0 rfl (lv_at hl 0 rfl) ?_
  refine lv_iconst (v := (0 : Int32)) hx hb dX2_tag_1 (by decide) ?_
  refine m_put F hin I 23 (by decide) (hts (.fieldLink RX2 44 "CuttingTableModel" "thrown" "I") (by decide +kernel)) dX2_tag_2 (fun H locs I => ?_)
  refine lv_aload_n hx hb dX2_tag_5 rfl (lv_at hl 0 rfl) ?_
  refine m_callv (rest := []) F I (c_X2_begin  _ _ hw) (cwV 0 hts gX2_tag_X2_begin rfl rfl rfl (by decide +kernel) ⟨Nat.le_of_ble_eq_true rfl, Nat.le_of_ble_eq_true rfl⟩) rfl hl.1 rfl (Nat.le_of_ble_eq_true rfl) dX2_tag_6 ⟨Nat.zero_le _, Nat.zero_le _⟩ (fun S2 H locs hw I => ?_)
  refine lv_iload_n hx hb dX2_tag_9 rfl (lv_at hl 1 rfl) ?_
  refine s_calli (rest := []) F (c_X2_isSpindle (p0) _ hw) (va_cwS 1 hts gX2_tag_X2_isSpindle rfl rfl rfl (by decide +kernel) ⟨Nat.le_of_ble_eq_true rfl, Nat.le_of_ble_eq_true rfl⟩) rfl hl.1 rfl (Nat.le_of_ble_eq_true rfl) dX2_tag_10 ⟨Nat.zero_le _, Nat.zero_le _⟩ (fun r3 hw => ?_)
  refine lv_if_ne (tgt := 23) hx hb dX2_tag_13 (by decide) (fun c_4 => ?_) (fun c_4 => ?_)
  · have hw := hw.1 c_4
    refine lv_aload_n hx hb dX2_tag_23 rfl (lv_at hl 0 rfl) ?_
    refine m_get F hin I 6 (by decide) (v := .ref (h 6)) rfl (hts (.fieldLink RX2 26 "CuttingTableModel" "tagNumbers" "[I") (by decide +kernel)) dX2_tag_24 ?_
    refine lv_aload_n hx hb dX2_tag_27 rfl (lv_at hl 0 rfl) ?_
    refine m_get F hin I 7 (by decide) (v := .int (((S2).fi 7))) rfl (hts (.fieldLink RX2 84 "CuttingTableModel" "tags" "I") (by decide +kernel)) dX2_tag_28 ?_
    refine lv_iload_n hx hb dX2_tag_31 rfl (lv_at hl 2 rfl) ?_
    obtain ⟨hi5, hw⟩ := hw
    refine m_iast F I 6 513 (by decide) hi5 dX2_tag_32 (fun H locs I => ?_)
    refine lv_aload_n hx hb dX2_tag_33 rfl (lv_at hl 0 rfl) ?_
    refine lv_iload_n hx hb dX2_tag_34 rfl (lv_at hl 1 rfl) ?_
    refine lv_iconst (v := (2 : Int32)) hx hb dX2_tag_35 (by decide) ?_
    refine lv_aload_n hx hb dX2_tag_36 rfl (lv_at hl 0 rfl) ?_
    refine m_get F hin I 7 (by decide) (v := .int ((((S2.sa 6 (((S2).fi 7)).toNatClampNeg (p1))).fi 7))) rfl (hts (.fieldLink RX2 84 "CuttingTableModel" "tags" "I") (by decide +kernel)) dX2_tag_37 ?_
    refine m_callv (rest := []) F I (c_X2_lay (p0) ((2 : Int32)) ((((S2.sa 6 (((S2).fi 7)).toNatClampNeg (p1))).fi 7)) _ _ hw) (cwV 3 hts gX2_tag_X2_lay rfl rfl rfl (by decide +kernel) ⟨Nat.le_of_ble_eq_true rfl, Nat.le_of_ble_eq_true rfl⟩) rfl hl.1 rfl (Nat.le_of_ble_eq_true rfl) dX2_tag_40 ⟨Nat.zero_le _, Nat.zero_le _⟩ (fun S7 H locs hw I => ?_)
    refine lv_aload_n hx hb dX2_tag_43 rfl (lv_at hl 0 rfl) ?_
    refine lv_dup hx hb dX2_tag_44 rfl ?_
    refine m_get F hin I 7 (by decide) (v := .int (((S7).fi 7))) rfl (hts (.fieldLink RX2 84 "CuttingTableModel" "tags" "I") (by decide +kernel)) dX2_tag_45 ?_
    refine lv_iconst (v := (1 : Int32)) hx hb dX2_tag_48 (by decide) ?_
    refine lv_iadd hx hb dX2_tag_49 ?_
    refine m_put F hin I 7 (by decide) (hts (.fieldLink RX2 84 "CuttingTableModel" "tags" "I") (by decide +kernel)) dX2_tag_50 (fun H locs I => ?_)
    refine lv_aload_n hx hb dX2_tag_53 rfl (lv_at hl 0 rfl) ?_
    refine lv_iconst (v := (0 : Int32)) hx hb dX2_tag_54 (by decide) ?_
    refine m_calli (rest := []) F I (c_X2_told ((0 : Int32)) _ _ hw) (cwV 1 hts gX2_tag_X2_told rfl rfl rfl (by decide +kernel) ⟨Nat.le_of_ble_eq_true rfl, Nat.le_of_ble_eq_true rfl⟩) rfl hl.1 rfl (Nat.le_of_ble_eq_true rfl) dX2_tag_55 ⟨Nat.zero_le _, Nat.zero_le _⟩ (fun r8 S9 H locs hw I => ?_)
    exact m_reti F hr hlk I dX2_tag_58 hw
  · have hw := hw.2 c_4
    refine lv_aload_n hx hb dX2_tag_16 rfl (lv_at hl 0 rfl) ?_
    refine lv_bipush (v := (6 : Int32)) hx hb dX2_tag_17 (by decide) ?_
    refine m_calli (rest := []) F I (c_X2_told ((6 : Int32)) _ _ hw) (cwV 1 hts gX2_tag_X2_told rfl rfl rfl (by decide +kernel) ⟨Nat.le_of_ble_eq_true rfl, Nat.le_of_ble_eq_true rfl⟩) rfl hl.1 rfl (Nat.le_of_ble_eq_true rfl) dX2_tag_19 ⟨Nat.zero_le _, Nat.zero_le _⟩ (fun r10 S11 H locs hw I => ?_)
    exact m_reti F hr hlk I dX2_tag_22 hw
abbrev rm_X2_share : Room := { frames := 1, cells := 0, slots := 0, locals := 23 }
def wp_X2_share (p0 : Int32) (p1 : Int32) (S : mS) (K : Int32 → mS → Prop) : Prop := wp_X2_begin  (S.si 23 (0 : Int32)) (fun S2 => wp_X2_isSpindle (p0) (fun r3 => ((r3 = 0 → wp_X2_told ((6 : Int32)) S2 (fun r5 S6 => K (r5) S6)) ∧ (¬ r3 = 0 → wp_X2_isSpindle (p1) (fun r7 => ((¬ r7 = 0 → (vp_in (p0) 8 ∧ (vp_in (p0) 8 ∧ wp_X2_lay (p1) (((S2).ia 4 (p0).toNatClampNeg)) (((S2).ia 5 (p0).toNatClampNeg)) S2 (fun S12 => wp_X2_told ((0 : Int32)) S12 (fun r13 S14 => K (r13) S14))))) ∧ (r7 = 0 → wp_X2_told ((6 : Int32)) S2 (fun r15 S16 => K (r15) S16))))))))
set_option maxHeartbeats 4000000 in
set_option maxRecDepth 100000 in
theorem c_X2_share {l : Launch} {D : va_G} {cI cJ : ClassId} {h : Nat → Nat} (p0 : Int32) (p1 : Int32) (S : mS) (K : Int32 → mS → Prop) (hw : wp_X2_share p0 p1 S K) : mMi l D cI cJ h yX2_share wsX2_share rm_X2_share [.ref (h 0), .int (p0), .int (p1)] K S := by
  refine m_starti (rt := some .int) (by decide) rfl rfl (Nat.le_of_ble_eq_true rfl) ?_
  intro p e s m below meth c A ls F hr hlk I hl
  have hin : ∀ w ∈ u_ws RX2 TX2 24, w ∈ wsX2_share := by decide +kernel
  obtain ⟨hx, hb, hml, hown, hts⟩ := id F
  have hl : lv_has ls 3 [(0, .ref (h 0)), (1, .int (p0)), (2, .int (p1))] := hl
  unfold wp_X2_share at hw
  refine lv_aload_n hx hb dX2_share_0 rfl (lv_at hl 0 rfl) ?_
  refine lv_iconst (v := (0 : Int32)) hx hb dX2_share_1 (by decide) ?_
  refine m_put F hin I 23 (by decide) (hts (.fieldLink RX2 44 "CuttingTableModel" "thrown" "I") (by decide +kernel)) dX2_share_2 (fun H locs I => ?_)
  refine lv_aload_n hx hb dX2_share_5 rfl (lv_at hl 0 rfl) ?_
  refine m_callv (rest := []) F I (c_X2_begin  _ _ hw) (cwV 0 hts gX2_share_X2_begin rfl rfl rfl (by decide +kernel) ⟨Nat.le_of_ble_eq_true rfl, Nat.le_of_ble_eq_true rfl⟩) rfl hl.1 rfl (Nat.le_of_ble_eq_true rfl) dX2_share_6 ⟨Nat.zero_le _, Nat.zero_le _⟩ (fun S2 H locs hw I => ?_)
  refine lv_iload_n hx hb dX2_share_9 rfl (lv_at hl 1 rfl) ?_
  refine s_calli (rest := []) F (c_X2_isSpindle (p0) _ hw) (va_cwS 1 hts gX2_share_X2_isSpindle rfl rfl rfl (by decide +kernel) ⟨Nat.le_of_ble_eq_true rfl, Nat.le_of_ble_eq_true rfl⟩) rfl hl.1 rfl (Nat.le_of_ble_eq_true rfl) dX2_share_10 ⟨Nat.zero_le _, Nat.zero_le _⟩ (fun r3 hw => ?_)
  refine lv_if_eq (tgt := 23) hx hb dX2_share_13 (by decide) (fun c_4 => ?_) (fun c_4 => ?_)
  · have hw := hw.1 c_4
    refine lv_aload_n hx hb dX2_share_23 rfl (lv_at hl 0 rfl) ?_
    refine lv_bipush (v := (6 : Int32)) hx hb dX2_share_24 (by decide) ?_
    refine m_calli (rest := []) F I (c_X2_told ((6 : Int32)) _ _ hw) (cwV 1 hts gX2_share_X2_told rfl rfl rfl (by decide +kernel) ⟨Nat.le_of_ble_eq_true rfl, Nat.le_of_ble_eq_true rfl⟩) rfl hl.1 rfl (Nat.le_of_ble_eq_true rfl) dX2_share_26 ⟨Nat.zero_le _, Nat.zero_le _⟩ (fun r5 S6 H locs hw I => ?_)
    exact m_reti F hr hlk I dX2_share_29 hw
  · have hw := hw.2 c_4
    refine lv_iload_n hx hb dX2_share_16 rfl (lv_at hl 2 rfl) ?_
    refine s_calli (rest := []) F (c_X2_isSpindle (p1) _ hw) (va_cwS 1 hts gX2_share_X2_isSpindle rfl rfl rfl (by decide +kernel) ⟨Nat.le_of_ble_eq_true rfl, Nat.le_of_ble_eq_true rfl⟩) rfl hl.1 rfl (Nat.le_of_ble_eq_true rfl) dX2_share_17 ⟨Nat.zero_le _, Nat.zero_le _⟩ (fun r7 hw => ?_)
    refine lv_if_ne (tgt := 30) hx hb dX2_share_20 (by decide) (fun c_8 => ?_) (fun c_8 => ?_)
    · have hw := hw.1 c_8
      refine lv_aload_n hx hb dX2_share_30 rfl (lv_at hl 0 rfl) ?_
      refine lv_iload_n hx hb dX2_share_31 rfl (lv_at hl 2 rfl) ?_
      refine lv_aload_n hx hb dX2_share_32 rfl (lv_at hl 0 rfl) ?_
      refine m_get F hin I 4 (by decide) (v := .ref (h 4)) rfl (hts (.fieldLink RX2 20 "CuttingTableModel" "lies" "[I") (by decide +kernel)) dX2_share_33 ?_
      refine lv_iload_n hx hb dX2_share_36 rfl (lv_at hl 1 rfl) ?_
      obtain ⟨hi9, hw⟩ := hw
      refine m_iald F I 4 8 (by decide) hi9 dX2_share_37 ?_
      refine lv_aload_n hx hb dX2_share_38 rfl (lv_at hl 0 rfl) ?_
      refine m_get F hin I 5 (by decide) (v := .ref (h 5)) rfl (hts (.fieldLink RX2 23 "CuttingTableModel" "which" "[I") (by decide +kernel)) dX2_share_39 ?_
      refine lv_iload_n hx hb dX2_share_42 rfl (lv_at hl 1 rfl) ?_
      obtain ⟨hi10, hw⟩ := hw
      refine m_iald F I 5 8 (by decide) hi10 dX2_share_43 ?_
      refine m_callv (rest := []) F I (c_X2_lay (p1) (((S2).ia 4 (p0).toNatClampNeg)) (((S2).ia 5 (p0).toNatClampNeg)) _ _ hw) (cwV 3 hts gX2_share_X2_lay rfl rfl rfl (by decide +kernel) ⟨Nat.le_of_ble_eq_true rfl, Nat.le_of_ble_eq_true rfl⟩) rfl hl.1 rfl (Nat.le_of_ble_eq_true rfl) dX2_share_44 ⟨Nat.zero_le _, Nat.zero_le _⟩ (fun S12 H locs hw I => ?_)
      refine lv_aload_n hx hb dX2_share_47 rfl (lv_at hl 0 rfl) ?_
      refine lv_iconst (v := (0 : Int32)) hx hb dX2_share_48 (by decide) ?_
      refine m_calli (rest := []) F I (c_X2_told ((0 : Int32)) _ _ hw) (cwV 1 hts gX2_share_X2_told rfl rfl rfl (by decide +kernel) ⟨Nat.le_of_ble_eq_true rfl, Nat.le_of_ble_eq_true rfl⟩) rfl hl.1 rfl (Nat.le_of_ble_eq_true rfl) dX2_share_49 ⟨Nat.zero_le _, Nat.zero_le _⟩ (fun r13 S14 H locs hw I => ?_)
      exact m_reti F hr hlk I dX2_share_52 hw
    · have hw := hw.2 c_8
      refine lv_aload_n hx hb dX2_share_23 rfl (lv_at hl 0 rfl) ?_
      refine lv_bipush (v := (6 : Int32)) hx hb dX2_share_24 (by decide) ?_
      refine m_calli (rest := []) F I (c_X2_told ((6 : Int32)) _ _ hw) (cwV 1 hts gX2_share_X2_told rfl rfl rfl (by decide +kernel) ⟨Nat.le_of_ble_eq_true rfl, Nat.le_of_ble_eq_true rfl⟩) rfl hl.1 rfl (Nat.le_of_ble_eq_true rfl) dX2_share_26 ⟨Nat.zero_le _, Nat.zero_le _⟩ (fun r15 S16 H locs hw I => ?_)
      exact m_reti F hr hlk I dX2_share_29 hw
abbrev rm_X2_noReel : Room := { frames := 1, cells := 0, slots := 0, locals := 20 }
def wp_X2_noReel (p0 : Int32) (S : mS) (K : Int32 → mS → Prop) : Prop := wp_X2_isSpindle (p0) (fun r1 => ((¬ r1 = 0 → (vp_in (p0) 8 ∧ ((¬ ((S).ia 4 (p0).toNatClampNeg) = 0 → (vp_in (p0) 8 ∧ ((¬ ((S).ia 4 (p0).toNatClampNeg) = (2 : Int32) → K ((0 : Int32)) S) ∧ (((S).ia 4 (p0).toNatClampNeg) = (2 : Int32) → K ((2 : Int32)) S)))) ∧ (((S).ia 4 (p0).toNatClampNeg) = 0 → K ((1 : Int32)) S)))) ∧ (r1 = 0 → K ((6 : Int32)) S)))
set_option maxHeartbeats 4000000 in
set_option maxRecDepth 100000 in
theorem c_X2_noReel {l : Launch} {D : va_G} {cI cJ : ClassId} {h : Nat → Nat} (p0 : Int32) (S : mS) (K : Int32 → mS → Prop) (hw : wp_X2_noReel p0 S K) : mMi l D cI cJ h yX2_noReel wsX2_noReel rm_X2_noReel [.ref (h 0), .int (p0)] K S := by
  refine m_starti (rt := some .int) (by decide) rfl rfl (Nat.le_of_ble_eq_true rfl) ?_
  intro p e s m below meth c A ls F hr hlk I hl
  have hin : ∀ w ∈ u_ws RX2 TX2 24, w ∈ wsX2_noReel := by decide +kernel
  obtain ⟨hx, hb, hml, hown, hts⟩ := id F
  have hl : lv_has ls 2 [(0, .ref (h 0)), (1, .int (p0))] := hl
  unfold wp_X2_noReel at hw
  refine lv_iload_n hx hb dX2_noReel_0 rfl (lv_at hl 1 rfl) ?_
  refine s_calli (rest := []) F (c_X2_isSpindle (p0) _ hw) (va_cwS 1 hts gX2_noReel_X2_isSpindle rfl rfl rfl (by decide +kernel) ⟨Nat.le_of_ble_eq_true rfl, Nat.le_of_ble_eq_true rfl⟩) rfl hl.1 rfl (Nat.le_of_ble_eq_true rfl) dX2_noReel_1 ⟨Nat.zero_le _, Nat.zero_le _⟩ (fun r1 hw => ?_)
  refine lv_if_ne (tgt := 12) hx hb dX2_noReel_4 (by decide) (fun c_2 => ?_) (fun c_2 => ?_)
  · have hw := hw.1 c_2
    refine lv_aload_n hx hb dX2_noReel_12 rfl (lv_at hl 0 rfl) ?_
    refine m_get F hin I 4 (by decide) (v := .ref (h 4)) rfl (hts (.fieldLink RX2 20 "CuttingTableModel" "lies" "[I") (by decide +kernel)) dX2_noReel_13 ?_
    refine lv_iload_n hx hb dX2_noReel_16 rfl (lv_at hl 1 rfl) ?_
    obtain ⟨hi3, hw⟩ := hw
    refine m_iald F I 4 8 (by decide) hi3 dX2_noReel_17 ?_
    refine lv_if_ne (tgt := 25) hx hb dX2_noReel_18 (by decide) (fun c_4 => ?_) (fun c_4 => ?_)
    · have hw := hw.1 c_4
      refine lv_aload_n hx hb dX2_noReel_25 rfl (lv_at hl 0 rfl) ?_
      refine m_get F hin I 4 (by decide) (v := .ref (h 4)) rfl (hts (.fieldLink RX2 20 "CuttingTableModel" "lies" "[I") (by decide +kernel)) dX2_noReel_26 ?_
      refine lv_iload_n hx hb dX2_noReel_29 rfl (lv_at hl 1 rfl) ?_
      obtain ⟨hi5, hw⟩ := hw
      refine m_iald F I 4 8 (by decide) hi5 dX2_noReel_30 ?_
      refine lv_iconst (v := (2 : Int32)) hx hb dX2_noReel_31 (by decide) ?_
      refine lv_icmp_ne (tgt := 39) hx hb dX2_noReel_32 (by decide) (fun c_6 => ?_) (fun c_6 => ?_)
      · have hw := hw.1 c_6
        refine lv_iconst (v := (0 : Int32)) hx hb dX2_noReel_39 (by decide) ?_
        exact m_reti F hr hlk I dX2_noReel_40 hw
      · have hw := hw.2 c_6
        refine lv_iconst (v := (2 : Int32)) hx hb dX2_noReel_35 (by decide) ?_
        refine lv_goto (tgt := 40) hx hb dX2_noReel_36 (by decide) ?_
        exact m_reti F hr hlk I dX2_noReel_40 hw
    · have hw := hw.2 c_4
      refine lv_iconst (v := (1 : Int32)) hx hb dX2_noReel_21 (by decide) ?_
      refine lv_goto (tgt := 40) hx hb dX2_noReel_22 (by decide) ?_
      exact m_reti F hr hlk I dX2_noReel_40 hw
  · have hw := hw.2 c_2
    refine lv_bipush (v := (6 : Int32)) hx hb dX2_noReel_7 (by decide) ?_
    refine lv_goto (tgt := 40) hx hb dX2_noReel_9 (by decide) ?_
    exact m_reti F hr hlk I dX2_noReel_40 hw
abbrev rm_X2_copy : Room := { frames := 2, cells := 0, slots := 0, locals := 43 }
def wl_X2_copy_68 (K : Int32 → mS → Prop) : Nat → Int32 → Int32 → Int32 → Int32 → Int32 → Int32 → mS → Prop
  | 0, _, _, _, _, _, _, _ => False
  | n + 1, v1, v2, v3, v4, v5, v6, S => (vp_in (v4) 513 ∧ ((((S).ia 2 (v4).toNatClampNeg) ≤ v6 → wp_X2_lay (v2) ((1 : Int32)) (v5) S (fun S19 => wp_X2_told ((0 : Int32)) S19 (fun r20 S21 => K (r20) S21))) ∧ (¬ ((S).ia 2 (v4).toNatClampNeg) ≤ v6 → (vp_in ((((24 : Int32) * v4) + v6)) 12312 ∧ (vp_in ((((24 : Int32) * v5) + v6)) 12312 ∧ wl_X2_copy_68 K n (v1) (v2) (v3) (v4) (v5) ((v6 + (1 : Int32))) (S.sl 3 ((((24 : Int32) * v5) + v6)).toNatClampNeg (((S).la 3 ((((24 : Int32) * v4) + v6)).toNatClampNeg))))))))
def wp_X2_copy (p0 : Int32) (p1 : Int32) (S : mS) (K : Int32 → mS → Prop) : Prop := wp_X2_begin  (S.si 23 (0 : Int32)) (fun S2 => wp_X2_isSpindle (p1) (fun r3 => ((r3 = 0 → wp_X2_told ((6 : Int32)) S2 (fun r6 S7 => K (r6) S7)) ∧ (¬ r3 = 0 → wp_X2_noReel (p0) S2 (fun r8 S9 => ((r8 ≤ 0 → (vp_in (p0) 8 ∧ (vp_in (((S9).ia 5 (p0).toNatClampNeg)) 513 ∧ (vp_in (((S9).ia 5 (p0).toNatClampNeg)) 513 ∧ wp_X2_newReel (((S9).ia 1 (((S9).ia 5 (p0).toNatClampNeg)).toNatClampNeg)) (((S9).ia 2 (((S9).ia 5 (p0).toNatClampNeg)).toNatClampNeg)) S9 (fun r14 S15 => (∃ n68 : Nat, wl_X2_copy_68 K n68 (p0) (p1) (r8) (((S9).ia 5 (p0).toNatClampNeg)) (r14) ((0 : Int32)) S15)))))) ∧ (¬ r8 ≤ 0 → wp_X2_told (r8) S9 (fun r24 S25 => K (r24) S25))))))))
set_option maxHeartbeats 4000000 in
set_option maxRecDepth 100000 in
theorem lp_X2_copy_68 {p : Program} {l : Launch} {e : Env} {s : State} {m : MethodId} {args : Array Value} {below : List Frame} {meth : Method} {c : Code} {D : va_G} {cI cJ : ClassId} {h : Nat → Nat} {A : Nat → Prop} {K : Int32 → mS → Prop} (F : CallFix p m c cX2_copy 7 s args wsX2_copy RX2) (hin : ∀ w ∈ u_ws RX2 TX2 24, w ∈ wsX2_copy) (hr : meth.sig.returnType = some .int) (hlk : meth.locks = false) :
    ∀ (n : Nat) (v1 : Int32) (v2 : Int32) (v3 : Int32) (v4 : Int32) (v5 : Int32) (v6 : Int32) (S : mS) (H : Heap) (locs : List Loc), mI D cI cJ h A s s.heap H locs S → ∀ (ls : Array Slot), lv_has ls 7 [(0, .ref (h 0)), (1, .int (v1)), (2, .int (v2)), (3, .int (v3)), (4, .int (v4)), (5, .int (v5)), (6, .int (v6))] → wl_X2_copy_68 K n v1 v2 v3 v4 v5 v6 S → W p l e rm_X2_copy s m args below meth c H locs 0 0 (MQ below (va_Qi K (mB D cI cJ h A) A) args s 0 0 A) (F0 m 68 ls []) := by
  obtain ⟨hx, hb, hml, hown, hts⟩ := id F
  intro n
  induction n with
  | zero => intro v1 v2 v3 v4 v5 v6 S H locs I ls hl hw; exact hw.elim
  | succ n ih =>
    intro v1 v2 v3 v4 v5 v6 S H locs I ls hl hw
    rw [wl_X2_copy_68] at hw
    refine lv_iload hx hb dX2_copy_68 (lv_at hl 6 rfl) ?_
    refine lv_aload_n hx hb dX2_copy_70 rfl (lv_at hl 0 rfl) ?_
    refine m_get F hin I 1 (by decide) (v := .ref (h 2)) rfl (hts (.fieldLink RX2 13 "CuttingTableModel" "sizes" "[I") (by decide +kernel)) dX2_copy_71 ?_
    refine lv_iload hx hb dX2_copy_74 (lv_at hl 4 rfl) ?_
    obtain ⟨hi16, hw⟩ := hw
    refine m_iald F I 2 513 (by decide) hi16 dX2_copy_76 ?_
    refine lv_icmp_ge (tgt := 112) hx hb dX2_copy_77 (by decide) (fun c_17 => ?_) (fun c_17 => ?_)
    · have hw := hw.1 c_17
      refine lv_aload_n hx hb dX2_copy_112 rfl (lv_at hl 0 rfl) ?_
      refine lv_iload_n hx hb dX2_copy_113 rfl (lv_at hl 2 rfl) ?_
      refine lv_iconst (v := (1 : Int32)) hx hb dX2_copy_114 (by decide) ?_
      refine lv_iload hx hb dX2_copy_115 (lv_at hl 5 rfl) ?_
      refine m_callv (rest := []) F I (c_X2_lay (v2) ((1 : Int32)) (v5) _ _ hw) (cwV 3 hts gX2_copy_X2_lay rfl rfl rfl (by decide +kernel) ⟨Nat.le_of_ble_eq_true rfl, Nat.le_of_ble_eq_true rfl⟩) rfl hl.1 rfl (Nat.le_of_ble_eq_true rfl) dX2_copy_117 ⟨Nat.zero_le _, Nat.zero_le _⟩ (fun S19 H locs hw I => ?_)
      refine lv_aload_n hx hb dX2_copy_120 rfl (lv_at hl 0 rfl) ?_
      refine lv_iconst (v := (0 : Int32)) hx hb dX2_copy_121 (by decide) ?_
      refine m_calli (rest := []) F I (c_X2_told ((0 : Int32)) _ _ hw) (cwV 1 hts gX2_copy_X2_told rfl rfl rfl (by decide +kernel) ⟨Nat.le_of_ble_eq_true rfl, Nat.le_of_ble_eq_true rfl⟩) rfl hl.1 rfl (Nat.le_of_ble_eq_true rfl) dX2_copy_122 ⟨Nat.zero_le _, Nat.zero_le _⟩ (fun r20 S21 H locs hw I => ?_)
      exact m_reti F hr hlk I dX2_copy_125 hw
    · have hw := hw.2 c_17
      refine lv_aload_n hx hb dX2_copy_80 rfl (lv_at hl 0 rfl) ?_
      refine m_get F hin I 2 (by decide) (v := .ref (h 3)) rfl (hts (.fieldLink RX2 16 "CuttingTableModel" "cells" "[J") (by decide +kernel)) dX2_copy_81 ?_
      refine lv_bipush (v := (24 : Int32)) hx hb dX2_copy_84 (by decide) ?_
      refine lv_iload hx hb dX2_copy_86 (lv_at hl 5 rfl) ?_
      refine lv_imul hx hb dX2_copy_88 ?_
      refine lv_iload hx hb dX2_copy_89 (lv_at hl 6 rfl) ?_
      refine lv_iadd hx hb dX2_copy_91 ?_
      refine lv_aload_n hx hb dX2_copy_92 rfl (lv_at hl 0 rfl) ?_
      refine m_get F hin I 2 (by decide) (v := .ref (h 3)) rfl (hts (.fieldLink RX2 16 "CuttingTableModel" "cells" "[J") (by decide +kernel)) dX2_copy_93 ?_
      refine lv_bipush (v := (24 : Int32)) hx hb dX2_copy_96 (by decide) ?_
      refine lv_iload hx hb dX2_copy_98 (lv_at hl 4 rfl) ?_
      refine lv_imul hx hb dX2_copy_100 ?_
      refine lv_iload hx hb dX2_copy_101 (lv_at hl 6 rfl) ?_
      refine lv_iadd hx hb dX2_copy_103 ?_
      obtain ⟨hi22, hw⟩ := hw
      refine m_lald F I 3 12312 (by decide) hi22 dX2_copy_104 ?_
      obtain ⟨hi23, hw⟩ := hw
      refine m_last F I 3 12312 (by decide) hi23 dX2_copy_105 (fun H locs I => ?_)
      refine lv_iinc (v := (v6 + (1 : Int32))) (lv' := [(6, .int ((v6 + (1 : Int32)))), (0, .ref (h 0)), (1, .int (v1)), (2, .int (v2)), (3, .int (v3)), (4, .int (v4)), (5, .int (v5))]) hx hb dX2_copy_106 hl (k := 6) rfl rfl (by decide) rfl (fun ls hl => ?_)
      refine lv_goto (tgt := 68) hx hb dX2_copy_109 (by decide) ?_
      exact ih (v1) (v2) (v3) (v4) (v5) ((v6 + (1 : Int32))) (S.sl 3 ((((24 : Int32) * v5) + v6)).toNatClampNeg (((S).la 3 ((((24 : Int32) * v4) + v6)).toNatClampNeg))) _ _ I ls (lv_sub hl [1, 2, 3, 4, 5, 6, 0] rfl) hw
set_option maxHeartbeats 4000000 in
set_option maxRecDepth 100000 in
theorem c_X2_copy {l : Launch} {D : va_G} {cI cJ : ClassId} {h : Nat → Nat} (p0 : Int32) (p1 : Int32) (S : mS) (K : Int32 → mS → Prop) (hw : wp_X2_copy p0 p1 S K) : mMi l D cI cJ h yX2_copy wsX2_copy rm_X2_copy [.ref (h 0), .int (p0), .int (p1)] K S := by
  refine m_starti (rt := some .int) (by decide) rfl rfl (Nat.le_of_ble_eq_true rfl) ?_
  intro p e s m below meth c A ls F hr hlk I hl
  have hin : ∀ w ∈ u_ws RX2 TX2 24, w ∈ wsX2_copy := by decide +kernel
  obtain ⟨hx, hb, hml, hown, hts⟩ := id F
  have hl : lv_has ls 7 [(0, .ref (h 0)), (1, .int (p0)), (2, .int (p1))] := hl
  unfold wp_X2_copy at hw
  refine lv_aload_n hx hb dX2_copy_0 rfl (lv_at hl 0 rfl) ?_
  refine lv_iconst (v := (0 : Int32)) hx hb dX2_copy_1 (by decide) ?_
  refine m_put F hin I 23 (by decide) (hts (.fieldLink RX2 44 "CuttingTableModel" "thrown" "I") (by decide +kernel)) dX2_copy_2 (fun H locs I => ?_)
  refine lv_aload_n hx hb dX2_copy_5 rfl (lv_at hl 0 rfl) ?_
  refine m_callv (rest := []) F I (c_X2_begin  _ _ hw) (cwV 0 hts gX2_copy_X2_begin rfl rfl rfl (by decide +kernel) ⟨Nat.le_of_ble_eq_true rfl, Nat.le_of_ble_eq_true rfl⟩) rfl hl.1 rfl (Nat.le_of_ble_eq_true rfl) dX2_copy_6 ⟨Nat.zero_le _, Nat.zero_le _⟩ (fun S2 H locs hw I => ?_)
  refine lv_iload_n hx hb dX2_copy_9 rfl (lv_at hl 2 rfl) ?_
  refine s_calli (rest := []) F (c_X2_isSpindle (p1) _ hw) (va_cwS 1 hts gX2_copy_X2_isSpindle rfl rfl rfl (by decide +kernel) ⟨Nat.le_of_ble_eq_true rfl, Nat.le_of_ble_eq_true rfl⟩) rfl hl.1 rfl (Nat.le_of_ble_eq_true rfl) dX2_copy_10 ⟨Nat.zero_le _, Nat.zero_le _⟩ (fun r3 hw => ?_)
  refine lv_if_eq (tgt := 24) hx hb dX2_copy_13 (by decide) (fun c_4 => ?_) (fun c_4 => ?_)
  · have hw := hw.1 c_4
    refine lv_bipush (v := (6 : Int32)) hx hb dX2_copy_24 (by decide) ?_
    refine lv_istore_n (lv' := [(3, .int ((6 : Int32))), (0, .ref (h 0)), (1, .int (p0)), (2, .int (p1))]) hx hb dX2_copy_26 rfl hl (by decide) rfl (fun ls hl => ?_)
    refine lv_iload_n hx hb dX2_copy_27 rfl (lv_at hl 0 rfl) ?_
    refine lv_if_le (tgt := 37) hx hb dX2_copy_28 (by decide) (fun c_5 => ?_) (fun c_5 => ?_)
    · exact absurd c_5 (by decide)
    · refine lv_aload_n hx hb dX2_copy_31 rfl (lv_at hl 1 rfl) ?_
      refine lv_iload_n hx hb dX2_copy_32 rfl (lv_at hl 0 rfl) ?_
      refine m_calli (rest := []) F I (c_X2_told ((6 : Int32)) _ _ hw) (cwV 1 hts gX2_copy_X2_told rfl rfl rfl (by decide +kernel) ⟨Nat.le_of_ble_eq_true rfl, Nat.le_of_ble_eq_true rfl⟩) rfl hl.1 rfl (Nat.le_of_ble_eq_true rfl) dX2_copy_33 ⟨Nat.zero_le _, Nat.zero_le _⟩ (fun r6 S7 H locs hw I => ?_)
      exact m_reti F hr hlk I dX2_copy_36 hw
  · have hw := hw.2 c_4
    refine lv_aload_n hx hb dX2_copy_16 rfl (lv_at hl 0 rfl) ?_
    refine lv_iload_n hx hb dX2_copy_17 rfl (lv_at hl 1 rfl) ?_
    refine m_calli (rest := []) F I (c_X2_noReel (p0) _ _ hw) (cwV 1 hts gX2_copy_X2_noReel rfl rfl rfl (by decide +kernel) ⟨Nat.le_of_ble_eq_true rfl, Nat.le_of_ble_eq_true rfl⟩) rfl hl.1 rfl (Nat.le_of_ble_eq_true rfl) dX2_copy_18 ⟨Nat.zero_le _, Nat.zero_le _⟩ (fun r8 S9 H locs hw I => ?_)
    refine lv_goto (tgt := 26) hx hb dX2_copy_21 (by decide) ?_
    refine lv_istore_n (lv' := [(3, .int (r8)), (0, .ref (h 0)), (1, .int (p0)), (2, .int (p1))]) hx hb dX2_copy_26 rfl hl (by decide) rfl (fun ls hl => ?_)
    refine lv_iload_n hx hb dX2_copy_27 rfl (lv_at hl 0 rfl) ?_
    refine lv_if_le (tgt := 37) hx hb dX2_copy_28 (by decide) (fun c_10 => ?_) (fun c_10 => ?_)
    · have hw := hw.1 c_10
      refine lv_aload_n hx hb dX2_copy_37 rfl (lv_at hl 1 rfl) ?_
      refine m_get F hin I 5 (by decide) (v := .ref (h 5)) rfl (hts (.fieldLink RX2 23 "CuttingTableModel" "which" "[I") (by decide +kernel)) dX2_copy_38 ?_
      refine lv_iload_n hx hb dX2_copy_41 rfl (lv_at hl 2 rfl) ?_
      obtain ⟨hi11, hw⟩ := hw
      refine m_iald F I 5 8 (by decide) hi11 dX2_copy_42 ?_
      refine lv_istore (lv' := [(4, .int (((S9).ia 5 (p0).toNatClampNeg))), (3, .int (r8)), (0, .ref (h 0)), (1, .int (p0)), (2, .int (p1))]) hx hb dX2_copy_43 hl (by decide) rfl (fun ls hl => ?_)
      refine lv_aload_n hx hb dX2_copy_45 rfl (lv_at hl 2 rfl) ?_
      refine lv_aload_n hx hb dX2_copy_46 rfl (lv_at hl 2 rfl) ?_
      refine m_get F hin I 0 (by decide) (v := .ref (h 1)) rfl (hts (.fieldLink RX2 7 "CuttingTableModel" "stocks" "[I") (by decide +kernel)) dX2_copy_47 ?_
      refine lv_iload hx hb dX2_copy_50 (lv_at hl 0 rfl) ?_
      obtain ⟨hi12, hw⟩ := hw
      refine m_iald F I 1 513 (by decide) hi12 dX2_copy_52 ?_
      refine lv_aload_n hx hb dX2_copy_53 rfl (lv_at hl 2 rfl) ?_
      refine m_get F hin I 1 (by decide) (v := .ref (h 2)) rfl (hts (.fieldLink RX2 13 "CuttingTableModel" "sizes" "[I") (by decide +kernel)) dX2_copy_54 ?_
      refine lv_iload hx hb dX2_copy_57 (lv_at hl 0 rfl) ?_
      obtain ⟨hi13, hw⟩ := hw
      refine m_iald F I 2 513 (by decide) hi13 dX2_copy_59 ?_
      refine m_calli (rest := []) F I (c_X2_newReel (((S9).ia 1 (((S9).ia 5 (p0).toNatClampNeg)).toNatClampNeg)) (((S9).ia 2 (((S9).ia 5 (p0).toNatClampNeg)).toNatClampNeg)) _ _ hw) (cwV 2 hts gX2_copy_X2_newReel rfl rfl rfl (by decide +kernel) ⟨Nat.le_of_ble_eq_true rfl, Nat.le_of_ble_eq_true rfl⟩) rfl hl.1 rfl (Nat.le_of_ble_eq_true rfl) dX2_copy_60 ⟨Nat.zero_le _, Nat.zero_le _⟩ (fun r14 S15 H locs hw I => ?_)
      refine lv_istore (lv' := [(5, .int (r14)), (4, .int (((S9).ia 5 (p0).toNatClampNeg))), (3, .int (r8)), (0, .ref (h 0)), (1, .int (p0)), (2, .int (p1))]) hx hb dX2_copy_63 hl (by decide) rfl (fun ls hl => ?_)
      refine lv_iconst (v := (0 : Int32)) hx hb dX2_copy_65 (by decide) ?_
      refine lv_istore (lv' := [(6, .int ((0 : Int32))), (5, .int (r14)), (4, .int (((S9).ia 5 (p0).toNatClampNeg))), (3, .int (r8)), (0, .ref (h 0)), (1, .int (p0)), (2, .int (p1))]) hx hb dX2_copy_66 hl (by decide) rfl (fun ls hl => ?_)
      obtain ⟨n68, hw⟩ := hw
      exact lp_X2_copy_68 F hin hr hlk n68 (p0) (p1) (r8) (((S9).ia 5 (p0).toNatClampNeg)) (r14) ((0 : Int32)) S15 _ _ I ls (lv_sub hl [4, 5, 6, 3, 2, 1, 0] rfl) hw
    · have hw := hw.2 c_10
      refine lv_aload_n hx hb dX2_copy_31 rfl (lv_at hl 1 rfl) ?_
      refine lv_iload_n hx hb dX2_copy_32 rfl (lv_at hl 0 rfl) ?_
      refine m_calli (rest := []) F I (c_X2_told (r8) _ _ hw) (cwV 1 hts gX2_copy_X2_told rfl rfl rfl (by decide +kernel) ⟨Nat.le_of_ble_eq_true rfl, Nat.le_of_ble_eq_true rfl⟩) rfl hl.1 rfl (Nat.le_of_ble_eq_true rfl) dX2_copy_33 ⟨Nat.zero_le _, Nat.zero_le _⟩ (fun r24 S25 H locs hw I => ?_)
      exact m_reti F hr hlk I dX2_copy_36 hw
abbrev rm_X2_clear : Room := { frames := 1, cells := 0, slots := 0, locals := 23 }
def wp_X2_clear (p0 : Int32) (S : mS) (K : Int32 → mS → Prop) : Prop := wp_X2_begin  (S.si 23 (0 : Int32)) (fun S2 => wp_X2_isSpindle (p0) (fun r3 => ((¬ r3 = 0 → wp_X2_lay (p0) ((0 : Int32)) ((0 : Int32)) S2 (fun S6 => wp_X2_told ((0 : Int32)) S6 (fun r7 S8 => K (r7) S8))) ∧ (r3 = 0 → wp_X2_told ((6 : Int32)) S2 (fun r9 S10 => K (r9) S10)))))
set_option maxHeartbeats 4000000 in
set_option maxRecDepth 100000 in
theorem c_X2_clear {l : Launch} {D : va_G} {cI cJ : ClassId} {h : Nat → Nat} (p0 : Int32) (S : mS) (K : Int32 → mS → Prop) (hw : wp_X2_clear p0 S K) : mMi l D cI cJ h yX2_clear wsX2_clear rm_X2_clear [.ref (h 0), .int (p0)] K S := by
  refine m_starti (rt := some .int) (by decide) rfl rfl (Nat.le_of_ble_eq_true rfl) ?_
  intro p e s m below meth c A ls F hr hlk I hl
  have hin : ∀ w ∈ u_ws RX2 TX2 24, w ∈ wsX2_clear := by decide +kernel
  obtain ⟨hx, hb, hml, hown, hts⟩ := id F
  have hl : lv_has ls 2 [(0, .ref (h 0)), (1, .int (p0))] := hl
  unfold wp_X2_clear at hw
  refine lv_aload_n hx hb dX2_clear_0 rfl (lv_at hl 0 rfl) ?_
  refine lv_iconst (v := (0 : Int32)) hx hb dX2_clear_1 (by decide) ?_
  refine m_put F hin I 23 (by decide) (hts (.fieldLink RX2 44 "CuttingTableModel" "thrown" "I") (by decide +kernel)) dX2_clear_2 (fun H locs I => ?_)
  refine lv_aload_n hx hb dX2_clear_5 rfl (lv_at hl 0 rfl) ?_
  refine m_callv (rest := []) F I (c_X2_begin  _ _ hw) (cwV 0 hts gX2_clear_X2_begin rfl rfl rfl (by decide +kernel) ⟨Nat.le_of_ble_eq_true rfl, Nat.le_of_ble_eq_true rfl⟩) rfl hl.1 rfl (Nat.le_of_ble_eq_true rfl) dX2_clear_6 ⟨Nat.zero_le _, Nat.zero_le _⟩ (fun S2 H locs hw I => ?_)
  refine lv_iload_n hx hb dX2_clear_9 rfl (lv_at hl 1 rfl) ?_
  refine s_calli (rest := []) F (c_X2_isSpindle (p0) _ hw) (va_cwS 1 hts gX2_clear_X2_isSpindle rfl rfl rfl (by decide +kernel) ⟨Nat.le_of_ble_eq_true rfl, Nat.le_of_ble_eq_true rfl⟩) rfl hl.1 rfl (Nat.le_of_ble_eq_true rfl) dX2_clear_10 ⟨Nat.zero_le _, Nat.zero_le _⟩ (fun r3 hw => ?_)
  refine lv_if_ne (tgt := 23) hx hb dX2_clear_13 (by decide) (fun c_4 => ?_) (fun c_4 => ?_)
  · have hw := hw.1 c_4
    refine lv_aload_n hx hb dX2_clear_23 rfl (lv_at hl 0 rfl) ?_
    refine lv_iload_n hx hb dX2_clear_24 rfl (lv_at hl 1 rfl) ?_
    refine lv_iconst (v := (0 : Int32)) hx hb dX2_clear_25 (by decide) ?_
    refine lv_iconst (v := (0 : Int32)) hx hb dX2_clear_26 (by decide) ?_
    refine m_callv (rest := []) F I (c_X2_lay (p0) ((0 : Int32)) ((0 : Int32)) _ _ hw) (cwV 3 hts gX2_clear_X2_lay rfl rfl rfl (by decide +kernel) ⟨Nat.le_of_ble_eq_true rfl, Nat.le_of_ble_eq_true rfl⟩) rfl hl.1 rfl (Nat.le_of_ble_eq_true rfl) dX2_clear_27 ⟨Nat.zero_le _, Nat.zero_le _⟩ (fun S6 H locs hw I => ?_)
    refine lv_aload_n hx hb dX2_clear_30 rfl (lv_at hl 0 rfl) ?_
    refine lv_iconst (v := (0 : Int32)) hx hb dX2_clear_31 (by decide) ?_
    refine m_calli (rest := []) F I (c_X2_told ((0 : Int32)) _ _ hw) (cwV 1 hts gX2_clear_X2_told rfl rfl rfl (by decide +kernel) ⟨Nat.le_of_ble_eq_true rfl, Nat.le_of_ble_eq_true rfl⟩) rfl hl.1 rfl (Nat.le_of_ble_eq_true rfl) dX2_clear_32 ⟨Nat.zero_le _, Nat.zero_le _⟩ (fun r7 S8 H locs hw I => ?_)
    exact m_reti F hr hlk I dX2_clear_35 hw
  · have hw := hw.2 c_4
    refine lv_aload_n hx hb dX2_clear_16 rfl (lv_at hl 0 rfl) ?_
    refine lv_bipush (v := (6 : Int32)) hx hb dX2_clear_17 (by decide) ?_
    refine m_calli (rest := []) F I (c_X2_told ((6 : Int32)) _ _ hw) (cwV 1 hts gX2_clear_X2_told rfl rfl rfl (by decide +kernel) ⟨Nat.le_of_ble_eq_true rfl, Nat.le_of_ble_eq_true rfl⟩) rfl hl.1 rfl (Nat.le_of_ble_eq_true rfl) dX2_clear_19 ⟨Nat.zero_le _, Nat.zero_le _⟩ (fun r9 S10 H locs hw I => ?_)
    exact m_reti F hr hlk I dX2_clear_22 hw
abbrev rm_X2_cutTo : Room := { frames := 0, cells := 0, slots := 0, locals := 0 }
def wp_X2_cutTo (p0 : Int32) (p1 : Int64) (K : Int64 → Prop) : Prop := ((p0 = (0 : Int32) → K (((p1).toInt32).toInt64)) ∧ (p0 = (1 : Int32) → K (p1)) ∧ (p0 = (2 : Int32) → K ((((p1).toInt32).toInt16.toInt32).toInt64)) ∧ (p0 = (3 : Int32) → K ((p1 &&& (65535 : Int64)))) ∧ (p0 = (4 : Int32) → ((p1 = (0 : Int64) → K ((0 : Int64))) ∧ (¬ p1 = (0 : Int64) → K ((1 : Int64))))) ∧ (¬ p0 = (0 : Int32) → ¬ p0 = (1 : Int32) → ¬ p0 = (2 : Int32) → ¬ p0 = (3 : Int32) → ¬ p0 = (4 : Int32) → K (p1)))
set_option maxHeartbeats 4000000 in
set_option maxRecDepth 100000 in
theorem c_X2_cutTo {l : Launch} (p0 : Int32) (p1 : Int64) (K : Int64 → Prop) (hw : wp_X2_cutTo p0 p1 K) : sMl l yX2_cutTo wsX2_cutTo rm_X2_cutTo [.int (p0), .long (p1)] K := by
  refine s_start (rt := some .long) (R0 := RX2) (by decide) rfl rfl (Nat.le_of_ble_eq_true rfl) ?_
  intro p e s m below meth c ls F hr hlk hl
  obtain ⟨hx, hb, hml, hown, hts⟩ := id F
  have hl : lv_has ls 3 [(0, .int (p0)), (1, .long (p1))] := hl
  unfold wp_X2_cutTo at hw
  refine lv_iload_n hx hb dX2_cutTo_0 rfl (lv_at hl 0 rfl) ?_
  by_cases c_1 : p0 = (0 : Int32)
  · have hw := hw.1 c_1
    refine lv_tableIn (off := 35) (tgt := 36) hx hb dX2_cutTo_1 (by rw [c_1]; decide) (by rw [c_1]; decide) (by rw [c_1]; decide) (by decide) ?_
    refine lv_lload_n hx hb dX2_cutTo_36 rfl (lv_at hl 1 rfl) ?_
    refine lv_l2i hx hb dX2_cutTo_37 rfl ?_
    refine lv_i2l hx hb dX2_cutTo_38 rfl ?_
    exact s_retl F hr hlk dX2_cutTo_39 hw
  have hw := hw.2
  by_cases c_2 : p0 = (1 : Int32)
  · have hw := hw.1 c_2
    refine lv_tableIn (off := 62) (tgt := 63) hx hb dX2_cutTo_1 (by rw [c_2]; decide) (by rw [c_2]; decide) (by rw [c_2]; decide) (by decide) ?_
    refine lv_lload_n hx hb dX2_cutTo_63 rfl (lv_at hl 1 rfl) ?_
    exact s_retl F hr hlk dX2_cutTo_64 hw
  have hw := hw.2
  by_cases c_3 : p0 = (2 : Int32)
  · have hw := hw.1 c_3
    refine lv_tableIn (off := 39) (tgt := 40) hx hb dX2_cutTo_1 (by rw [c_3]; decide) (by rw [c_3]; decide) (by rw [c_3]; decide) (by decide) ?_
    refine lv_lload_n hx hb dX2_cutTo_40 rfl (lv_at hl 1 rfl) ?_
    refine lv_l2i hx hb dX2_cutTo_41 rfl ?_
    refine lv_i2s hx hb dX2_cutTo_42 rfl ?_
    refine lv_i2l hx hb dX2_cutTo_43 rfl ?_
    exact s_retl F hr hlk dX2_cutTo_44 hw
  have hw := hw.2
  by_cases c_4 : p0 = (3 : Int32)
  · have hw := hw.1 c_4
    refine lv_tableIn (off := 44) (tgt := 45) hx hb dX2_cutTo_1 (by rw [c_4]; decide) (by rw [c_4]; decide) (by rw [c_4]; decide) (by decide) ?_
    refine lv_lload_n hx hb dX2_cutTo_45 rfl (lv_at hl 1 rfl) ?_
    refine lv_ldc2 hx hb hown (hts (.constantLong RX2 90 (65535)) (by decide +kernel)) dX2_cutTo_46 ?_
    refine lv_land hx hb dX2_cutTo_49 ?_
    exact s_retl F hr hlk dX2_cutTo_50 hw
  have hw := hw.2
  by_cases c_5 : p0 = (4 : Int32)
  · have hw := hw.1 c_5
    refine lv_tableIn (off := 50) (tgt := 51) hx hb dX2_cutTo_1 (by rw [c_5]; decide) (by rw [c_5]; decide) (by rw [c_5]; decide) (by decide) ?_
    refine lv_lload_n hx hb dX2_cutTo_51 rfl (lv_at hl 1 rfl) ?_
    refine lv_lconst (v := (0 : Int64)) hx hb dX2_cutTo_52 (by decide) ?_
    refine W.lcmp hx hb dX2_cutTo_53 ?_
    refine lv_if_eq (tgt := 61) hx hb dX2_cutTo_54 (by decide) (fun c_6 => ?_) (fun c_6 => ?_)
    · have hw := hw.1 ((lg_cmp_eq _ _).mp c_6)
      refine lv_lconst (v := (0 : Int64)) hx hb dX2_cutTo_61 (by decide) ?_
      exact s_retl F hr hlk dX2_cutTo_62 hw
    · have hw := hw.2 (fun q => c_6 ((lg_cmp_eq _ _).mpr q))
      refine lv_lconst (v := (1 : Int64)) hx hb dX2_cutTo_57 (by decide) ?_
      refine lv_goto (tgt := 62) hx hb dX2_cutTo_58 (by decide) ?_
      exact s_retl F hr hlk dX2_cutTo_62 hw
  have hw := hw.2
  have hw := hw c_1 c_2 c_3 c_4 c_5
  refine lv_tableOut (tgt := 63) hx hb dX2_cutTo_1 (by have nc_1 := lv_neT c_1 (k := (0 : Int32)) (a := 0) rfl; have nc_2 := lv_neT c_2 (k := (1 : Int32)) (a := 1) rfl; have nc_3 := lv_neT c_3 (k := (2 : Int32)) (a := 2) rfl; have nc_4 := lv_neT c_4 (k := (3 : Int32)) (a := 3) rfl; have nc_5 := lv_neT c_5 (k := (4 : Int32)) (a := 4) rfl; omega) (by decide) ?_
  refine lv_lload_n hx hb dX2_cutTo_63 rfl (lv_at hl 1 rfl) ?_
  exact s_retl F hr hlk dX2_cutTo_64 hw
abbrev rm_X2_put : Room := { frames := 2, cells := 0, slots := 0, locals := 41 }
def wp_X2_put (p0 : Int32) (p1 : Int32) (p2 : Int64) (S : mS) (K : Int32 → mS → Prop) : Prop := wp_X2_begin  (S.si 23 (0 : Int32)) (fun S2 => wp_X2_noReel (p0) S2 (fun r3 S4 => ((r3 ≤ 0 → (vp_in (p0) 8 ∧ (vp_in (((S4).ia 5 (p0).toNatClampNeg)) 513 ∧ wp_X2_isOfNumbers (((S4).ia 1 (((S4).ia 5 (p0).toNatClampNeg)).toNatClampNeg)) (fun r8 => ((¬ r8 = 0 → ((p1 < 0 → wp_X2_told ((4 : Int32)) S4 (fun r11 S12 => K (r11) S12)) ∧ (¬ p1 < 0 → (vp_in (((S4).ia 5 (p0).toNatClampNeg)) 513 ∧ ((p1 < ((S4).ia 2 (((S4).ia 5 (p0).toNatClampNeg)).toNatClampNeg) → (vp_in (((S4).ia 5 (p0).toNatClampNeg)) 513 ∧ wp_X2_cutTo (((S4).ia 1 (((S4).ia 5 (p0).toNatClampNeg)).toNatClampNeg)) (p2) (fun r16 => (vp_in ((((24 : Int32) * ((S4).ia 5 (p0).toNatClampNeg)) + p1)) 12312 ∧ wp_X2_told ((0 : Int32)) ((S4.sl 3 ((((24 : Int32) * ((S4).ia 5 (p0).toNatClampNeg)) + p1)).toNatClampNeg (r16)).si 16 (0 : Int32)) (fun r18 S19 => K (r18) S19))))) ∧ (¬ p1 < ((S4).ia 2 (((S4).ia 5 (p0).toNatClampNeg)).toNatClampNeg) → wp_X2_told ((4 : Int32)) S4 (fun r20 S21 => K (r20) S21))))))) ∧ (r8 = 0 → wp_X2_told ((3 : Int32)) S4 (fun r22 S23 => K (r22) S23))))))) ∧ (¬ r3 ≤ 0 → wp_X2_told (r3) S4 (fun r24 S25 => K (r24) S25)))))
set_option maxHeartbeats 4000000 in
set_option maxRecDepth 100000 in
theorem c_X2_put {l : Launch} {D : va_G} {cI cJ : ClassId} {h : Nat → Nat} (p0 : Int32) (p1 : Int32) (p2 : Int64) (S : mS) (K : Int32 → mS → Prop) (hw : wp_X2_put p0 p1 p2 S K) : mMi l D cI cJ h yX2_put wsX2_put rm_X2_put [.ref (h 0), .int (p0), .int (p1), .long (p2)] K S := by
  refine m_starti (rt := some .int) (by decide) rfl rfl (Nat.le_of_ble_eq_true rfl) ?_
  intro p e s m below meth c A ls F hr hlk I hl
  have hin : ∀ w ∈ u_ws RX2 TX2 24, w ∈ wsX2_put := by decide +kernel
  obtain ⟨hx, hb, hml, hown, hts⟩ := id F
  have hl : lv_has ls 7 [(0, .ref (h 0)), (1, .int (p0)), (2, .int (p1)), (3, .long (p2))] := hl
  unfold wp_X2_put at hw
  refine lv_aload_n hx hb dX2_put_0 rfl (lv_at hl 0 rfl) ?_
  refine lv_iconst (v := (0 : Int32)) hx hb dX2_put_1 (by decide) ?_
  refine m_put F hin I 23 (by decide) (hts (.fieldLink RX2 44 "CuttingTableModel" "thrown" "I") (by decide +kernel)) dX2_put_2 (fun H locs I => ?_)
  refine lv_aload_n hx hb dX2_put_5 rfl (lv_at hl 0 rfl) ?_
  refine m_callv (rest := []) F I (c_X2_begin  _ _ hw) (cwV 0 hts gX2_put_X2_begin rfl rfl rfl (by decide +kernel) ⟨Nat.le_of_ble_eq_true rfl, Nat.le_of_ble_eq_true rfl⟩) rfl hl.1 rfl (Nat.le_of_ble_eq_true rfl) dX2_put_6 ⟨Nat.zero_le _, Nat.zero_le _⟩ (fun S2 H locs hw I => ?_)
  refine lv_aload_n hx hb dX2_put_9 rfl (lv_at hl 0 rfl) ?_
  refine lv_iload_n hx hb dX2_put_10 rfl (lv_at hl 1 rfl) ?_
  refine m_calli (rest := []) F I (c_X2_noReel (p0) _ _ hw) (cwV 1 hts gX2_put_X2_noReel rfl rfl rfl (by decide +kernel) ⟨Nat.le_of_ble_eq_true rfl, Nat.le_of_ble_eq_true rfl⟩) rfl hl.1 rfl (Nat.le_of_ble_eq_true rfl) dX2_put_11 ⟨Nat.zero_le _, Nat.zero_le _⟩ (fun r3 S4 H locs hw I => ?_)
  refine lv_istore (lv' := [(5, .int (r3)), (0, .ref (h 0)), (1, .int (p0)), (2, .int (p1)), (3, .long (p2))]) hx hb dX2_put_14 hl (by decide) rfl (fun ls hl => ?_)
  refine lv_iload hx hb dX2_put_16 (lv_at hl 0 rfl) ?_
  refine lv_if_le (tgt := 28) hx hb dX2_put_18 (by decide) (fun c_5 => ?_) (fun c_5 => ?_)
  · have hw := hw.1 c_5
    refine lv_aload_n hx hb dX2_put_28 rfl (lv_at hl 1 rfl) ?_
    refine m_get F hin I 5 (by decide) (v := .ref (h 5)) rfl (hts (.fieldLink RX2 23 "CuttingTableModel" "which" "[I") (by decide +kernel)) dX2_put_29 ?_
    refine lv_iload_n hx hb dX2_put_32 rfl (lv_at hl 2 rfl) ?_
    obtain ⟨hi6, hw⟩ := hw
    refine m_iald F I 5 8 (by decide) hi6 dX2_put_33 ?_
    refine lv_istore (lv' := [(6, .int (((S4).ia 5 (p0).toNatClampNeg))), (5, .int (r3)), (0, .ref (h 0)), (1, .int (p0)), (2, .int (p1)), (3, .long (p2))]) hx hb dX2_put_34 hl (by decide) rfl (fun ls hl => ?_)
    refine lv_aload_n hx hb dX2_put_36 rfl (lv_at hl 2 rfl) ?_
    refine m_get F hin I 0 (by decide) (v := .ref (h 1)) rfl (hts (.fieldLink RX2 7 "CuttingTableModel" "stocks" "[I") (by decide +kernel)) dX2_put_37 ?_
    refine lv_iload hx hb dX2_put_40 (lv_at hl 0 rfl) ?_
    obtain ⟨hi7, hw⟩ := hw
    refine m_iald F I 1 513 (by decide) hi7 dX2_put_42 ?_
    refine s_calli (rest := []) F (c_X2_isOfNumbers (((S4).ia 1 (((S4).ia 5 (p0).toNatClampNeg)).toNatClampNeg)) _ hw) (va_cwS 1 hts gX2_put_X2_isOfNumbers rfl rfl rfl (by decide +kernel) ⟨Nat.le_of_ble_eq_true rfl, Nat.le_of_ble_eq_true rfl⟩) rfl hl.1 rfl (Nat.le_of_ble_eq_true rfl) dX2_put_43 ⟨Nat.zero_le _, Nat.zero_le _⟩ (fun r8 hw => ?_)
    refine lv_if_ne (tgt := 55) hx hb dX2_put_46 (by decide) (fun c_9 => ?_) (fun c_9 => ?_)
    · have hw := hw.1 c_9
      refine lv_iload_n hx hb dX2_put_55 rfl (lv_at hl 4 rfl) ?_
      refine lv_if_lt (tgt := 70) hx hb dX2_put_56 (by decide) (fun c_10 => ?_) (fun c_10 => ?_)
      · have hw := hw.1 c_10
        refine lv_aload_n hx hb dX2_put_70 rfl (lv_at hl 2 rfl) ?_
        refine lv_iconst (v := (4 : Int32)) hx hb dX2_put_71 (by decide) ?_
        refine m_calli (rest := []) F I (c_X2_told ((4 : Int32)) _ _ hw) (cwV 1 hts gX2_put_X2_told rfl rfl rfl (by decide +kernel) ⟨Nat.le_of_ble_eq_true rfl, Nat.le_of_ble_eq_true rfl⟩) rfl hl.1 rfl (Nat.le_of_ble_eq_true rfl) dX2_put_72 ⟨Nat.zero_le _, Nat.zero_le _⟩ (fun r11 S12 H locs hw I => ?_)
        exact m_reti F hr hlk I dX2_put_75 hw
      · have hw := hw.2 c_10
        refine lv_iload_n hx hb dX2_put_59 rfl (lv_at hl 4 rfl) ?_
        refine lv_aload_n hx hb dX2_put_60 rfl (lv_at hl 2 rfl) ?_
        refine m_get F hin I 1 (by decide) (v := .ref (h 2)) rfl (hts (.fieldLink RX2 13 "CuttingTableModel" "sizes" "[I") (by decide +kernel)) dX2_put_61 ?_
        refine lv_iload hx hb dX2_put_64 (lv_at hl 0 rfl) ?_
        obtain ⟨hi13, hw⟩ := hw
        refine m_iald F I 2 513 (by decide) hi13 dX2_put_66 ?_
        refine lv_icmp_lt (tgt := 76) hx hb dX2_put_67 (by decide) (fun c_14 => ?_) (fun c_14 => ?_)
        · have hw := hw.1 c_14
          refine lv_aload_n hx hb dX2_put_76 rfl (lv_at hl 2 rfl) ?_
          refine m_get F hin I 2 (by decide) (v := .ref (h 3)) rfl (hts (.fieldLink RX2 16 "CuttingTableModel" "cells" "[J") (by decide +kernel)) dX2_put_77 ?_
          refine lv_bipush (v := (24 : Int32)) hx hb dX2_put_80 (by decide) ?_
          refine lv_iload hx hb dX2_put_82 (lv_at hl 0 rfl) ?_
          refine lv_imul hx hb dX2_put_84 ?_
          refine lv_iload_n hx hb dX2_put_85 rfl (lv_at hl 4 rfl) ?_
          refine lv_iadd hx hb dX2_put_86 ?_
          refine lv_aload_n hx hb dX2_put_87 rfl (lv_at hl 2 rfl) ?_
          refine m_get F hin I 0 (by decide) (v := .ref (h 1)) rfl (hts (.fieldLink RX2 7 "CuttingTableModel" "stocks" "[I") (by decide +kernel)) dX2_put_88 ?_
          refine lv_iload hx hb dX2_put_91 (lv_at hl 0 rfl) ?_
          obtain ⟨hi15, hw⟩ := hw
          refine m_iald F I 1 513 (by decide) hi15 dX2_put_93 ?_
          refine lv_lload_n hx hb dX2_put_94 rfl (lv_at hl 5 rfl) ?_
          refine s_calll (rest := [.int ((((24 : Int32) * ((S4).ia 5 (p0).toNatClampNeg)) + p1)), .ref (h 3)]) F (c_X2_cutTo (((S4).ia 1 (((S4).ia 5 (p0).toNatClampNeg)).toNatClampNeg)) (p2) _ hw) (va_cwS 2 hts gX2_put_X2_cutTo rfl rfl rfl (by decide +kernel) ⟨Nat.le_of_ble_eq_true rfl, Nat.le_of_ble_eq_true rfl⟩) rfl hl.1 rfl (Nat.le_of_ble_eq_true rfl) dX2_put_95 ⟨Nat.zero_le _, Nat.zero_le _⟩ (fun r16 hw => ?_)
          obtain ⟨hi17, hw⟩ := hw
          refine m_last F I 3 12312 (by decide) hi17 dX2_put_98 (fun H locs I => ?_)
          refine lv_aload_n hx hb dX2_put_99 rfl (lv_at hl 2 rfl) ?_
          refine lv_iconst (v := (0 : Int32)) hx hb dX2_put_100 (by decide) ?_
          refine m_put F hin I 16 (by decide) (hts (.fieldLink RX2 96 "CuttingTableModel" "binMany" "I") (by decide +kernel)) dX2_put_101 (fun H locs I => ?_)
          refine lv_aload_n hx hb dX2_put_104 rfl (lv_at hl 2 rfl) ?_
          refine lv_iconst (v := (0 : Int32)) hx hb dX2_put_105 (by decide) ?_
          refine m_calli (rest := []) F I (c_X2_told ((0 : Int32)) _ _ hw) (cwV 1 hts gX2_put_X2_told rfl rfl rfl (by decide +kernel) ⟨Nat.le_of_ble_eq_true rfl, Nat.le_of_ble_eq_true rfl⟩) rfl hl.1 rfl (Nat.le_of_ble_eq_true rfl) dX2_put_106 ⟨Nat.zero_le _, Nat.zero_le _⟩ (fun r18 S19 H locs hw I => ?_)
          exact m_reti F hr hlk I dX2_put_109 hw
        · have hw := hw.2 c_14
          refine lv_aload_n hx hb dX2_put_70 rfl (lv_at hl 2 rfl) ?_
          refine lv_iconst (v := (4 : Int32)) hx hb dX2_put_71 (by decide) ?_
          refine m_calli (rest := []) F I (c_X2_told ((4 : Int32)) _ _ hw) (cwV 1 hts gX2_put_X2_told rfl rfl rfl (by decide +kernel) ⟨Nat.le_of_ble_eq_true rfl, Nat.le_of_ble_eq_true rfl⟩) rfl hl.1 rfl (Nat.le_of_ble_eq_true rfl) dX2_put_72 ⟨Nat.zero_le _, Nat.zero_le _⟩ (fun r20 S21 H locs hw I => ?_)
          exact m_reti F hr hlk I dX2_put_75 hw
    · have hw := hw.2 c_9
      refine lv_aload_n hx hb dX2_put_49 rfl (lv_at hl 2 rfl) ?_
      refine lv_iconst (v := (3 : Int32)) hx hb dX2_put_50 (by decide) ?_
      refine m_calli (rest := []) F I (c_X2_told ((3 : Int32)) _ _ hw) (cwV 1 hts gX2_put_X2_told rfl rfl rfl (by decide +kernel) ⟨Nat.le_of_ble_eq_true rfl, Nat.le_of_ble_eq_true rfl⟩) rfl hl.1 rfl (Nat.le_of_ble_eq_true rfl) dX2_put_51 ⟨Nat.zero_le _, Nat.zero_le _⟩ (fun r22 S23 H locs hw I => ?_)
      exact m_reti F hr hlk I dX2_put_54 hw
  · have hw := hw.2 c_5
    refine lv_aload_n hx hb dX2_put_21 rfl (lv_at hl 1 rfl) ?_
    refine lv_iload hx hb dX2_put_22 (lv_at hl 0 rfl) ?_
    refine m_calli (rest := []) F I (c_X2_told (r3) _ _ hw) (cwV 1 hts gX2_put_X2_told rfl rfl rfl (by decide +kernel) ⟨Nat.le_of_ble_eq_true rfl, Nat.le_of_ble_eq_true rfl⟩) rfl hl.1 rfl (Nat.le_of_ble_eq_true rfl) dX2_put_24 ⟨Nat.zero_le _, Nat.zero_le _⟩ (fun r24 S25 H locs hw I => ?_)
    exact m_reti F hr hlk I dX2_put_27 hw
abbrev rm_X2_bears : Room := { frames := 1, cells := 0, slots := 0, locals := 20 }
def wp_X2_bears (p0 : Int32) (p1 : Int64) (S : mS) (K : Int32 → mS → Prop) : Prop := wp_X2_isOfNumbers (p0) (fun r1 => ((¬ r1 = 0 → K (1 : Int32) S) ∧ (r1 = 0 → (((0 : Int64) ≤ p1 → (vp_in ((p1).toInt32) 513 ∧ ((p0 = (5 : Int32) → K (1 : Int32) S) ∧ (¬ p0 = (5 : Int32) → ((((S).ia 8 ((p1).toInt32).toNatClampNeg) = (2 : Int32) → K (1 : Int32) S) ∧ (¬ ((S).ia 8 ((p1).toInt32).toNatClampNeg) = (2 : Int32) → ((¬ p0 = (6 : Int32) → K (0 : Int32) S) ∧ (p0 = (6 : Int32) → ((¬ ((S).ia 8 ((p1).toInt32).toNatClampNeg) = (1 : Int32) → K (0 : Int32) S) ∧ (((S).ia 8 ((p1).toInt32).toNatClampNeg) = (1 : Int32) → K (1 : Int32) S)))))))))) ∧ (¬ (0 : Int64) ≤ p1 → K (1 : Int32) S)))))
set_option maxHeartbeats 4000000 in
set_option maxRecDepth 100000 in
theorem c_X2_bears {l : Launch} {D : va_G} {cI cJ : ClassId} {h : Nat → Nat} (p0 : Int32) (p1 : Int64) (S : mS) (K : Int32 → mS → Prop) (hw : wp_X2_bears p0 p1 S K) : mMi l D cI cJ h yX2_bears wsX2_bears rm_X2_bears [.ref (h 0), .int (p0), .long (p1)] K S := by
  refine m_starti (rt := some .boolean) (by decide) rfl rfl (Nat.le_of_ble_eq_true rfl) ?_
  intro p e s m below meth c A ls F hr hlk I hl
  have hin : ∀ w ∈ u_ws RX2 TX2 24, w ∈ wsX2_bears := by decide +kernel
  obtain ⟨hx, hb, hml, hown, hts⟩ := id F
  have hl : lv_has ls 5 [(0, .ref (h 0)), (1, .int (p0)), (2, .long (p1))] := hl
  unfold wp_X2_bears at hw
  refine lv_iload_n hx hb dX2_bears_0 rfl (lv_at hl 1 rfl) ?_
  refine s_calli (rest := []) F (c_X2_isOfNumbers (p0) _ hw) (va_cwS 1 hts gX2_bears_X2_isOfNumbers rfl rfl rfl (by decide +kernel) ⟨Nat.le_of_ble_eq_true rfl, Nat.le_of_ble_eq_true rfl⟩) rfl hl.1 rfl (Nat.le_of_ble_eq_true rfl) dX2_bears_1 ⟨Nat.zero_le _, Nat.zero_le _⟩ (fun r1 hw => ?_)
  refine lv_if_ne (tgt := 13) hx hb dX2_bears_4 (by decide) (fun c_2 => ?_) (fun c_2 => ?_)
  · have hw := hw.1 c_2
    refine lv_iconst (v := (1 : Int32)) hx hb dX2_bears_13 (by decide) ?_
    exact m_retz F hr hlk I dX2_bears_14 ⟨hw, by decide⟩
  · have hw := hw.2 c_2
    refine lv_lload_n hx hb dX2_bears_7 rfl (lv_at hl 2 rfl) ?_
    refine lv_lconst (v := (0 : Int64)) hx hb dX2_bears_8 (by decide) ?_
    refine W.lcmp hx hb dX2_bears_9 ?_
    refine lv_if_ge (tgt := 15) hx hb dX2_bears_10 (by decide) (fun c_3 => ?_) (fun c_3 => ?_)
    · have hw := hw.1 ((lg_cmp_ge _ _).mp c_3)
      refine lv_aload_n hx hb dX2_bears_15 rfl (lv_at hl 0 rfl) ?_
      refine m_get F hin I 9 (by decide) (v := .ref (h 8)) rfl (hts (.fieldLink RX2 32 "CuttingTableModel" "shotKinds" "[I") (by decide +kernel)) dX2_bears_16 ?_
      refine lv_lload_n hx hb dX2_bears_19 rfl (lv_at hl 2 rfl) ?_
      refine lv_l2i hx hb dX2_bears_20 rfl ?_
      obtain ⟨hi4, hw⟩ := hw
      refine m_iald F I 8 513 (by decide) hi4 dX2_bears_21 ?_
      refine lv_istore (lv' := [(4, .int (((S).ia 8 ((p1).toInt32).toNatClampNeg))), (0, .ref (h 0)), (1, .int (p0)), (2, .long (p1))]) hx hb dX2_bears_22 hl (by decide) rfl (fun ls hl => ?_)
      refine lv_iload_n hx hb dX2_bears_24 rfl (lv_at hl 2 rfl) ?_
      refine lv_iconst (v := (5 : Int32)) hx hb dX2_bears_25 (by decide) ?_
      refine lv_icmp_eq (tgt := 47) hx hb dX2_bears_26 (by decide) (fun c_5 => ?_) (fun c_5 => ?_)
      · have hw := hw.1 c_5
        refine lv_iconst (v := (1 : Int32)) hx hb dX2_bears_47 (by decide) ?_
        refine lv_goto (tgt := 52) hx hb dX2_bears_48 (by decide) ?_
        exact m_retz F hr hlk I dX2_bears_52 ⟨hw, by decide⟩
      · have hw := hw.2 c_5
        refine lv_iload hx hb dX2_bears_29 (lv_at hl 0 rfl) ?_
        refine lv_iconst (v := (2 : Int32)) hx hb dX2_bears_31 (by decide) ?_
        refine lv_icmp_eq (tgt := 47) hx hb dX2_bears_32 (by decide) (fun c_6 => ?_) (fun c_6 => ?_)
        · have hw := hw.1 c_6
          refine lv_iconst (v := (1 : Int32)) hx hb dX2_bears_47 (by decide) ?_
          refine lv_goto (tgt := 52) hx hb dX2_bears_48 (by decide) ?_
          exact m_retz F hr hlk I dX2_bears_52 ⟨hw, by decide⟩
        · have hw := hw.2 c_6
          refine lv_iload_n hx hb dX2_bears_35 rfl (lv_at hl 2 rfl) ?_
          refine lv_bipush (v := (6 : Int32)) hx hb dX2_bears_36 (by decide) ?_
          refine lv_icmp_ne (tgt := 51) hx hb dX2_bears_38 (by decide) (fun c_7 => ?_) (fun c_7 => ?_)
          · have hw := hw.1 c_7
            refine lv_iconst (v := (0 : Int32)) hx hb dX2_bears_51 (by decide) ?_
            exact m_retz F hr hlk I dX2_bears_52 ⟨hw, by decide⟩
          · have hw := hw.2 c_7
            refine lv_iload hx hb dX2_bears_41 (lv_at hl 0 rfl) ?_
            refine lv_iconst (v := (1 : Int32)) hx hb dX2_bears_43 (by decide) ?_
            refine lv_icmp_ne (tgt := 51) hx hb dX2_bears_44 (by decide) (fun c_8 => ?_) (fun c_8 => ?_)
            · have hw := hw.1 c_8
              refine lv_iconst (v := (0 : Int32)) hx hb dX2_bears_51 (by decide) ?_
              exact m_retz F hr hlk I dX2_bears_52 ⟨hw, by decide⟩
            · have hw := hw.2 c_8
              refine lv_iconst (v := (1 : Int32)) hx hb dX2_bears_47 (by decide) ?_
              refine lv_goto (tgt := 52) hx hb dX2_bears_48 (by decide) ?_
              exact m_retz F hr hlk I dX2_bears_52 ⟨hw, by decide⟩
    · have hw := hw.2 (fun q => c_3 ((lg_cmp_ge _ _).mpr q))
      refine lv_iconst (v := (1 : Int32)) hx hb dX2_bears_13 (by decide) ?_
      exact m_retz F hr hlk I dX2_bears_14 ⟨hw, by decide⟩
abbrev rm_X2_shoot : Room := { frames := 2, cells := 0, slots := 0, locals := 44 }
def wp_X2_shoot (p0 : Int32) (p1 : Int32) (p2 : Int32) (p3 : Int32) (S : mS) (K : Int32 → mS → Prop) : Prop := wp_X2_begin  (S.si 23 (0 : Int32)) (fun S2 => ((p2 < 0 → wp_X2_told ((6 : Int32)) S2 (fun r5 S6 => K (r5) S6)) ∧ (¬ p2 < 0 → ((p2 ≤ (3 : Int32) → wp_X2_noReel (p0) S2 (fun r8 S9 => ((r8 ≤ 0 → (vp_in (p0) 8 ∧ (vp_in (((S9).ia 5 (p0).toNatClampNeg)) 513 ∧ wp_X2_isOfNumbers (((S9).ia 1 (((S9).ia 5 (p0).toNatClampNeg)).toNatClampNeg)) (fun r13 => ((r13 = 0 → (((3 : Int32) ≤ p2 → ((p1 < 0 → wp_X2_told ((4 : Int32)) S9 (fun r17 S18 => K (r17) S18)) ∧ (¬ p1 < 0 → (vp_in (((S9).ia 5 (p0).toNatClampNeg)) 513 ∧ ((p1 < ((S9).ia 2 (((S9).ia 5 (p0).toNatClampNeg)).toNatClampNeg) → (vp_in (((S9).ia 5 (p0).toNatClampNeg)) 513 ∧ wp_X2_bears (((S9).ia 1 (((S9).ia 5 (p0).toNatClampNeg)).toNatClampNeg)) ((-1 : Int64)) S9 (fun r22 S23 => ((¬ r22 = 0 → (vp_in ((((24 : Int32) * ((S9).ia 5 (p0).toNatClampNeg)) + p1)) 12312 ∧ wp_X2_told ((0 : Int32)) ((S23.sl 3 ((((24 : Int32) * ((S9).ia 5 (p0).toNatClampNeg)) + p1)).toNatClampNeg ((-1 : Int64))).si 16 (0 : Int32)) (fun r26 S27 => K (r26) S27))) ∧ (r22 = 0 → wp_X2_told ((5 : Int32)) S23 (fun r28 S29 => K (r28) S29)))))) ∧ (¬ p1 < ((S9).ia 2 (((S9).ia 5 (p0).toNatClampNeg)).toNatClampNeg) → wp_X2_told ((4 : Int32)) S9 (fun r30 S31 => K (r30) S31))))))) ∧ (¬ (3 : Int32) ≤ p2 → (vp_in (((S9).fi 10)) 513 ∧ (vp_in ((((S9.sa 8 (((S9).fi 10)).toNatClampNeg (p2))).fi 10)) 513 ∧ ((p1 < 0 → wp_X2_told ((4 : Int32)) (((S9.sa 8 (((S9).fi 10)).toNatClampNeg (p2)).sa 7 ((((S9.sa 8 (((S9).fi 10)).toNatClampNeg (p2))).fi 10)).toNatClampNeg (p3)).si 10 ((((((S9.sa 8 (((S9).fi 10)).toNatClampNeg (p2)).sa 7 ((((S9.sa 8 (((S9).fi 10)).toNatClampNeg (p2))).fi 10)).toNatClampNeg (p3))).fi 10) + (1 : Int32)))) (fun r35 S36 => K (r35) S36)) ∧ (¬ p1 < 0 → (vp_in (((S9).ia 5 (p0).toNatClampNeg)) 513 ∧ ((p1 < (((((S9.sa 8 (((S9).fi 10)).toNatClampNeg (p2)).sa 7 ((((S9.sa 8 (((S9).fi 10)).toNatClampNeg (p2))).fi 10)).toNatClampNeg (p3)).si 10 ((((((S9.sa 8 (((S9).fi 10)).toNatClampNeg (p2)).sa 7 ((((S9.sa 8 (((S9).fi 10)).toNatClampNeg (p2))).fi 10)).toNatClampNeg (p3))).fi 10) + (1 : Int32))))).ia 2 (((S9).ia 5 (p0).toNatClampNeg)).toNatClampNeg) → (vp_in (((S9).ia 5 (p0).toNatClampNeg)) 513 ∧ wp_X2_bears ((((((S9.sa 8 (((S9).fi 10)).toNatClampNeg (p2)).sa 7 ((((S9.sa 8 (((S9).fi 10)).toNatClampNeg (p2))).fi 10)).toNatClampNeg (p3)).si 10 ((((((S9.sa 8 (((S9).fi 10)).toNatClampNeg (p2)).sa 7 ((((S9.sa 8 (((S9).fi 10)).toNatClampNeg (p2))).fi 10)).toNatClampNeg (p3))).fi 10) + (1 : Int32))))).ia 1 (((S9).ia 5 (p0).toNatClampNeg)).toNatClampNeg)) ((((((S9.sa 8 (((S9).fi 10)).toNatClampNeg (p2)).sa 7 ((((S9.sa 8 (((S9).fi 10)).toNatClampNeg (p2))).fi 10)).toNatClampNeg (p3))).fi 10)).toInt64) (((S9.sa 8 (((S9).fi 10)).toNatClampNeg (p2)).sa 7 ((((S9.sa 8 (((S9).fi 10)).toNatClampNeg (p2))).fi 10)).toNatClampNeg (p3)).si 10 ((((((S9.sa 8 (((S9).fi 10)).toNatClampNeg (p2)).sa 7 ((((S9.sa 8 (((S9).fi 10)).toNatClampNeg (p2))).fi 10)).toNatClampNeg (p3))).fi 10) + (1 : Int32)))) (fun r40 S41 => ((¬ r40 = 0 → (vp_in ((((24 : Int32) * ((S9).ia 5 (p0).toNatClampNeg)) + p1)) 12312 ∧ wp_X2_told ((0 : Int32)) ((S41.sl 3 ((((24 : Int32) * ((S9).ia 5 (p0).toNatClampNeg)) + p1)).toNatClampNeg ((((((S9.sa 8 (((S9).fi 10)).toNatClampNeg (p2)).sa 7 ((((S9.sa 8 (((S9).fi 10)).toNatClampNeg (p2))).fi 10)).toNatClampNeg (p3))).fi 10)).toInt64)).si 16 (0 : Int32)) (fun r44 S45 => K (r44) S45))) ∧ (r40 = 0 → wp_X2_told ((5 : Int32)) S41 (fun r46 S47 => K (r46) S47)))))) ∧ (¬ p1 < (((((S9.sa 8 (((S9).fi 10)).toNatClampNeg (p2)).sa 7 ((((S9.sa 8 (((S9).fi 10)).toNatClampNeg (p2))).fi 10)).toNatClampNeg (p3)).si 10 ((((((S9.sa 8 (((S9).fi 10)).toNatClampNeg (p2)).sa 7 ((((S9.sa 8 (((S9).fi 10)).toNatClampNeg (p2))).fi 10)).toNatClampNeg (p3))).fi 10) + (1 : Int32))))).ia 2 (((S9).ia 5 (p0).toNatClampNeg)).toNatClampNeg) → wp_X2_told ((4 : Int32)) (((S9.sa 8 (((S9).fi 10)).toNatClampNeg (p2)).sa 7 ((((S9.sa 8 (((S9).fi 10)).toNatClampNeg (p2))).fi 10)).toNatClampNeg (p3)).si 10 ((((((S9.sa 8 (((S9).fi 10)).toNatClampNeg (p2)).sa 7 ((((S9.sa 8 (((S9).fi 10)).toNatClampNeg (p2))).fi 10)).toNatClampNeg (p3))).fi 10) + (1 : Int32)))) (fun r48 S49 => K (r48) S49))))))))))) ∧ (¬ r13 = 0 → wp_X2_told ((3 : Int32)) S9 (fun r50 S51 => K (r50) S51))))))) ∧ (¬ r8 ≤ 0 → wp_X2_told (r8) S9 (fun r52 S53 => K (r52) S53))))) ∧ (¬ p2 ≤ (3 : Int32) → wp_X2_told ((6 : Int32)) S2 (fun r55 S56 => K (r55) S56))))))
set_option maxHeartbeats 4000000 in
set_option maxRecDepth 100000 in
theorem c_X2_shoot {l : Launch} {D : va_G} {cI cJ : ClassId} {h : Nat → Nat} (p0 : Int32) (p1 : Int32) (p2 : Int32) (p3 : Int32) (S : mS) (K : Int32 → mS → Prop) (hw : wp_X2_shoot p0 p1 p2 p3 S K) : mMi l D cI cJ h yX2_shoot wsX2_shoot rm_X2_shoot [.ref (h 0), .int (p0), .int (p1), .int (p2), .int (p3)] K S := by
  refine m_starti (rt := some .int) (by decide) rfl rfl (Nat.le_of_ble_eq_true rfl) ?_
  intro p e s m below meth c A ls F hr hlk I hl
  have hin : ∀ w ∈ u_ws RX2 TX2 24, w ∈ wsX2_shoot := by decide +kernel
  obtain ⟨hx, hb, hml, hown, hts⟩ := id F
  have hl : lv_has ls 9 [(0, .ref (h 0)), (1, .int (p0)), (2, .int (p1)), (3, .int (p2)), (4, .int (p3))] := hl
  unfold wp_X2_shoot at hw
  refine lv_aload_n hx hb dX2_shoot_0 rfl (lv_at hl 0 rfl) ?_
  refine lv_iconst (v := (0 : Int32)) hx hb dX2_shoot_1 (by decide) ?_
  refine m_put F hin I 23 (by decide) (hts (.fieldLink RX2 44 "CuttingTableModel" "thrown" "I") (by decide +kernel)) dX2_shoot_2 (fun H locs I => ?_)
  refine lv_aload_n hx hb dX2_shoot_5 rfl (lv_at hl 0 rfl) ?_
  refine m_callv (rest := []) F I (c_X2_begin  _ _ hw) (cwV 0 hts gX2_shoot_X2_begin rfl rfl rfl (by decide +kernel) ⟨Nat.le_of_ble_eq_true rfl, Nat.le_of_ble_eq_true rfl⟩) rfl hl.1 rfl (Nat.le_of_ble_eq_true rfl) dX2_shoot_6 ⟨Nat.zero_le _, Nat.zero_le _⟩ (fun S2 H locs hw I => ?_)
  refine lv_iload_n hx hb dX2_shoot_9 rfl (lv_at hl 3 rfl) ?_
  refine lv_if_lt (tgt := 18) hx hb dX2_shoot_10 (by decide) (fun c_3 => ?_) (fun c_3 => ?_)
  · have hw := hw.1 c_3
    refine lv_bipush (v := (6 : Int32)) hx hb dX2_shoot_18 (by decide) ?_
    refine lv_goto (tgt := 28) hx hb dX2_shoot_20 (by decide) ?_
    refine lv_istore (lv' := [(5, .int ((6 : Int32))), (0, .ref (h 0)), (1, .int (p0)), (2, .int (p1)), (3, .int (p2)), (4, .int (p3))]) hx hb dX2_shoot_28 hl (by decide) rfl (fun ls hl => ?_)
    refine lv_iload hx hb dX2_shoot_30 (lv_at hl 0 rfl) ?_
    refine lv_if_le (tgt := 42) hx hb dX2_shoot_32 (by decide) (fun c_4 => ?_) (fun c_4 => ?_)
    · exact absurd c_4 (by decide)
    · refine lv_aload_n hx hb dX2_shoot_35 rfl (lv_at hl 1 rfl) ?_
      refine lv_iload hx hb dX2_shoot_36 (lv_at hl 0 rfl) ?_
      refine m_calli (rest := []) F I (c_X2_told ((6 : Int32)) _ _ hw) (cwV 1 hts gX2_shoot_X2_told rfl rfl rfl (by decide +kernel) ⟨Nat.le_of_ble_eq_true rfl, Nat.le_of_ble_eq_true rfl⟩) rfl hl.1 rfl (Nat.le_of_ble_eq_true rfl) dX2_shoot_38 ⟨Nat.zero_le _, Nat.zero_le _⟩ (fun r5 S6 H locs hw I => ?_)
      exact m_reti F hr hlk I dX2_shoot_41 hw
  · have hw := hw.2 c_3
    refine lv_iload_n hx hb dX2_shoot_13 rfl (lv_at hl 3 rfl) ?_
    refine lv_iconst (v := (3 : Int32)) hx hb dX2_shoot_14 (by decide) ?_
    refine lv_icmp_le (tgt := 23) hx hb dX2_shoot_15 (by decide) (fun c_7 => ?_) (fun c_7 => ?_)
    · have hw := hw.1 c_7
      refine lv_aload_n hx hb dX2_shoot_23 rfl (lv_at hl 0 rfl) ?_
      refine lv_iload_n hx hb dX2_shoot_24 rfl (lv_at hl 1 rfl) ?_
      refine m_calli (rest := []) F I (c_X2_noReel (p0) _ _ hw) (cwV 1 hts gX2_shoot_X2_noReel rfl rfl rfl (by decide +kernel) ⟨Nat.le_of_ble_eq_true rfl, Nat.le_of_ble_eq_true rfl⟩) rfl hl.1 rfl (Nat.le_of_ble_eq_true rfl) dX2_shoot_25 ⟨Nat.zero_le _, Nat.zero_le _⟩ (fun r8 S9 H locs hw I => ?_)
      refine lv_istore (lv' := [(5, .int (r8)), (0, .ref (h 0)), (1, .int (p0)), (2, .int (p1)), (3, .int (p2)), (4, .int (p3))]) hx hb dX2_shoot_28 hl (by decide) rfl (fun ls hl => ?_)
      refine lv_iload hx hb dX2_shoot_30 (lv_at hl 0 rfl) ?_
      refine lv_if_le (tgt := 42) hx hb dX2_shoot_32 (by decide) (fun c_10 => ?_) (fun c_10 => ?_)
      · have hw := hw.1 c_10
        refine lv_aload_n hx hb dX2_shoot_42 rfl (lv_at hl 1 rfl) ?_
        refine m_get F hin I 5 (by decide) (v := .ref (h 5)) rfl (hts (.fieldLink RX2 23 "CuttingTableModel" "which" "[I") (by decide +kernel)) dX2_shoot_43 ?_
        refine lv_iload_n hx hb dX2_shoot_46 rfl (lv_at hl 2 rfl) ?_
        obtain ⟨hi11, hw⟩ := hw
        refine m_iald F I 5 8 (by decide) hi11 dX2_shoot_47 ?_
        refine lv_istore (lv' := [(6, .int (((S9).ia 5 (p0).toNatClampNeg))), (5, .int (r8)), (0, .ref (h 0)), (1, .int (p0)), (2, .int (p1)), (3, .int (p2)), (4, .int (p3))]) hx hb dX2_shoot_48 hl (by decide) rfl (fun ls hl => ?_)
        refine lv_aload_n hx hb dX2_shoot_50 rfl (lv_at hl 2 rfl) ?_
        refine m_get F hin I 0 (by decide) (v := .ref (h 1)) rfl (hts (.fieldLink RX2 7 "CuttingTableModel" "stocks" "[I") (by decide +kernel)) dX2_shoot_51 ?_
        refine lv_iload hx hb dX2_shoot_54 (lv_at hl 0 rfl) ?_
        obtain ⟨hi12, hw⟩ := hw
        refine m_iald F I 1 513 (by decide) hi12 dX2_shoot_56 ?_
        refine s_calli (rest := []) F (c_X2_isOfNumbers (((S9).ia 1 (((S9).ia 5 (p0).toNatClampNeg)).toNatClampNeg)) _ hw) (va_cwS 1 hts gX2_shoot_X2_isOfNumbers rfl rfl rfl (by decide +kernel) ⟨Nat.le_of_ble_eq_true rfl, Nat.le_of_ble_eq_true rfl⟩) rfl hl.1 rfl (Nat.le_of_ble_eq_true rfl) dX2_shoot_57 ⟨Nat.zero_le _, Nat.zero_le _⟩ (fun r13 hw => ?_)
        refine lv_if_eq (tgt := 69) hx hb dX2_shoot_60 (by decide) (fun c_14 => ?_) (fun c_14 => ?_)
        · have hw := hw.1 c_14
          refine lv_ldc2 hx hb hown (hts (.constantLong RX2 64 (-1)) (by decide +kernel)) dX2_shoot_69 ?_
          refine lv_lstore (lv' := [(7, .long ((-1 : Int64))), (6, .int (((S9).ia 5 (p0).toNatClampNeg))), (5, .int (r8)), (0, .ref (h 0)), (1, .int (p0)), (2, .int (p1)), (3, .int (p2)), (4, .int (p3))]) hx hb dX2_shoot_72 hl (by decide) rfl (fun ls hl => ?_)
          refine lv_iload_n hx hb dX2_shoot_74 rfl (lv_at hl 6 rfl) ?_
          refine lv_iconst (v := (3 : Int32)) hx hb dX2_shoot_75 (by decide) ?_
          refine lv_icmp_ge (tgt := 117) hx hb dX2_shoot_76 (by decide) (fun c_15 => ?_) (fun c_15 => ?_)
          · have hw := hw.1 c_15
            refine lv_iload_n hx hb dX2_shoot_117 rfl (lv_at hl 5 rfl) ?_
            refine lv_if_lt (tgt := 132) hx hb dX2_shoot_118 (by decide) (fun c_16 => ?_) (fun c_16 => ?_)
            · have hw := hw.1 c_16
              refine lv_aload_n hx hb dX2_shoot_132 rfl (lv_at hl 3 rfl) ?_
              refine lv_iconst (v := (4 : Int32)) hx hb dX2_shoot_133 (by decide) ?_
              refine m_calli (rest := []) F I (c_X2_told ((4 : Int32)) _ _ hw) (cwV 1 hts gX2_shoot_X2_told rfl rfl rfl (by decide +kernel) ⟨Nat.le_of_ble_eq_true rfl, Nat.le_of_ble_eq_true rfl⟩) rfl hl.1 rfl (Nat.le_of_ble_eq_true rfl) dX2_shoot_134 ⟨Nat.zero_le _, Nat.zero_le _⟩ (fun r17 S18 H locs hw I => ?_)
              exact m_reti F hr hlk I dX2_shoot_137 hw
            · have hw := hw.2 c_16
              refine lv_iload_n hx hb dX2_shoot_121 rfl (lv_at hl 5 rfl) ?_
              refine lv_aload_n hx hb dX2_shoot_122 rfl (lv_at hl 3 rfl) ?_
              refine m_get F hin I 1 (by decide) (v := .ref (h 2)) rfl (hts (.fieldLink RX2 13 "CuttingTableModel" "sizes" "[I") (by decide +kernel)) dX2_shoot_123 ?_
              refine lv_iload hx hb dX2_shoot_126 (lv_at hl 1 rfl) ?_
              obtain ⟨hi19, hw⟩ := hw
              refine m_iald F I 2 513 (by decide) hi19 dX2_shoot_128 ?_
              refine lv_icmp_lt (tgt := 138) hx hb dX2_shoot_129 (by decide) (fun c_20 => ?_) (fun c_20 => ?_)
              · have hw := hw.1 c_20
                refine lv_aload_n hx hb dX2_shoot_138 rfl (lv_at hl 3 rfl) ?_
                refine lv_aload_n hx hb dX2_shoot_139 rfl (lv_at hl 3 rfl) ?_
                refine m_get F hin I 0 (by decide) (v := .ref (h 1)) rfl (hts (.fieldLink RX2 7 "CuttingTableModel" "stocks" "[I") (by decide +kernel)) dX2_shoot_140 ?_
                refine lv_iload hx hb dX2_shoot_143 (lv_at hl 1 rfl) ?_
                obtain ⟨hi21, hw⟩ := hw
                refine m_iald F I 1 513 (by decide) hi21 dX2_shoot_145 ?_
                refine lv_lload hx hb dX2_shoot_146 (lv_at hl 0 rfl) ?_
                refine m_calli (rest := []) F I (c_X2_bears (((S9).ia 1 (((S9).ia 5 (p0).toNatClampNeg)).toNatClampNeg)) ((-1 : Int64)) _ _ hw) (cwV 2 hts gX2_shoot_X2_bears rfl rfl rfl (by decide +kernel) ⟨Nat.le_of_ble_eq_true rfl, Nat.le_of_ble_eq_true rfl⟩) rfl hl.1 rfl (Nat.le_of_ble_eq_true rfl) dX2_shoot_148 ⟨Nat.zero_le _, Nat.zero_le _⟩ (fun r22 S23 H locs hw I => ?_)
                refine lv_if_ne (tgt := 160) hx hb dX2_shoot_151 (by decide) (fun c_24 => ?_) (fun c_24 => ?_)
                · have hw := hw.1 c_24
                  refine lv_aload_n hx hb dX2_shoot_160 rfl (lv_at hl 3 rfl) ?_
                  refine m_get F hin I 2 (by decide) (v := .ref (h 3)) rfl (hts (.fieldLink RX2 16 "CuttingTableModel" "cells" "[J") (by decide +kernel)) dX2_shoot_161 ?_
                  refine lv_bipush (v := (24 : Int32)) hx hb dX2_shoot_164 (by decide) ?_
                  refine lv_iload hx hb dX2_shoot_166 (lv_at hl 1 rfl) ?_
                  refine lv_imul hx hb dX2_shoot_168 ?_
                  refine lv_iload_n hx hb dX2_shoot_169 rfl (lv_at hl 5 rfl) ?_
                  refine lv_iadd hx hb dX2_shoot_170 ?_
                  refine lv_lload hx hb dX2_shoot_171 (lv_at hl 0 rfl) ?_
                  obtain ⟨hi25, hw⟩ := hw
                  refine m_last F I 3 12312 (by decide) hi25 dX2_shoot_173 (fun H locs I => ?_)
                  refine lv_aload_n hx hb dX2_shoot_174 rfl (lv_at hl 3 rfl) ?_
                  refine lv_iconst (v := (0 : Int32)) hx hb dX2_shoot_175 (by decide) ?_
                  refine m_put F hin I 16 (by decide) (hts (.fieldLink RX2 96 "CuttingTableModel" "binMany" "I") (by decide +kernel)) dX2_shoot_176 (fun H locs I => ?_)
                  refine lv_aload_n hx hb dX2_shoot_179 rfl (lv_at hl 3 rfl) ?_
                  refine lv_iconst (v := (0 : Int32)) hx hb dX2_shoot_180 (by decide) ?_
                  refine m_calli (rest := []) F I (c_X2_told ((0 : Int32)) _ _ hw) (cwV 1 hts gX2_shoot_X2_told rfl rfl rfl (by decide +kernel) ⟨Nat.le_of_ble_eq_true rfl, Nat.le_of_ble_eq_true rfl⟩) rfl hl.1 rfl (Nat.le_of_ble_eq_true rfl) dX2_shoot_181 ⟨Nat.zero_le _, Nat.zero_le _⟩ (fun r26 S27 H locs hw I => ?_)
                  exact m_reti F hr hlk I dX2_shoot_184 hw
                · have hw := hw.2 c_24
                  refine lv_aload_n hx hb dX2_shoot_154 rfl (lv_at hl 3 rfl) ?_
                  refine lv_iconst (v := (5 : Int32)) hx hb dX2_shoot_155 (by decide) ?_
                  refine m_calli (rest := []) F I (c_X2_told ((5 : Int32)) _ _ hw) (cwV 1 hts gX2_shoot_X2_told rfl rfl rfl (by decide +kernel) ⟨Nat.le_of_ble_eq_true rfl, Nat.le_of_ble_eq_true rfl⟩) rfl hl.1 rfl (Nat.le_of_ble_eq_true rfl) dX2_shoot_156 ⟨Nat.zero_le _, Nat.zero_le _⟩ (fun r28 S29 H locs hw I => ?_)
                  exact m_reti F hr hlk I dX2_shoot_159 hw
              · have hw := hw.2 c_20
                refine lv_aload_n hx hb dX2_shoot_132 rfl (lv_at hl 3 rfl) ?_
                refine lv_iconst (v := (4 : Int32)) hx hb dX2_shoot_133 (by decide) ?_
                refine m_calli (rest := []) F I (c_X2_told ((4 : Int32)) _ _ hw) (cwV 1 hts gX2_shoot_X2_told rfl rfl rfl (by decide +kernel) ⟨Nat.le_of_ble_eq_true rfl, Nat.le_of_ble_eq_true rfl⟩) rfl hl.1 rfl (Nat.le_of_ble_eq_true rfl) dX2_shoot_134 ⟨Nat.zero_le _, Nat.zero_le _⟩ (fun r30 S31 H locs hw I => ?_)
                exact m_reti F hr hlk I dX2_shoot_137 hw
          · have hw := hw.2 c_15
            refine lv_aload_n hx hb dX2_shoot_79 rfl (lv_at hl 3 rfl) ?_
            refine m_get F hin I 9 (by decide) (v := .ref (h 8)) rfl (hts (.fieldLink RX2 32 "CuttingTableModel" "shotKinds" "[I") (by decide +kernel)) dX2_shoot_80 ?_
            refine lv_aload_n hx hb dX2_shoot_83 rfl (lv_at hl 3 rfl) ?_
            refine m_get F hin I 10 (by decide) (v := .int (((S9).fi 10))) rfl (hts (.fieldLink RX2 99 "CuttingTableModel" "shots" "I") (by decide +kernel)) dX2_shoot_84 ?_
            refine lv_iload_n hx hb dX2_shoot_87 rfl (lv_at hl 6 rfl) ?_
            obtain ⟨hi32, hw⟩ := hw
            refine m_iast F I 8 513 (by decide) hi32 dX2_shoot_88 (fun H locs I => ?_)
            refine lv_aload_n hx hb dX2_shoot_89 rfl (lv_at hl 3 rfl) ?_
            refine m_get F hin I 8 (by decide) (v := .ref (h 7)) rfl (hts (.fieldLink RX2 29 "CuttingTableModel" "shotNumbers" "[I") (by decide +kernel)) dX2_shoot_90 ?_
            refine lv_aload_n hx hb dX2_shoot_93 rfl (lv_at hl 3 rfl) ?_
            refine m_get F hin I 10 (by decide) (v := .int ((((S9.sa 8 (((S9).fi 10)).toNatClampNeg (p2))).fi 10))) rfl (hts (.fieldLink RX2 99 "CuttingTableModel" "shots" "I") (by decide +kernel)) dX2_shoot_94 ?_
            refine lv_iload hx hb dX2_shoot_97 (lv_at hl 7 rfl) ?_
            obtain ⟨hi33, hw⟩ := hw
            refine m_iast F I 7 513 (by decide) hi33 dX2_shoot_99 (fun H locs I => ?_)
            refine lv_aload_n hx hb dX2_shoot_100 rfl (lv_at hl 3 rfl) ?_
            refine m_get F hin I 10 (by decide) (v := .int (((((S9.sa 8 (((S9).fi 10)).toNatClampNeg (p2)).sa 7 ((((S9.sa 8 (((S9).fi 10)).toNatClampNeg (p2))).fi 10)).toNatClampNeg (p3))).fi 10))) rfl (hts (.fieldLink RX2 99 "CuttingTableModel" "shots" "I") (by decide +kernel)) dX2_shoot_101 ?_
            refine lv_i2l hx hb dX2_shoot_104 rfl ?_
            refine lv_lstore (lv' := [(7, .long ((((((S9.sa 8 (((S9).fi 10)).toNatClampNeg (p2)).sa 7 ((((S9.sa 8 (((S9).fi 10)).toNatClampNeg (p2))).fi 10)).toNatClampNeg (p3))).fi 10)).toInt64)), (6, .int (((S9).ia 5 (p0).toNatClampNeg))), (5, .int (r8)), (0, .ref (h 0)), (1, .int (p0)), (2, .int (p1)), (3, .int (p2)), (4, .int (p3))]) hx hb dX2_shoot_105 hl (by decide) rfl (fun ls hl => ?_)
            refine lv_aload_n hx hb dX2_shoot_107 rfl (lv_at hl 3 rfl) ?_
            refine lv_dup hx hb dX2_shoot_108 rfl ?_
            refine m_get F hin I 10 (by decide) (v := .int (((((S9.sa 8 (((S9).fi 10)).toNatClampNeg (p2)).sa 7 ((((S9.sa 8 (((S9).fi 10)).toNatClampNeg (p2))).fi 10)).toNatClampNeg (p3))).fi 10))) rfl (hts (.fieldLink RX2 99 "CuttingTableModel" "shots" "I") (by decide +kernel)) dX2_shoot_109 ?_
            refine lv_iconst (v := (1 : Int32)) hx hb dX2_shoot_112 (by decide) ?_
            refine lv_iadd hx hb dX2_shoot_113 ?_
            refine m_put F hin I 10 (by decide) (hts (.fieldLink RX2 99 "CuttingTableModel" "shots" "I") (by decide +kernel)) dX2_shoot_114 (fun H locs I => ?_)
            refine lv_iload_n hx hb dX2_shoot_117 rfl (lv_at hl 5 rfl) ?_
            refine lv_if_lt (tgt := 132) hx hb dX2_shoot_118 (by decide) (fun c_34 => ?_) (fun c_34 => ?_)
            · have hw := hw.1 c_34
              refine lv_aload_n hx hb dX2_shoot_132 rfl (lv_at hl 3 rfl) ?_
              refine lv_iconst (v := (4 : Int32)) hx hb dX2_shoot_133 (by decide) ?_
              refine m_calli (rest := []) F I (c_X2_told ((4 : Int32)) _ _ hw) (cwV 1 hts gX2_shoot_X2_told rfl rfl rfl (by decide +kernel) ⟨Nat.le_of_ble_eq_true rfl, Nat.le_of_ble_eq_true rfl⟩) rfl hl.1 rfl (Nat.le_of_ble_eq_true rfl) dX2_shoot_134 ⟨Nat.zero_le _, Nat.zero_le _⟩ (fun r35 S36 H locs hw I => ?_)
              exact m_reti F hr hlk I dX2_shoot_137 hw
            · have hw := hw.2 c_34
              refine lv_iload_n hx hb dX2_shoot_121 rfl (lv_at hl 5 rfl) ?_
              refine lv_aload_n hx hb dX2_shoot_122 rfl (lv_at hl 3 rfl) ?_
              refine m_get F hin I 1 (by decide) (v := .ref (h 2)) rfl (hts (.fieldLink RX2 13 "CuttingTableModel" "sizes" "[I") (by decide +kernel)) dX2_shoot_123 ?_
              refine lv_iload hx hb dX2_shoot_126 (lv_at hl 1 rfl) ?_
              obtain ⟨hi37, hw⟩ := hw
              refine m_iald F I 2 513 (by decide) hi37 dX2_shoot_128 ?_
              refine lv_icmp_lt (tgt := 138) hx hb dX2_shoot_129 (by decide) (fun c_38 => ?_) (fun c_38 => ?_)
              · have hw := hw.1 c_38
                refine lv_aload_n hx hb dX2_shoot_138 rfl (lv_at hl 3 rfl) ?_
                refine lv_aload_n hx hb dX2_shoot_139 rfl (lv_at hl 3 rfl) ?_
                refine m_get F hin I 0 (by decide) (v := .ref (h 1)) rfl (hts (.fieldLink RX2 7 "CuttingTableModel" "stocks" "[I") (by decide +kernel)) dX2_shoot_140 ?_
                refine lv_iload hx hb dX2_shoot_143 (lv_at hl 1 rfl) ?_
                obtain ⟨hi39, hw⟩ := hw
                refine m_iald F I 1 513 (by decide) hi39 dX2_shoot_145 ?_
                refine lv_lload hx hb dX2_shoot_146 (lv_at hl 0 rfl) ?_
                refine m_calli (rest := []) F I (c_X2_bears ((((((S9.sa 8 (((S9).fi 10)).toNatClampNeg (p2)).sa 7 ((((S9.sa 8 (((S9).fi 10)).toNatClampNeg (p2))).fi 10)).toNatClampNeg (p3)).si 10 ((((((S9.sa 8 (((S9).fi 10)).toNatClampNeg (p2)).sa 7 ((((S9.sa 8 (((S9).fi 10)).toNatClampNeg (p2))).fi 10)).toNatClampNeg (p3))).fi 10) + (1 : Int32))))).ia 1 (((S9).ia 5 (p0).toNatClampNeg)).toNatClampNeg)) ((((((S9.sa 8 (((S9).fi 10)).toNatClampNeg (p2)).sa 7 ((((S9.sa 8 (((S9).fi 10)).toNatClampNeg (p2))).fi 10)).toNatClampNeg (p3))).fi 10)).toInt64) _ _ hw) (cwV 2 hts gX2_shoot_X2_bears rfl rfl rfl (by decide +kernel) ⟨Nat.le_of_ble_eq_true rfl, Nat.le_of_ble_eq_true rfl⟩) rfl hl.1 rfl (Nat.le_of_ble_eq_true rfl) dX2_shoot_148 ⟨Nat.zero_le _, Nat.zero_le _⟩ (fun r40 S41 H locs hw I => ?_)
                refine lv_if_ne (tgt := 160) hx hb dX2_shoot_151 (by decide) (fun c_42 => ?_) (fun c_42 => ?_)
                · have hw := hw.1 c_42
                  refine lv_aload_n hx hb dX2_shoot_160 rfl (lv_at hl 3 rfl) ?_
                  refine m_get F hin I 2 (by decide) (v := .ref (h 3)) rfl (hts (.fieldLink RX2 16 "CuttingTableModel" "cells" "[J") (by decide +kernel)) dX2_shoot_161 ?_
                  refine lv_bipush (v := (24 : Int32)) hx hb dX2_shoot_164 (by decide) ?_
                  refine lv_iload hx hb dX2_shoot_166 (lv_at hl 1 rfl) ?_
                  refine lv_imul hx hb dX2_shoot_168 ?_
                  refine lv_iload_n hx hb dX2_shoot_169 rfl (lv_at hl 5 rfl) ?_
                  refine lv_iadd hx hb dX2_shoot_170 ?_
                  refine lv_lload hx hb dX2_shoot_171 (lv_at hl 0 rfl) ?_
                  obtain ⟨hi43, hw⟩ := hw
                  refine m_last F I 3 12312 (by decide) hi43 dX2_shoot_173 (fun H locs I => ?_)
                  refine lv_aload_n hx hb dX2_shoot_174 rfl (lv_at hl 3 rfl) ?_
                  refine lv_iconst (v := (0 : Int32)) hx hb dX2_shoot_175 (by decide) ?_
                  refine m_put F hin I 16 (by decide) (hts (.fieldLink RX2 96 "CuttingTableModel" "binMany" "I") (by decide +kernel)) dX2_shoot_176 (fun H locs I => ?_)
                  refine lv_aload_n hx hb dX2_shoot_179 rfl (lv_at hl 3 rfl) ?_
                  refine lv_iconst (v := (0 : Int32)) hx hb dX2_shoot_180 (by decide) ?_
                  refine m_calli (rest := []) F I (c_X2_told ((0 : Int32)) _ _ hw) (cwV 1 hts gX2_shoot_X2_told rfl rfl rfl (by decide +kernel) ⟨Nat.le_of_ble_eq_true rfl, Nat.le_of_ble_eq_true rfl⟩) rfl hl.1 rfl (Nat.le_of_ble_eq_true rfl) dX2_shoot_181 ⟨Nat.zero_le _, Nat.zero_le _⟩ (fun r44 S45 H locs hw I => ?_)
                  exact m_reti F hr hlk I dX2_shoot_184 hw
                · have hw := hw.2 c_42
                  refine lv_aload_n hx hb dX2_shoot_154 rfl (lv_at hl 3 rfl) ?_
                  refine lv_iconst (v := (5 : Int32)) hx hb dX2_shoot_155 (by decide) ?_
                  refine m_calli (rest := []) F I (c_X2_told ((5 : Int32)) _ _ hw) (cwV 1 hts gX2_shoot_X2_told rfl rfl rfl (by decide +kernel) ⟨Nat.le_of_ble_eq_true rfl, Nat.le_of_ble_eq_true rfl⟩) rfl hl.1 rfl (Nat.le_of_ble_eq_true rfl) dX2_shoot_156 ⟨Nat.zero_le _, Nat.zero_le _⟩ (fun r46 S47 H locs hw I => ?_)
                  exact m_reti F hr hlk I dX2_shoot_159 hw
              · have hw := hw.2 c_38
                refine lv_aload_n hx hb dX2_shoot_132 rfl (lv_at hl 3 rfl) ?_
                refine lv_iconst (v := (4 : Int32)) hx hb dX2_shoot_133 (by decide) ?_
                refine m_calli (rest := []) F I (c_X2_told ((4 : Int32)) _ _ hw) (cwV 1 hts gX2_shoot_X2_told rfl rfl rfl (by decide +kernel) ⟨Nat.le_of_ble_eq_true rfl, Nat.le_of_ble_eq_true rfl⟩) rfl hl.1 rfl (Nat.le_of_ble_eq_true rfl) dX2_shoot_134 ⟨Nat.zero_le _, Nat.zero_le _⟩ (fun r48 S49 H locs hw I => ?_)
                exact m_reti F hr hlk I dX2_shoot_137 hw
        · have hw := hw.2 c_14
          refine lv_aload_n hx hb dX2_shoot_63 rfl (lv_at hl 2 rfl) ?_
          refine lv_iconst (v := (3 : Int32)) hx hb dX2_shoot_64 (by decide) ?_
          refine m_calli (rest := []) F I (c_X2_told ((3 : Int32)) _ _ hw) (cwV 1 hts gX2_shoot_X2_told rfl rfl rfl (by decide +kernel) ⟨Nat.le_of_ble_eq_true rfl, Nat.le_of_ble_eq_true rfl⟩) rfl hl.1 rfl (Nat.le_of_ble_eq_true rfl) dX2_shoot_65 ⟨Nat.zero_le _, Nat.zero_le _⟩ (fun r50 S51 H locs hw I => ?_)
          exact m_reti F hr hlk I dX2_shoot_68 hw
      · have hw := hw.2 c_10
        refine lv_aload_n hx hb dX2_shoot_35 rfl (lv_at hl 1 rfl) ?_
        refine lv_iload hx hb dX2_shoot_36 (lv_at hl 0 rfl) ?_
        refine m_calli (rest := []) F I (c_X2_told (r8) _ _ hw) (cwV 1 hts gX2_shoot_X2_told rfl rfl rfl (by decide +kernel) ⟨Nat.le_of_ble_eq_true rfl, Nat.le_of_ble_eq_true rfl⟩) rfl hl.1 rfl (Nat.le_of_ble_eq_true rfl) dX2_shoot_38 ⟨Nat.zero_le _, Nat.zero_le _⟩ (fun r52 S53 H locs hw I => ?_)
        exact m_reti F hr hlk I dX2_shoot_41 hw
    · have hw := hw.2 c_7
      refine lv_bipush (v := (6 : Int32)) hx hb dX2_shoot_18 (by decide) ?_
      refine lv_goto (tgt := 28) hx hb dX2_shoot_20 (by decide) ?_
      refine lv_istore (lv' := [(5, .int ((6 : Int32))), (0, .ref (h 0)), (1, .int (p0)), (2, .int (p1)), (3, .int (p2)), (4, .int (p3))]) hx hb dX2_shoot_28 hl (by decide) rfl (fun ls hl => ?_)
      refine lv_iload hx hb dX2_shoot_30 (lv_at hl 0 rfl) ?_
      refine lv_if_le (tgt := 42) hx hb dX2_shoot_32 (by decide) (fun c_54 => ?_) (fun c_54 => ?_)
      · exact absurd c_54 (by decide)
      · refine lv_aload_n hx hb dX2_shoot_35 rfl (lv_at hl 1 rfl) ?_
        refine lv_iload hx hb dX2_shoot_36 (lv_at hl 0 rfl) ?_
        refine m_calli (rest := []) F I (c_X2_told ((6 : Int32)) _ _ hw) (cwV 1 hts gX2_shoot_X2_told rfl rfl rfl (by decide +kernel) ⟨Nat.le_of_ble_eq_true rfl, Nat.le_of_ble_eq_true rfl⟩) rfl hl.1 rfl (Nat.le_of_ble_eq_true rfl) dX2_shoot_38 ⟨Nat.zero_le _, Nat.zero_le _⟩ (fun r55 S56 H locs hw I => ?_)
        exact m_reti F hr hlk I dX2_shoot_41 hw
abbrev rm_X2_wayOf : Room := { frames := 0, cells := 0, slots := 0, locals := 0 }
def wp_X2_wayOf (p0 : Int64) (p1 : Int64) (p2 : Int64) (p3 : Int32) (p4 : Int32) (K : Int32 → Prop) : Prop := (((0 : Int64) ≤ p0 → (((0 : Int64) ≤ p1 → (((0 : Int64) ≤ p2 → (((p0 + p2) ≤ (p3).toInt64 → (((p1 + p2) ≤ (p4).toInt64 → K ((0 : Int32))) ∧ (¬ (p1 + p2) ≤ (p4).toInt64 → K ((5 : Int32))))) ∧ (¬ (p0 + p2) ≤ (p3).toInt64 → K ((4 : Int32))))) ∧ (¬ (0 : Int64) ≤ p2 → K ((3 : Int32))))) ∧ (¬ (0 : Int64) ≤ p1 → K ((2 : Int32))))) ∧ (¬ (0 : Int64) ≤ p0 → K ((1 : Int32))))
set_option maxHeartbeats 4000000 in
set_option maxRecDepth 100000 in
theorem c_X2_wayOf {l : Launch} (p0 : Int64) (p1 : Int64) (p2 : Int64) (p3 : Int32) (p4 : Int32) (K : Int32 → Prop) (hw : wp_X2_wayOf p0 p1 p2 p3 p4 K) : sMi l yX2_wayOf wsX2_wayOf rm_X2_wayOf [.long (p0), .long (p1), .long (p2), .int (p3), .int (p4)] K := by
  refine s_start (rt := some .int) (R0 := RX2) (by decide) rfl rfl (Nat.le_of_ble_eq_true rfl) ?_
  intro p e s m below meth c ls F hr hlk hl
  obtain ⟨hx, hb, hml, hown, hts⟩ := id F
  have hl : lv_has ls 8 [(0, .long (p0)), (2, .long (p1)), (4, .long (p2)), (6, .int (p3)), (7, .int (p4))] := hl
  unfold wp_X2_wayOf at hw
  refine lv_lload_n hx hb dX2_wayOf_0 rfl (lv_at hl 0 rfl) ?_
  refine lv_lconst (v := (0 : Int64)) hx hb dX2_wayOf_1 (by decide) ?_
  refine W.lcmp hx hb dX2_wayOf_2 ?_
  refine lv_if_ge (tgt := 8) hx hb dX2_wayOf_3 (by decide) (fun c_1 => ?_) (fun c_1 => ?_)
  · have hw := hw.1 ((lg_cmp_ge _ _).mp c_1)
    refine lv_lload_n hx hb dX2_wayOf_8 rfl (lv_at hl 1 rfl) ?_
    refine lv_lconst (v := (0 : Int64)) hx hb dX2_wayOf_9 (by decide) ?_
    refine W.lcmp hx hb dX2_wayOf_10 ?_
    refine lv_if_ge (tgt := 16) hx hb dX2_wayOf_11 (by decide) (fun c_2 => ?_) (fun c_2 => ?_)
    · have hw := hw.1 ((lg_cmp_ge _ _).mp c_2)
      refine lv_lload hx hb dX2_wayOf_16 (lv_at hl 2 rfl) ?_
      refine lv_lconst (v := (0 : Int64)) hx hb dX2_wayOf_18 (by decide) ?_
      refine W.lcmp hx hb dX2_wayOf_19 ?_
      refine lv_if_ge (tgt := 25) hx hb dX2_wayOf_20 (by decide) (fun c_3 => ?_) (fun c_3 => ?_)
      · have hw := hw.1 ((lg_cmp_ge _ _).mp c_3)
        refine lv_lload_n hx hb dX2_wayOf_25 rfl (lv_at hl 0 rfl) ?_
        refine lv_lload hx hb dX2_wayOf_26 (lv_at hl 2 rfl) ?_
        refine lv_ladd hx hb dX2_wayOf_28 ?_
        refine lv_iload hx hb dX2_wayOf_29 (lv_at hl 3 rfl) ?_
        refine lv_i2l hx hb dX2_wayOf_31 rfl ?_
        refine W.lcmp hx hb dX2_wayOf_32 ?_
        refine lv_if_le (tgt := 38) hx hb dX2_wayOf_33 (by decide) (fun c_4 => ?_) (fun c_4 => ?_)
        · have hw := hw.1 ((lg_cmp_le _ _).mp c_4)
          refine lv_lload_n hx hb dX2_wayOf_38 rfl (lv_at hl 1 rfl) ?_
          refine lv_lload hx hb dX2_wayOf_39 (lv_at hl 2 rfl) ?_
          refine lv_ladd hx hb dX2_wayOf_41 ?_
          refine lv_iload hx hb dX2_wayOf_42 (lv_at hl 4 rfl) ?_
          refine lv_i2l hx hb dX2_wayOf_44 rfl ?_
          refine W.lcmp hx hb dX2_wayOf_45 ?_
          refine lv_if_le (tgt := 53) hx hb dX2_wayOf_46 (by decide) (fun c_5 => ?_) (fun c_5 => ?_)
          · have hw := hw.1 ((lg_cmp_le _ _).mp c_5)
            refine lv_iconst (v := (0 : Int32)) hx hb dX2_wayOf_53 (by decide) ?_
            exact s_reti F hr hlk dX2_wayOf_54 hw
          · have hw := hw.2 (fun q => c_5 ((lg_cmp_le _ _).mpr q))
            refine lv_iconst (v := (5 : Int32)) hx hb dX2_wayOf_49 (by decide) ?_
            refine lv_goto (tgt := 54) hx hb dX2_wayOf_50 (by decide) ?_
            exact s_reti F hr hlk dX2_wayOf_54 hw
        · have hw := hw.2 (fun q => c_4 ((lg_cmp_le _ _).mpr q))
          refine lv_iconst (v := (4 : Int32)) hx hb dX2_wayOf_36 (by decide) ?_
          exact s_reti F hr hlk dX2_wayOf_37 hw
      · have hw := hw.2 (fun q => c_3 ((lg_cmp_ge _ _).mpr q))
        refine lv_iconst (v := (3 : Int32)) hx hb dX2_wayOf_23 (by decide) ?_
        exact s_reti F hr hlk dX2_wayOf_24 hw
    · have hw := hw.2 (fun q => c_2 ((lg_cmp_ge _ _).mpr q))
      refine lv_iconst (v := (2 : Int32)) hx hb dX2_wayOf_14 (by decide) ?_
      exact s_reti F hr hlk dX2_wayOf_15 hw
  · have hw := hw.2 (fun q => c_1 ((lg_cmp_ge _ _).mpr q))
    refine lv_iconst (v := (1 : Int32)) hx hb dX2_wayOf_6 (by decide) ?_
    exact s_reti F hr hlk dX2_wayOf_7 hw
abbrev rm_X2_goes : Room := { frames := 0, cells := 0, slots := 0, locals := 0 }
def wl_X2_goes_18 (K : mS → Prop) : Nat → Int32 → Int32 → Int32 → Int32 → mS → Prop
  | 0, _, _, _, _, _ => False
  | n + 1, v1, v2, v3, v4, S => ((v3 ≤ v4 → K (S.si 22 ((((S).fi 22) + v3)))) ∧ (¬ v3 ≤ v4 → (vp_in (((((24 : Int32) * v1) + v2) + v4)) 12312 ∧ (vp_in (v4) 24 ∧ (vp_in (v4) 24 ∧ (vp_in (((((24 : Int32) * v1) + v2) + v4)) 12312 ∧ wl_X2_goes_18 K n (v1) (v2) (v3) ((v4 + (1 : Int32))) ((S.sl 10 (v4).toNatClampNeg (((S).la 3 (((((24 : Int32) * v1) + v2) + v4)).toNatClampNeg))).sl 3 (((((24 : Int32) * v1) + v2) + v4)).toNatClampNeg ((((S.sl 10 (v4).toNatClampNeg (((S).la 3 (((((24 : Int32) * v1) + v2) + v4)).toNatClampNeg)))).la 11 (v4).toNatClampNeg)))))))))
def wp_X2_goes (p0 : Int32) (p1 : Int32) (p2 : Int32) (S : mS) (K : mS → Prop) : Prop := (∃ n18 : Nat, wl_X2_goes_18 K n18 (p0) (p1) (p2) ((0 : Int32)) (((S.si 14 (p0)).si 15 (p1)).si 16 (p2)))
set_option maxHeartbeats 4000000 in
set_option maxRecDepth 100000 in
theorem lp_X2_goes_18 {p : Program} {l : Launch} {e : Env} {s : State} {m : MethodId} {args : Array Value} {below : List Frame} {meth : Method} {c : Code} {D : va_G} {cI cJ : ClassId} {h : Nat → Nat} {A : Nat → Prop} {K : mS → Prop} (F : CallFix p m c cX2_goes 5 s args wsX2_goes RX2) (hin : ∀ w ∈ u_ws RX2 TX2 24, w ∈ wsX2_goes) (hr : meth.sig.returnType = none) (hlk : meth.locks = false) :
    ∀ (n : Nat) (v1 : Int32) (v2 : Int32) (v3 : Int32) (v4 : Int32) (S : mS) (H : Heap) (locs : List Loc), mI D cI cJ h A s s.heap H locs S → ∀ (ls : Array Slot), lv_has ls 5 [(0, .ref (h 0)), (1, .int (v1)), (2, .int (v2)), (3, .int (v3)), (4, .int (v4))] → wl_X2_goes_18 K n v1 v2 v3 v4 S → W p l e rm_X2_goes s m args below meth c H locs 0 0 (MQ below (va_Qv K (mB D cI cJ h A) A) args s 0 0 A) (F0 m 18 ls []) := by
  obtain ⟨hx, hb, hml, hown, hts⟩ := id F
  intro n
  induction n with
  | zero => intro v1 v2 v3 v4 S H locs I ls hl hw; exact hw.elim
  | succ n ih =>
    intro v1 v2 v3 v4 S H locs I ls hl hw
    rw [wl_X2_goes_18] at hw
    refine lv_iload hx hb dX2_goes_18 (lv_at hl 4 rfl) ?_
    refine lv_iload_n hx hb dX2_goes_20 rfl (lv_at hl 3 rfl) ?_
    refine lv_icmp_ge (tgt := 72) hx hb dX2_goes_21 (by decide) (fun c_1 => ?_) (fun c_1 => ?_)
    · have hw := hw.1 c_1
      refine lv_aload_n hx hb dX2_goes_72 rfl (lv_at hl 0 rfl) ?_
      refine lv_dup hx hb dX2_goes_73 rfl ?_
      refine m_get F hin I 22 (by decide) (v := .int (((S).fi 22))) rfl (hts (.fieldLink RX2 122 "CuttingTableModel" "went" "I") (by decide +kernel)) dX2_goes_74 ?_
      refine lv_iload_n hx hb dX2_goes_77 rfl (lv_at hl 3 rfl) ?_
      refine lv_iadd hx hb dX2_goes_78 ?_
      refine m_put F hin I 22 (by decide) (hts (.fieldLink RX2 122 "CuttingTableModel" "went" "I") (by decide +kernel)) dX2_goes_79 (fun H locs I => ?_)
      exact m_retv F hr hlk I dX2_goes_82 hw
    · have hw := hw.2 c_1
      refine lv_aload_n hx hb dX2_goes_24 rfl (lv_at hl 0 rfl) ?_
      refine m_get F hin I 13 (by decide) (v := .ref (h 10)) rfl (hts (.fieldLink RX2 38 "CuttingTableModel" "bin" "[J") (by decide +kernel)) dX2_goes_25 ?_
      refine lv_iload hx hb dX2_goes_28 (lv_at hl 4 rfl) ?_
      refine lv_aload_n hx hb dX2_goes_30 rfl (lv_at hl 0 rfl) ?_
      refine m_get F hin I 2 (by decide) (v := .ref (h 3)) rfl (hts (.fieldLink RX2 16 "CuttingTableModel" "cells" "[J") (by decide +kernel)) dX2_goes_31 ?_
      refine lv_bipush (v := (24 : Int32)) hx hb dX2_goes_34 (by decide) ?_
      refine lv_iload_n hx hb dX2_goes_36 rfl (lv_at hl 1 rfl) ?_
      refine lv_imul hx hb dX2_goes_37 ?_
      refine lv_iload_n hx hb dX2_goes_38 rfl (lv_at hl 2 rfl) ?_
      refine lv_iadd hx hb dX2_goes_39 ?_
      refine lv_iload hx hb dX2_goes_40 (lv_at hl 4 rfl) ?_
      refine lv_iadd hx hb dX2_goes_42 ?_
      obtain ⟨hi2, hw⟩ := hw
      refine m_lald F I 3 12312 (by decide) hi2 dX2_goes_43 ?_
      obtain ⟨hi3, hw⟩ := hw
      refine m_last F I 10 24 (by decide) hi3 dX2_goes_44 (fun H locs I => ?_)
      refine lv_aload_n hx hb dX2_goes_45 rfl (lv_at hl 0 rfl) ?_
      refine m_get F hin I 2 (by decide) (v := .ref (h 3)) rfl (hts (.fieldLink RX2 16 "CuttingTableModel" "cells" "[J") (by decide +kernel)) dX2_goes_46 ?_
      refine lv_bipush (v := (24 : Int32)) hx hb dX2_goes_49 (by decide) ?_
      refine lv_iload_n hx hb dX2_goes_51 rfl (lv_at hl 1 rfl) ?_
      refine lv_imul hx hb dX2_goes_52 ?_
      refine lv_iload_n hx hb dX2_goes_53 rfl (lv_at hl 2 rfl) ?_
      refine lv_iadd hx hb dX2_goes_54 ?_
      refine lv_iload hx hb dX2_goes_55 (lv_at hl 4 rfl) ?_
      refine lv_iadd hx hb dX2_goes_57 ?_
      refine lv_aload_n hx hb dX2_goes_58 rfl (lv_at hl 0 rfl) ?_
      refine m_get F hin I 17 (by decide) (v := .ref (h 11)) rfl (hts (.fieldLink RX2 41 "CuttingTableModel" "taken" "[J") (by decide +kernel)) dX2_goes_59 ?_
      refine lv_iload hx hb dX2_goes_62 (lv_at hl 4 rfl) ?_
      obtain ⟨hi4, hw⟩ := hw
      refine m_lald F I 11 24 (by decide) hi4 dX2_goes_64 ?_
      obtain ⟨hi5, hw⟩ := hw
      refine m_last F I 3 12312 (by decide) hi5 dX2_goes_65 (fun H locs I => ?_)
      refine lv_iinc (v := (v4 + (1 : Int32))) (lv' := [(4, .int ((v4 + (1 : Int32)))), (0, .ref (h 0)), (1, .int (v1)), (2, .int (v2)), (3, .int (v3))]) hx hb dX2_goes_66 hl (k := 4) rfl rfl (by decide) rfl (fun ls hl => ?_)
      refine lv_goto (tgt := 18) hx hb dX2_goes_69 (by decide) ?_
      exact ih (v1) (v2) (v3) ((v4 + (1 : Int32))) ((S.sl 10 (v4).toNatClampNeg (((S).la 3 (((((24 : Int32) * v1) + v2) + v4)).toNatClampNeg))).sl 3 (((((24 : Int32) * v1) + v2) + v4)).toNatClampNeg ((((S.sl 10 (v4).toNatClampNeg (((S).la 3 (((((24 : Int32) * v1) + v2) + v4)).toNatClampNeg)))).la 11 (v4).toNatClampNeg))) _ _ I ls (lv_sub hl [1, 2, 3, 4, 0] rfl) hw
set_option maxHeartbeats 4000000 in
set_option maxRecDepth 100000 in
theorem c_X2_goes {l : Launch} {D : va_G} {cI cJ : ClassId} {h : Nat → Nat} (p0 : Int32) (p1 : Int32) (p2 : Int32) (S : mS) (K : mS → Prop) (hw : wp_X2_goes p0 p1 p2 S K) : mMv l D cI cJ h yX2_goes wsX2_goes rm_X2_goes [.ref (h 0), .int (p0), .int (p1), .int (p2)] K S := by
  refine m_startv (rt := none) (by decide) rfl rfl (Nat.le_of_ble_eq_true rfl) ?_
  intro p e s m below meth c A ls F hr hlk I hl
  have hin : ∀ w ∈ u_ws RX2 TX2 24, w ∈ wsX2_goes := by decide +kernel
  obtain ⟨hx, hb, hml, hown, hts⟩ := id F
  have hl : lv_has ls 5 [(0, .ref (h 0)), (1, .int (p0)), (2, .int (p1)), (3, .int (p2))] := hl
  unfold wp_X2_goes at hw
  refine lv_aload_n hx hb dX2_goes_0 rfl (lv_at hl 0 rfl) ?_
  refine lv_iload_n hx hb dX2_goes_1 rfl (lv_at hl 1 rfl) ?_
  refine m_put F hin I 14 (by decide) (hts (.fieldLink RX2 116 "CuttingTableModel" "binReel" "I") (by decide +kernel)) dX2_goes_2 (fun H locs I => ?_)
  refine lv_aload_n hx hb dX2_goes_5 rfl (lv_at hl 0 rfl) ?_
  refine lv_iload_n hx hb dX2_goes_6 rfl (lv_at hl 2 rfl) ?_
  refine m_put F hin I 15 (by decide) (hts (.fieldLink RX2 119 "CuttingTableModel" "binFrom" "I") (by decide +kernel)) dX2_goes_7 (fun H locs I => ?_)
  refine lv_aload_n hx hb dX2_goes_10 rfl (lv_at hl 0 rfl) ?_
  refine lv_iload_n hx hb dX2_goes_11 rfl (lv_at hl 3 rfl) ?_
  refine m_put F hin I 16 (by decide) (hts (.fieldLink RX2 96 "CuttingTableModel" "binMany" "I") (by decide +kernel)) dX2_goes_12 (fun H locs I => ?_)
  refine lv_iconst (v := (0 : Int32)) hx hb dX2_goes_15 (by decide) ?_
  refine lv_istore (lv' := [(4, .int ((0 : Int32))), (0, .ref (h 0)), (1, .int (p0)), (2, .int (p1)), (3, .int (p2))]) hx hb dX2_goes_16 hl (by decide) rfl (fun ls hl => ?_)
  obtain ⟨n18, hw⟩ := hw
  exact lp_X2_goes_18 F hin hr hlk n18 (p0) (p1) (p2) ((0 : Int32)) (((S.si 14 (p0)).si 15 (p1)).si 16 (p2)) _ _ I ls (lv_sub hl [1, 2, 3, 4, 0] rfl) hw
abbrev rm_X2_spliced : Room := { frames := 2, cells := 0, slots := 0, locals := 44 }
def wl_X2_spliced_166 (K : Int32 → mS → Prop) : Nat → Int32 → Int64 → Int32 → Int64 → Int64 → Int32 → Int32 → Int32 → mS → Prop
  | 0, _, _, _, _, _, _, _, _, _ => False
  | n + 1, v1, v2, v4, v5, v7, v9, v10, v11, S => ((v7 ≤ (v11).toInt64 → ((v11 ≤ 0 → ((v7 ≤ (v11).toInt64 → K ((0 : Int32)) (S.si 21 ((((S).fi 21) + (1 : Int32))))) ∧ (¬ v7 ≤ (v11).toInt64 → K ((5 : Int32)) (S.si 20 (v11))))) ∧ (¬ v11 ≤ 0 → wp_X2_goes (v10) ((v5).toInt32) (v11) S (fun S28 => ((v7 ≤ (v11).toInt64 → K ((0 : Int32)) (S28.si 21 ((((S28).fi 21) + (1 : Int32))))) ∧ (¬ v7 ≤ (v11).toInt64 → K ((5 : Int32)) (S28.si 20 (v11)))))))) ∧ (¬ v7 ≤ (v11).toInt64 → (vp_in (v10) 513 ∧ (vp_in (((((24 : Int32) * v9) + (v2).toInt32) + v11)) 12312 ∧ wp_X2_bears (((S).ia 1 (v10).toNatClampNeg)) (((S).la 3 (((((24 : Int32) * v9) + (v2).toInt32) + v11)).toNatClampNeg)) S (fun r32 S33 => ((r32 = 0 → ((v11 ≤ 0 → ((v7 ≤ (v11).toInt64 → K ((0 : Int32)) (S33.si 21 ((((S33).fi 21) + (1 : Int32))))) ∧ (¬ v7 ≤ (v11).toInt64 → K ((5 : Int32)) (S33.si 20 (v11))))) ∧ (¬ v11 ≤ 0 → wp_X2_goes (v10) ((v5).toInt32) (v11) S33 (fun S38 => ((v7 ≤ (v11).toInt64 → K ((0 : Int32)) (S38.si 21 ((((S38).fi 21) + (1 : Int32))))) ∧ (¬ v7 ≤ (v11).toInt64 → K ((5 : Int32)) (S38.si 20 (v11)))))))) ∧ (¬ r32 = 0 → (vp_in (((((24 : Int32) * v9) + (v2).toInt32) + v11)) 12312 ∧ (vp_in (v11) 24 ∧ wl_X2_spliced_166 K n (v1) (v2) (v4) (v5) (v7) (v9) (v10) ((v11 + (1 : Int32))) (S33.sl 11 (v11).toNatClampNeg (((S33).la 3 (((((24 : Int32) * v9) + (v2).toInt32) + v11)).toNatClampNeg))))))))))))
def wp_X2_spliced (p0 : Int32) (p1 : Int64) (p2 : Int32) (p3 : Int64) (p4 : Int64) (S : mS) (K : Int32 → mS → Prop) : Prop := wp_X2_begin  S (fun S2 => wp_X2_isSpindle (p0) (fun r3 => ((r3 = 0 → K ((6 : Int32)) S2) ∧ (¬ r3 = 0 → wp_X2_isSpindle (p2) (fun r5 => ((¬ r5 = 0 → (vp_in (p0) 8 ∧ ((((S2).ia 4 (p0).toNatClampNeg) = 0 → K ((1 : Int32)) S2) ∧ (¬ ((S2).ia 4 (p0).toNatClampNeg) = 0 → (vp_in (p2) 8 ∧ ((¬ ((S2).ia 4 (p2).toNatClampNeg) = 0 → (vp_in (p0) 8 ∧ ((((S2).ia 4 (p0).toNatClampNeg) = (2 : Int32) → K ((2 : Int32)) S2) ∧ (¬ ((S2).ia 4 (p0).toNatClampNeg) = (2 : Int32) → (vp_in (p2) 8 ∧ ((¬ ((S2).ia 4 (p2).toNatClampNeg) = (2 : Int32) → (vp_in (p0) 8 ∧ (vp_in (p2) 8 ∧ (vp_in (((S2).ia 5 (p0).toNatClampNeg)) 513 ∧ (vp_in (((S2).ia 5 (p2).toNatClampNeg)) 513 ∧ ((((S2).ia 1 (((S2).ia 5 (p0).toNatClampNeg)).toNatClampNeg) = ((S2).ia 1 (((S2).ia 5 (p2).toNatClampNeg)).toNatClampNeg) → (vp_in (((S2).ia 5 (p0).toNatClampNeg)) 513 ∧ (vp_in (((S2).ia 5 (p2).toNatClampNeg)) 513 ∧ wp_X2_wayOf (p1) (p3) (p4) (((S2).ia 2 (((S2).ia 5 (p0).toNatClampNeg)).toNatClampNeg)) (((S2).ia 2 (((S2).ia 5 (p2).toNatClampNeg)).toNatClampNeg)) (fun r22 => (((((S2.si 19 (r22))).fi 19) ≤ 0 → (∃ n166 : Nat, wl_X2_spliced_166 K n166 (p0) (p1) (p2) (p3) (p4) (((S2).ia 5 (p0).toNatClampNeg)) (((S2).ia 5 (p2).toNatClampNeg)) ((0 : Int32)) (S2.si 19 (r22)))) ∧ (¬ (((S2.si 19 (r22))).fi 19) ≤ 0 → K ((4 : Int32)) (S2.si 19 (r22)))))))) ∧ (¬ ((S2).ia 1 (((S2).ia 5 (p0).toNatClampNeg)).toNatClampNeg) = ((S2).ia 1 (((S2).ia 5 (p2).toNatClampNeg)).toNatClampNeg) → (vp_in (((S2).ia 5 (p0).toNatClampNeg)) 513 ∧ wp_X2_isOfNumbers (((S2).ia 1 (((S2).ia 5 (p0).toNatClampNeg)).toNatClampNeg)) (fun r43 => ((¬ r43 = 0 → K ((3 : Int32)) S2) ∧ (r43 = 0 → (vp_in (((S2).ia 5 (p2).toNatClampNeg)) 513 ∧ wp_X2_isOfNumbers (((S2).ia 1 (((S2).ia 5 (p2).toNatClampNeg)).toNatClampNeg)) (fun r46 => ((r46 = 0 → (vp_in (((S2).ia 5 (p0).toNatClampNeg)) 513 ∧ (vp_in (((S2).ia 5 (p2).toNatClampNeg)) 513 ∧ wp_X2_wayOf (p1) (p3) (p4) (((S2).ia 2 (((S2).ia 5 (p0).toNatClampNeg)).toNatClampNeg)) (((S2).ia 2 (((S2).ia 5 (p2).toNatClampNeg)).toNatClampNeg)) (fun r50 => (((((S2.si 19 (r50))).fi 19) ≤ 0 → (∃ n166 : Nat, wl_X2_spliced_166 K n166 (p0) (p1) (p2) (p3) (p4) (((S2).ia 5 (p0).toNatClampNeg)) (((S2).ia 5 (p2).toNatClampNeg)) ((0 : Int32)) (S2.si 19 (r50)))) ∧ (¬ (((S2.si 19 (r50))).fi 19) ≤ 0 → K ((4 : Int32)) (S2.si 19 (r50)))))))) ∧ (¬ r46 = 0 → K ((3 : Int32)) S2))))))))))))))) ∧ (((S2).ia 4 (p2).toNatClampNeg) = (2 : Int32) → K ((2 : Int32)) S2))))))) ∧ (((S2).ia 4 (p2).toNatClampNeg) = 0 → K ((1 : Int32)) S2))))))) ∧ (r5 = 0 → K ((6 : Int32)) S2)))))))
set_option maxHeartbeats 4000000 in
set_option maxRecDepth 100000 in
theorem lp_X2_spliced_166 {p : Program} {l : Launch} {e : Env} {s : State} {m : MethodId} {args : Array Value} {below : List Frame} {meth : Method} {c : Code} {D : va_G} {cI cJ : ClassId} {h : Nat → Nat} {A : Nat → Prop} {K : Int32 → mS → Prop} (F : CallFix p m c cX2_spliced 12 s args wsX2_spliced RX2) (hin : ∀ w ∈ u_ws RX2 TX2 24, w ∈ wsX2_spliced) (hr : meth.sig.returnType = some .int) (hlk : meth.locks = false) :
    ∀ (n : Nat) (v1 : Int32) (v2 : Int64) (v4 : Int32) (v5 : Int64) (v7 : Int64) (v9 : Int32) (v10 : Int32) (v11 : Int32) (S : mS) (H : Heap) (locs : List Loc), mI D cI cJ h A s s.heap H locs S → ∀ (ls : Array Slot), lv_has ls 12 [(0, .ref (h 0)), (1, .int (v1)), (2, .long (v2)), (4, .int (v4)), (5, .long (v5)), (7, .long (v7)), (9, .int (v9)), (10, .int (v10)), (11, .int (v11))] → wl_X2_spliced_166 K n v1 v2 v4 v5 v7 v9 v10 v11 S → W p l e rm_X2_spliced s m args below meth c H locs 0 0 (MQ below (va_Qi K (mB D cI cJ h A) A) args s 0 0 A) (F0 m 166 ls []) := by
  obtain ⟨hx, hb, hml, hown, hts⟩ := id F
  intro n
  induction n with
  | zero => intro v1 v2 v4 v5 v7 v9 v10 v11 S H locs I ls hl hw; exact hw.elim
  | succ n ih =>
    intro v1 v2 v4 v5 v7 v9 v10 v11 S H locs I ls hl hw
    rw [wl_X2_spliced_166] at hw
    refine lv_iload hx hb dX2_spliced_166 (lv_at hl 8 rfl) ?_
    refine lv_i2l hx hb dX2_spliced_168 rfl ?_
    refine lv_lload hx hb dX2_spliced_169 (lv_at hl 5 rfl) ?_
    refine W.lcmp hx hb dX2_spliced_171 ?_
    refine lv_if_ge (tgt := 234) hx hb dX2_spliced_172 (by decide) (fun c_24 => ?_) (fun c_24 => ?_)
    · have hw := hw.1 ((lg_cmp_ge _ _).mp c_24)
      refine lv_iload hx hb dX2_spliced_234 (lv_at hl 8 rfl) ?_
      refine lv_if_le (tgt := 250) hx hb dX2_spliced_236 (by decide) (fun c_25 => ?_) (fun c_25 => ?_)
      · have hw := hw.1 c_25
        refine lv_iload hx hb dX2_spliced_250 (lv_at hl 8 rfl) ?_
        refine lv_i2l hx hb dX2_spliced_252 rfl ?_
        refine lv_lload hx hb dX2_spliced_253 (lv_at hl 5 rfl) ?_
        refine W.lcmp hx hb dX2_spliced_255 ?_
        refine lv_if_ge (tgt := 267) hx hb dX2_spliced_256 (by decide) (fun c_26 => ?_) (fun c_26 => ?_)
        · have hw := hw.1 ((lg_cmp_ge _ _).mp c_26)
          refine lv_aload_n hx hb dX2_spliced_267 rfl (lv_at hl 0 rfl) ?_
          refine lv_dup hx hb dX2_spliced_268 rfl ?_
          refine m_get F hin I 21 (by decide) (v := .int (((S).fi 21))) rfl (hts (.fieldLink RX2 113 "CuttingTableModel" "splices" "I") (by decide +kernel)) dX2_spliced_269 ?_
          refine lv_iconst (v := (1 : Int32)) hx hb dX2_spliced_272 (by decide) ?_
          refine lv_iadd hx hb dX2_spliced_273 ?_
          refine m_put F hin I 21 (by decide) (hts (.fieldLink RX2 113 "CuttingTableModel" "splices" "I") (by decide +kernel)) dX2_spliced_274 (fun H locs I => ?_)
          refine lv_iconst (v := (0 : Int32)) hx hb dX2_spliced_277 (by decide) ?_
          exact m_reti F hr hlk I dX2_spliced_278 hw
        · have hw := hw.2 (fun q => c_26 ((lg_cmp_ge _ _).mpr q))
          refine lv_aload_n hx hb dX2_spliced_259 rfl (lv_at hl 0 rfl) ?_
          refine lv_iload hx hb dX2_spliced_260 (lv_at hl 8 rfl) ?_
          refine m_put F hin I 20 (by decide) (hts (.fieldLink RX2 54 "CuttingTableModel" "ahead" "I") (by decide +kernel)) dX2_spliced_262 (fun H locs I => ?_)
          refine lv_iconst (v := (5 : Int32)) hx hb dX2_spliced_265 (by decide) ?_
          exact m_reti F hr hlk I dX2_spliced_266 hw
      · have hw := hw.2 c_25
        refine lv_aload_n hx hb dX2_spliced_239 rfl (lv_at hl 0 rfl) ?_
        refine lv_iload hx hb dX2_spliced_240 (lv_at hl 7 rfl) ?_
        refine lv_lload hx hb dX2_spliced_242 (lv_at hl 4 rfl) ?_
        refine lv_l2i hx hb dX2_spliced_244 rfl ?_
        refine lv_iload hx hb dX2_spliced_245 (lv_at hl 8 rfl) ?_
        refine m_callv (rest := []) F I (c_X2_goes (v10) ((v5).toInt32) (v11) _ _ hw) (cwV 3 hts gX2_spliced_X2_goes rfl rfl rfl (by decide +kernel) ⟨Nat.le_of_ble_eq_true rfl, Nat.le_of_ble_eq_true rfl⟩) rfl hl.1 rfl (Nat.le_of_ble_eq_true rfl) dX2_spliced_247 ⟨Nat.zero_le _, Nat.zero_le _⟩ (fun S28 H locs hw I => ?_)
        refine lv_iload hx hb dX2_spliced_250 (lv_at hl 8 rfl) ?_
        refine lv_i2l hx hb dX2_spliced_252 rfl ?_
        refine lv_lload hx hb dX2_spliced_253 (lv_at hl 5 rfl) ?_
        refine W.lcmp hx hb dX2_spliced_255 ?_
        refine lv_if_ge (tgt := 267) hx hb dX2_spliced_256 (by decide) (fun c_29 => ?_) (fun c_29 => ?_)
        · have hw := hw.1 ((lg_cmp_ge _ _).mp c_29)
          refine lv_aload_n hx hb dX2_spliced_267 rfl (lv_at hl 0 rfl) ?_
          refine lv_dup hx hb dX2_spliced_268 rfl ?_
          refine m_get F hin I 21 (by decide) (v := .int (((S28).fi 21))) rfl (hts (.fieldLink RX2 113 "CuttingTableModel" "splices" "I") (by decide +kernel)) dX2_spliced_269 ?_
          refine lv_iconst (v := (1 : Int32)) hx hb dX2_spliced_272 (by decide) ?_
          refine lv_iadd hx hb dX2_spliced_273 ?_
          refine m_put F hin I 21 (by decide) (hts (.fieldLink RX2 113 "CuttingTableModel" "splices" "I") (by decide +kernel)) dX2_spliced_274 (fun H locs I => ?_)
          refine lv_iconst (v := (0 : Int32)) hx hb dX2_spliced_277 (by decide) ?_
          exact m_reti F hr hlk I dX2_spliced_278 hw
        · have hw := hw.2 (fun q => c_29 ((lg_cmp_ge _ _).mpr q))
          refine lv_aload_n hx hb dX2_spliced_259 rfl (lv_at hl 0 rfl) ?_
          refine lv_iload hx hb dX2_spliced_260 (lv_at hl 8 rfl) ?_
          refine m_put F hin I 20 (by decide) (hts (.fieldLink RX2 54 "CuttingTableModel" "ahead" "I") (by decide +kernel)) dX2_spliced_262 (fun H locs I => ?_)
          refine lv_iconst (v := (5 : Int32)) hx hb dX2_spliced_265 (by decide) ?_
          exact m_reti F hr hlk I dX2_spliced_266 hw
    · have hw := hw.2 (fun q => c_24 ((lg_cmp_ge _ _).mpr q))
      refine lv_aload_n hx hb dX2_spliced_175 rfl (lv_at hl 0 rfl) ?_
      refine lv_aload_n hx hb dX2_spliced_176 rfl (lv_at hl 0 rfl) ?_
      refine m_get F hin I 0 (by decide) (v := .ref (h 1)) rfl (hts (.fieldLink RX2 7 "CuttingTableModel" "stocks" "[I") (by decide +kernel)) dX2_spliced_177 ?_
      refine lv_iload hx hb dX2_spliced_180 (lv_at hl 7 rfl) ?_
      obtain ⟨hi30, hw⟩ := hw
      refine m_iald F I 1 513 (by decide) hi30 dX2_spliced_182 ?_
      refine lv_aload_n hx hb dX2_spliced_183 rfl (lv_at hl 0 rfl) ?_
      refine m_get F hin I 2 (by decide) (v := .ref (h 3)) rfl (hts (.fieldLink RX2 16 "CuttingTableModel" "cells" "[J") (by decide +kernel)) dX2_spliced_184 ?_
      refine lv_bipush (v := (24 : Int32)) hx hb dX2_spliced_187 (by decide) ?_
      refine lv_iload hx hb dX2_spliced_189 (lv_at hl 6 rfl) ?_
      refine lv_imul hx hb dX2_spliced_191 ?_
      refine lv_lload_n hx hb dX2_spliced_192 rfl (lv_at hl 2 rfl) ?_
      refine lv_l2i hx hb dX2_spliced_193 rfl ?_
      refine lv_iadd hx hb dX2_spliced_194 ?_
      refine lv_iload hx hb dX2_spliced_195 (lv_at hl 8 rfl) ?_
      refine lv_iadd hx hb dX2_spliced_197 ?_
      obtain ⟨hi31, hw⟩ := hw
      refine m_lald F I 3 12312 (by decide) hi31 dX2_spliced_198 ?_
      refine m_calli (rest := []) F I (c_X2_bears (((S).ia 1 (v10).toNatClampNeg)) (((S).la 3 (((((24 : Int32) * v9) + (v2).toInt32) + v11)).toNatClampNeg)) _ _ hw) (cwV 2 hts gX2_spliced_X2_bears rfl rfl rfl (by decide +kernel) ⟨Nat.le_of_ble_eq_true rfl, Nat.le_of_ble_eq_true rfl⟩) rfl hl.1 rfl (Nat.le_of_ble_eq_true rfl) dX2_spliced_199 ⟨Nat.zero_le _, Nat.zero_le _⟩ (fun r32 S33 H locs hw I => ?_)
      refine lv_if_eq (tgt := 234) hx hb dX2_spliced_202 (by decide) (fun c_34 => ?_) (fun c_34 => ?_)
      · have hw := hw.1 c_34
        refine lv_iload hx hb dX2_spliced_234 (lv_at hl 8 rfl) ?_
        refine lv_if_le (tgt := 250) hx hb dX2_spliced_236 (by decide) (fun c_35 => ?_) (fun c_35 => ?_)
        · have hw := hw.1 c_35
          refine lv_iload hx hb dX2_spliced_250 (lv_at hl 8 rfl) ?_
          refine lv_i2l hx hb dX2_spliced_252 rfl ?_
          refine lv_lload hx hb dX2_spliced_253 (lv_at hl 5 rfl) ?_
          refine W.lcmp hx hb dX2_spliced_255 ?_
          refine lv_if_ge (tgt := 267) hx hb dX2_spliced_256 (by decide) (fun c_36 => ?_) (fun c_36 => ?_)
          · have hw := hw.1 ((lg_cmp_ge _ _).mp c_36)
            refine lv_aload_n hx hb dX2_spliced_267 rfl (lv_at hl 0 rfl) ?_
            refine lv_dup hx hb dX2_spliced_268 rfl ?_
            refine m_get F hin I 21 (by decide) (v := .int (((S33).fi 21))) rfl (hts (.fieldLink RX2 113 "CuttingTableModel" "splices" "I") (by decide +kernel)) dX2_spliced_269 ?_
            refine lv_iconst (v := (1 : Int32)) hx hb dX2_spliced_272 (by decide) ?_
            refine lv_iadd hx hb dX2_spliced_273 ?_
            refine m_put F hin I 21 (by decide) (hts (.fieldLink RX2 113 "CuttingTableModel" "splices" "I") (by decide +kernel)) dX2_spliced_274 (fun H locs I => ?_)
            refine lv_iconst (v := (0 : Int32)) hx hb dX2_spliced_277 (by decide) ?_
            exact m_reti F hr hlk I dX2_spliced_278 hw
          · have hw := hw.2 (fun q => c_36 ((lg_cmp_ge _ _).mpr q))
            refine lv_aload_n hx hb dX2_spliced_259 rfl (lv_at hl 0 rfl) ?_
            refine lv_iload hx hb dX2_spliced_260 (lv_at hl 8 rfl) ?_
            refine m_put F hin I 20 (by decide) (hts (.fieldLink RX2 54 "CuttingTableModel" "ahead" "I") (by decide +kernel)) dX2_spliced_262 (fun H locs I => ?_)
            refine lv_iconst (v := (5 : Int32)) hx hb dX2_spliced_265 (by decide) ?_
            exact m_reti F hr hlk I dX2_spliced_266 hw
        · have hw := hw.2 c_35
          refine lv_aload_n hx hb dX2_spliced_239 rfl (lv_at hl 0 rfl) ?_
          refine lv_iload hx hb dX2_spliced_240 (lv_at hl 7 rfl) ?_
          refine lv_lload hx hb dX2_spliced_242 (lv_at hl 4 rfl) ?_
          refine lv_l2i hx hb dX2_spliced_244 rfl ?_
          refine lv_iload hx hb dX2_spliced_245 (lv_at hl 8 rfl) ?_
          refine m_callv (rest := []) F I (c_X2_goes (v10) ((v5).toInt32) (v11) _ _ hw) (cwV 3 hts gX2_spliced_X2_goes rfl rfl rfl (by decide +kernel) ⟨Nat.le_of_ble_eq_true rfl, Nat.le_of_ble_eq_true rfl⟩) rfl hl.1 rfl (Nat.le_of_ble_eq_true rfl) dX2_spliced_247 ⟨Nat.zero_le _, Nat.zero_le _⟩ (fun S38 H locs hw I => ?_)
          refine lv_iload hx hb dX2_spliced_250 (lv_at hl 8 rfl) ?_
          refine lv_i2l hx hb dX2_spliced_252 rfl ?_
          refine lv_lload hx hb dX2_spliced_253 (lv_at hl 5 rfl) ?_
          refine W.lcmp hx hb dX2_spliced_255 ?_
          refine lv_if_ge (tgt := 267) hx hb dX2_spliced_256 (by decide) (fun c_39 => ?_) (fun c_39 => ?_)
          · have hw := hw.1 ((lg_cmp_ge _ _).mp c_39)
            refine lv_aload_n hx hb dX2_spliced_267 rfl (lv_at hl 0 rfl) ?_
            refine lv_dup hx hb dX2_spliced_268 rfl ?_
            refine m_get F hin I 21 (by decide) (v := .int (((S38).fi 21))) rfl (hts (.fieldLink RX2 113 "CuttingTableModel" "splices" "I") (by decide +kernel)) dX2_spliced_269 ?_
            refine lv_iconst (v := (1 : Int32)) hx hb dX2_spliced_272 (by decide) ?_
            refine lv_iadd hx hb dX2_spliced_273 ?_
            refine m_put F hin I 21 (by decide) (hts (.fieldLink RX2 113 "CuttingTableModel" "splices" "I") (by decide +kernel)) dX2_spliced_274 (fun H locs I => ?_)
            refine lv_iconst (v := (0 : Int32)) hx hb dX2_spliced_277 (by decide) ?_
            exact m_reti F hr hlk I dX2_spliced_278 hw
          · have hw := hw.2 (fun q => c_39 ((lg_cmp_ge _ _).mpr q))
            refine lv_aload_n hx hb dX2_spliced_259 rfl (lv_at hl 0 rfl) ?_
            refine lv_iload hx hb dX2_spliced_260 (lv_at hl 8 rfl) ?_
            refine m_put F hin I 20 (by decide) (hts (.fieldLink RX2 54 "CuttingTableModel" "ahead" "I") (by decide +kernel)) dX2_spliced_262 (fun H locs I => ?_)
            refine lv_iconst (v := (5 : Int32)) hx hb dX2_spliced_265 (by decide) ?_
            exact m_reti F hr hlk I dX2_spliced_266 hw
      · have hw := hw.2 c_34
        refine lv_aload_n hx hb dX2_spliced_205 rfl (lv_at hl 0 rfl) ?_
        refine m_get F hin I 17 (by decide) (v := .ref (h 11)) rfl (hts (.fieldLink RX2 41 "CuttingTableModel" "taken" "[J") (by decide +kernel)) dX2_spliced_206 ?_
        refine lv_iload hx hb dX2_spliced_209 (lv_at hl 8 rfl) ?_
        refine lv_aload_n hx hb dX2_spliced_211 rfl (lv_at hl 0 rfl) ?_
        refine m_get F hin I 2 (by decide) (v := .ref (h 3)) rfl (hts (.fieldLink RX2 16 "CuttingTableModel" "cells" "[J") (by decide +kernel)) dX2_spliced_212 ?_
        refine lv_bipush (v := (24 : Int32)) hx hb dX2_spliced_215 (by decide) ?_
        refine lv_iload hx hb dX2_spliced_217 (lv_at hl 6 rfl) ?_
        refine lv_imul hx hb dX2_spliced_219 ?_
        refine lv_lload_n hx hb dX2_spliced_220 rfl (lv_at hl 2 rfl) ?_
        refine lv_l2i hx hb dX2_spliced_221 rfl ?_
        refine lv_iadd hx hb dX2_spliced_222 ?_
        refine lv_iload hx hb dX2_spliced_223 (lv_at hl 8 rfl) ?_
        refine lv_iadd hx hb dX2_spliced_225 ?_
        obtain ⟨hi40, hw⟩ := hw
        refine m_lald F I 3 12312 (by decide) hi40 dX2_spliced_226 ?_
        obtain ⟨hi41, hw⟩ := hw
        refine m_last F I 11 24 (by decide) hi41 dX2_spliced_227 (fun H locs I => ?_)
        refine lv_iinc (v := (v11 + (1 : Int32))) (lv' := [(11, .int ((v11 + (1 : Int32)))), (0, .ref (h 0)), (1, .int (v1)), (2, .long (v2)), (4, .int (v4)), (5, .long (v5)), (7, .long (v7)), (9, .int (v9)), (10, .int (v10))]) hx hb dX2_spliced_228 hl (k := 8) rfl rfl (by decide) rfl (fun ls hl => ?_)
        refine lv_goto (tgt := 166) hx hb dX2_spliced_231 (by decide) ?_
        exact ih (v1) (v2) (v4) (v5) (v7) (v9) (v10) ((v11 + (1 : Int32))) (S33.sl 11 (v11).toNatClampNeg (((S33).la 3 (((((24 : Int32) * v9) + (v2).toInt32) + v11)).toNatClampNeg))) _ _ I ls (lv_sub hl [1, 2, 3, 4, 5, 6, 7, 8, 0] rfl) hw
set_option maxHeartbeats 4000000 in
set_option maxRecDepth 100000 in
theorem c_X2_spliced {l : Launch} {D : va_G} {cI cJ : ClassId} {h : Nat → Nat} (p0 : Int32) (p1 : Int64) (p2 : Int32) (p3 : Int64) (p4 : Int64) (S : mS) (K : Int32 → mS → Prop) (hw : wp_X2_spliced p0 p1 p2 p3 p4 S K) : mMi l D cI cJ h yX2_spliced wsX2_spliced rm_X2_spliced [.ref (h 0), .int (p0), .long (p1), .int (p2), .long (p3), .long (p4)] K S := by
  refine m_starti (rt := some .int) (by decide) rfl rfl (Nat.le_of_ble_eq_true rfl) ?_
  intro p e s m below meth c A ls F hr hlk I hl
  have hin : ∀ w ∈ u_ws RX2 TX2 24, w ∈ wsX2_spliced := by decide +kernel
  obtain ⟨hx, hb, hml, hown, hts⟩ := id F
  have hl : lv_has ls 12 [(0, .ref (h 0)), (1, .int (p0)), (2, .long (p1)), (4, .int (p2)), (5, .long (p3)), (7, .long (p4))] := hl
  unfold wp_X2_spliced at hw
  refine lv_aload_n hx hb dX2_spliced_0 rfl (lv_at hl 0 rfl) ?_
  refine m_callv (rest := []) F I (c_X2_begin  _ _ hw) (cwV 0 hts gX2_spliced_X2_begin rfl rfl rfl (by decide +kernel) ⟨Nat.le_of_ble_eq_true rfl, Nat.le_of_ble_eq_true rfl⟩) rfl hl.1 rfl (Nat.le_of_ble_eq_true rfl) dX2_spliced_1 ⟨Nat.zero_le _, Nat.zero_le _⟩ (fun S2 H locs hw I => ?_)
  refine lv_iload_n hx hb dX2_spliced_4 rfl (lv_at hl 1 rfl) ?_
  refine s_calli (rest := []) F (c_X2_isSpindle (p0) _ hw) (va_cwS 1 hts gX2_spliced_X2_isSpindle rfl rfl rfl (by decide +kernel) ⟨Nat.le_of_ble_eq_true rfl, Nat.le_of_ble_eq_true rfl⟩) rfl hl.1 rfl (Nat.le_of_ble_eq_true rfl) dX2_spliced_5 ⟨Nat.zero_le _, Nat.zero_le _⟩ (fun r3 hw => ?_)
  refine lv_if_eq (tgt := 19) hx hb dX2_spliced_8 (by decide) (fun c_4 => ?_) (fun c_4 => ?_)
  · have hw := hw.1 c_4
    refine lv_bipush (v := (6 : Int32)) hx hb dX2_spliced_19 (by decide) ?_
    exact m_reti F hr hlk I dX2_spliced_21 hw
  · have hw := hw.2 c_4
    refine lv_iload hx hb dX2_spliced_11 (lv_at hl 3 rfl) ?_
    refine s_calli (rest := []) F (c_X2_isSpindle (p2) _ hw) (va_cwS 1 hts gX2_spliced_X2_isSpindle rfl rfl rfl (by decide +kernel) ⟨Nat.le_of_ble_eq_true rfl, Nat.le_of_ble_eq_true rfl⟩) rfl hl.1 rfl (Nat.le_of_ble_eq_true rfl) dX2_spliced_13 ⟨Nat.zero_le _, Nat.zero_le _⟩ (fun r5 hw => ?_)
    refine lv_if_ne (tgt := 22) hx hb dX2_spliced_16 (by decide) (fun c_6 => ?_) (fun c_6 => ?_)
    · have hw := hw.1 c_6
      refine lv_aload_n hx hb dX2_spliced_22 rfl (lv_at hl 0 rfl) ?_
      refine m_get F hin I 4 (by decide) (v := .ref (h 4)) rfl (hts (.fieldLink RX2 20 "CuttingTableModel" "lies" "[I") (by decide +kernel)) dX2_spliced_23 ?_
      refine lv_iload_n hx hb dX2_spliced_26 rfl (lv_at hl 1 rfl) ?_
      obtain ⟨hi7, hw⟩ := hw
      refine m_iald F I 4 8 (by decide) hi7 dX2_spliced_27 ?_
      refine lv_if_eq (tgt := 41) hx hb dX2_spliced_28 (by decide) (fun c_8 => ?_) (fun c_8 => ?_)
      · have hw := hw.1 c_8
        refine lv_iconst (v := (1 : Int32)) hx hb dX2_spliced_41 (by decide) ?_
        exact m_reti F hr hlk I dX2_spliced_42 hw
      · have hw := hw.2 c_8
        refine lv_aload_n hx hb dX2_spliced_31 rfl (lv_at hl 0 rfl) ?_
        refine m_get F hin I 4 (by decide) (v := .ref (h 4)) rfl (hts (.fieldLink RX2 20 "CuttingTableModel" "lies" "[I") (by decide +kernel)) dX2_spliced_32 ?_
        refine lv_iload hx hb dX2_spliced_35 (lv_at hl 3 rfl) ?_
        obtain ⟨hi9, hw⟩ := hw
        refine m_iald F I 4 8 (by decide) hi9 dX2_spliced_37 ?_
        refine lv_if_ne (tgt := 43) hx hb dX2_spliced_38 (by decide) (fun c_10 => ?_) (fun c_10 => ?_)
        · have hw := hw.1 c_10
          refine lv_aload_n hx hb dX2_spliced_43 rfl (lv_at hl 0 rfl) ?_
          refine m_get F hin I 4 (by decide) (v := .ref (h 4)) rfl (hts (.fieldLink RX2 20 "CuttingTableModel" "lies" "[I") (by decide +kernel)) dX2_spliced_44 ?_
          refine lv_iload_n hx hb dX2_spliced_47 rfl (lv_at hl 1 rfl) ?_
          obtain ⟨hi11, hw⟩ := hw
          refine m_iald F I 4 8 (by decide) hi11 dX2_spliced_48 ?_
          refine lv_iconst (v := (2 : Int32)) hx hb dX2_spliced_49 (by decide) ?_
          refine lv_icmp_eq (tgt := 64) hx hb dX2_spliced_50 (by decide) (fun c_12 => ?_) (fun c_12 => ?_)
          · have hw := hw.1 c_12
            refine lv_iconst (v := (2 : Int32)) hx hb dX2_spliced_64 (by decide) ?_
            exact m_reti F hr hlk I dX2_spliced_65 hw
          · have hw := hw.2 c_12
            refine lv_aload_n hx hb dX2_spliced_53 rfl (lv_at hl 0 rfl) ?_
            refine m_get F hin I 4 (by decide) (v := .ref (h 4)) rfl (hts (.fieldLink RX2 20 "CuttingTableModel" "lies" "[I") (by decide +kernel)) dX2_spliced_54 ?_
            refine lv_iload hx hb dX2_spliced_57 (lv_at hl 3 rfl) ?_
            obtain ⟨hi13, hw⟩ := hw
            refine m_iald F I 4 8 (by decide) hi13 dX2_spliced_59 ?_
            refine lv_iconst (v := (2 : Int32)) hx hb dX2_spliced_60 (by decide) ?_
            refine lv_icmp_ne (tgt := 66) hx hb dX2_spliced_61 (by decide) (fun c_14 => ?_) (fun c_14 => ?_)
            · have hw := hw.1 c_14
              refine lv_aload_n hx hb dX2_spliced_66 rfl (lv_at hl 0 rfl) ?_
              refine m_get F hin I 5 (by decide) (v := .ref (h 5)) rfl (hts (.fieldLink RX2 23 "CuttingTableModel" "which" "[I") (by decide +kernel)) dX2_spliced_67 ?_
              refine lv_iload_n hx hb dX2_spliced_70 rfl (lv_at hl 1 rfl) ?_
              obtain ⟨hi15, hw⟩ := hw
              refine m_iald F I 5 8 (by decide) hi15 dX2_spliced_71 ?_
              refine lv_istore (lv' := [(9, .int (((S2).ia 5 (p0).toNatClampNeg))), (0, .ref (h 0)), (1, .int (p0)), (2, .long (p1)), (4, .int (p2)), (5, .long (p3)), (7, .long (p4))]) hx hb dX2_spliced_72 hl (by decide) rfl (fun ls hl => ?_)
              refine lv_aload_n hx hb dX2_spliced_74 rfl (lv_at hl 1 rfl) ?_
              refine m_get F hin I 5 (by decide) (v := .ref (h 5)) rfl (hts (.fieldLink RX2 23 "CuttingTableModel" "which" "[I") (by decide +kernel)) dX2_spliced_75 ?_
              refine lv_iload hx hb dX2_spliced_78 (lv_at hl 4 rfl) ?_
              obtain ⟨hi16, hw⟩ := hw
              refine m_iald F I 5 8 (by decide) hi16 dX2_spliced_80 ?_
              refine lv_istore (lv' := [(10, .int (((S2).ia 5 (p2).toNatClampNeg))), (9, .int (((S2).ia 5 (p0).toNatClampNeg))), (0, .ref (h 0)), (1, .int (p0)), (2, .long (p1)), (4, .int (p2)), (5, .long (p3)), (7, .long (p4))]) hx hb dX2_spliced_81 hl (by decide) rfl (fun ls hl => ?_)
              refine lv_aload_n hx hb dX2_spliced_83 rfl (lv_at hl 2 rfl) ?_
              refine m_get F hin I 0 (by decide) (v := .ref (h 1)) rfl (hts (.fieldLink RX2 7 "CuttingTableModel" "stocks" "[I") (by decide +kernel)) dX2_spliced_84 ?_
              refine lv_iload hx hb dX2_spliced_87 (lv_at hl 1 rfl) ?_
              obtain ⟨hi17, hw⟩ := hw
              refine m_iald F I 1 513 (by decide) hi17 dX2_spliced_89 ?_
              refine lv_aload_n hx hb dX2_spliced_90 rfl (lv_at hl 2 rfl) ?_
              refine m_get F hin I 0 (by decide) (v := .ref (h 1)) rfl (hts (.fieldLink RX2 7 "CuttingTableModel" "stocks" "[I") (by decide +kernel)) dX2_spliced_91 ?_
              refine lv_iload hx hb dX2_spliced_94 (lv_at hl 0 rfl) ?_
              obtain ⟨hi18, hw⟩ := hw
              refine m_iald F I 1 513 (by decide) hi18 dX2_spliced_96 ?_
              refine lv_icmp_eq (tgt := 128) hx hb dX2_spliced_97 (by decide) (fun c_19 => ?_) (fun c_19 => ?_)
              · have hw := hw.1 c_19
                refine lv_aload_n hx hb dX2_spliced_128 rfl (lv_at hl 2 rfl) ?_
                refine lv_lload_n hx hb dX2_spliced_129 rfl (lv_at hl 4 rfl) ?_
                refine lv_lload hx hb dX2_spliced_130 (lv_at hl 6 rfl) ?_
                refine lv_lload hx hb dX2_spliced_132 (lv_at hl 7 rfl) ?_
                refine lv_aload_n hx hb dX2_spliced_134 rfl (lv_at hl 2 rfl) ?_
                refine m_get F hin I 1 (by decide) (v := .ref (h 2)) rfl (hts (.fieldLink RX2 13 "CuttingTableModel" "sizes" "[I") (by decide +kernel)) dX2_spliced_135 ?_
                refine lv_iload hx hb dX2_spliced_138 (lv_at hl 1 rfl) ?_
                obtain ⟨hi20, hw⟩ := hw
                refine m_iald F I 2 513 (by decide) hi20 dX2_spliced_140 ?_
                refine lv_aload_n hx hb dX2_spliced_141 rfl (lv_at hl 2 rfl) ?_
                refine m_get F hin I 1 (by decide) (v := .ref (h 2)) rfl (hts (.fieldLink RX2 13 "CuttingTableModel" "sizes" "[I") (by decide +kernel)) dX2_spliced_142 ?_
                refine lv_iload hx hb dX2_spliced_145 (lv_at hl 0 rfl) ?_
                obtain ⟨hi21, hw⟩ := hw
                refine m_iald F I 2 513 (by decide) hi21 dX2_spliced_147 ?_
                refine s_calli (rest := [.ref (h 0)]) F (c_X2_wayOf (p1) (p3) (p4) (((S2).ia 2 (((S2).ia 5 (p0).toNatClampNeg)).toNatClampNeg)) (((S2).ia 2 (((S2).ia 5 (p2).toNatClampNeg)).toNatClampNeg)) _ hw) (va_cwS 5 hts gX2_spliced_X2_wayOf rfl rfl rfl (by decide +kernel) ⟨Nat.le_of_ble_eq_true rfl, Nat.le_of_ble_eq_true rfl⟩) rfl hl.1 rfl (Nat.le_of_ble_eq_true rfl) dX2_spliced_148 ⟨Nat.zero_le _, Nat.zero_le _⟩ (fun r22 hw => ?_)
                refine m_put F hin I 19 (by decide) (hts (.fieldLink RX2 51 "CuttingTableModel" "way" "I") (by decide +kernel)) dX2_spliced_151 (fun H locs I => ?_)
                refine lv_aload_n hx hb dX2_spliced_154 rfl (lv_at hl 2 rfl) ?_
                refine m_get F hin I 19 (by decide) (v := .int ((((S2.si 19 (r22))).fi 19))) rfl (hts (.fieldLink RX2 51 "CuttingTableModel" "way" "I") (by decide +kernel)) dX2_spliced_155 ?_
                refine lv_if_le (tgt := 163) hx hb dX2_spliced_158 (by decide) (fun c_23 => ?_) (fun c_23 => ?_)
                · have hw := hw.1 c_23
                  refine lv_iconst (v := (0 : Int32)) hx hb dX2_spliced_163 (by decide) ?_
                  refine lv_istore (lv' := [(11, .int ((0 : Int32))), (10, .int (((S2).ia 5 (p2).toNatClampNeg))), (9, .int (((S2).ia 5 (p0).toNatClampNeg))), (0, .ref (h 0)), (1, .int (p0)), (2, .long (p1)), (4, .int (p2)), (5, .long (p3)), (7, .long (p4))]) hx hb dX2_spliced_164 hl (by decide) rfl (fun ls hl => ?_)
                  obtain ⟨n166, hw⟩ := hw
                  exact lp_X2_spliced_166 F hin hr hlk n166 (p0) (p1) (p2) (p3) (p4) (((S2).ia 5 (p0).toNatClampNeg)) (((S2).ia 5 (p2).toNatClampNeg)) ((0 : Int32)) (S2.si 19 (r22)) _ _ I ls (lv_sub hl [3, 4, 5, 6, 7, 8, 2, 1, 0] rfl) hw
                · have hw := hw.2 c_23
                  refine lv_iconst (v := (4 : Int32)) hx hb dX2_spliced_161 (by decide) ?_
                  exact m_reti F hr hlk I dX2_spliced_162 hw
              · have hw := hw.2 c_19
                refine lv_aload_n hx hb dX2_spliced_100 rfl (lv_at hl 2 rfl) ?_
                refine m_get F hin I 0 (by decide) (v := .ref (h 1)) rfl (hts (.fieldLink RX2 7 "CuttingTableModel" "stocks" "[I") (by decide +kernel)) dX2_spliced_101 ?_
                refine lv_iload hx hb dX2_spliced_104 (lv_at hl 1 rfl) ?_
                obtain ⟨hi42, hw⟩ := hw
                refine m_iald F I 1 513 (by decide) hi42 dX2_spliced_106 ?_
                refine s_calli (rest := []) F (c_X2_isOfNumbers (((S2).ia 1 (((S2).ia 5 (p0).toNatClampNeg)).toNatClampNeg)) _ hw) (va_cwS 1 hts gX2_spliced_X2_isOfNumbers rfl rfl rfl (by decide +kernel) ⟨Nat.le_of_ble_eq_true rfl, Nat.le_of_ble_eq_true rfl⟩) rfl hl.1 rfl (Nat.le_of_ble_eq_true rfl) dX2_spliced_107 ⟨Nat.zero_le _, Nat.zero_le _⟩ (fun r43 hw => ?_)
                refine lv_if_ne (tgt := 126) hx hb dX2_spliced_110 (by decide) (fun c_44 => ?_) (fun c_44 => ?_)
                · have hw := hw.1 c_44
                  refine lv_iconst (v := (3 : Int32)) hx hb dX2_spliced_126 (by decide) ?_
                  exact m_reti F hr hlk I dX2_spliced_127 hw
                · have hw := hw.2 c_44
                  refine lv_aload_n hx hb dX2_spliced_113 rfl (lv_at hl 2 rfl) ?_
                  refine m_get F hin I 0 (by decide) (v := .ref (h 1)) rfl (hts (.fieldLink RX2 7 "CuttingTableModel" "stocks" "[I") (by decide +kernel)) dX2_spliced_114 ?_
                  refine lv_iload hx hb dX2_spliced_117 (lv_at hl 0 rfl) ?_
                  obtain ⟨hi45, hw⟩ := hw
                  refine m_iald F I 1 513 (by decide) hi45 dX2_spliced_119 ?_
                  refine s_calli (rest := []) F (c_X2_isOfNumbers (((S2).ia 1 (((S2).ia 5 (p2).toNatClampNeg)).toNatClampNeg)) _ hw) (va_cwS 1 hts gX2_spliced_X2_isOfNumbers rfl rfl rfl (by decide +kernel) ⟨Nat.le_of_ble_eq_true rfl, Nat.le_of_ble_eq_true rfl⟩) rfl hl.1 rfl (Nat.le_of_ble_eq_true rfl) dX2_spliced_120 ⟨Nat.zero_le _, Nat.zero_le _⟩ (fun r46 hw => ?_)
                  refine lv_if_eq (tgt := 128) hx hb dX2_spliced_123 (by decide) (fun c_47 => ?_) (fun c_47 => ?_)
                  · have hw := hw.1 c_47
                    refine lv_aload_n hx hb dX2_spliced_128 rfl (lv_at hl 2 rfl) ?_
                    refine lv_lload_n hx hb dX2_spliced_129 rfl (lv_at hl 4 rfl) ?_
                    refine lv_lload hx hb dX2_spliced_130 (lv_at hl 6 rfl) ?_
                    refine lv_lload hx hb dX2_spliced_132 (lv_at hl 7 rfl) ?_
                    refine lv_aload_n hx hb dX2_spliced_134 rfl (lv_at hl 2 rfl) ?_
                    refine m_get F hin I 1 (by decide) (v := .ref (h 2)) rfl (hts (.fieldLink RX2 13 "CuttingTableModel" "sizes" "[I") (by decide +kernel)) dX2_spliced_135 ?_
                    refine lv_iload hx hb dX2_spliced_138 (lv_at hl 1 rfl) ?_
                    obtain ⟨hi48, hw⟩ := hw
                    refine m_iald F I 2 513 (by decide) hi48 dX2_spliced_140 ?_
                    refine lv_aload_n hx hb dX2_spliced_141 rfl (lv_at hl 2 rfl) ?_
                    refine m_get F hin I 1 (by decide) (v := .ref (h 2)) rfl (hts (.fieldLink RX2 13 "CuttingTableModel" "sizes" "[I") (by decide +kernel)) dX2_spliced_142 ?_
                    refine lv_iload hx hb dX2_spliced_145 (lv_at hl 0 rfl) ?_
                    obtain ⟨hi49, hw⟩ := hw
                    refine m_iald F I 2 513 (by decide) hi49 dX2_spliced_147 ?_
                    refine s_calli (rest := [.ref (h 0)]) F (c_X2_wayOf (p1) (p3) (p4) (((S2).ia 2 (((S2).ia 5 (p0).toNatClampNeg)).toNatClampNeg)) (((S2).ia 2 (((S2).ia 5 (p2).toNatClampNeg)).toNatClampNeg)) _ hw) (va_cwS 5 hts gX2_spliced_X2_wayOf rfl rfl rfl (by decide +kernel) ⟨Nat.le_of_ble_eq_true rfl, Nat.le_of_ble_eq_true rfl⟩) rfl hl.1 rfl (Nat.le_of_ble_eq_true rfl) dX2_spliced_148 ⟨Nat.zero_le _, Nat.zero_le _⟩ (fun r50 hw => ?_)
                    refine m_put F hin I 19 (by decide) (hts (.fieldLink RX2 51 "CuttingTableModel" "way" "I") (by decide +kernel)) dX2_spliced_151 (fun H locs I => ?_)
                    refine lv_aload_n hx hb dX2_spliced_154 rfl (lv_at hl 2 rfl) ?_
                    refine m_get F hin I 19 (by decide) (v := .int ((((S2.si 19 (r50))).fi 19))) rfl (hts (.fieldLink RX2 51 "CuttingTableModel" "way" "I") (by decide +kernel)) dX2_spliced_155 ?_
                    refine lv_if_le (tgt := 163) hx hb dX2_spliced_158 (by decide) (fun c_51 => ?_) (fun c_51 => ?_)
                    · have hw := hw.1 c_51
                      refine lv_iconst (v := (0 : Int32)) hx hb dX2_spliced_163 (by decide) ?_
                      refine lv_istore (lv' := [(11, .int ((0 : Int32))), (10, .int (((S2).ia 5 (p2).toNatClampNeg))), (9, .int (((S2).ia 5 (p0).toNatClampNeg))), (0, .ref (h 0)), (1, .int (p0)), (2, .long (p1)), (4, .int (p2)), (5, .long (p3)), (7, .long (p4))]) hx hb dX2_spliced_164 hl (by decide) rfl (fun ls hl => ?_)
                      obtain ⟨n166, hw⟩ := hw
                      exact lp_X2_spliced_166 F hin hr hlk n166 (p0) (p1) (p2) (p3) (p4) (((S2).ia 5 (p0).toNatClampNeg)) (((S2).ia 5 (p2).toNatClampNeg)) ((0 : Int32)) (S2.si 19 (r50)) _ _ I ls (lv_sub hl [3, 4, 5, 6, 7, 8, 2, 1, 0] rfl) hw
                    · have hw := hw.2 c_51
                      refine lv_iconst (v := (4 : Int32)) hx hb dX2_spliced_161 (by decide) ?_
                      exact m_reti F hr hlk I dX2_spliced_162 hw
                  · have hw := hw.2 c_47
                    refine lv_iconst (v := (3 : Int32)) hx hb dX2_spliced_126 (by decide) ?_
                    exact m_reti F hr hlk I dX2_spliced_127 hw
            · have hw := hw.2 c_14
              refine lv_iconst (v := (2 : Int32)) hx hb dX2_spliced_64 (by decide) ?_
              exact m_reti F hr hlk I dX2_spliced_65 hw
        · have hw := hw.2 c_10
          refine lv_iconst (v := (1 : Int32)) hx hb dX2_spliced_41 (by decide) ?_
          exact m_reti F hr hlk I dX2_spliced_42 hw
    · have hw := hw.2 c_6
      refine lv_bipush (v := (6 : Int32)) hx hb dX2_spliced_19 (by decide) ?_
      exact m_reti F hr hlk I dX2_spliced_21 hw
abbrev rm_X2_splice : Room := { frames := 3, cells := 0, slots := 0, locals := 75 }
def wp_X2_splice (p0 : Int32) (p1 : Int32) (p2 : Int32) (p3 : Int32) (p4 : Int32) (S : mS) (K : Int32 → mS → Prop) : Prop := wp_X2_spliced (p0) ((p1).toInt64) (p2) ((p3).toInt64) ((p4).toInt64) (S.si 23 (0 : Int32)) (fun r1 S2 => wp_X2_told (r1) S2 (fun r3 S4 => ((r3 ≤ 0 → K (p4) S4) ∧ (¬ r3 ≤ 0 → K ((-r3)) S4))))
set_option maxHeartbeats 4000000 in
set_option maxRecDepth 100000 in
theorem c_X2_splice {l : Launch} {D : va_G} {cI cJ : ClassId} {h : Nat → Nat} (p0 : Int32) (p1 : Int32) (p2 : Int32) (p3 : Int32) (p4 : Int32) (S : mS) (K : Int32 → mS → Prop) (hw : wp_X2_splice p0 p1 p2 p3 p4 S K) : mMi l D cI cJ h yX2_splice wsX2_splice rm_X2_splice [.ref (h 0), .int (p0), .int (p1), .int (p2), .int (p3), .int (p4)] K S := by
  refine m_starti (rt := some .int) (by decide) rfl rfl (Nat.le_of_ble_eq_true rfl) ?_
  intro p e s m below meth c A ls F hr hlk I hl
  have hin : ∀ w ∈ u_ws RX2 TX2 24, w ∈ wsX2_splice := by decide +kernel
  obtain ⟨hx, hb, hml, hown, hts⟩ := id F
  have hl : lv_has ls 7 [(0, .ref (h 0)), (1, .int (p0)), (2, .int (p1)), (3, .int (p2)), (4, .int (p3)), (5, .int (p4))] := hl
  unfold wp_X2_splice at hw
  refine lv_aload_n hx hb dX2_splice_0 rfl (lv_at hl 0 rfl) ?_
  refine lv_iconst (v := (0 : Int32)) hx hb dX2_splice_1 (by decide) ?_
  refine m_put F hin I 23 (by decide) (hts (.fieldLink RX2 44 "CuttingTableModel" "thrown" "I") (by decide +kernel)) dX2_splice_2 (fun H locs I => ?_)
  refine lv_aload_n hx hb dX2_splice_5 rfl (lv_at hl 0 rfl) ?_
  refine lv_aload_n hx hb dX2_splice_6 rfl (lv_at hl 0 rfl) ?_
  refine lv_iload_n hx hb dX2_splice_7 rfl (lv_at hl 1 rfl) ?_
  refine lv_iload_n hx hb dX2_splice_8 rfl (lv_at hl 2 rfl) ?_
  refine lv_i2l hx hb dX2_splice_9 rfl ?_
  refine lv_iload_n hx hb dX2_splice_10 rfl (lv_at hl 3 rfl) ?_
  refine lv_iload hx hb dX2_splice_11 (lv_at hl 4 rfl) ?_
  refine lv_i2l hx hb dX2_splice_13 rfl ?_
  refine lv_iload hx hb dX2_splice_14 (lv_at hl 5 rfl) ?_
  refine lv_i2l hx hb dX2_splice_16 rfl ?_
  refine m_calli (rest := [.ref (h 0)]) F I (c_X2_spliced (p0) ((p1).toInt64) (p2) ((p3).toInt64) ((p4).toInt64) _ _ hw) (cwV 5 hts gX2_splice_X2_spliced rfl rfl rfl (by decide +kernel) ⟨Nat.le_of_ble_eq_true rfl, Nat.le_of_ble_eq_true rfl⟩) rfl hl.1 rfl (Nat.le_of_ble_eq_true rfl) dX2_splice_17 ⟨Nat.zero_le _, Nat.zero_le _⟩ (fun r1 S2 H locs hw I => ?_)
  refine m_calli (rest := []) F I (c_X2_told (r1) _ _ hw) (cwV 1 hts gX2_splice_X2_told rfl rfl rfl (by decide +kernel) ⟨Nat.le_of_ble_eq_true rfl, Nat.le_of_ble_eq_true rfl⟩) rfl hl.1 rfl (Nat.le_of_ble_eq_true rfl) dX2_splice_20 ⟨Nat.zero_le _, Nat.zero_le _⟩ (fun r3 S4 H locs hw I => ?_)
  refine lv_istore (lv' := [(6, .int (r3)), (0, .ref (h 0)), (1, .int (p0)), (2, .int (p1)), (3, .int (p2)), (4, .int (p3)), (5, .int (p4))]) hx hb dX2_splice_23 hl (by decide) rfl (fun ls hl => ?_)
  refine lv_iload hx hb dX2_splice_25 (lv_at hl 0 rfl) ?_
  refine lv_if_le (tgt := 36) hx hb dX2_splice_27 (by decide) (fun c_5 => ?_) (fun c_5 => ?_)
  · have hw := hw.1 c_5
    refine lv_iload hx hb dX2_splice_36 (lv_at hl 6 rfl) ?_
    exact m_reti F hr hlk I dX2_splice_38 hw
  · have hw := hw.2 c_5
    refine lv_iload hx hb dX2_splice_30 (lv_at hl 0 rfl) ?_
    refine lv_ineg hx hb dX2_splice_32 ?_
    refine lv_goto (tgt := 38) hx hb dX2_splice_33 (by decide) ?_
    exact m_reti F hr hlk I dX2_splice_38 hw
abbrev rm_X2_loop : Room := { frames := 3, cells := 0, slots := 0, locals := 75 }
def wl_X2_loop_45 (K : Int32 → mS → Prop) : Nat → Int32 → Int32 → Int32 → Int32 → Int32 → Int32 → Int32 → mS → Prop
  | 0, _, _, _, _, _, _, _, _ => False
  | n + 1, v1, v2, v3, v4, v5, v6, v7, S => ((v4 < v7 → wp_X2_told (v6) S (fun r12 S13 => K (v5) S13)) ∧ (¬ v4 < v7 → ((¬ v6 = 0 → wp_X2_told (v6) S (fun r15 S16 => K (v5) S16)) ∧ (v6 = 0 → wp_X2_spliced (v1) ((v2).toInt64) (v1) (((v2).toInt64 + ((v7).toInt64 * (v3).toInt64))) ((v3).toInt64) S (fun r17 S18 => ((¬ r17 = 0 → wl_X2_loop_45 K n (v1) (v2) (v3) (v4) ((v5 + (0 : Int32))) (r17) ((v7 + (1 : Int32))) S18) ∧ (r17 = 0 → wl_X2_loop_45 K n (v1) (v2) (v3) (v4) ((v5 + (1 : Int32))) (r17) ((v7 + (1 : Int32))) S18)))))))
def wp_X2_loop (p0 : Int32) (p1 : Int32) (p2 : Int32) (p3 : Int32) (S : mS) (K : Int32 → mS → Prop) : Prop := wp_X2_begin  (S.si 23 (0 : Int32)) (fun S2 => wp_X2_isSpindle (p0) (fun r3 => ((r3 = 0 → wp_X2_told ((6 : Int32)) S2 (fun r5 S6 => K ((-r5)) S6)) ∧ (¬ r3 = 0 → ((p3 < 0 → wp_X2_told ((6 : Int32)) S2 (fun r8 S9 => K ((-r8)) S9)) ∧ (¬ p3 < 0 → ((p3 ≤ (20 : Int32) → (∃ n45 : Nat, wl_X2_loop_45 K n45 (p0) (p1) (p2) (p3) ((0 : Int32)) ((0 : Int32)) ((1 : Int32)) S2)) ∧ (¬ p3 ≤ (20 : Int32) → wp_X2_told ((6 : Int32)) S2 (fun r20 S21 => K ((-r20)) S21)))))))))
set_option maxHeartbeats 4000000 in
set_option maxRecDepth 100000 in
theorem lp_X2_loop_45 {p : Program} {l : Launch} {e : Env} {s : State} {m : MethodId} {args : Array Value} {below : List Frame} {meth : Method} {c : Code} {D : va_G} {cI cJ : ClassId} {h : Nat → Nat} {A : Nat → Prop} {K : Int32 → mS → Prop} (F : CallFix p m c cX2_loop 8 s args wsX2_loop RX2) (hin : ∀ w ∈ u_ws RX2 TX2 24, w ∈ wsX2_loop) (hr : meth.sig.returnType = some .int) (hlk : meth.locks = false) :
    ∀ (n : Nat) (v1 : Int32) (v2 : Int32) (v3 : Int32) (v4 : Int32) (v5 : Int32) (v6 : Int32) (v7 : Int32) (S : mS) (H : Heap) (locs : List Loc), mI D cI cJ h A s s.heap H locs S → ∀ (ls : Array Slot), lv_has ls 8 [(0, .ref (h 0)), (1, .int (v1)), (2, .int (v2)), (3, .int (v3)), (4, .int (v4)), (5, .int (v5)), (6, .int (v6)), (7, .int (v7))] → wl_X2_loop_45 K n v1 v2 v3 v4 v5 v6 v7 S → W p l e rm_X2_loop s m args below meth c H locs 0 0 (MQ below (va_Qi K (mB D cI cJ h A) A) args s 0 0 A) (F0 m 45 ls []) := by
  obtain ⟨hx, hb, hml, hown, hts⟩ := id F
  intro n
  induction n with
  | zero => intro v1 v2 v3 v4 v5 v6 v7 S H locs I ls hl hw; exact hw.elim
  | succ n ih =>
    intro v1 v2 v3 v4 v5 v6 v7 S H locs I ls hl hw
    rw [wl_X2_loop_45] at hw
    refine lv_iload hx hb dX2_loop_45 (lv_at hl 7 rfl) ?_
    refine lv_iload hx hb dX2_loop_47 (lv_at hl 4 rfl) ?_
    refine lv_icmp_gt (tgt := 99) hx hb dX2_loop_49 (by decide) (fun c_11 => ?_) (fun c_11 => ?_)
    · have hw := hw.1 c_11
      refine lv_aload_n hx hb dX2_loop_99 rfl (lv_at hl 0 rfl) ?_
      refine lv_iload hx hb dX2_loop_100 (lv_at hl 6 rfl) ?_
      refine m_calli (rest := []) F I (c_X2_told (v6) _ _ hw) (cwV 1 hts gX2_loop_X2_told rfl rfl rfl (by decide +kernel) ⟨Nat.le_of_ble_eq_true rfl, Nat.le_of_ble_eq_true rfl⟩) rfl hl.1 rfl (Nat.le_of_ble_eq_true rfl) dX2_loop_102 ⟨Nat.zero_le _, Nat.zero_le _⟩ (fun r12 S13 H locs hw I => ?_)
      refine lv_pop hx hb dX2_loop_105 rfl ?_
      refine lv_iload hx hb dX2_loop_106 (lv_at hl 5 rfl) ?_
      exact m_reti F hr hlk I dX2_loop_108 hw
    · have hw := hw.2 c_11
      refine lv_iload hx hb dX2_loop_52 (lv_at hl 6 rfl) ?_
      refine lv_if_ne (tgt := 99) hx hb dX2_loop_54 (by decide) (fun c_14 => ?_) (fun c_14 => ?_)
      · have hw := hw.1 c_14
        refine lv_aload_n hx hb dX2_loop_99 rfl (lv_at hl 0 rfl) ?_
        refine lv_iload hx hb dX2_loop_100 (lv_at hl 6 rfl) ?_
        refine m_calli (rest := []) F I (c_X2_told (v6) _ _ hw) (cwV 1 hts gX2_loop_X2_told rfl rfl rfl (by decide +kernel) ⟨Nat.le_of_ble_eq_true rfl, Nat.le_of_ble_eq_true rfl⟩) rfl hl.1 rfl (Nat.le_of_ble_eq_true rfl) dX2_loop_102 ⟨Nat.zero_le _, Nat.zero_le _⟩ (fun r15 S16 H locs hw I => ?_)
        refine lv_pop hx hb dX2_loop_105 rfl ?_
        refine lv_iload hx hb dX2_loop_106 (lv_at hl 5 rfl) ?_
        exact m_reti F hr hlk I dX2_loop_108 hw
      · have hw := hw.2 c_14
        refine lv_aload_n hx hb dX2_loop_57 rfl (lv_at hl 0 rfl) ?_
        refine lv_iload_n hx hb dX2_loop_58 rfl (lv_at hl 1 rfl) ?_
        refine lv_iload_n hx hb dX2_loop_59 rfl (lv_at hl 2 rfl) ?_
        refine lv_i2l hx hb dX2_loop_60 rfl ?_
        refine lv_iload_n hx hb dX2_loop_61 rfl (lv_at hl 1 rfl) ?_
        refine lv_iload_n hx hb dX2_loop_62 rfl (lv_at hl 2 rfl) ?_
        refine lv_i2l hx hb dX2_loop_63 rfl ?_
        refine lv_iload hx hb dX2_loop_64 (lv_at hl 7 rfl) ?_
        refine lv_i2l hx hb dX2_loop_66 rfl ?_
        refine lv_iload_n hx hb dX2_loop_67 rfl (lv_at hl 3 rfl) ?_
        refine lv_i2l hx hb dX2_loop_68 rfl ?_
        refine lv_lmul hx hb dX2_loop_69 ?_
        refine lv_ladd hx hb dX2_loop_70 ?_
        refine lv_iload_n hx hb dX2_loop_71 rfl (lv_at hl 3 rfl) ?_
        refine lv_i2l hx hb dX2_loop_72 rfl ?_
        refine m_calli (rest := []) F I (c_X2_spliced (v1) ((v2).toInt64) (v1) (((v2).toInt64 + ((v7).toInt64 * (v3).toInt64))) ((v3).toInt64) _ _ hw) (cwV 5 hts gX2_loop_X2_spliced rfl rfl rfl (by decide +kernel) ⟨Nat.le_of_ble_eq_true rfl, Nat.le_of_ble_eq_true rfl⟩) rfl hl.1 rfl (Nat.le_of_ble_eq_true rfl) dX2_loop_73 ⟨Nat.zero_le _, Nat.zero_le _⟩ (fun r17 S18 H locs hw I => ?_)
        refine lv_istore (lv' := [(6, .int (r17)), (0, .ref (h 0)), (1, .int (v1)), (2, .int (v2)), (3, .int (v3)), (4, .int (v4)), (5, .int (v5)), (7, .int (v7))]) hx hb dX2_loop_76 hl (by decide) rfl (fun ls hl => ?_)
        refine lv_iload hx hb dX2_loop_78 (lv_at hl 6 rfl) ?_
        refine lv_iload hx hb dX2_loop_80 (lv_at hl 0 rfl) ?_
        refine lv_if_ne (tgt := 89) hx hb dX2_loop_82 (by decide) (fun c_19 => ?_) (fun c_19 => ?_)
        · have hw := hw.1 c_19
          refine lv_iconst (v := (0 : Int32)) hx hb dX2_loop_89 (by decide) ?_
          refine lv_iadd hx hb dX2_loop_90 ?_
          refine lv_istore (lv' := [(5, .int ((v5 + (0 : Int32)))), (6, .int (r17)), (0, .ref (h 0)), (1, .int (v1)), (2, .int (v2)), (3, .int (v3)), (4, .int (v4)), (7, .int (v7))]) hx hb dX2_loop_91 hl (by decide) rfl (fun ls hl => ?_)
          refine lv_iinc (v := (v7 + (1 : Int32))) (lv' := [(7, .int ((v7 + (1 : Int32)))), (5, .int ((v5 + (0 : Int32)))), (6, .int (r17)), (0, .ref (h 0)), (1, .int (v1)), (2, .int (v2)), (3, .int (v3)), (4, .int (v4))]) hx hb dX2_loop_93 hl (k := 7) rfl rfl (by decide) rfl (fun ls hl => ?_)
          refine lv_goto (tgt := 45) hx hb dX2_loop_96 (by decide) ?_
          exact ih (v1) (v2) (v3) (v4) ((v5 + (0 : Int32))) (r17) ((v7 + (1 : Int32))) S18 _ _ I ls (lv_sub hl [3, 4, 5, 6, 7, 1, 2, 0] rfl) hw
        · have hw := hw.2 c_19
          refine lv_iconst (v := (1 : Int32)) hx hb dX2_loop_85 (by decide) ?_
          refine lv_goto (tgt := 90) hx hb dX2_loop_86 (by decide) ?_
          refine lv_iadd hx hb dX2_loop_90 ?_
          refine lv_istore (lv' := [(5, .int ((v5 + (1 : Int32)))), (6, .int (r17)), (0, .ref (h 0)), (1, .int (v1)), (2, .int (v2)), (3, .int (v3)), (4, .int (v4)), (7, .int (v7))]) hx hb dX2_loop_91 hl (by decide) rfl (fun ls hl => ?_)
          refine lv_iinc (v := (v7 + (1 : Int32))) (lv' := [(7, .int ((v7 + (1 : Int32)))), (5, .int ((v5 + (1 : Int32)))), (6, .int (r17)), (0, .ref (h 0)), (1, .int (v1)), (2, .int (v2)), (3, .int (v3)), (4, .int (v4))]) hx hb dX2_loop_93 hl (k := 7) rfl rfl (by decide) rfl (fun ls hl => ?_)
          refine lv_goto (tgt := 45) hx hb dX2_loop_96 (by decide) ?_
          exact ih (v1) (v2) (v3) (v4) ((v5 + (1 : Int32))) (r17) ((v7 + (1 : Int32))) S18 _ _ I ls (lv_sub hl [3, 4, 5, 6, 7, 1, 2, 0] rfl) hw
set_option maxHeartbeats 4000000 in
set_option maxRecDepth 100000 in
theorem c_X2_loop {l : Launch} {D : va_G} {cI cJ : ClassId} {h : Nat → Nat} (p0 : Int32) (p1 : Int32) (p2 : Int32) (p3 : Int32) (S : mS) (K : Int32 → mS → Prop) (hw : wp_X2_loop p0 p1 p2 p3 S K) : mMi l D cI cJ h yX2_loop wsX2_loop rm_X2_loop [.ref (h 0), .int (p0), .int (p1), .int (p2), .int (p3)] K S := by
  refine m_starti (rt := some .int) (by decide) rfl rfl (Nat.le_of_ble_eq_true rfl) ?_
  intro p e s m below meth c A ls F hr hlk I hl
  have hin : ∀ w ∈ u_ws RX2 TX2 24, w ∈ wsX2_loop := by decide +kernel
  obtain ⟨hx, hb, hml, hown, hts⟩ := id F
  have hl : lv_has ls 8 [(0, .ref (h 0)), (1, .int (p0)), (2, .int (p1)), (3, .int (p2)), (4, .int (p3))] := hl
  unfold wp_X2_loop at hw
  refine lv_aload_n hx hb dX2_loop_0 rfl (lv_at hl 0 rfl) ?_
  refine lv_iconst (v := (0 : Int32)) hx hb dX2_loop_1 (by decide) ?_
  refine m_put F hin I 23 (by decide) (hts (.fieldLink RX2 44 "CuttingTableModel" "thrown" "I") (by decide +kernel)) dX2_loop_2 (fun H locs I => ?_)
  refine lv_aload_n hx hb dX2_loop_5 rfl (lv_at hl 0 rfl) ?_
  refine m_callv (rest := []) F I (c_X2_begin  _ _ hw) (cwV 0 hts gX2_loop_X2_begin rfl rfl rfl (by decide +kernel) ⟨Nat.le_of_ble_eq_true rfl, Nat.le_of_ble_eq_true rfl⟩) rfl hl.1 rfl (Nat.le_of_ble_eq_true rfl) dX2_loop_6 ⟨Nat.zero_le _, Nat.zero_le _⟩ (fun S2 H locs hw I => ?_)
  refine lv_iload_n hx hb dX2_loop_9 rfl (lv_at hl 1 rfl) ?_
  refine s_calli (rest := []) F (c_X2_isSpindle (p0) _ hw) (va_cwS 1 hts gX2_loop_X2_isSpindle rfl rfl rfl (by decide +kernel) ⟨Nat.le_of_ble_eq_true rfl, Nat.le_of_ble_eq_true rfl⟩) rfl hl.1 rfl (Nat.le_of_ble_eq_true rfl) dX2_loop_10 ⟨Nat.zero_le _, Nat.zero_le _⟩ (fun r3 hw => ?_)
  refine lv_if_eq (tgt := 28) hx hb dX2_loop_13 (by decide) (fun c_4 => ?_) (fun c_4 => ?_)
  · have hw := hw.1 c_4
    refine lv_aload_n hx hb dX2_loop_28 rfl (lv_at hl 0 rfl) ?_
    refine lv_bipush (v := (6 : Int32)) hx hb dX2_loop_29 (by decide) ?_
    refine m_calli (rest := []) F I (c_X2_told ((6 : Int32)) _ _ hw) (cwV 1 hts gX2_loop_X2_told rfl rfl rfl (by decide +kernel) ⟨Nat.le_of_ble_eq_true rfl, Nat.le_of_ble_eq_true rfl⟩) rfl hl.1 rfl (Nat.le_of_ble_eq_true rfl) dX2_loop_31 ⟨Nat.zero_le _, Nat.zero_le _⟩ (fun r5 S6 H locs hw I => ?_)
    refine lv_ineg hx hb dX2_loop_34 ?_
    exact m_reti F hr hlk I dX2_loop_35 hw
  · have hw := hw.2 c_4
    refine lv_iload hx hb dX2_loop_16 (lv_at hl 4 rfl) ?_
    refine lv_if_lt (tgt := 28) hx hb dX2_loop_18 (by decide) (fun c_7 => ?_) (fun c_7 => ?_)
    · have hw := hw.1 c_7
      refine lv_aload_n hx hb dX2_loop_28 rfl (lv_at hl 0 rfl) ?_
      refine lv_bipush (v := (6 : Int32)) hx hb dX2_loop_29 (by decide) ?_
      refine m_calli (rest := []) F I (c_X2_told ((6 : Int32)) _ _ hw) (cwV 1 hts gX2_loop_X2_told rfl rfl rfl (by decide +kernel) ⟨Nat.le_of_ble_eq_true rfl, Nat.le_of_ble_eq_true rfl⟩) rfl hl.1 rfl (Nat.le_of_ble_eq_true rfl) dX2_loop_31 ⟨Nat.zero_le _, Nat.zero_le _⟩ (fun r8 S9 H locs hw I => ?_)
      refine lv_ineg hx hb dX2_loop_34 ?_
      exact m_reti F hr hlk I dX2_loop_35 hw
    · have hw := hw.2 c_7
      refine lv_iload hx hb dX2_loop_21 (lv_at hl 4 rfl) ?_
      refine lv_bipush (v := (20 : Int32)) hx hb dX2_loop_23 (by decide) ?_
      refine lv_icmp_le (tgt := 36) hx hb dX2_loop_25 (by decide) (fun c_10 => ?_) (fun c_10 => ?_)
      · have hw := hw.1 c_10
        refine lv_iconst (v := (0 : Int32)) hx hb dX2_loop_36 (by decide) ?_
        refine lv_istore (lv' := [(5, .int ((0 : Int32))), (0, .ref (h 0)), (1, .int (p0)), (2, .int (p1)), (3, .int (p2)), (4, .int (p3))]) hx hb dX2_loop_37 hl (by decide) rfl (fun ls hl => ?_)
        refine lv_iconst (v := (0 : Int32)) hx hb dX2_loop_39 (by decide) ?_
        refine lv_istore (lv' := [(6, .int ((0 : Int32))), (5, .int ((0 : Int32))), (0, .ref (h 0)), (1, .int (p0)), (2, .int (p1)), (3, .int (p2)), (4, .int (p3))]) hx hb dX2_loop_40 hl (by decide) rfl (fun ls hl => ?_)
        refine lv_iconst (v := (1 : Int32)) hx hb dX2_loop_42 (by decide) ?_
        refine lv_istore (lv' := [(7, .int ((1 : Int32))), (6, .int ((0 : Int32))), (5, .int ((0 : Int32))), (0, .ref (h 0)), (1, .int (p0)), (2, .int (p1)), (3, .int (p2)), (4, .int (p3))]) hx hb dX2_loop_43 hl (by decide) rfl (fun ls hl => ?_)
        obtain ⟨n45, hw⟩ := hw
        exact lp_X2_loop_45 F hin hr hlk n45 (p0) (p1) (p2) (p3) ((0 : Int32)) ((0 : Int32)) ((1 : Int32)) S2 _ _ I ls (lv_sub hl [3, 4, 5, 6, 7, 2, 1, 0] rfl) hw
      · have hw := hw.2 c_10
        refine lv_aload_n hx hb dX2_loop_28 rfl (lv_at hl 0 rfl) ?_
        refine lv_bipush (v := (6 : Int32)) hx hb dX2_loop_29 (by decide) ?_
        refine m_calli (rest := []) F I (c_X2_told ((6 : Int32)) _ _ hw) (cwV 1 hts gX2_loop_X2_told rfl rfl rfl (by decide +kernel) ⟨Nat.le_of_ble_eq_true rfl, Nat.le_of_ble_eq_true rfl⟩) rfl hl.1 rfl (Nat.le_of_ble_eq_true rfl) dX2_loop_31 ⟨Nat.zero_le _, Nat.zero_le _⟩ (fun r20 S21 H locs hw I => ?_)
        refine lv_ineg hx hb dX2_loop_34 ?_
        exact m_reti F hr hlk I dX2_loop_35 hw
abbrev rm_X2_note : Room := { frames := 0, cells := 0, slots := 0, locals := 0 }
def wp_X2_note (p0 : Int32) (p1 : Int32) (p2 : Int32) (p3 : Int32) (p4 : Int32) (S : mS) (K : Int32 → mS → Prop) : Prop := ((¬ (((S.si 23 (0 : Int32))).fi 12) = (16 : Int32) → (vp_in (((5 : Int32) * (((S.si 23 (0 : Int32))).fi 12))) 80 ∧ (vp_in ((((5 : Int32) * ((((S.si 23 (0 : Int32)).sa 9 (((5 : Int32) * (((S.si 23 (0 : Int32))).fi 12))).toNatClampNeg (p0))).fi 12)) + (1 : Int32))) 80 ∧ (vp_in ((((5 : Int32) * (((((S.si 23 (0 : Int32)).sa 9 (((5 : Int32) * (((S.si 23 (0 : Int32))).fi 12))).toNatClampNeg (p0)).sa 9 ((((5 : Int32) * ((((S.si 23 (0 : Int32)).sa 9 (((5 : Int32) * (((S.si 23 (0 : Int32))).fi 12))).toNatClampNeg (p0))).fi 12)) + (1 : Int32))).toNatClampNeg (p1))).fi 12)) + (2 : Int32))) 80 ∧ (vp_in ((((5 : Int32) * ((((((S.si 23 (0 : Int32)).sa 9 (((5 : Int32) * (((S.si 23 (0 : Int32))).fi 12))).toNatClampNeg (p0)).sa 9 ((((5 : Int32) * ((((S.si 23 (0 : Int32)).sa 9 (((5 : Int32) * (((S.si 23 (0 : Int32))).fi 12))).toNatClampNeg (p0))).fi 12)) + (1 : Int32))).toNatClampNeg (p1)).sa 9 ((((5 : Int32) * (((((S.si 23 (0 : Int32)).sa 9 (((5 : Int32) * (((S.si 23 (0 : Int32))).fi 12))).toNatClampNeg (p0)).sa 9 ((((5 : Int32) * ((((S.si 23 (0 : Int32)).sa 9 (((5 : Int32) * (((S.si 23 (0 : Int32))).fi 12))).toNatClampNeg (p0))).fi 12)) + (1 : Int32))).toNatClampNeg (p1))).fi 12)) + (2 : Int32))).toNatClampNeg (p2))).fi 12)) + (3 : Int32))) 80 ∧ (vp_in ((((5 : Int32) * (((((((S.si 23 (0 : Int32)).sa 9 (((5 : Int32) * (((S.si 23 (0 : Int32))).fi 12))).toNatClampNeg (p0)).sa 9 ((((5 : Int32) * ((((S.si 23 (0 : Int32)).sa 9 (((5 : Int32) * (((S.si 23 (0 : Int32))).fi 12))).toNatClampNeg (p0))).fi 12)) + (1 : Int32))).toNatClampNeg (p1)).sa 9 ((((5 : Int32) * (((((S.si 23 (0 : Int32)).sa 9 (((5 : Int32) * (((S.si 23 (0 : Int32))).fi 12))).toNatClampNeg (p0)).sa 9 ((((5 : Int32) * ((((S.si 23 (0 : Int32)).sa 9 (((5 : Int32) * (((S.si 23 (0 : Int32))).fi 12))).toNatClampNeg (p0))).fi 12)) + (1 : Int32))).toNatClampNeg (p1))).fi 12)) + (2 : Int32))).toNatClampNeg (p2)).sa 9 ((((5 : Int32) * ((((((S.si 23 (0 : Int32)).sa 9 (((5 : Int32) * (((S.si 23 (0 : Int32))).fi 12))).toNatClampNeg (p0)).sa 9 ((((5 : Int32) * ((((S.si 23 (0 : Int32)).sa 9 (((5 : Int32) * (((S.si 23 (0 : Int32))).fi 12))).toNatClampNeg (p0))).fi 12)) + (1 : Int32))).toNatClampNeg (p1)).sa 9 ((((5 : Int32) * (((((S.si 23 (0 : Int32)).sa 9 (((5 : Int32) * (((S.si 23 (0 : Int32))).fi 12))).toNatClampNeg (p0)).sa 9 ((((5 : Int32) * ((((S.si 23 (0 : Int32)).sa 9 (((5 : Int32) * (((S.si 23 (0 : Int32))).fi 12))).toNatClampNeg (p0))).fi 12)) + (1 : Int32))).toNatClampNeg (p1))).fi 12)) + (2 : Int32))).toNatClampNeg (p2))).fi 12)) + (3 : Int32))).toNatClampNeg (p3))).fi 12)) + (4 : Int32))) 80 ∧ K ((((((((((S.si 23 (0 : Int32)).sa 9 (((5 : Int32) * (((S.si 23 (0 : Int32))).fi 12))).toNatClampNeg (p0)).sa 9 ((((5 : Int32) * ((((S.si 23 (0 : Int32)).sa 9 (((5 : Int32) * (((S.si 23 (0 : Int32))).fi 12))).toNatClampNeg (p0))).fi 12)) + (1 : Int32))).toNatClampNeg (p1)).sa 9 ((((5 : Int32) * (((((S.si 23 (0 : Int32)).sa 9 (((5 : Int32) * (((S.si 23 (0 : Int32))).fi 12))).toNatClampNeg (p0)).sa 9 ((((5 : Int32) * ((((S.si 23 (0 : Int32)).sa 9 (((5 : Int32) * (((S.si 23 (0 : Int32))).fi 12))).toNatClampNeg (p0))).fi 12)) + (1 : Int32))).toNatClampNeg (p1))).fi 12)) + (2 : Int32))).toNatClampNeg (p2)).sa 9 ((((5 : Int32) * ((((((S.si 23 (0 : Int32)).sa 9 (((5 : Int32) * (((S.si 23 (0 : Int32))).fi 12))).toNatClampNeg (p0)).sa 9 ((((5 : Int32) * ((((S.si 23 (0 : Int32)).sa 9 (((5 : Int32) * (((S.si 23 (0 : Int32))).fi 12))).toNatClampNeg (p0))).fi 12)) + (1 : Int32))).toNatClampNeg (p1)).sa 9 ((((5 : Int32) * (((((S.si 23 (0 : Int32)).sa 9 (((5 : Int32) * (((S.si 23 (0 : Int32))).fi 12))).toNatClampNeg (p0)).sa 9 ((((5 : Int32) * ((((S.si 23 (0 : Int32)).sa 9 (((5 : Int32) * (((S.si 23 (0 : Int32))).fi 12))).toNatClampNeg (p0))).fi 12)) + (1 : Int32))).toNatClampNeg (p1))).fi 12)) + (2 : Int32))).toNatClampNeg (p2))).fi 12)) + (3 : Int32))).toNatClampNeg (p3)).sa 9 ((((5 : Int32) * (((((((S.si 23 (0 : Int32)).sa 9 (((5 : Int32) * (((S.si 23 (0 : Int32))).fi 12))).toNatClampNeg (p0)).sa 9 ((((5 : Int32) * ((((S.si 23 (0 : Int32)).sa 9 (((5 : Int32) * (((S.si 23 (0 : Int32))).fi 12))).toNatClampNeg (p0))).fi 12)) + (1 : Int32))).toNatClampNeg (p1)).sa 9 ((((5 : Int32) * (((((S.si 23 (0 : Int32)).sa 9 (((5 : Int32) * (((S.si 23 (0 : Int32))).fi 12))).toNatClampNeg (p0)).sa 9 ((((5 : Int32) * ((((S.si 23 (0 : Int32)).sa 9 (((5 : Int32) * (((S.si 23 (0 : Int32))).fi 12))).toNatClampNeg (p0))).fi 12)) + (1 : Int32))).toNatClampNeg (p1))).fi 12)) + (2 : Int32))).toNatClampNeg (p2)).sa 9 ((((5 : Int32) * ((((((S.si 23 (0 : Int32)).sa 9 (((5 : Int32) * (((S.si 23 (0 : Int32))).fi 12))).toNatClampNeg (p0)).sa 9 ((((5 : Int32) * ((((S.si 23 (0 : Int32)).sa 9 (((5 : Int32) * (((S.si 23 (0 : Int32))).fi 12))).toNatClampNeg (p0))).fi 12)) + (1 : Int32))).toNatClampNeg (p1)).sa 9 ((((5 : Int32) * (((((S.si 23 (0 : Int32)).sa 9 (((5 : Int32) * (((S.si 23 (0 : Int32))).fi 12))).toNatClampNeg (p0)).sa 9 ((((5 : Int32) * ((((S.si 23 (0 : Int32)).sa 9 (((5 : Int32) * (((S.si 23 (0 : Int32))).fi 12))).toNatClampNeg (p0))).fi 12)) + (1 : Int32))).toNatClampNeg (p1))).fi 12)) + (2 : Int32))).toNatClampNeg (p2))).fi 12)) + (3 : Int32))).toNatClampNeg (p3))).fi 12)) + (4 : Int32))).toNatClampNeg (p4)).si 12 ((((((((((S.si 23 (0 : Int32)).sa 9 (((5 : Int32) * (((S.si 23 (0 : Int32))).fi 12))).toNatClampNeg (p0)).sa 9 ((((5 : Int32) * ((((S.si 23 (0 : Int32)).sa 9 (((5 : Int32) * (((S.si 23 (0 : Int32))).fi 12))).toNatClampNeg (p0))).fi 12)) + (1 : Int32))).toNatClampNeg (p1)).sa 9 ((((5 : Int32) * (((((S.si 23 (0 : Int32)).sa 9 (((5 : Int32) * (((S.si 23 (0 : Int32))).fi 12))).toNatClampNeg (p0)).sa 9 ((((5 : Int32) * ((((S.si 23 (0 : Int32)).sa 9 (((5 : Int32) * (((S.si 23 (0 : Int32))).fi 12))).toNatClampNeg (p0))).fi 12)) + (1 : Int32))).toNatClampNeg (p1))).fi 12)) + (2 : Int32))).toNatClampNeg (p2)).sa 9 ((((5 : Int32) * ((((((S.si 23 (0 : Int32)).sa 9 (((5 : Int32) * (((S.si 23 (0 : Int32))).fi 12))).toNatClampNeg (p0)).sa 9 ((((5 : Int32) * ((((S.si 23 (0 : Int32)).sa 9 (((5 : Int32) * (((S.si 23 (0 : Int32))).fi 12))).toNatClampNeg (p0))).fi 12)) + (1 : Int32))).toNatClampNeg (p1)).sa 9 ((((5 : Int32) * (((((S.si 23 (0 : Int32)).sa 9 (((5 : Int32) * (((S.si 23 (0 : Int32))).fi 12))).toNatClampNeg (p0)).sa 9 ((((5 : Int32) * ((((S.si 23 (0 : Int32)).sa 9 (((5 : Int32) * (((S.si 23 (0 : Int32))).fi 12))).toNatClampNeg (p0))).fi 12)) + (1 : Int32))).toNatClampNeg (p1))).fi 12)) + (2 : Int32))).toNatClampNeg (p2))).fi 12)) + (3 : Int32))).toNatClampNeg (p3)).sa 9 ((((5 : Int32) * (((((((S.si 23 (0 : Int32)).sa 9 (((5 : Int32) * (((S.si 23 (0 : Int32))).fi 12))).toNatClampNeg (p0)).sa 9 ((((5 : Int32) * ((((S.si 23 (0 : Int32)).sa 9 (((5 : Int32) * (((S.si 23 (0 : Int32))).fi 12))).toNatClampNeg (p0))).fi 12)) + (1 : Int32))).toNatClampNeg (p1)).sa 9 ((((5 : Int32) * (((((S.si 23 (0 : Int32)).sa 9 (((5 : Int32) * (((S.si 23 (0 : Int32))).fi 12))).toNatClampNeg (p0)).sa 9 ((((5 : Int32) * ((((S.si 23 (0 : Int32)).sa 9 (((5 : Int32) * (((S.si 23 (0 : Int32))).fi 12))).toNatClampNeg (p0))).fi 12)) + (1 : Int32))).toNatClampNeg (p1))).fi 12)) + (2 : Int32))).toNatClampNeg (p2)).sa 9 ((((5 : Int32) * ((((((S.si 23 (0 : Int32)).sa 9 (((5 : Int32) * (((S.si 23 (0 : Int32))).fi 12))).toNatClampNeg (p0)).sa 9 ((((5 : Int32) * ((((S.si 23 (0 : Int32)).sa 9 (((5 : Int32) * (((S.si 23 (0 : Int32))).fi 12))).toNatClampNeg (p0))).fi 12)) + (1 : Int32))).toNatClampNeg (p1)).sa 9 ((((5 : Int32) * (((((S.si 23 (0 : Int32)).sa 9 (((5 : Int32) * (((S.si 23 (0 : Int32))).fi 12))).toNatClampNeg (p0)).sa 9 ((((5 : Int32) * ((((S.si 23 (0 : Int32)).sa 9 (((5 : Int32) * (((S.si 23 (0 : Int32))).fi 12))).toNatClampNeg (p0))).fi 12)) + (1 : Int32))).toNatClampNeg (p1))).fi 12)) + (2 : Int32))).toNatClampNeg (p2))).fi 12)) + (3 : Int32))).toNatClampNeg (p3))).fi 12)) + (4 : Int32))).toNatClampNeg (p4))).fi 12) + (1 : Int32))))).fi 12)) (((((((S.si 23 (0 : Int32)).sa 9 (((5 : Int32) * (((S.si 23 (0 : Int32))).fi 12))).toNatClampNeg (p0)).sa 9 ((((5 : Int32) * ((((S.si 23 (0 : Int32)).sa 9 (((5 : Int32) * (((S.si 23 (0 : Int32))).fi 12))).toNatClampNeg (p0))).fi 12)) + (1 : Int32))).toNatClampNeg (p1)).sa 9 ((((5 : Int32) * (((((S.si 23 (0 : Int32)).sa 9 (((5 : Int32) * (((S.si 23 (0 : Int32))).fi 12))).toNatClampNeg (p0)).sa 9 ((((5 : Int32) * ((((S.si 23 (0 : Int32)).sa 9 (((5 : Int32) * (((S.si 23 (0 : Int32))).fi 12))).toNatClampNeg (p0))).fi 12)) + (1 : Int32))).toNatClampNeg (p1))).fi 12)) + (2 : Int32))).toNatClampNeg (p2)).sa 9 ((((5 : Int32) * ((((((S.si 23 (0 : Int32)).sa 9 (((5 : Int32) * (((S.si 23 (0 : Int32))).fi 12))).toNatClampNeg (p0)).sa 9 ((((5 : Int32) * ((((S.si 23 (0 : Int32)).sa 9 (((5 : Int32) * (((S.si 23 (0 : Int32))).fi 12))).toNatClampNeg (p0))).fi 12)) + (1 : Int32))).toNatClampNeg (p1)).sa 9 ((((5 : Int32) * (((((S.si 23 (0 : Int32)).sa 9 (((5 : Int32) * (((S.si 23 (0 : Int32))).fi 12))).toNatClampNeg (p0)).sa 9 ((((5 : Int32) * ((((S.si 23 (0 : Int32)).sa 9 (((5 : Int32) * (((S.si 23 (0 : Int32))).fi 12))).toNatClampNeg (p0))).fi 12)) + (1 : Int32))).toNatClampNeg (p1))).fi 12)) + (2 : Int32))).toNatClampNeg (p2))).fi 12)) + (3 : Int32))).toNatClampNeg (p3)).sa 9 ((((5 : Int32) * (((((((S.si 23 (0 : Int32)).sa 9 (((5 : Int32) * (((S.si 23 (0 : Int32))).fi 12))).toNatClampNeg (p0)).sa 9 ((((5 : Int32) * ((((S.si 23 (0 : Int32)).sa 9 (((5 : Int32) * (((S.si 23 (0 : Int32))).fi 12))).toNatClampNeg (p0))).fi 12)) + (1 : Int32))).toNatClampNeg (p1)).sa 9 ((((5 : Int32) * (((((S.si 23 (0 : Int32)).sa 9 (((5 : Int32) * (((S.si 23 (0 : Int32))).fi 12))).toNatClampNeg (p0)).sa 9 ((((5 : Int32) * ((((S.si 23 (0 : Int32)).sa 9 (((5 : Int32) * (((S.si 23 (0 : Int32))).fi 12))).toNatClampNeg (p0))).fi 12)) + (1 : Int32))).toNatClampNeg (p1))).fi 12)) + (2 : Int32))).toNatClampNeg (p2)).sa 9 ((((5 : Int32) * ((((((S.si 23 (0 : Int32)).sa 9 (((5 : Int32) * (((S.si 23 (0 : Int32))).fi 12))).toNatClampNeg (p0)).sa 9 ((((5 : Int32) * ((((S.si 23 (0 : Int32)).sa 9 (((5 : Int32) * (((S.si 23 (0 : Int32))).fi 12))).toNatClampNeg (p0))).fi 12)) + (1 : Int32))).toNatClampNeg (p1)).sa 9 ((((5 : Int32) * (((((S.si 23 (0 : Int32)).sa 9 (((5 : Int32) * (((S.si 23 (0 : Int32))).fi 12))).toNatClampNeg (p0)).sa 9 ((((5 : Int32) * ((((S.si 23 (0 : Int32)).sa 9 (((5 : Int32) * (((S.si 23 (0 : Int32))).fi 12))).toNatClampNeg (p0))).fi 12)) + (1 : Int32))).toNatClampNeg (p1))).fi 12)) + (2 : Int32))).toNatClampNeg (p2))).fi 12)) + (3 : Int32))).toNatClampNeg (p3))).fi 12)) + (4 : Int32))).toNatClampNeg (p4)).si 12 ((((((((((S.si 23 (0 : Int32)).sa 9 (((5 : Int32) * (((S.si 23 (0 : Int32))).fi 12))).toNatClampNeg (p0)).sa 9 ((((5 : Int32) * ((((S.si 23 (0 : Int32)).sa 9 (((5 : Int32) * (((S.si 23 (0 : Int32))).fi 12))).toNatClampNeg (p0))).fi 12)) + (1 : Int32))).toNatClampNeg (p1)).sa 9 ((((5 : Int32) * (((((S.si 23 (0 : Int32)).sa 9 (((5 : Int32) * (((S.si 23 (0 : Int32))).fi 12))).toNatClampNeg (p0)).sa 9 ((((5 : Int32) * ((((S.si 23 (0 : Int32)).sa 9 (((5 : Int32) * (((S.si 23 (0 : Int32))).fi 12))).toNatClampNeg (p0))).fi 12)) + (1 : Int32))).toNatClampNeg (p1))).fi 12)) + (2 : Int32))).toNatClampNeg (p2)).sa 9 ((((5 : Int32) * ((((((S.si 23 (0 : Int32)).sa 9 (((5 : Int32) * (((S.si 23 (0 : Int32))).fi 12))).toNatClampNeg (p0)).sa 9 ((((5 : Int32) * ((((S.si 23 (0 : Int32)).sa 9 (((5 : Int32) * (((S.si 23 (0 : Int32))).fi 12))).toNatClampNeg (p0))).fi 12)) + (1 : Int32))).toNatClampNeg (p1)).sa 9 ((((5 : Int32) * (((((S.si 23 (0 : Int32)).sa 9 (((5 : Int32) * (((S.si 23 (0 : Int32))).fi 12))).toNatClampNeg (p0)).sa 9 ((((5 : Int32) * ((((S.si 23 (0 : Int32)).sa 9 (((5 : Int32) * (((S.si 23 (0 : Int32))).fi 12))).toNatClampNeg (p0))).fi 12)) + (1 : Int32))).toNatClampNeg (p1))).fi 12)) + (2 : Int32))).toNatClampNeg (p2))).fi 12)) + (3 : Int32))).toNatClampNeg (p3)).sa 9 ((((5 : Int32) * (((((((S.si 23 (0 : Int32)).sa 9 (((5 : Int32) * (((S.si 23 (0 : Int32))).fi 12))).toNatClampNeg (p0)).sa 9 ((((5 : Int32) * ((((S.si 23 (0 : Int32)).sa 9 (((5 : Int32) * (((S.si 23 (0 : Int32))).fi 12))).toNatClampNeg (p0))).fi 12)) + (1 : Int32))).toNatClampNeg (p1)).sa 9 ((((5 : Int32) * (((((S.si 23 (0 : Int32)).sa 9 (((5 : Int32) * (((S.si 23 (0 : Int32))).fi 12))).toNatClampNeg (p0)).sa 9 ((((5 : Int32) * ((((S.si 23 (0 : Int32)).sa 9 (((5 : Int32) * (((S.si 23 (0 : Int32))).fi 12))).toNatClampNeg (p0))).fi 12)) + (1 : Int32))).toNatClampNeg (p1))).fi 12)) + (2 : Int32))).toNatClampNeg (p2)).sa 9 ((((5 : Int32) * ((((((S.si 23 (0 : Int32)).sa 9 (((5 : Int32) * (((S.si 23 (0 : Int32))).fi 12))).toNatClampNeg (p0)).sa 9 ((((5 : Int32) * ((((S.si 23 (0 : Int32)).sa 9 (((5 : Int32) * (((S.si 23 (0 : Int32))).fi 12))).toNatClampNeg (p0))).fi 12)) + (1 : Int32))).toNatClampNeg (p1)).sa 9 ((((5 : Int32) * (((((S.si 23 (0 : Int32)).sa 9 (((5 : Int32) * (((S.si 23 (0 : Int32))).fi 12))).toNatClampNeg (p0)).sa 9 ((((5 : Int32) * ((((S.si 23 (0 : Int32)).sa 9 (((5 : Int32) * (((S.si 23 (0 : Int32))).fi 12))).toNatClampNeg (p0))).fi 12)) + (1 : Int32))).toNatClampNeg (p1))).fi 12)) + (2 : Int32))).toNatClampNeg (p2))).fi 12)) + (3 : Int32))).toNatClampNeg (p3))).fi 12)) + (4 : Int32))).toNatClampNeg (p4))).fi 12) + (1 : Int32)))))))))) ∧ ((((S.si 23 (0 : Int32))).fi 12) = (16 : Int32) → K ((-1 : Int32)) (S.si 23 (0 : Int32))))
set_option maxHeartbeats 4000000 in
set_option maxRecDepth 100000 in
theorem c_X2_note {l : Launch} {D : va_G} {cI cJ : ClassId} {h : Nat → Nat} (p0 : Int32) (p1 : Int32) (p2 : Int32) (p3 : Int32) (p4 : Int32) (S : mS) (K : Int32 → mS → Prop) (hw : wp_X2_note p0 p1 p2 p3 p4 S K) : mMi l D cI cJ h yX2_note wsX2_note rm_X2_note [.ref (h 0), .int (p0), .int (p1), .int (p2), .int (p3), .int (p4)] K S := by
  refine m_starti (rt := some .int) (by decide) rfl rfl (Nat.le_of_ble_eq_true rfl) ?_
  intro p e s m below meth c A ls F hr hlk I hl
  have hin : ∀ w ∈ u_ws RX2 TX2 24, w ∈ wsX2_note := by decide +kernel
  obtain ⟨hx, hb, hml, hown, hts⟩ := id F
  have hl : lv_has ls 6 [(0, .ref (h 0)), (1, .int (p0)), (2, .int (p1)), (3, .int (p2)), (4, .int (p3)), (5, .int (p4))] := hl
  unfold wp_X2_note at hw
  refine lv_aload_n hx hb dX2_note_0 rfl (lv_at hl 0 rfl) ?_
  refine lv_iconst (v := (0 : Int32)) hx hb dX2_note_1 (by decide) ?_
  refine m_put F hin I 23 (by decide) (hts (.fieldLink RX2 44 "CuttingTableModel" "thrown" "I") (by decide +kernel)) dX2_note_2 (fun H locs I => ?_)
  refine lv_aload_n hx hb dX2_note_5 rfl (lv_at hl 0 rfl) ?_
  refine m_get F hin I 12 (by decide) (v := .int ((((S.si 23 (0 : Int32))).fi 12))) rfl (hts (.fieldLink RX2 129 "CuttingTableModel" "cuts" "I") (by decide +kernel)) dX2_note_6 ?_
  refine lv_bipush (v := (16 : Int32)) hx hb dX2_note_9 (by decide) ?_
  refine lv_icmp_ne (tgt := 16) hx hb dX2_note_11 (by decide) (fun c_1 => ?_) (fun c_1 => ?_)
  · have hw := hw.1 c_1
    refine lv_aload_n hx hb dX2_note_16 rfl (lv_at hl 0 rfl) ?_
    refine m_get F hin I 11 (by decide) (v := .ref (h 9)) rfl (hts (.fieldLink RX2 35 "CuttingTableModel" "list" "[I") (by decide +kernel)) dX2_note_17 ?_
    refine lv_iconst (v := (5 : Int32)) hx hb dX2_note_20 (by decide) ?_
    refine lv_aload_n hx hb dX2_note_21 rfl (lv_at hl 0 rfl) ?_
    refine m_get F hin I 12 (by decide) (v := .int ((((S.si 23 (0 : Int32))).fi 12))) rfl (hts (.fieldLink RX2 129 "CuttingTableModel" "cuts" "I") (by decide +kernel)) dX2_note_22 ?_
    refine lv_imul hx hb dX2_note_25 ?_
    refine lv_iload_n hx hb dX2_note_26 rfl (lv_at hl 1 rfl) ?_
    obtain ⟨hi2, hw⟩ := hw
    refine m_iast F I 9 80 (by decide) hi2 dX2_note_27 (fun H locs I => ?_)
    refine lv_aload_n hx hb dX2_note_28 rfl (lv_at hl 0 rfl) ?_
    refine m_get F hin I 11 (by decide) (v := .ref (h 9)) rfl (hts (.fieldLink RX2 35 "CuttingTableModel" "list" "[I") (by decide +kernel)) dX2_note_29 ?_
    refine lv_iconst (v := (5 : Int32)) hx hb dX2_note_32 (by decide) ?_
    refine lv_aload_n hx hb dX2_note_33 rfl (lv_at hl 0 rfl) ?_
    refine m_get F hin I 12 (by decide) (v := .int (((((S.si 23 (0 : Int32)).sa 9 (((5 : Int32) * (((S.si 23 (0 : Int32))).fi 12))).toNatClampNeg (p0))).fi 12))) rfl (hts (.fieldLink RX2 129 "CuttingTableModel" "cuts" "I") (by decide +kernel)) dX2_note_34 ?_
    refine lv_imul hx hb dX2_note_37 ?_
    refine lv_iconst (v := (1 : Int32)) hx hb dX2_note_38 (by decide) ?_
    refine lv_iadd hx hb dX2_note_39 ?_
    refine lv_iload_n hx hb dX2_note_40 rfl (lv_at hl 2 rfl) ?_
    obtain ⟨hi3, hw⟩ := hw
    refine m_iast F I 9 80 (by decide) hi3 dX2_note_41 (fun H locs I => ?_)
    refine lv_aload_n hx hb dX2_note_42 rfl (lv_at hl 0 rfl) ?_
    refine m_get F hin I 11 (by decide) (v := .ref (h 9)) rfl (hts (.fieldLink RX2 35 "CuttingTableModel" "list" "[I") (by decide +kernel)) dX2_note_43 ?_
    refine lv_iconst (v := (5 : Int32)) hx hb dX2_note_46 (by decide) ?_
    refine lv_aload_n hx hb dX2_note_47 rfl (lv_at hl 0 rfl) ?_
    refine m_get F hin I 12 (by decide) (v := .int ((((((S.si 23 (0 : Int32)).sa 9 (((5 : Int32) * (((S.si 23 (0 : Int32))).fi 12))).toNatClampNeg (p0)).sa 9 ((((5 : Int32) * ((((S.si 23 (0 : Int32)).sa 9 (((5 : Int32) * (((S.si 23 (0 : Int32))).fi 12))).toNatClampNeg (p0))).fi 12)) + (1 : Int32))).toNatClampNeg (p1))).fi 12))) rfl (hts (.fieldLink RX2 129 "CuttingTableModel" "cuts" "I") (by decide +kernel)) dX2_note_48 ?_
    refine lv_imul hx hb dX2_note_51 ?_
    refine lv_iconst (v := (2 : Int32)) hx hb dX2_note_52 (by decide) ?_
    refine lv_iadd hx hb dX2_note_53 ?_
    refine lv_iload_n hx hb dX2_note_54 rfl (lv_at hl 3 rfl) ?_
    obtain ⟨hi4, hw⟩ := hw
    refine m_iast F I 9 80 (by decide) hi4 dX2_note_55 (fun H locs I => ?_)
    refine lv_aload_n hx hb dX2_note_56 rfl (lv_at hl 0 rfl) ?_
    refine m_get F hin I 11 (by decide) (v := .ref (h 9)) rfl (hts (.fieldLink RX2 35 "CuttingTableModel" "list" "[I") (by decide +kernel)) dX2_note_57 ?_
    refine lv_iconst (v := (5 : Int32)) hx hb dX2_note_60 (by decide) ?_
    refine lv_aload_n hx hb dX2_note_61 rfl (lv_at hl 0 rfl) ?_
    refine m_get F hin I 12 (by decide) (v := .int (((((((S.si 23 (0 : Int32)).sa 9 (((5 : Int32) * (((S.si 23 (0 : Int32))).fi 12))).toNatClampNeg (p0)).sa 9 ((((5 : Int32) * ((((S.si 23 (0 : Int32)).sa 9 (((5 : Int32) * (((S.si 23 (0 : Int32))).fi 12))).toNatClampNeg (p0))).fi 12)) + (1 : Int32))).toNatClampNeg (p1)).sa 9 ((((5 : Int32) * (((((S.si 23 (0 : Int32)).sa 9 (((5 : Int32) * (((S.si 23 (0 : Int32))).fi 12))).toNatClampNeg (p0)).sa 9 ((((5 : Int32) * ((((S.si 23 (0 : Int32)).sa 9 (((5 : Int32) * (((S.si 23 (0 : Int32))).fi 12))).toNatClampNeg (p0))).fi 12)) + (1 : Int32))).toNatClampNeg (p1))).fi 12)) + (2 : Int32))).toNatClampNeg (p2))).fi 12))) rfl (hts (.fieldLink RX2 129 "CuttingTableModel" "cuts" "I") (by decide +kernel)) dX2_note_62 ?_
    refine lv_imul hx hb dX2_note_65 ?_
    refine lv_iconst (v := (3 : Int32)) hx hb dX2_note_66 (by decide) ?_
    refine lv_iadd hx hb dX2_note_67 ?_
    refine lv_iload hx hb dX2_note_68 (lv_at hl 4 rfl) ?_
    obtain ⟨hi5, hw⟩ := hw
    refine m_iast F I 9 80 (by decide) hi5 dX2_note_70 (fun H locs I => ?_)
    refine lv_aload_n hx hb dX2_note_71 rfl (lv_at hl 0 rfl) ?_
    refine m_get F hin I 11 (by decide) (v := .ref (h 9)) rfl (hts (.fieldLink RX2 35 "CuttingTableModel" "list" "[I") (by decide +kernel)) dX2_note_72 ?_
    refine lv_iconst (v := (5 : Int32)) hx hb dX2_note_75 (by decide) ?_
    refine lv_aload_n hx hb dX2_note_76 rfl (lv_at hl 0 rfl) ?_
    refine m_get F hin I 12 (by decide) (v := .int ((((((((S.si 23 (0 : Int32)).sa 9 (((5 : Int32) * (((S.si 23 (0 : Int32))).fi 12))).toNatClampNeg (p0)).sa 9 ((((5 : Int32) * ((((S.si 23 (0 : Int32)).sa 9 (((5 : Int32) * (((S.si 23 (0 : Int32))).fi 12))).toNatClampNeg (p0))).fi 12)) + (1 : Int32))).toNatClampNeg (p1)).sa 9 ((((5 : Int32) * (((((S.si 23 (0 : Int32)).sa 9 (((5 : Int32) * (((S.si 23 (0 : Int32))).fi 12))).toNatClampNeg (p0)).sa 9 ((((5 : Int32) * ((((S.si 23 (0 : Int32)).sa 9 (((5 : Int32) * (((S.si 23 (0 : Int32))).fi 12))).toNatClampNeg (p0))).fi 12)) + (1 : Int32))).toNatClampNeg (p1))).fi 12)) + (2 : Int32))).toNatClampNeg (p2)).sa 9 ((((5 : Int32) * ((((((S.si 23 (0 : Int32)).sa 9 (((5 : Int32) * (((S.si 23 (0 : Int32))).fi 12))).toNatClampNeg (p0)).sa 9 ((((5 : Int32) * ((((S.si 23 (0 : Int32)).sa 9 (((5 : Int32) * (((S.si 23 (0 : Int32))).fi 12))).toNatClampNeg (p0))).fi 12)) + (1 : Int32))).toNatClampNeg (p1)).sa 9 ((((5 : Int32) * (((((S.si 23 (0 : Int32)).sa 9 (((5 : Int32) * (((S.si 23 (0 : Int32))).fi 12))).toNatClampNeg (p0)).sa 9 ((((5 : Int32) * ((((S.si 23 (0 : Int32)).sa 9 (((5 : Int32) * (((S.si 23 (0 : Int32))).fi 12))).toNatClampNeg (p0))).fi 12)) + (1 : Int32))).toNatClampNeg (p1))).fi 12)) + (2 : Int32))).toNatClampNeg (p2))).fi 12)) + (3 : Int32))).toNatClampNeg (p3))).fi 12))) rfl (hts (.fieldLink RX2 129 "CuttingTableModel" "cuts" "I") (by decide +kernel)) dX2_note_77 ?_
    refine lv_imul hx hb dX2_note_80 ?_
    refine lv_iconst (v := (4 : Int32)) hx hb dX2_note_81 (by decide) ?_
    refine lv_iadd hx hb dX2_note_82 ?_
    refine lv_iload hx hb dX2_note_83 (lv_at hl 5 rfl) ?_
    obtain ⟨hi6, hw⟩ := hw
    refine m_iast F I 9 80 (by decide) hi6 dX2_note_85 (fun H locs I => ?_)
    refine lv_aload_n hx hb dX2_note_86 rfl (lv_at hl 0 rfl) ?_
    refine lv_dup hx hb dX2_note_87 rfl ?_
    refine m_get F hin I 12 (by decide) (v := .int (((((((((S.si 23 (0 : Int32)).sa 9 (((5 : Int32) * (((S.si 23 (0 : Int32))).fi 12))).toNatClampNeg (p0)).sa 9 ((((5 : Int32) * ((((S.si 23 (0 : Int32)).sa 9 (((5 : Int32) * (((S.si 23 (0 : Int32))).fi 12))).toNatClampNeg (p0))).fi 12)) + (1 : Int32))).toNatClampNeg (p1)).sa 9 ((((5 : Int32) * (((((S.si 23 (0 : Int32)).sa 9 (((5 : Int32) * (((S.si 23 (0 : Int32))).fi 12))).toNatClampNeg (p0)).sa 9 ((((5 : Int32) * ((((S.si 23 (0 : Int32)).sa 9 (((5 : Int32) * (((S.si 23 (0 : Int32))).fi 12))).toNatClampNeg (p0))).fi 12)) + (1 : Int32))).toNatClampNeg (p1))).fi 12)) + (2 : Int32))).toNatClampNeg (p2)).sa 9 ((((5 : Int32) * ((((((S.si 23 (0 : Int32)).sa 9 (((5 : Int32) * (((S.si 23 (0 : Int32))).fi 12))).toNatClampNeg (p0)).sa 9 ((((5 : Int32) * ((((S.si 23 (0 : Int32)).sa 9 (((5 : Int32) * (((S.si 23 (0 : Int32))).fi 12))).toNatClampNeg (p0))).fi 12)) + (1 : Int32))).toNatClampNeg (p1)).sa 9 ((((5 : Int32) * (((((S.si 23 (0 : Int32)).sa 9 (((5 : Int32) * (((S.si 23 (0 : Int32))).fi 12))).toNatClampNeg (p0)).sa 9 ((((5 : Int32) * ((((S.si 23 (0 : Int32)).sa 9 (((5 : Int32) * (((S.si 23 (0 : Int32))).fi 12))).toNatClampNeg (p0))).fi 12)) + (1 : Int32))).toNatClampNeg (p1))).fi 12)) + (2 : Int32))).toNatClampNeg (p2))).fi 12)) + (3 : Int32))).toNatClampNeg (p3)).sa 9 ((((5 : Int32) * (((((((S.si 23 (0 : Int32)).sa 9 (((5 : Int32) * (((S.si 23 (0 : Int32))).fi 12))).toNatClampNeg (p0)).sa 9 ((((5 : Int32) * ((((S.si 23 (0 : Int32)).sa 9 (((5 : Int32) * (((S.si 23 (0 : Int32))).fi 12))).toNatClampNeg (p0))).fi 12)) + (1 : Int32))).toNatClampNeg (p1)).sa 9 ((((5 : Int32) * (((((S.si 23 (0 : Int32)).sa 9 (((5 : Int32) * (((S.si 23 (0 : Int32))).fi 12))).toNatClampNeg (p0)).sa 9 ((((5 : Int32) * ((((S.si 23 (0 : Int32)).sa 9 (((5 : Int32) * (((S.si 23 (0 : Int32))).fi 12))).toNatClampNeg (p0))).fi 12)) + (1 : Int32))).toNatClampNeg (p1))).fi 12)) + (2 : Int32))).toNatClampNeg (p2)).sa 9 ((((5 : Int32) * ((((((S.si 23 (0 : Int32)).sa 9 (((5 : Int32) * (((S.si 23 (0 : Int32))).fi 12))).toNatClampNeg (p0)).sa 9 ((((5 : Int32) * ((((S.si 23 (0 : Int32)).sa 9 (((5 : Int32) * (((S.si 23 (0 : Int32))).fi 12))).toNatClampNeg (p0))).fi 12)) + (1 : Int32))).toNatClampNeg (p1)).sa 9 ((((5 : Int32) * (((((S.si 23 (0 : Int32)).sa 9 (((5 : Int32) * (((S.si 23 (0 : Int32))).fi 12))).toNatClampNeg (p0)).sa 9 ((((5 : Int32) * ((((S.si 23 (0 : Int32)).sa 9 (((5 : Int32) * (((S.si 23 (0 : Int32))).fi 12))).toNatClampNeg (p0))).fi 12)) + (1 : Int32))).toNatClampNeg (p1))).fi 12)) + (2 : Int32))).toNatClampNeg (p2))).fi 12)) + (3 : Int32))).toNatClampNeg (p3))).fi 12)) + (4 : Int32))).toNatClampNeg (p4))).fi 12))) rfl (hts (.fieldLink RX2 129 "CuttingTableModel" "cuts" "I") (by decide +kernel)) dX2_note_88 ?_
    refine lv_iconst (v := (1 : Int32)) hx hb dX2_note_91 (by decide) ?_
    refine lv_iadd hx hb dX2_note_92 ?_
    refine m_put F hin I 12 (by decide) (hts (.fieldLink RX2 129 "CuttingTableModel" "cuts" "I") (by decide +kernel)) dX2_note_93 (fun H locs I => ?_)
    refine lv_aload_n hx hb dX2_note_96 rfl (lv_at hl 0 rfl) ?_
    refine m_get F hin I 12 (by decide) (v := .int ((((((((((S.si 23 (0 : Int32)).sa 9 (((5 : Int32) * (((S.si 23 (0 : Int32))).fi 12))).toNatClampNeg (p0)).sa 9 ((((5 : Int32) * ((((S.si 23 (0 : Int32)).sa 9 (((5 : Int32) * (((S.si 23 (0 : Int32))).fi 12))).toNatClampNeg (p0))).fi 12)) + (1 : Int32))).toNatClampNeg (p1)).sa 9 ((((5 : Int32) * (((((S.si 23 (0 : Int32)).sa 9 (((5 : Int32) * (((S.si 23 (0 : Int32))).fi 12))).toNatClampNeg (p0)).sa 9 ((((5 : Int32) * ((((S.si 23 (0 : Int32)).sa 9 (((5 : Int32) * (((S.si 23 (0 : Int32))).fi 12))).toNatClampNeg (p0))).fi 12)) + (1 : Int32))).toNatClampNeg (p1))).fi 12)) + (2 : Int32))).toNatClampNeg (p2)).sa 9 ((((5 : Int32) * ((((((S.si 23 (0 : Int32)).sa 9 (((5 : Int32) * (((S.si 23 (0 : Int32))).fi 12))).toNatClampNeg (p0)).sa 9 ((((5 : Int32) * ((((S.si 23 (0 : Int32)).sa 9 (((5 : Int32) * (((S.si 23 (0 : Int32))).fi 12))).toNatClampNeg (p0))).fi 12)) + (1 : Int32))).toNatClampNeg (p1)).sa 9 ((((5 : Int32) * (((((S.si 23 (0 : Int32)).sa 9 (((5 : Int32) * (((S.si 23 (0 : Int32))).fi 12))).toNatClampNeg (p0)).sa 9 ((((5 : Int32) * ((((S.si 23 (0 : Int32)).sa 9 (((5 : Int32) * (((S.si 23 (0 : Int32))).fi 12))).toNatClampNeg (p0))).fi 12)) + (1 : Int32))).toNatClampNeg (p1))).fi 12)) + (2 : Int32))).toNatClampNeg (p2))).fi 12)) + (3 : Int32))).toNatClampNeg (p3)).sa 9 ((((5 : Int32) * (((((((S.si 23 (0 : Int32)).sa 9 (((5 : Int32) * (((S.si 23 (0 : Int32))).fi 12))).toNatClampNeg (p0)).sa 9 ((((5 : Int32) * ((((S.si 23 (0 : Int32)).sa 9 (((5 : Int32) * (((S.si 23 (0 : Int32))).fi 12))).toNatClampNeg (p0))).fi 12)) + (1 : Int32))).toNatClampNeg (p1)).sa 9 ((((5 : Int32) * (((((S.si 23 (0 : Int32)).sa 9 (((5 : Int32) * (((S.si 23 (0 : Int32))).fi 12))).toNatClampNeg (p0)).sa 9 ((((5 : Int32) * ((((S.si 23 (0 : Int32)).sa 9 (((5 : Int32) * (((S.si 23 (0 : Int32))).fi 12))).toNatClampNeg (p0))).fi 12)) + (1 : Int32))).toNatClampNeg (p1))).fi 12)) + (2 : Int32))).toNatClampNeg (p2)).sa 9 ((((5 : Int32) * ((((((S.si 23 (0 : Int32)).sa 9 (((5 : Int32) * (((S.si 23 (0 : Int32))).fi 12))).toNatClampNeg (p0)).sa 9 ((((5 : Int32) * ((((S.si 23 (0 : Int32)).sa 9 (((5 : Int32) * (((S.si 23 (0 : Int32))).fi 12))).toNatClampNeg (p0))).fi 12)) + (1 : Int32))).toNatClampNeg (p1)).sa 9 ((((5 : Int32) * (((((S.si 23 (0 : Int32)).sa 9 (((5 : Int32) * (((S.si 23 (0 : Int32))).fi 12))).toNatClampNeg (p0)).sa 9 ((((5 : Int32) * ((((S.si 23 (0 : Int32)).sa 9 (((5 : Int32) * (((S.si 23 (0 : Int32))).fi 12))).toNatClampNeg (p0))).fi 12)) + (1 : Int32))).toNatClampNeg (p1))).fi 12)) + (2 : Int32))).toNatClampNeg (p2))).fi 12)) + (3 : Int32))).toNatClampNeg (p3))).fi 12)) + (4 : Int32))).toNatClampNeg (p4)).si 12 ((((((((((S.si 23 (0 : Int32)).sa 9 (((5 : Int32) * (((S.si 23 (0 : Int32))).fi 12))).toNatClampNeg (p0)).sa 9 ((((5 : Int32) * ((((S.si 23 (0 : Int32)).sa 9 (((5 : Int32) * (((S.si 23 (0 : Int32))).fi 12))).toNatClampNeg (p0))).fi 12)) + (1 : Int32))).toNatClampNeg (p1)).sa 9 ((((5 : Int32) * (((((S.si 23 (0 : Int32)).sa 9 (((5 : Int32) * (((S.si 23 (0 : Int32))).fi 12))).toNatClampNeg (p0)).sa 9 ((((5 : Int32) * ((((S.si 23 (0 : Int32)).sa 9 (((5 : Int32) * (((S.si 23 (0 : Int32))).fi 12))).toNatClampNeg (p0))).fi 12)) + (1 : Int32))).toNatClampNeg (p1))).fi 12)) + (2 : Int32))).toNatClampNeg (p2)).sa 9 ((((5 : Int32) * ((((((S.si 23 (0 : Int32)).sa 9 (((5 : Int32) * (((S.si 23 (0 : Int32))).fi 12))).toNatClampNeg (p0)).sa 9 ((((5 : Int32) * ((((S.si 23 (0 : Int32)).sa 9 (((5 : Int32) * (((S.si 23 (0 : Int32))).fi 12))).toNatClampNeg (p0))).fi 12)) + (1 : Int32))).toNatClampNeg (p1)).sa 9 ((((5 : Int32) * (((((S.si 23 (0 : Int32)).sa 9 (((5 : Int32) * (((S.si 23 (0 : Int32))).fi 12))).toNatClampNeg (p0)).sa 9 ((((5 : Int32) * ((((S.si 23 (0 : Int32)).sa 9 (((5 : Int32) * (((S.si 23 (0 : Int32))).fi 12))).toNatClampNeg (p0))).fi 12)) + (1 : Int32))).toNatClampNeg (p1))).fi 12)) + (2 : Int32))).toNatClampNeg (p2))).fi 12)) + (3 : Int32))).toNatClampNeg (p3)).sa 9 ((((5 : Int32) * (((((((S.si 23 (0 : Int32)).sa 9 (((5 : Int32) * (((S.si 23 (0 : Int32))).fi 12))).toNatClampNeg (p0)).sa 9 ((((5 : Int32) * ((((S.si 23 (0 : Int32)).sa 9 (((5 : Int32) * (((S.si 23 (0 : Int32))).fi 12))).toNatClampNeg (p0))).fi 12)) + (1 : Int32))).toNatClampNeg (p1)).sa 9 ((((5 : Int32) * (((((S.si 23 (0 : Int32)).sa 9 (((5 : Int32) * (((S.si 23 (0 : Int32))).fi 12))).toNatClampNeg (p0)).sa 9 ((((5 : Int32) * ((((S.si 23 (0 : Int32)).sa 9 (((5 : Int32) * (((S.si 23 (0 : Int32))).fi 12))).toNatClampNeg (p0))).fi 12)) + (1 : Int32))).toNatClampNeg (p1))).fi 12)) + (2 : Int32))).toNatClampNeg (p2)).sa 9 ((((5 : Int32) * ((((((S.si 23 (0 : Int32)).sa 9 (((5 : Int32) * (((S.si 23 (0 : Int32))).fi 12))).toNatClampNeg (p0)).sa 9 ((((5 : Int32) * ((((S.si 23 (0 : Int32)).sa 9 (((5 : Int32) * (((S.si 23 (0 : Int32))).fi 12))).toNatClampNeg (p0))).fi 12)) + (1 : Int32))).toNatClampNeg (p1)).sa 9 ((((5 : Int32) * (((((S.si 23 (0 : Int32)).sa 9 (((5 : Int32) * (((S.si 23 (0 : Int32))).fi 12))).toNatClampNeg (p0)).sa 9 ((((5 : Int32) * ((((S.si 23 (0 : Int32)).sa 9 (((5 : Int32) * (((S.si 23 (0 : Int32))).fi 12))).toNatClampNeg (p0))).fi 12)) + (1 : Int32))).toNatClampNeg (p1))).fi 12)) + (2 : Int32))).toNatClampNeg (p2))).fi 12)) + (3 : Int32))).toNatClampNeg (p3))).fi 12)) + (4 : Int32))).toNatClampNeg (p4))).fi 12) + (1 : Int32))))).fi 12))) rfl (hts (.fieldLink RX2 129 "CuttingTableModel" "cuts" "I") (by decide +kernel)) dX2_note_97 ?_
    exact m_reti F hr hlk I dX2_note_100 hw
  · have hw := hw.2 c_1
    refine lv_iconst (v := (-1 : Int32)) hx hb dX2_note_14 (by decide) ?_
    exact m_reti F hr hlk I dX2_note_15 hw
abbrev rm_X2_play : Room := { frames := 3, cells := 0, slots := 0, locals := 75 }
def wl_X2_play_100 (K : Int32 → mS → Prop) : Nat → Int32 → Int32 → Int32 → mS → Prop
  | 0, _, _, _, _ => False
  | n + 1, v1, v2, v3, S => ((((5 : Int32) * ((S).fi 12)) ≤ v3 → wp_X2_told (v2) (S.si 12 ((((S).fi 12) - v1))) (fun r5 S6 => K (v1) S6)) ∧ (¬ ((5 : Int32) * ((S).fi 12)) ≤ v3 → (vp_in (v3) 80 ∧ (vp_in ((v3 - ((5 : Int32) * v1))) 80 ∧ wl_X2_play_100 K n (v1) (v2) ((v3 + (1 : Int32))) (S.sa 9 ((v3 - ((5 : Int32) * v1))).toNatClampNeg (((S).ia 9 (v3).toNatClampNeg)))))))
def wl_X2_play_13 (K : Int32 → mS → Prop) : Nat → Int32 → Int32 → mS → Prop
  | 0, _, _, _ => False
  | n + 1, v1, v2, S => ((((S).fi 12) ≤ v1 → (∃ n100 : Nat, wl_X2_play_100 K n100 (v1) (v2) (((5 : Int32) * v1)) S)) ∧ (¬ ((S).fi 12) ≤ v1 → ((¬ v2 = 0 → (∃ n100 : Nat, wl_X2_play_100 K n100 (v1) (v2) (((5 : Int32) * v1)) S)) ∧ (v2 = 0 → (vp_in (((5 : Int32) * v1)) 80 ∧ (vp_in ((((5 : Int32) * v1) + (1 : Int32))) 80 ∧ (vp_in ((((5 : Int32) * v1) + (2 : Int32))) 80 ∧ (vp_in ((((5 : Int32) * v1) + (3 : Int32))) 80 ∧ (vp_in ((((5 : Int32) * v1) + (4 : Int32))) 80 ∧ wp_X2_spliced (((S).ia 9 (((5 : Int32) * v1)).toNatClampNeg)) ((((S).ia 9 ((((5 : Int32) * v1) + (1 : Int32))).toNatClampNeg)).toInt64) (((S).ia 9 ((((5 : Int32) * v1) + (2 : Int32))).toNatClampNeg)) ((((S).ia 9 ((((5 : Int32) * v1) + (3 : Int32))).toNatClampNeg)).toInt64) ((((S).ia 9 ((((5 : Int32) * v1) + (4 : Int32))).toNatClampNeg)).toInt64) S (fun r15 S16 => ((¬ r15 = 0 → wl_X2_play_13 K n ((v1 + (0 : Int32))) (r15) S16) ∧ (r15 = 0 → wl_X2_play_13 K n ((v1 + (1 : Int32))) (r15) S16))))))))))))
def wp_X2_play  (S : mS) (K : Int32 → mS → Prop) : Prop := wp_X2_begin  (S.si 23 (0 : Int32)) (fun S2 => (∃ n13 : Nat, wl_X2_play_13 K n13 ((0 : Int32)) ((0 : Int32)) S2))
set_option maxHeartbeats 4000000 in
set_option maxRecDepth 100000 in
theorem lp_X2_play_100 {p : Program} {l : Launch} {e : Env} {s : State} {m : MethodId} {args : Array Value} {below : List Frame} {meth : Method} {c : Code} {D : va_G} {cI cJ : ClassId} {h : Nat → Nat} {A : Nat → Prop} {K : Int32 → mS → Prop} (F : CallFix p m c cX2_play 4 s args wsX2_play RX2) (hin : ∀ w ∈ u_ws RX2 TX2 24, w ∈ wsX2_play) (hr : meth.sig.returnType = some .int) (hlk : meth.locks = false) :
    ∀ (n : Nat) (v1 : Int32) (v2 : Int32) (v3 : Int32) (S : mS) (H : Heap) (locs : List Loc), mI D cI cJ h A s s.heap H locs S → ∀ (ls : Array Slot), lv_has ls 4 [(0, .ref (h 0)), (1, .int (v1)), (2, .int (v2)), (3, .int (v3))] → wl_X2_play_100 K n v1 v2 v3 S → W p l e rm_X2_play s m args below meth c H locs 0 0 (MQ below (va_Qi K (mB D cI cJ h A) A) args s 0 0 A) (F0 m 100 ls []) := by
  obtain ⟨hx, hb, hml, hown, hts⟩ := id F
  intro n
  induction n with
  | zero => intro v1 v2 v3 S H locs I ls hl hw; exact hw.elim
  | succ n ih =>
    intro v1 v2 v3 S H locs I ls hl hw
    rw [wl_X2_play_100] at hw
    refine lv_iload_n hx hb dX2_play_100 rfl (lv_at hl 3 rfl) ?_
    refine lv_iconst (v := (5 : Int32)) hx hb dX2_play_101 (by decide) ?_
    refine lv_aload_n hx hb dX2_play_102 rfl (lv_at hl 0 rfl) ?_
    refine m_get F hin I 12 (by decide) (v := .int (((S).fi 12))) rfl (hts (.fieldLink RX2 129 "CuttingTableModel" "cuts" "I") (by decide +kernel)) dX2_play_103 ?_
    refine lv_imul hx hb dX2_play_106 ?_
    refine lv_icmp_ge (tgt := 132) hx hb dX2_play_107 (by decide) (fun c_4 => ?_) (fun c_4 => ?_)
    · have hw := hw.1 c_4
      refine lv_aload_n hx hb dX2_play_132 rfl (lv_at hl 0 rfl) ?_
      refine lv_dup hx hb dX2_play_133 rfl ?_
      refine m_get F hin I 12 (by decide) (v := .int (((S).fi 12))) rfl (hts (.fieldLink RX2 129 "CuttingTableModel" "cuts" "I") (by decide +kernel)) dX2_play_134 ?_
      refine lv_iload_n hx hb dX2_play_137 rfl (lv_at hl 1 rfl) ?_
      refine lv_isub hx hb dX2_play_138 ?_
      refine m_put F hin I 12 (by decide) (hts (.fieldLink RX2 129 "CuttingTableModel" "cuts" "I") (by decide +kernel)) dX2_play_139 (fun H locs I => ?_)
      refine lv_aload_n hx hb dX2_play_142 rfl (lv_at hl 0 rfl) ?_
      refine lv_iload_n hx hb dX2_play_143 rfl (lv_at hl 2 rfl) ?_
      refine m_calli (rest := []) F I (c_X2_told (v2) _ _ hw) (cwV 1 hts gX2_play_X2_told rfl rfl rfl (by decide +kernel) ⟨Nat.le_of_ble_eq_true rfl, Nat.le_of_ble_eq_true rfl⟩) rfl hl.1 rfl (Nat.le_of_ble_eq_true rfl) dX2_play_144 ⟨Nat.zero_le _, Nat.zero_le _⟩ (fun r5 S6 H locs hw I => ?_)
      refine lv_pop hx hb dX2_play_147 rfl ?_
      refine lv_iload_n hx hb dX2_play_148 rfl (lv_at hl 1 rfl) ?_
      exact m_reti F hr hlk I dX2_play_149 hw
    · have hw := hw.2 c_4
      refine lv_aload_n hx hb dX2_play_110 rfl (lv_at hl 0 rfl) ?_
      refine m_get F hin I 11 (by decide) (v := .ref (h 9)) rfl (hts (.fieldLink RX2 35 "CuttingTableModel" "list" "[I") (by decide +kernel)) dX2_play_111 ?_
      refine lv_iload_n hx hb dX2_play_114 rfl (lv_at hl 3 rfl) ?_
      refine lv_iconst (v := (5 : Int32)) hx hb dX2_play_115 (by decide) ?_
      refine lv_iload_n hx hb dX2_play_116 rfl (lv_at hl 1 rfl) ?_
      refine lv_imul hx hb dX2_play_117 ?_
      refine lv_isub hx hb dX2_play_118 ?_
      refine lv_aload_n hx hb dX2_play_119 rfl (lv_at hl 0 rfl) ?_
      refine m_get F hin I 11 (by decide) (v := .ref (h 9)) rfl (hts (.fieldLink RX2 35 "CuttingTableModel" "list" "[I") (by decide +kernel)) dX2_play_120 ?_
      refine lv_iload_n hx hb dX2_play_123 rfl (lv_at hl 3 rfl) ?_
      obtain ⟨hi7, hw⟩ := hw
      refine m_iald F I 9 80 (by decide) hi7 dX2_play_124 ?_
      obtain ⟨hi8, hw⟩ := hw
      refine m_iast F I 9 80 (by decide) hi8 dX2_play_125 (fun H locs I => ?_)
      refine lv_iinc (v := (v3 + (1 : Int32))) (lv' := [(3, .int ((v3 + (1 : Int32)))), (0, .ref (h 0)), (1, .int (v1)), (2, .int (v2))]) hx hb dX2_play_126 hl (k := 3) rfl rfl (by decide) rfl (fun ls hl => ?_)
      refine lv_goto (tgt := 100) hx hb dX2_play_129 (by decide) ?_
      exact ih (v1) (v2) ((v3 + (1 : Int32))) (S.sa 9 ((v3 - ((5 : Int32) * v1))).toNatClampNeg (((S).ia 9 (v3).toNatClampNeg))) _ _ I ls (lv_sub hl [1, 2, 3, 0] rfl) hw
set_option maxHeartbeats 4000000 in
set_option maxRecDepth 100000 in
theorem lp_X2_play_13 {p : Program} {l : Launch} {e : Env} {s : State} {m : MethodId} {args : Array Value} {below : List Frame} {meth : Method} {c : Code} {D : va_G} {cI cJ : ClassId} {h : Nat → Nat} {A : Nat → Prop} {K : Int32 → mS → Prop} (F : CallFix p m c cX2_play 4 s args wsX2_play RX2) (hin : ∀ w ∈ u_ws RX2 TX2 24, w ∈ wsX2_play) (hr : meth.sig.returnType = some .int) (hlk : meth.locks = false) :
    ∀ (n : Nat) (v1 : Int32) (v2 : Int32) (S : mS) (H : Heap) (locs : List Loc), mI D cI cJ h A s s.heap H locs S → ∀ (ls : Array Slot), lv_has ls 4 [(0, .ref (h 0)), (1, .int (v1)), (2, .int (v2))] → wl_X2_play_13 K n v1 v2 S → W p l e rm_X2_play s m args below meth c H locs 0 0 (MQ below (va_Qi K (mB D cI cJ h A) A) args s 0 0 A) (F0 m 13 ls []) := by
  obtain ⟨hx, hb, hml, hown, hts⟩ := id F
  intro n
  induction n with
  | zero => intro v1 v2 S H locs I ls hl hw; exact hw.elim
  | succ n ih =>
    intro v1 v2 S H locs I ls hl hw
    rw [wl_X2_play_13] at hw
    refine lv_iload_n hx hb dX2_play_13 rfl (lv_at hl 1 rfl) ?_
    refine lv_aload_n hx hb dX2_play_14 rfl (lv_at hl 0 rfl) ?_
    refine m_get F hin I 12 (by decide) (v := .int (((S).fi 12))) rfl (hts (.fieldLink RX2 129 "CuttingTableModel" "cuts" "I") (by decide +kernel)) dX2_play_15 ?_
    refine lv_icmp_ge (tgt := 96) hx hb dX2_play_18 (by decide) (fun c_3 => ?_) (fun c_3 => ?_)
    · have hw := hw.1 c_3
      refine lv_iconst (v := (5 : Int32)) hx hb dX2_play_96 (by decide) ?_
      refine lv_iload_n hx hb dX2_play_97 rfl (lv_at hl 1 rfl) ?_
      refine lv_imul hx hb dX2_play_98 ?_
      refine lv_istore_n (lv' := [(3, .int (((5 : Int32) * v1))), (0, .ref (h 0)), (1, .int (v1)), (2, .int (v2))]) hx hb dX2_play_99 rfl hl (by decide) rfl (fun ls hl => ?_)
      obtain ⟨n100, hw⟩ := hw
      exact lp_X2_play_100 F hin hr hlk n100 (v1) (v2) (((5 : Int32) * v1)) S _ _ I ls (lv_sub hl [1, 2, 3, 0] rfl) hw
    · have hw := hw.2 c_3
      refine lv_iload_n hx hb dX2_play_21 rfl (lv_at hl 2 rfl) ?_
      refine lv_if_ne (tgt := 96) hx hb dX2_play_22 (by decide) (fun c_9 => ?_) (fun c_9 => ?_)
      · have hw := hw.1 c_9
        refine lv_iconst (v := (5 : Int32)) hx hb dX2_play_96 (by decide) ?_
        refine lv_iload_n hx hb dX2_play_97 rfl (lv_at hl 1 rfl) ?_
        refine lv_imul hx hb dX2_play_98 ?_
        refine lv_istore_n (lv' := [(3, .int (((5 : Int32) * v1))), (0, .ref (h 0)), (1, .int (v1)), (2, .int (v2))]) hx hb dX2_play_99 rfl hl (by decide) rfl (fun ls hl => ?_)
        obtain ⟨n100, hw⟩ := hw
        exact lp_X2_play_100 F hin hr hlk n100 (v1) (v2) (((5 : Int32) * v1)) S _ _ I ls (lv_sub hl [1, 2, 3, 0] rfl) hw
      · have hw := hw.2 c_9
        refine lv_aload_n hx hb dX2_play_25 rfl (lv_at hl 0 rfl) ?_
        refine lv_aload_n hx hb dX2_play_26 rfl (lv_at hl 0 rfl) ?_
        refine m_get F hin I 11 (by decide) (v := .ref (h 9)) rfl (hts (.fieldLink RX2 35 "CuttingTableModel" "list" "[I") (by decide +kernel)) dX2_play_27 ?_
        refine lv_iconst (v := (5 : Int32)) hx hb dX2_play_30 (by decide) ?_
        refine lv_iload_n hx hb dX2_play_31 rfl (lv_at hl 1 rfl) ?_
        refine lv_imul hx hb dX2_play_32 ?_
        obtain ⟨hi10, hw⟩ := hw
        refine m_iald F I 9 80 (by decide) hi10 dX2_play_33 ?_
        refine lv_aload_n hx hb dX2_play_34 rfl (lv_at hl 0 rfl) ?_
        refine m_get F hin I 11 (by decide) (v := .ref (h 9)) rfl (hts (.fieldLink RX2 35 "CuttingTableModel" "list" "[I") (by decide +kernel)) dX2_play_35 ?_
        refine lv_iconst (v := (5 : Int32)) hx hb dX2_play_38 (by decide) ?_
        refine lv_iload_n hx hb dX2_play_39 rfl (lv_at hl 1 rfl) ?_
        refine lv_imul hx hb dX2_play_40 ?_
        refine lv_iconst (v := (1 : Int32)) hx hb dX2_play_41 (by decide) ?_
        refine lv_iadd hx hb dX2_play_42 ?_
        obtain ⟨hi11, hw⟩ := hw
        refine m_iald F I 9 80 (by decide) hi11 dX2_play_43 ?_
        refine lv_i2l hx hb dX2_play_44 rfl ?_
        refine lv_aload_n hx hb dX2_play_45 rfl (lv_at hl 0 rfl) ?_
        refine m_get F hin I 11 (by decide) (v := .ref (h 9)) rfl (hts (.fieldLink RX2 35 "CuttingTableModel" "list" "[I") (by decide +kernel)) dX2_play_46 ?_
        refine lv_iconst (v := (5 : Int32)) hx hb dX2_play_49 (by decide) ?_
        refine lv_iload_n hx hb dX2_play_50 rfl (lv_at hl 1 rfl) ?_
        refine lv_imul hx hb dX2_play_51 ?_
        refine lv_iconst (v := (2 : Int32)) hx hb dX2_play_52 (by decide) ?_
        refine lv_iadd hx hb dX2_play_53 ?_
        obtain ⟨hi12, hw⟩ := hw
        refine m_iald F I 9 80 (by decide) hi12 dX2_play_54 ?_
        refine lv_aload_n hx hb dX2_play_55 rfl (lv_at hl 0 rfl) ?_
        refine m_get F hin I 11 (by decide) (v := .ref (h 9)) rfl (hts (.fieldLink RX2 35 "CuttingTableModel" "list" "[I") (by decide +kernel)) dX2_play_56 ?_
        refine lv_iconst (v := (5 : Int32)) hx hb dX2_play_59 (by decide) ?_
        refine lv_iload_n hx hb dX2_play_60 rfl (lv_at hl 1 rfl) ?_
        refine lv_imul hx hb dX2_play_61 ?_
        refine lv_iconst (v := (3 : Int32)) hx hb dX2_play_62 (by decide) ?_
        refine lv_iadd hx hb dX2_play_63 ?_
        obtain ⟨hi13, hw⟩ := hw
        refine m_iald F I 9 80 (by decide) hi13 dX2_play_64 ?_
        refine lv_i2l hx hb dX2_play_65 rfl ?_
        refine lv_aload_n hx hb dX2_play_66 rfl (lv_at hl 0 rfl) ?_
        refine m_get F hin I 11 (by decide) (v := .ref (h 9)) rfl (hts (.fieldLink RX2 35 "CuttingTableModel" "list" "[I") (by decide +kernel)) dX2_play_67 ?_
        refine lv_iconst (v := (5 : Int32)) hx hb dX2_play_70 (by decide) ?_
        refine lv_iload_n hx hb dX2_play_71 rfl (lv_at hl 1 rfl) ?_
        refine lv_imul hx hb dX2_play_72 ?_
        refine lv_iconst (v := (4 : Int32)) hx hb dX2_play_73 (by decide) ?_
        refine lv_iadd hx hb dX2_play_74 ?_
        obtain ⟨hi14, hw⟩ := hw
        refine m_iald F I 9 80 (by decide) hi14 dX2_play_75 ?_
        refine lv_i2l hx hb dX2_play_76 rfl ?_
        refine m_calli (rest := []) F I (c_X2_spliced (((S).ia 9 (((5 : Int32) * v1)).toNatClampNeg)) ((((S).ia 9 ((((5 : Int32) * v1) + (1 : Int32))).toNatClampNeg)).toInt64) (((S).ia 9 ((((5 : Int32) * v1) + (2 : Int32))).toNatClampNeg)) ((((S).ia 9 ((((5 : Int32) * v1) + (3 : Int32))).toNatClampNeg)).toInt64) ((((S).ia 9 ((((5 : Int32) * v1) + (4 : Int32))).toNatClampNeg)).toInt64) _ _ hw) (cwV 5 hts gX2_play_X2_spliced rfl rfl rfl (by decide +kernel) ⟨Nat.le_of_ble_eq_true rfl, Nat.le_of_ble_eq_true rfl⟩) rfl hl.1 rfl (Nat.le_of_ble_eq_true rfl) dX2_play_77 ⟨Nat.zero_le _, Nat.zero_le _⟩ (fun r15 S16 H locs hw I => ?_)
        refine lv_istore_n (lv' := [(2, .int (r15)), (0, .ref (h 0)), (1, .int (v1))]) hx hb dX2_play_80 rfl hl (by decide) rfl (fun ls hl => ?_)
        refine lv_iload_n hx hb dX2_play_81 rfl (lv_at hl 2 rfl) ?_
        refine lv_iload_n hx hb dX2_play_82 rfl (lv_at hl 0 rfl) ?_
        refine lv_if_ne (tgt := 90) hx hb dX2_play_83 (by decide) (fun c_17 => ?_) (fun c_17 => ?_)
        · have hw := hw.1 c_17
          refine lv_iconst (v := (0 : Int32)) hx hb dX2_play_90 (by decide) ?_
          refine lv_iadd hx hb dX2_play_91 ?_
          refine lv_istore_n (lv' := [(1, .int ((v1 + (0 : Int32)))), (2, .int (r15)), (0, .ref (h 0))]) hx hb dX2_play_92 rfl hl (by decide) rfl (fun ls hl => ?_)
          refine lv_goto (tgt := 13) hx hb dX2_play_93 (by decide) ?_
          exact ih ((v1 + (0 : Int32))) (r15) S16 _ _ I ls (lv_sub hl [2, 0, 1] rfl) hw
        · have hw := hw.2 c_17
          refine lv_iconst (v := (1 : Int32)) hx hb dX2_play_86 (by decide) ?_
          refine lv_goto (tgt := 91) hx hb dX2_play_87 (by decide) ?_
          refine lv_iadd hx hb dX2_play_91 ?_
          refine lv_istore_n (lv' := [(1, .int ((v1 + (1 : Int32)))), (2, .int (r15)), (0, .ref (h 0))]) hx hb dX2_play_92 rfl hl (by decide) rfl (fun ls hl => ?_)
          refine lv_goto (tgt := 13) hx hb dX2_play_93 (by decide) ?_
          exact ih ((v1 + (1 : Int32))) (r15) S16 _ _ I ls (lv_sub hl [2, 0, 1] rfl) hw
set_option maxHeartbeats 4000000 in
set_option maxRecDepth 100000 in
theorem c_X2_play {l : Launch} {D : va_G} {cI cJ : ClassId} {h : Nat → Nat}  (S : mS) (K : Int32 → mS → Prop) (hw : wp_X2_play  S K) : mMi l D cI cJ h yX2_play wsX2_play rm_X2_play [.ref (h 0)] K S := by
  refine m_starti (rt := some .int) (by decide) rfl rfl (Nat.le_of_ble_eq_true rfl) ?_
  intro p e s m below meth c A ls F hr hlk I hl
  have hin : ∀ w ∈ u_ws RX2 TX2 24, w ∈ wsX2_play := by decide +kernel
  obtain ⟨hx, hb, hml, hown, hts⟩ := id F
  have hl : lv_has ls 4 [(0, .ref (h 0))] := hl
  unfold wp_X2_play at hw
  refine lv_aload_n hx hb dX2_play_0 rfl (lv_at hl 0 rfl) ?_
  refine lv_iconst (v := (0 : Int32)) hx hb dX2_play_1 (by decide) ?_
  refine m_put F hin I 23 (by decide) (hts (.fieldLink RX2 44 "CuttingTableModel" "thrown" "I") (by decide +kernel)) dX2_play_2 (fun H locs I => ?_)
  refine lv_aload_n hx hb dX2_play_5 rfl (lv_at hl 0 rfl) ?_
  refine m_callv (rest := []) F I (c_X2_begin  _ _ hw) (cwV 0 hts gX2_play_X2_begin rfl rfl rfl (by decide +kernel) ⟨Nat.le_of_ble_eq_true rfl, Nat.le_of_ble_eq_true rfl⟩) rfl hl.1 rfl (Nat.le_of_ble_eq_true rfl) dX2_play_6 ⟨Nat.zero_le _, Nat.zero_le _⟩ (fun S2 H locs hw I => ?_)
  refine lv_iconst (v := (0 : Int32)) hx hb dX2_play_9 (by decide) ?_
  refine lv_istore_n (lv' := [(1, .int ((0 : Int32))), (0, .ref (h 0))]) hx hb dX2_play_10 rfl hl (by decide) rfl (fun ls hl => ?_)
  refine lv_iconst (v := (0 : Int32)) hx hb dX2_play_11 (by decide) ?_
  refine lv_istore_n (lv' := [(2, .int ((0 : Int32))), (1, .int ((0 : Int32))), (0, .ref (h 0))]) hx hb dX2_play_12 rfl hl (by decide) rfl (fun ls hl => ?_)
  obtain ⟨n13, hw⟩ := hw
  exact lp_X2_play_13 F hin hr hlk n13 ((0 : Int32)) ((0 : Int32)) S2 _ _ I ls (lv_sub hl [2, 1, 0] rfl) hw
abbrev rm_X2_takeBack : Room := { frames := 0, cells := 0, slots := 0, locals := 0 }
def wl_X2_takeBack_12 (K : Int32 → mS → Prop) : Nat → Int32 → Int32 → mS → Prop
  | 0, _, _, _ => False
  | n + 1, v1, v2, S => ((v1 ≤ v2 → K (v1) (S.si 16 (0 : Int32))) ∧ (¬ v1 ≤ v2 → (vp_in (v2) 24 ∧ (vp_in (((((24 : Int32) * ((S).fi 14)) + ((S).fi 15)) + v2)) 12312 ∧ wl_X2_takeBack_12 K n (v1) ((v2 + (1 : Int32))) (S.sl 3 (((((24 : Int32) * ((S).fi 14)) + ((S).fi 15)) + v2)).toNatClampNeg (((S).la 10 (v2).toNatClampNeg)))))))
def wp_X2_takeBack  (S : mS) (K : Int32 → mS → Prop) : Prop := (∃ n12 : Nat, wl_X2_takeBack_12 K n12 ((((S.si 23 (0 : Int32))).fi 16)) ((0 : Int32)) (S.si 23 (0 : Int32)))
set_option maxHeartbeats 4000000 in
set_option maxRecDepth 100000 in
theorem lp_X2_takeBack_12 {p : Program} {l : Launch} {e : Env} {s : State} {m : MethodId} {args : Array Value} {below : List Frame} {meth : Method} {c : Code} {D : va_G} {cI cJ : ClassId} {h : Nat → Nat} {A : Nat → Prop} {K : Int32 → mS → Prop} (F : CallFix p m c cX2_takeBack 3 s args wsX2_takeBack RX2) (hin : ∀ w ∈ u_ws RX2 TX2 24, w ∈ wsX2_takeBack) (hr : meth.sig.returnType = some .int) (hlk : meth.locks = false) :
    ∀ (n : Nat) (v1 : Int32) (v2 : Int32) (S : mS) (H : Heap) (locs : List Loc), mI D cI cJ h A s s.heap H locs S → ∀ (ls : Array Slot), lv_has ls 3 [(0, .ref (h 0)), (1, .int (v1)), (2, .int (v2))] → wl_X2_takeBack_12 K n v1 v2 S → W p l e rm_X2_takeBack s m args below meth c H locs 0 0 (MQ below (va_Qi K (mB D cI cJ h A) A) args s 0 0 A) (F0 m 12 ls []) := by
  obtain ⟨hx, hb, hml, hown, hts⟩ := id F
  intro n
  induction n with
  | zero => intro v1 v2 S H locs I ls hl hw; exact hw.elim
  | succ n ih =>
    intro v1 v2 S H locs I ls hl hw
    rw [wl_X2_takeBack_12] at hw
    refine lv_iload_n hx hb dX2_takeBack_12 rfl (lv_at hl 2 rfl) ?_
    refine lv_iload_n hx hb dX2_takeBack_13 rfl (lv_at hl 1 rfl) ?_
    refine lv_icmp_ge (tgt := 48) hx hb dX2_takeBack_14 (by decide) (fun c_1 => ?_) (fun c_1 => ?_)
    · have hw := hw.1 c_1
      refine lv_aload_n hx hb dX2_takeBack_48 rfl (lv_at hl 0 rfl) ?_
      refine lv_iconst (v := (0 : Int32)) hx hb dX2_takeBack_49 (by decide) ?_
      refine m_put F hin I 16 (by decide) (hts (.fieldLink RX2 96 "CuttingTableModel" "binMany" "I") (by decide +kernel)) dX2_takeBack_50 (fun H locs I => ?_)
      refine lv_iload_n hx hb dX2_takeBack_53 rfl (lv_at hl 1 rfl) ?_
      exact m_reti F hr hlk I dX2_takeBack_54 hw
    · have hw := hw.2 c_1
      refine lv_aload_n hx hb dX2_takeBack_17 rfl (lv_at hl 0 rfl) ?_
      refine m_get F hin I 2 (by decide) (v := .ref (h 3)) rfl (hts (.fieldLink RX2 16 "CuttingTableModel" "cells" "[J") (by decide +kernel)) dX2_takeBack_18 ?_
      refine lv_bipush (v := (24 : Int32)) hx hb dX2_takeBack_21 (by decide) ?_
      refine lv_aload_n hx hb dX2_takeBack_23 rfl (lv_at hl 0 rfl) ?_
      refine m_get F hin I 14 (by decide) (v := .int (((S).fi 14))) rfl (hts (.fieldLink RX2 116 "CuttingTableModel" "binReel" "I") (by decide +kernel)) dX2_takeBack_24 ?_
      refine lv_imul hx hb dX2_takeBack_27 ?_
      refine lv_aload_n hx hb dX2_takeBack_28 rfl (lv_at hl 0 rfl) ?_
      refine m_get F hin I 15 (by decide) (v := .int (((S).fi 15))) rfl (hts (.fieldLink RX2 119 "CuttingTableModel" "binFrom" "I") (by decide +kernel)) dX2_takeBack_29 ?_
      refine lv_iadd hx hb dX2_takeBack_32 ?_
      refine lv_iload_n hx hb dX2_takeBack_33 rfl (lv_at hl 2 rfl) ?_
      refine lv_iadd hx hb dX2_takeBack_34 ?_
      refine lv_aload_n hx hb dX2_takeBack_35 rfl (lv_at hl 0 rfl) ?_
      refine m_get F hin I 13 (by decide) (v := .ref (h 10)) rfl (hts (.fieldLink RX2 38 "CuttingTableModel" "bin" "[J") (by decide +kernel)) dX2_takeBack_36 ?_
      refine lv_iload_n hx hb dX2_takeBack_39 rfl (lv_at hl 2 rfl) ?_
      obtain ⟨hi2, hw⟩ := hw
      refine m_lald F I 10 24 (by decide) hi2 dX2_takeBack_40 ?_
      obtain ⟨hi3, hw⟩ := hw
      refine m_last F I 3 12312 (by decide) hi3 dX2_takeBack_41 (fun H locs I => ?_)
      refine lv_iinc (v := (v2 + (1 : Int32))) (lv' := [(2, .int ((v2 + (1 : Int32)))), (0, .ref (h 0)), (1, .int (v1))]) hx hb dX2_takeBack_42 hl (k := 2) rfl rfl (by decide) rfl (fun ls hl => ?_)
      refine lv_goto (tgt := 12) hx hb dX2_takeBack_45 (by decide) ?_
      exact ih (v1) ((v2 + (1 : Int32))) (S.sl 3 (((((24 : Int32) * ((S).fi 14)) + ((S).fi 15)) + v2)).toNatClampNeg (((S).la 10 (v2).toNatClampNeg))) _ _ I ls (lv_sub hl [1, 2, 0] rfl) hw
set_option maxHeartbeats 4000000 in
set_option maxRecDepth 100000 in
theorem c_X2_takeBack {l : Launch} {D : va_G} {cI cJ : ClassId} {h : Nat → Nat}  (S : mS) (K : Int32 → mS → Prop) (hw : wp_X2_takeBack  S K) : mMi l D cI cJ h yX2_takeBack wsX2_takeBack rm_X2_takeBack [.ref (h 0)] K S := by
  refine m_starti (rt := some .int) (by decide) rfl rfl (Nat.le_of_ble_eq_true rfl) ?_
  intro p e s m below meth c A ls F hr hlk I hl
  have hin : ∀ w ∈ u_ws RX2 TX2 24, w ∈ wsX2_takeBack := by decide +kernel
  obtain ⟨hx, hb, hml, hown, hts⟩ := id F
  have hl : lv_has ls 3 [(0, .ref (h 0))] := hl
  unfold wp_X2_takeBack at hw
  refine lv_aload_n hx hb dX2_takeBack_0 rfl (lv_at hl 0 rfl) ?_
  refine lv_iconst (v := (0 : Int32)) hx hb dX2_takeBack_1 (by decide) ?_
  refine m_put F hin I 23 (by decide) (hts (.fieldLink RX2 44 "CuttingTableModel" "thrown" "I") (by decide +kernel)) dX2_takeBack_2 (fun H locs I => ?_)
  refine lv_aload_n hx hb dX2_takeBack_5 rfl (lv_at hl 0 rfl) ?_
  refine m_get F hin I 16 (by decide) (v := .int ((((S.si 23 (0 : Int32))).fi 16))) rfl (hts (.fieldLink RX2 96 "CuttingTableModel" "binMany" "I") (by decide +kernel)) dX2_takeBack_6 ?_
  refine lv_istore_n (lv' := [(1, .int ((((S.si 23 (0 : Int32))).fi 16))), (0, .ref (h 0))]) hx hb dX2_takeBack_9 rfl hl (by decide) rfl (fun ls hl => ?_)
  refine lv_iconst (v := (0 : Int32)) hx hb dX2_takeBack_10 (by decide) ?_
  refine lv_istore_n (lv' := [(2, .int ((0 : Int32))), (1, .int ((((S.si 23 (0 : Int32))).fi 16))), (0, .ref (h 0))]) hx hb dX2_takeBack_11 rfl hl (by decide) rfl (fun ls hl => ?_)
  obtain ⟨n12, hw⟩ := hw
  exact lp_X2_takeBack_12 F hin hr hlk n12 ((((S.si 23 (0 : Int32))).fi 16)) ((0 : Int32)) (S.si 23 (0 : Int32)) _ _ I ls (lv_sub hl [2, 1, 0] rfl) hw
abbrev rm_X2_noGap : Room := { frames := 2, cells := 0, slots := 0, locals := 41 }
def wp_X2_noGap (p0 : Int32) (p1 : Int32) (p2 : Int32) (S : mS) (K : Int32 → mS → Prop) : Prop := wp_X2_begin  S (fun S2 => wp_X2_noReel (p0) S2 (fun r3 S4 => ((r3 ≤ 0 → (vp_in (p0) 8 ∧ (vp_in (((S4).ia 5 (p0).toNatClampNeg)) 513 ∧ wp_X2_wayOf ((p1).toInt64) ((0 : Int64)) ((p2).toInt64) (((S4).ia 2 (((S4).ia 5 (p0).toNatClampNeg)).toNatClampNeg)) ((2147483647 : Int32)) (fun r8 => (((((S4.si 19 (r8))).fi 19) ≤ 0 → K ((0 : Int32)) (S4.si 19 (r8))) ∧ (¬ (((S4.si 19 (r8))).fi 19) ≤ 0 → K ((4 : Int32)) (S4.si 19 (r8)))))))) ∧ (¬ r3 ≤ 0 → K (r3) S4))))
set_option maxHeartbeats 4000000 in
set_option maxRecDepth 100000 in
theorem c_X2_noGap {l : Launch} {D : va_G} {cI cJ : ClassId} {h : Nat → Nat} (p0 : Int32) (p1 : Int32) (p2 : Int32) (S : mS) (K : Int32 → mS → Prop) (hw : wp_X2_noGap p0 p1 p2 S K) : mMi l D cI cJ h yX2_noGap wsX2_noGap rm_X2_noGap [.ref (h 0), .int (p0), .int (p1), .int (p2)] K S := by
  refine m_starti (rt := some .int) (by decide) rfl rfl (Nat.le_of_ble_eq_true rfl) ?_
  intro p e s m below meth c A ls F hr hlk I hl
  have hin : ∀ w ∈ u_ws RX2 TX2 24, w ∈ wsX2_noGap := by decide +kernel
  obtain ⟨hx, hb, hml, hown, hts⟩ := id F
  have hl : lv_has ls 5 [(0, .ref (h 0)), (1, .int (p0)), (2, .int (p1)), (3, .int (p2))] := hl
  unfold wp_X2_noGap at hw
  refine lv_aload_n hx hb dX2_noGap_0 rfl (lv_at hl 0 rfl) ?_
  refine m_callv (rest := []) F I (c_X2_begin  _ _ hw) (cwV 0 hts gX2_noGap_X2_begin rfl rfl rfl (by decide +kernel) ⟨Nat.le_of_ble_eq_true rfl, Nat.le_of_ble_eq_true rfl⟩) rfl hl.1 rfl (Nat.le_of_ble_eq_true rfl) dX2_noGap_1 ⟨Nat.zero_le _, Nat.zero_le _⟩ (fun S2 H locs hw I => ?_)
  refine lv_aload_n hx hb dX2_noGap_4 rfl (lv_at hl 0 rfl) ?_
  refine lv_iload_n hx hb dX2_noGap_5 rfl (lv_at hl 1 rfl) ?_
  refine m_calli (rest := []) F I (c_X2_noReel (p0) _ _ hw) (cwV 1 hts gX2_noGap_X2_noReel rfl rfl rfl (by decide +kernel) ⟨Nat.le_of_ble_eq_true rfl, Nat.le_of_ble_eq_true rfl⟩) rfl hl.1 rfl (Nat.le_of_ble_eq_true rfl) dX2_noGap_6 ⟨Nat.zero_le _, Nat.zero_le _⟩ (fun r3 S4 H locs hw I => ?_)
  refine lv_istore (lv' := [(4, .int (r3)), (0, .ref (h 0)), (1, .int (p0)), (2, .int (p1)), (3, .int (p2))]) hx hb dX2_noGap_9 hl (by decide) rfl (fun ls hl => ?_)
  refine lv_iload hx hb dX2_noGap_11 (lv_at hl 0 rfl) ?_
  refine lv_if_le (tgt := 19) hx hb dX2_noGap_13 (by decide) (fun c_5 => ?_) (fun c_5 => ?_)
  · have hw := hw.1 c_5
    refine lv_aload_n hx hb dX2_noGap_19 rfl (lv_at hl 1 rfl) ?_
    refine lv_iload_n hx hb dX2_noGap_20 rfl (lv_at hl 3 rfl) ?_
    refine lv_i2l hx hb dX2_noGap_21 rfl ?_
    refine lv_lconst (v := (0 : Int64)) hx hb dX2_noGap_22 (by decide) ?_
    refine lv_iload_n hx hb dX2_noGap_23 rfl (lv_at hl 4 rfl) ?_
    refine lv_i2l hx hb dX2_noGap_24 rfl ?_
    refine lv_aload_n hx hb dX2_noGap_25 rfl (lv_at hl 1 rfl) ?_
    refine m_get F hin I 1 (by decide) (v := .ref (h 2)) rfl (hts (.fieldLink RX2 13 "CuttingTableModel" "sizes" "[I") (by decide +kernel)) dX2_noGap_26 ?_
    refine lv_aload_n hx hb dX2_noGap_29 rfl (lv_at hl 1 rfl) ?_
    refine m_get F hin I 5 (by decide) (v := .ref (h 5)) rfl (hts (.fieldLink RX2 23 "CuttingTableModel" "which" "[I") (by decide +kernel)) dX2_noGap_30 ?_
    refine lv_iload_n hx hb dX2_noGap_33 rfl (lv_at hl 2 rfl) ?_
    obtain ⟨hi6, hw⟩ := hw
    refine m_iald F I 5 8 (by decide) hi6 dX2_noGap_34 ?_
    obtain ⟨hi7, hw⟩ := hw
    refine m_iald F I 2 513 (by decide) hi7 dX2_noGap_35 ?_
    refine lv_ldc hx hb hown (hts (.constant RX2 132 (2147483647)) (by decide +kernel)) dX2_noGap_36 ?_
    refine s_calli (rest := [.ref (h 0)]) F (c_X2_wayOf ((p1).toInt64) ((0 : Int64)) ((p2).toInt64) (((S4).ia 2 (((S4).ia 5 (p0).toNatClampNeg)).toNatClampNeg)) ((2147483647 : Int32)) _ hw) (va_cwS 5 hts gX2_noGap_X2_wayOf rfl rfl rfl (by decide +kernel) ⟨Nat.le_of_ble_eq_true rfl, Nat.le_of_ble_eq_true rfl⟩) rfl hl.1 rfl (Nat.le_of_ble_eq_true rfl) dX2_noGap_38 ⟨Nat.zero_le _, Nat.zero_le _⟩ (fun r8 hw => ?_)
    refine m_put F hin I 19 (by decide) (hts (.fieldLink RX2 51 "CuttingTableModel" "way" "I") (by decide +kernel)) dX2_noGap_41 (fun H locs I => ?_)
    refine lv_aload_n hx hb dX2_noGap_44 rfl (lv_at hl 1 rfl) ?_
    refine m_get F hin I 19 (by decide) (v := .int ((((S4.si 19 (r8))).fi 19))) rfl (hts (.fieldLink RX2 51 "CuttingTableModel" "way" "I") (by decide +kernel)) dX2_noGap_45 ?_
    refine lv_if_le (tgt := 55) hx hb dX2_noGap_48 (by decide) (fun c_9 => ?_) (fun c_9 => ?_)
    · have hw := hw.1 c_9
      refine lv_iconst (v := (0 : Int32)) hx hb dX2_noGap_55 (by decide) ?_
      exact m_reti F hr hlk I dX2_noGap_56 hw
    · have hw := hw.2 c_9
      refine lv_iconst (v := (4 : Int32)) hx hb dX2_noGap_51 (by decide) ?_
      refine lv_goto (tgt := 56) hx hb dX2_noGap_52 (by decide) ?_
      exact m_reti F hr hlk I dX2_noGap_56 hw
  · have hw := hw.2 c_5
    refine lv_iload hx hb dX2_noGap_16 (lv_at hl 0 rfl) ?_
    exact m_reti F hr hlk I dX2_noGap_18 hw
abbrev rm_X2_open : Room := { frames := 3, cells := 0, slots := 0, locals := 65 }
def wl_X2_open_95 (K : Int32 → mS → Prop) : Nat → Int32 → Int32 → Int32 → Int32 → Int32 → Int32 → Int32 → mS → Prop
  | 0, _, _, _, _, _, _, _, _ => False
  | n + 1, v1, v2, v3, v4, v5, v6, v7, S => (((v2 + v3) ≤ v7 → wp_X2_told ((0 : Int32)) (S.si 16 (0 : Int32)) (fun r8 S9 => K (((v6 - v2) - v3)) S9)) ∧ (¬ (v2 + v3) ≤ v7 → (vp_in (v5) 513 ∧ wp_X2_isOfNumbers (((S).ia 1 (v5).toNatClampNeg)) (fun r11 => ((r11 = 0 → (vp_in ((((24 : Int32) * v5) + v7)) 12312 ∧ wl_X2_open_95 K n (v1) (v2) (v3) (v4) (v5) (v6) ((v7 + (1 : Int32))) (S.sl 3 ((((24 : Int32) * v5) + v7)).toNatClampNeg ((-1 : Int64))))) ∧ (¬ r11 = 0 → (vp_in ((((24 : Int32) * v5) + v7)) 12312 ∧ wl_X2_open_95 K n (v1) (v2) (v3) (v4) (v5) (v6) ((v7 + (1 : Int32))) (S.sl 3 ((((24 : Int32) * v5) + v7)).toNatClampNeg ((0 : Int64))))))))))
def wl_X2_open_50 (K : Int32 → mS → Prop) : Nat → Int32 → Int32 → Int32 → Int32 → Int32 → Int32 → Int32 → mS → Prop
  | 0, _, _, _, _, _, _, _, _ => False
  | n + 1, v1, v2, v3, v4, v5, v6, v7, S => ((v7 < (v2 + v3) → (∃ n95 : Nat, wl_X2_open_95 K n95 (v1) (v2) (v3) (v4) (v5) (v6) (v2) S)) ∧ (¬ v7 < (v2 + v3) → (vp_in (((((24 : Int32) * v5) + v7) - v3)) 12312 ∧ (vp_in ((((24 : Int32) * v5) + v7)) 12312 ∧ wl_X2_open_50 K n (v1) (v2) (v3) (v4) (v5) (v6) ((v7 + (-1 : Int32))) (S.sl 3 ((((24 : Int32) * v5) + v7)).toNatClampNeg (((S).la 3 (((((24 : Int32) * v5) + v7) - v3)).toNatClampNeg)))))))
def wp_X2_open (p0 : Int32) (p1 : Int32) (p2 : Int32) (S : mS) (K : Int32 → mS → Prop) : Prop := wp_X2_noGap (p0) (p1) (p2) (S.si 23 (0 : Int32)) (fun r1 S2 => ((r1 ≤ 0 → (vp_in (p0) 8 ∧ (vp_in (((S2).ia 5 (p0).toNatClampNeg)) 513 ∧ (∃ n50 : Nat, wl_X2_open_50 K n50 (p0) (p1) (p2) (r1) (((S2).ia 5 (p0).toNatClampNeg)) (((S2).ia 2 (((S2).ia 5 (p0).toNatClampNeg)).toNatClampNeg)) ((((S2).ia 2 (((S2).ia 5 (p0).toNatClampNeg)).toNatClampNeg) - (1 : Int32))) S2)))) ∧ (¬ r1 ≤ 0 → wp_X2_told (r1) S2 (fun r17 S18 => K ((-r17)) S18))))
set_option maxHeartbeats 4000000 in
set_option maxRecDepth 100000 in
theorem lp_X2_open_95 {p : Program} {l : Launch} {e : Env} {s : State} {m : MethodId} {args : Array Value} {below : List Frame} {meth : Method} {c : Code} {D : va_G} {cI cJ : ClassId} {h : Nat → Nat} {A : Nat → Prop} {K : Int32 → mS → Prop} (F : CallFix p m c cX2_open 8 s args wsX2_open RX2) (hin : ∀ w ∈ u_ws RX2 TX2 24, w ∈ wsX2_open) (hr : meth.sig.returnType = some .int) (hlk : meth.locks = false) :
    ∀ (n : Nat) (v1 : Int32) (v2 : Int32) (v3 : Int32) (v4 : Int32) (v5 : Int32) (v6 : Int32) (v7 : Int32) (S : mS) (H : Heap) (locs : List Loc), mI D cI cJ h A s s.heap H locs S → ∀ (ls : Array Slot), lv_has ls 8 [(0, .ref (h 0)), (1, .int (v1)), (2, .int (v2)), (3, .int (v3)), (4, .int (v4)), (5, .int (v5)), (6, .int (v6)), (7, .int (v7))] → wl_X2_open_95 K n v1 v2 v3 v4 v5 v6 v7 S → W p l e rm_X2_open s m args below meth c H locs 0 0 (MQ below (va_Qi K (mB D cI cJ h A) A) args s 0 0 A) (F0 m 95 ls []) := by
  obtain ⟨hx, hb, hml, hown, hts⟩ := id F
  intro n
  induction n with
  | zero => intro v1 v2 v3 v4 v5 v6 v7 S H locs I ls hl hw; exact hw.elim
  | succ n ih =>
    intro v1 v2 v3 v4 v5 v6 v7 S H locs I ls hl hw
    rw [wl_X2_open_95] at hw
    refine lv_iload hx hb dX2_open_95 (lv_at hl 7 rfl) ?_
    refine lv_iload_n hx hb dX2_open_97 rfl (lv_at hl 2 rfl) ?_
    refine lv_iload_n hx hb dX2_open_98 rfl (lv_at hl 3 rfl) ?_
    refine lv_iadd hx hb dX2_open_99 ?_
    refine lv_icmp_ge (tgt := 142) hx hb dX2_open_100 (by decide) (fun c_7 => ?_) (fun c_7 => ?_)
    · have hw := hw.1 c_7
      refine lv_aload_n hx hb dX2_open_142 rfl (lv_at hl 0 rfl) ?_
      refine lv_iconst (v := (0 : Int32)) hx hb dX2_open_143 (by decide) ?_
      refine m_put F hin I 16 (by decide) (hts (.fieldLink RX2 96 "CuttingTableModel" "binMany" "I") (by decide +kernel)) dX2_open_144 (fun H locs I => ?_)
      refine lv_aload_n hx hb dX2_open_147 rfl (lv_at hl 0 rfl) ?_
      refine lv_iconst (v := (0 : Int32)) hx hb dX2_open_148 (by decide) ?_
      refine m_calli (rest := []) F I (c_X2_told ((0 : Int32)) _ _ hw) (cwV 1 hts gX2_open_X2_told rfl rfl rfl (by decide +kernel) ⟨Nat.le_of_ble_eq_true rfl, Nat.le_of_ble_eq_true rfl⟩) rfl hl.1 rfl (Nat.le_of_ble_eq_true rfl) dX2_open_149 ⟨Nat.zero_le _, Nat.zero_le _⟩ (fun r8 S9 H locs hw I => ?_)
      refine lv_pop hx hb dX2_open_152 rfl ?_
      refine lv_iload hx hb dX2_open_153 (lv_at hl 6 rfl) ?_
      refine lv_iload_n hx hb dX2_open_155 rfl (lv_at hl 2 rfl) ?_
      refine lv_isub hx hb dX2_open_156 ?_
      refine lv_iload_n hx hb dX2_open_157 rfl (lv_at hl 3 rfl) ?_
      refine lv_isub hx hb dX2_open_158 ?_
      exact m_reti F hr hlk I dX2_open_159 hw
    · have hw := hw.2 c_7
      refine lv_aload_n hx hb dX2_open_103 rfl (lv_at hl 0 rfl) ?_
      refine m_get F hin I 2 (by decide) (v := .ref (h 3)) rfl (hts (.fieldLink RX2 16 "CuttingTableModel" "cells" "[J") (by decide +kernel)) dX2_open_104 ?_
      refine lv_bipush (v := (24 : Int32)) hx hb dX2_open_107 (by decide) ?_
      refine lv_iload hx hb dX2_open_109 (lv_at hl 5 rfl) ?_
      refine lv_imul hx hb dX2_open_111 ?_
      refine lv_iload hx hb dX2_open_112 (lv_at hl 7 rfl) ?_
      refine lv_iadd hx hb dX2_open_114 ?_
      refine lv_aload_n hx hb dX2_open_115 rfl (lv_at hl 0 rfl) ?_
      refine m_get F hin I 0 (by decide) (v := .ref (h 1)) rfl (hts (.fieldLink RX2 7 "CuttingTableModel" "stocks" "[I") (by decide +kernel)) dX2_open_116 ?_
      refine lv_iload hx hb dX2_open_119 (lv_at hl 5 rfl) ?_
      obtain ⟨hi10, hw⟩ := hw
      refine m_iald F I 1 513 (by decide) hi10 dX2_open_121 ?_
      refine s_calli (rest := [.int ((((24 : Int32) * v5) + v7)), .ref (h 3)]) F (c_X2_isOfNumbers (((S).ia 1 (v5).toNatClampNeg)) _ hw) (va_cwS 1 hts gX2_open_X2_isOfNumbers rfl rfl rfl (by decide +kernel) ⟨Nat.le_of_ble_eq_true rfl, Nat.le_of_ble_eq_true rfl⟩) rfl hl.1 rfl (Nat.le_of_ble_eq_true rfl) dX2_open_122 ⟨Nat.zero_le _, Nat.zero_le _⟩ (fun r11 hw => ?_)
      refine lv_if_eq (tgt := 132) hx hb dX2_open_125 (by decide) (fun c_12 => ?_) (fun c_12 => ?_)
      · have hw := hw.1 c_12
        refine lv_ldc2 hx hb hown (hts (.constantLong RX2 64 (-1)) (by decide +kernel)) dX2_open_132 ?_
        obtain ⟨hi13, hw⟩ := hw
        refine m_last F I 3 12312 (by decide) hi13 dX2_open_135 (fun H locs I => ?_)
        refine lv_iinc (v := (v7 + (1 : Int32))) (lv' := [(7, .int ((v7 + (1 : Int32)))), (0, .ref (h 0)), (1, .int (v1)), (2, .int (v2)), (3, .int (v3)), (4, .int (v4)), (5, .int (v5)), (6, .int (v6))]) hx hb dX2_open_136 hl (k := 7) rfl rfl (by decide) rfl (fun ls hl => ?_)
        refine lv_goto (tgt := 95) hx hb dX2_open_139 (by decide) ?_
        exact ih (v1) (v2) (v3) (v4) (v5) (v6) ((v7 + (1 : Int32))) (S.sl 3 ((((24 : Int32) * v5) + v7)).toNatClampNeg ((-1 : Int64))) _ _ I ls (lv_sub hl [1, 2, 3, 4, 5, 6, 7, 0] rfl) hw
      · have hw := hw.2 c_12
        refine lv_lconst (v := (0 : Int64)) hx hb dX2_open_128 (by decide) ?_
        refine lv_goto (tgt := 135) hx hb dX2_open_129 (by decide) ?_
        obtain ⟨hi14, hw⟩ := hw
        refine m_last F I 3 12312 (by decide) hi14 dX2_open_135 (fun H locs I => ?_)
        refine lv_iinc (v := (v7 + (1 : Int32))) (lv' := [(7, .int ((v7 + (1 : Int32)))), (0, .ref (h 0)), (1, .int (v1)), (2, .int (v2)), (3, .int (v3)), (4, .int (v4)), (5, .int (v5)), (6, .int (v6))]) hx hb dX2_open_136 hl (k := 7) rfl rfl (by decide) rfl (fun ls hl => ?_)
        refine lv_goto (tgt := 95) hx hb dX2_open_139 (by decide) ?_
        exact ih (v1) (v2) (v3) (v4) (v5) (v6) ((v7 + (1 : Int32))) (S.sl 3 ((((24 : Int32) * v5) + v7)).toNatClampNeg ((0 : Int64))) _ _ I ls (lv_sub hl [1, 2, 3, 4, 5, 6, 7, 0] rfl) hw
set_option maxHeartbeats 4000000 in
set_option maxRecDepth 100000 in
theorem lp_X2_open_50 {p : Program} {l : Launch} {e : Env} {s : State} {m : MethodId} {args : Array Value} {below : List Frame} {meth : Method} {c : Code} {D : va_G} {cI cJ : ClassId} {h : Nat → Nat} {A : Nat → Prop} {K : Int32 → mS → Prop} (F : CallFix p m c cX2_open 8 s args wsX2_open RX2) (hin : ∀ w ∈ u_ws RX2 TX2 24, w ∈ wsX2_open) (hr : meth.sig.returnType = some .int) (hlk : meth.locks = false) :
    ∀ (n : Nat) (v1 : Int32) (v2 : Int32) (v3 : Int32) (v4 : Int32) (v5 : Int32) (v6 : Int32) (v7 : Int32) (S : mS) (H : Heap) (locs : List Loc), mI D cI cJ h A s s.heap H locs S → ∀ (ls : Array Slot), lv_has ls 8 [(0, .ref (h 0)), (1, .int (v1)), (2, .int (v2)), (3, .int (v3)), (4, .int (v4)), (5, .int (v5)), (6, .int (v6)), (7, .int (v7))] → wl_X2_open_50 K n v1 v2 v3 v4 v5 v6 v7 S → W p l e rm_X2_open s m args below meth c H locs 0 0 (MQ below (va_Qi K (mB D cI cJ h A) A) args s 0 0 A) (F0 m 50 ls []) := by
  obtain ⟨hx, hb, hml, hown, hts⟩ := id F
  intro n
  induction n with
  | zero => intro v1 v2 v3 v4 v5 v6 v7 S H locs I ls hl hw; exact hw.elim
  | succ n ih =>
    intro v1 v2 v3 v4 v5 v6 v7 S H locs I ls hl hw
    rw [wl_X2_open_50] at hw
    refine lv_iload hx hb dX2_open_50 (lv_at hl 7 rfl) ?_
    refine lv_iload_n hx hb dX2_open_52 rfl (lv_at hl 2 rfl) ?_
    refine lv_iload_n hx hb dX2_open_53 rfl (lv_at hl 3 rfl) ?_
    refine lv_iadd hx hb dX2_open_54 ?_
    refine lv_icmp_lt (tgt := 92) hx hb dX2_open_55 (by decide) (fun c_6 => ?_) (fun c_6 => ?_)
    · have hw := hw.1 c_6
      refine lv_iload_n hx hb dX2_open_92 rfl (lv_at hl 2 rfl) ?_
      refine lv_istore (lv' := [(7, .int (v2)), (0, .ref (h 0)), (1, .int (v1)), (2, .int (v2)), (3, .int (v3)), (4, .int (v4)), (5, .int (v5)), (6, .int (v6))]) hx hb dX2_open_93 hl (by decide) rfl (fun ls hl => ?_)
      obtain ⟨n95, hw⟩ := hw
      exact lp_X2_open_95 F hin hr hlk n95 (v1) (v2) (v3) (v4) (v5) (v6) (v2) S _ _ I ls (lv_sub hl [1, 2, 3, 4, 5, 6, 7, 0] rfl) hw
    · have hw := hw.2 c_6
      refine lv_aload_n hx hb dX2_open_58 rfl (lv_at hl 0 rfl) ?_
      refine m_get F hin I 2 (by decide) (v := .ref (h 3)) rfl (hts (.fieldLink RX2 16 "CuttingTableModel" "cells" "[J") (by decide +kernel)) dX2_open_59 ?_
      refine lv_bipush (v := (24 : Int32)) hx hb dX2_open_62 (by decide) ?_
      refine lv_iload hx hb dX2_open_64 (lv_at hl 5 rfl) ?_
      refine lv_imul hx hb dX2_open_66 ?_
      refine lv_iload hx hb dX2_open_67 (lv_at hl 7 rfl) ?_
      refine lv_iadd hx hb dX2_open_69 ?_
      refine lv_aload_n hx hb dX2_open_70 rfl (lv_at hl 0 rfl) ?_
      refine m_get F hin I 2 (by decide) (v := .ref (h 3)) rfl (hts (.fieldLink RX2 16 "CuttingTableModel" "cells" "[J") (by decide +kernel)) dX2_open_71 ?_
      refine lv_bipush (v := (24 : Int32)) hx hb dX2_open_74 (by decide) ?_
      refine lv_iload hx hb dX2_open_76 (lv_at hl 5 rfl) ?_
      refine lv_imul hx hb dX2_open_78 ?_
      refine lv_iload hx hb dX2_open_79 (lv_at hl 7 rfl) ?_
      refine lv_iadd hx hb dX2_open_81 ?_
      refine lv_iload_n hx hb dX2_open_82 rfl (lv_at hl 3 rfl) ?_
      refine lv_isub hx hb dX2_open_83 ?_
      obtain ⟨hi15, hw⟩ := hw
      refine m_lald F I 3 12312 (by decide) hi15 dX2_open_84 ?_
      obtain ⟨hi16, hw⟩ := hw
      refine m_last F I 3 12312 (by decide) hi16 dX2_open_85 (fun H locs I => ?_)
      refine lv_iinc (v := (v7 + (-1 : Int32))) (lv' := [(7, .int ((v7 + (-1 : Int32)))), (0, .ref (h 0)), (1, .int (v1)), (2, .int (v2)), (3, .int (v3)), (4, .int (v4)), (5, .int (v5)), (6, .int (v6))]) hx hb dX2_open_86 hl (k := 7) rfl rfl (by decide) rfl (fun ls hl => ?_)
      refine lv_goto (tgt := 50) hx hb dX2_open_89 (by decide) ?_
      exact ih (v1) (v2) (v3) (v4) (v5) (v6) ((v7 + (-1 : Int32))) (S.sl 3 ((((24 : Int32) * v5) + v7)).toNatClampNeg (((S).la 3 (((((24 : Int32) * v5) + v7) - v3)).toNatClampNeg))) _ _ I ls (lv_sub hl [1, 2, 3, 4, 5, 6, 7, 0] rfl) hw
set_option maxHeartbeats 4000000 in
set_option maxRecDepth 100000 in
theorem c_X2_open {l : Launch} {D : va_G} {cI cJ : ClassId} {h : Nat → Nat} (p0 : Int32) (p1 : Int32) (p2 : Int32) (S : mS) (K : Int32 → mS → Prop) (hw : wp_X2_open p0 p1 p2 S K) : mMi l D cI cJ h yX2_open wsX2_open rm_X2_open [.ref (h 0), .int (p0), .int (p1), .int (p2)] K S := by
  refine m_starti (rt := some .int) (by decide) rfl rfl (Nat.le_of_ble_eq_true rfl) ?_
  intro p e s m below meth c A ls F hr hlk I hl
  have hin : ∀ w ∈ u_ws RX2 TX2 24, w ∈ wsX2_open := by decide +kernel
  obtain ⟨hx, hb, hml, hown, hts⟩ := id F
  have hl : lv_has ls 8 [(0, .ref (h 0)), (1, .int (p0)), (2, .int (p1)), (3, .int (p2))] := hl
  unfold wp_X2_open at hw
  refine lv_aload_n hx hb dX2_open_0 rfl (lv_at hl 0 rfl) ?_
  refine lv_iconst (v := (0 : Int32)) hx hb dX2_open_1 (by decide) ?_
  refine m_put F hin I 23 (by decide) (hts (.fieldLink RX2 44 "CuttingTableModel" "thrown" "I") (by decide +kernel)) dX2_open_2 (fun H locs I => ?_)
  refine lv_aload_n hx hb dX2_open_5 rfl (lv_at hl 0 rfl) ?_
  refine lv_iload_n hx hb dX2_open_6 rfl (lv_at hl 1 rfl) ?_
  refine lv_iload_n hx hb dX2_open_7 rfl (lv_at hl 2 rfl) ?_
  refine lv_iload_n hx hb dX2_open_8 rfl (lv_at hl 3 rfl) ?_
  refine m_calli (rest := []) F I (c_X2_noGap (p0) (p1) (p2) _ _ hw) (cwV 3 hts gX2_open_X2_noGap rfl rfl rfl (by decide +kernel) ⟨Nat.le_of_ble_eq_true rfl, Nat.le_of_ble_eq_true rfl⟩) rfl hl.1 rfl (Nat.le_of_ble_eq_true rfl) dX2_open_9 ⟨Nat.zero_le _, Nat.zero_le _⟩ (fun r1 S2 H locs hw I => ?_)
  refine lv_istore (lv' := [(4, .int (r1)), (0, .ref (h 0)), (1, .int (p0)), (2, .int (p1)), (3, .int (p2))]) hx hb dX2_open_12 hl (by decide) rfl (fun ls hl => ?_)
  refine lv_iload hx hb dX2_open_14 (lv_at hl 0 rfl) ?_
  refine lv_if_le (tgt := 27) hx hb dX2_open_16 (by decide) (fun c_3 => ?_) (fun c_3 => ?_)
  · have hw := hw.1 c_3
    refine lv_aload_n hx hb dX2_open_27 rfl (lv_at hl 1 rfl) ?_
    refine m_get F hin I 5 (by decide) (v := .ref (h 5)) rfl (hts (.fieldLink RX2 23 "CuttingTableModel" "which" "[I") (by decide +kernel)) dX2_open_28 ?_
    refine lv_iload_n hx hb dX2_open_31 rfl (lv_at hl 2 rfl) ?_
    obtain ⟨hi4, hw⟩ := hw
    refine m_iald F I 5 8 (by decide) hi4 dX2_open_32 ?_
    refine lv_istore (lv' := [(5, .int (((S2).ia 5 (p0).toNatClampNeg))), (4, .int (r1)), (0, .ref (h 0)), (1, .int (p0)), (2, .int (p1)), (3, .int (p2))]) hx hb dX2_open_33 hl (by decide) rfl (fun ls hl => ?_)
    refine lv_aload_n hx hb dX2_open_35 rfl (lv_at hl 2 rfl) ?_
    refine m_get F hin I 1 (by decide) (v := .ref (h 2)) rfl (hts (.fieldLink RX2 13 "CuttingTableModel" "sizes" "[I") (by decide +kernel)) dX2_open_36 ?_
    refine lv_iload hx hb dX2_open_39 (lv_at hl 0 rfl) ?_
    obtain ⟨hi5, hw⟩ := hw
    refine m_iald F I 2 513 (by decide) hi5 dX2_open_41 ?_
    refine lv_istore (lv' := [(6, .int (((S2).ia 2 (((S2).ia 5 (p0).toNatClampNeg)).toNatClampNeg))), (5, .int (((S2).ia 5 (p0).toNatClampNeg))), (4, .int (r1)), (0, .ref (h 0)), (1, .int (p0)), (2, .int (p1)), (3, .int (p2))]) hx hb dX2_open_42 hl (by decide) rfl (fun ls hl => ?_)
    refine lv_iload hx hb dX2_open_44 (lv_at hl 0 rfl) ?_
    refine lv_iconst (v := (1 : Int32)) hx hb dX2_open_46 (by decide) ?_
    refine lv_isub hx hb dX2_open_47 ?_
    refine lv_istore (lv' := [(7, .int ((((S2).ia 2 (((S2).ia 5 (p0).toNatClampNeg)).toNatClampNeg) - (1 : Int32)))), (6, .int (((S2).ia 2 (((S2).ia 5 (p0).toNatClampNeg)).toNatClampNeg))), (5, .int (((S2).ia 5 (p0).toNatClampNeg))), (4, .int (r1)), (0, .ref (h 0)), (1, .int (p0)), (2, .int (p1)), (3, .int (p2))]) hx hb dX2_open_48 hl (by decide) rfl (fun ls hl => ?_)
    obtain ⟨n50, hw⟩ := hw
    exact lp_X2_open_50 F hin hr hlk n50 (p0) (p1) (p2) (r1) (((S2).ia 5 (p0).toNatClampNeg)) (((S2).ia 2 (((S2).ia 5 (p0).toNatClampNeg)).toNatClampNeg)) ((((S2).ia 2 (((S2).ia 5 (p0).toNatClampNeg)).toNatClampNeg) - (1 : Int32))) S2 _ _ I ls (lv_sub hl [4, 5, 6, 7, 3, 2, 1, 0] rfl) hw
  · have hw := hw.2 c_3
    refine lv_aload_n hx hb dX2_open_19 rfl (lv_at hl 1 rfl) ?_
    refine lv_iload hx hb dX2_open_20 (lv_at hl 0 rfl) ?_
    refine m_calli (rest := []) F I (c_X2_told (r1) _ _ hw) (cwV 1 hts gX2_open_X2_told rfl rfl rfl (by decide +kernel) ⟨Nat.le_of_ble_eq_true rfl, Nat.le_of_ble_eq_true rfl⟩) rfl hl.1 rfl (Nat.le_of_ble_eq_true rfl) dX2_open_22 ⟨Nat.zero_le _, Nat.zero_le _⟩ (fun r17 S18 H locs hw I => ?_)
    refine lv_ineg hx hb dX2_open_25 ?_
    exact m_reti F hr hlk I dX2_open_26 hw
abbrev rm_X2_close : Room := { frames := 3, cells := 0, slots := 0, locals := 65 }
def wl_X2_close_96 (K : Int32 → mS → Prop) : Nat → Int32 → Int32 → Int32 → Int32 → Int32 → Int32 → Int32 → mS → Prop
  | 0, _, _, _, _, _, _, _, _ => False
  | n + 1, v1, v2, v3, v4, v5, v6, v7, S => ((v6 ≤ v7 → wp_X2_told ((0 : Int32)) (S.si 16 (0 : Int32)) (fun r8 S9 => K (((v6 - v2) - v3)) S9)) ∧ (¬ v6 ≤ v7 → (vp_in (v5) 513 ∧ wp_X2_isOfNumbers (((S).ia 1 (v5).toNatClampNeg)) (fun r11 => ((r11 = 0 → (vp_in ((((24 : Int32) * v5) + v7)) 12312 ∧ wl_X2_close_96 K n (v1) (v2) (v3) (v4) (v5) (v6) ((v7 + (1 : Int32))) (S.sl 3 ((((24 : Int32) * v5) + v7)).toNatClampNeg ((-1 : Int64))))) ∧ (¬ r11 = 0 → (vp_in ((((24 : Int32) * v5) + v7)) 12312 ∧ wl_X2_close_96 K n (v1) (v2) (v3) (v4) (v5) (v6) ((v7 + (1 : Int32))) (S.sl 3 ((((24 : Int32) * v5) + v7)).toNatClampNeg ((0 : Int64))))))))))
def wl_X2_close_47 (K : Int32 → mS → Prop) : Nat → Int32 → Int32 → Int32 → Int32 → Int32 → Int32 → Int32 → mS → Prop
  | 0, _, _, _, _, _, _, _, _ => False
  | n + 1, v1, v2, v3, v4, v5, v6, v7, S => (((v6 - v3) ≤ v7 → (∃ n96 : Nat, wl_X2_close_96 K n96 (v1) (v2) (v3) (v4) (v5) (v6) ((v6 - v3)) S)) ∧ (¬ (v6 - v3) ≤ v7 → (vp_in (((((24 : Int32) * v5) + v7) + v3)) 12312 ∧ (vp_in ((((24 : Int32) * v5) + v7)) 12312 ∧ wl_X2_close_47 K n (v1) (v2) (v3) (v4) (v5) (v6) ((v7 + (1 : Int32))) (S.sl 3 ((((24 : Int32) * v5) + v7)).toNatClampNeg (((S).la 3 (((((24 : Int32) * v5) + v7) + v3)).toNatClampNeg)))))))
def wp_X2_close (p0 : Int32) (p1 : Int32) (p2 : Int32) (S : mS) (K : Int32 → mS → Prop) : Prop := wp_X2_noGap (p0) (p1) (p2) (S.si 23 (0 : Int32)) (fun r1 S2 => ((r1 ≤ 0 → (vp_in (p0) 8 ∧ (vp_in (((S2).ia 5 (p0).toNatClampNeg)) 513 ∧ (∃ n47 : Nat, wl_X2_close_47 K n47 (p0) (p1) (p2) (r1) (((S2).ia 5 (p0).toNatClampNeg)) (((S2).ia 2 (((S2).ia 5 (p0).toNatClampNeg)).toNatClampNeg)) (p1) S2)))) ∧ (¬ r1 ≤ 0 → wp_X2_told (r1) S2 (fun r17 S18 => K ((-r17)) S18))))
set_option maxHeartbeats 4000000 in
set_option maxRecDepth 100000 in
theorem lp_X2_close_96 {p : Program} {l : Launch} {e : Env} {s : State} {m : MethodId} {args : Array Value} {below : List Frame} {meth : Method} {c : Code} {D : va_G} {cI cJ : ClassId} {h : Nat → Nat} {A : Nat → Prop} {K : Int32 → mS → Prop} (F : CallFix p m c cX2_close 8 s args wsX2_close RX2) (hin : ∀ w ∈ u_ws RX2 TX2 24, w ∈ wsX2_close) (hr : meth.sig.returnType = some .int) (hlk : meth.locks = false) :
    ∀ (n : Nat) (v1 : Int32) (v2 : Int32) (v3 : Int32) (v4 : Int32) (v5 : Int32) (v6 : Int32) (v7 : Int32) (S : mS) (H : Heap) (locs : List Loc), mI D cI cJ h A s s.heap H locs S → ∀ (ls : Array Slot), lv_has ls 8 [(0, .ref (h 0)), (1, .int (v1)), (2, .int (v2)), (3, .int (v3)), (4, .int (v4)), (5, .int (v5)), (6, .int (v6)), (7, .int (v7))] → wl_X2_close_96 K n v1 v2 v3 v4 v5 v6 v7 S → W p l e rm_X2_close s m args below meth c H locs 0 0 (MQ below (va_Qi K (mB D cI cJ h A) A) args s 0 0 A) (F0 m 96 ls []) := by
  obtain ⟨hx, hb, hml, hown, hts⟩ := id F
  intro n
  induction n with
  | zero => intro v1 v2 v3 v4 v5 v6 v7 S H locs I ls hl hw; exact hw.elim
  | succ n ih =>
    intro v1 v2 v3 v4 v5 v6 v7 S H locs I ls hl hw
    rw [wl_X2_close_96] at hw
    refine lv_iload hx hb dX2_close_96 (lv_at hl 7 rfl) ?_
    refine lv_iload hx hb dX2_close_98 (lv_at hl 6 rfl) ?_
    refine lv_icmp_ge (tgt := 142) hx hb dX2_close_100 (by decide) (fun c_7 => ?_) (fun c_7 => ?_)
    · have hw := hw.1 c_7
      refine lv_aload_n hx hb dX2_close_142 rfl (lv_at hl 0 rfl) ?_
      refine lv_iconst (v := (0 : Int32)) hx hb dX2_close_143 (by decide) ?_
      refine m_put F hin I 16 (by decide) (hts (.fieldLink RX2 96 "CuttingTableModel" "binMany" "I") (by decide +kernel)) dX2_close_144 (fun H locs I => ?_)
      refine lv_aload_n hx hb dX2_close_147 rfl (lv_at hl 0 rfl) ?_
      refine lv_iconst (v := (0 : Int32)) hx hb dX2_close_148 (by decide) ?_
      refine m_calli (rest := []) F I (c_X2_told ((0 : Int32)) _ _ hw) (cwV 1 hts gX2_close_X2_told rfl rfl rfl (by decide +kernel) ⟨Nat.le_of_ble_eq_true rfl, Nat.le_of_ble_eq_true rfl⟩) rfl hl.1 rfl (Nat.le_of_ble_eq_true rfl) dX2_close_149 ⟨Nat.zero_le _, Nat.zero_le _⟩ (fun r8 S9 H locs hw I => ?_)
      refine lv_pop hx hb dX2_close_152 rfl ?_
      refine lv_iload hx hb dX2_close_153 (lv_at hl 6 rfl) ?_
      refine lv_iload_n hx hb dX2_close_155 rfl (lv_at hl 2 rfl) ?_
      refine lv_isub hx hb dX2_close_156 ?_
      refine lv_iload_n hx hb dX2_close_157 rfl (lv_at hl 3 rfl) ?_
      refine lv_isub hx hb dX2_close_158 ?_
      exact m_reti F hr hlk I dX2_close_159 hw
    · have hw := hw.2 c_7
      refine lv_aload_n hx hb dX2_close_103 rfl (lv_at hl 0 rfl) ?_
      refine m_get F hin I 2 (by decide) (v := .ref (h 3)) rfl (hts (.fieldLink RX2 16 "CuttingTableModel" "cells" "[J") (by decide +kernel)) dX2_close_104 ?_
      refine lv_bipush (v := (24 : Int32)) hx hb dX2_close_107 (by decide) ?_
      refine lv_iload hx hb dX2_close_109 (lv_at hl 5 rfl) ?_
      refine lv_imul hx hb dX2_close_111 ?_
      refine lv_iload hx hb dX2_close_112 (lv_at hl 7 rfl) ?_
      refine lv_iadd hx hb dX2_close_114 ?_
      refine lv_aload_n hx hb dX2_close_115 rfl (lv_at hl 0 rfl) ?_
      refine m_get F hin I 0 (by decide) (v := .ref (h 1)) rfl (hts (.fieldLink RX2 7 "CuttingTableModel" "stocks" "[I") (by decide +kernel)) dX2_close_116 ?_
      refine lv_iload hx hb dX2_close_119 (lv_at hl 5 rfl) ?_
      obtain ⟨hi10, hw⟩ := hw
      refine m_iald F I 1 513 (by decide) hi10 dX2_close_121 ?_
      refine s_calli (rest := [.int ((((24 : Int32) * v5) + v7)), .ref (h 3)]) F (c_X2_isOfNumbers (((S).ia 1 (v5).toNatClampNeg)) _ hw) (va_cwS 1 hts gX2_close_X2_isOfNumbers rfl rfl rfl (by decide +kernel) ⟨Nat.le_of_ble_eq_true rfl, Nat.le_of_ble_eq_true rfl⟩) rfl hl.1 rfl (Nat.le_of_ble_eq_true rfl) dX2_close_122 ⟨Nat.zero_le _, Nat.zero_le _⟩ (fun r11 hw => ?_)
      refine lv_if_eq (tgt := 132) hx hb dX2_close_125 (by decide) (fun c_12 => ?_) (fun c_12 => ?_)
      · have hw := hw.1 c_12
        refine lv_ldc2 hx hb hown (hts (.constantLong RX2 64 (-1)) (by decide +kernel)) dX2_close_132 ?_
        obtain ⟨hi13, hw⟩ := hw
        refine m_last F I 3 12312 (by decide) hi13 dX2_close_135 (fun H locs I => ?_)
        refine lv_iinc (v := (v7 + (1 : Int32))) (lv' := [(7, .int ((v7 + (1 : Int32)))), (0, .ref (h 0)), (1, .int (v1)), (2, .int (v2)), (3, .int (v3)), (4, .int (v4)), (5, .int (v5)), (6, .int (v6))]) hx hb dX2_close_136 hl (k := 7) rfl rfl (by decide) rfl (fun ls hl => ?_)
        refine lv_goto (tgt := 96) hx hb dX2_close_139 (by decide) ?_
        exact ih (v1) (v2) (v3) (v4) (v5) (v6) ((v7 + (1 : Int32))) (S.sl 3 ((((24 : Int32) * v5) + v7)).toNatClampNeg ((-1 : Int64))) _ _ I ls (lv_sub hl [1, 2, 3, 4, 5, 6, 7, 0] rfl) hw
      · have hw := hw.2 c_12
        refine lv_lconst (v := (0 : Int64)) hx hb dX2_close_128 (by decide) ?_
        refine lv_goto (tgt := 135) hx hb dX2_close_129 (by decide) ?_
        obtain ⟨hi14, hw⟩ := hw
        refine m_last F I 3 12312 (by decide) hi14 dX2_close_135 (fun H locs I => ?_)
        refine lv_iinc (v := (v7 + (1 : Int32))) (lv' := [(7, .int ((v7 + (1 : Int32)))), (0, .ref (h 0)), (1, .int (v1)), (2, .int (v2)), (3, .int (v3)), (4, .int (v4)), (5, .int (v5)), (6, .int (v6))]) hx hb dX2_close_136 hl (k := 7) rfl rfl (by decide) rfl (fun ls hl => ?_)
        refine lv_goto (tgt := 96) hx hb dX2_close_139 (by decide) ?_
        exact ih (v1) (v2) (v3) (v4) (v5) (v6) ((v7 + (1 : Int32))) (S.sl 3 ((((24 : Int32) * v5) + v7)).toNatClampNeg ((0 : Int64))) _ _ I ls (lv_sub hl [1, 2, 3, 4, 5, 6, 7, 0] rfl) hw
set_option maxHeartbeats 4000000 in
set_option maxRecDepth 100000 in
theorem lp_X2_close_47 {p : Program} {l : Launch} {e : Env} {s : State} {m : MethodId} {args : Array Value} {below : List Frame} {meth : Method} {c : Code} {D : va_G} {cI cJ : ClassId} {h : Nat → Nat} {A : Nat → Prop} {K : Int32 → mS → Prop} (F : CallFix p m c cX2_close 8 s args wsX2_close RX2) (hin : ∀ w ∈ u_ws RX2 TX2 24, w ∈ wsX2_close) (hr : meth.sig.returnType = some .int) (hlk : meth.locks = false) :
    ∀ (n : Nat) (v1 : Int32) (v2 : Int32) (v3 : Int32) (v4 : Int32) (v5 : Int32) (v6 : Int32) (v7 : Int32) (S : mS) (H : Heap) (locs : List Loc), mI D cI cJ h A s s.heap H locs S → ∀ (ls : Array Slot), lv_has ls 8 [(0, .ref (h 0)), (1, .int (v1)), (2, .int (v2)), (3, .int (v3)), (4, .int (v4)), (5, .int (v5)), (6, .int (v6)), (7, .int (v7))] → wl_X2_close_47 K n v1 v2 v3 v4 v5 v6 v7 S → W p l e rm_X2_close s m args below meth c H locs 0 0 (MQ below (va_Qi K (mB D cI cJ h A) A) args s 0 0 A) (F0 m 47 ls []) := by
  obtain ⟨hx, hb, hml, hown, hts⟩ := id F
  intro n
  induction n with
  | zero => intro v1 v2 v3 v4 v5 v6 v7 S H locs I ls hl hw; exact hw.elim
  | succ n ih =>
    intro v1 v2 v3 v4 v5 v6 v7 S H locs I ls hl hw
    rw [wl_X2_close_47] at hw
    refine lv_iload hx hb dX2_close_47 (lv_at hl 7 rfl) ?_
    refine lv_iload hx hb dX2_close_49 (lv_at hl 6 rfl) ?_
    refine lv_iload_n hx hb dX2_close_51 rfl (lv_at hl 3 rfl) ?_
    refine lv_isub hx hb dX2_close_52 ?_
    refine lv_icmp_ge (tgt := 90) hx hb dX2_close_53 (by decide) (fun c_6 => ?_) (fun c_6 => ?_)
    · have hw := hw.1 c_6
      refine lv_iload hx hb dX2_close_90 (lv_at hl 6 rfl) ?_
      refine lv_iload_n hx hb dX2_close_92 rfl (lv_at hl 3 rfl) ?_
      refine lv_isub hx hb dX2_close_93 ?_
      refine lv_istore (lv' := [(7, .int ((v6 - v3))), (0, .ref (h 0)), (1, .int (v1)), (2, .int (v2)), (3, .int (v3)), (4, .int (v4)), (5, .int (v5)), (6, .int (v6))]) hx hb dX2_close_94 hl (by decide) rfl (fun ls hl => ?_)
      obtain ⟨n96, hw⟩ := hw
      exact lp_X2_close_96 F hin hr hlk n96 (v1) (v2) (v3) (v4) (v5) (v6) ((v6 - v3)) S _ _ I ls (lv_sub hl [1, 2, 3, 4, 5, 6, 7, 0] rfl) hw
    · have hw := hw.2 c_6
      refine lv_aload_n hx hb dX2_close_56 rfl (lv_at hl 0 rfl) ?_
      refine m_get F hin I 2 (by decide) (v := .ref (h 3)) rfl (hts (.fieldLink RX2 16 "CuttingTableModel" "cells" "[J") (by decide +kernel)) dX2_close_57 ?_
      refine lv_bipush (v := (24 : Int32)) hx hb dX2_close_60 (by decide) ?_
      refine lv_iload hx hb dX2_close_62 (lv_at hl 5 rfl) ?_
      refine lv_imul hx hb dX2_close_64 ?_
      refine lv_iload hx hb dX2_close_65 (lv_at hl 7 rfl) ?_
      refine lv_iadd hx hb dX2_close_67 ?_
      refine lv_aload_n hx hb dX2_close_68 rfl (lv_at hl 0 rfl) ?_
      refine m_get F hin I 2 (by decide) (v := .ref (h 3)) rfl (hts (.fieldLink RX2 16 "CuttingTableModel" "cells" "[J") (by decide +kernel)) dX2_close_69 ?_
      refine lv_bipush (v := (24 : Int32)) hx hb dX2_close_72 (by decide) ?_
      refine lv_iload hx hb dX2_close_74 (lv_at hl 5 rfl) ?_
      refine lv_imul hx hb dX2_close_76 ?_
      refine lv_iload hx hb dX2_close_77 (lv_at hl 7 rfl) ?_
      refine lv_iadd hx hb dX2_close_79 ?_
      refine lv_iload_n hx hb dX2_close_80 rfl (lv_at hl 3 rfl) ?_
      refine lv_iadd hx hb dX2_close_81 ?_
      obtain ⟨hi15, hw⟩ := hw
      refine m_lald F I 3 12312 (by decide) hi15 dX2_close_82 ?_
      obtain ⟨hi16, hw⟩ := hw
      refine m_last F I 3 12312 (by decide) hi16 dX2_close_83 (fun H locs I => ?_)
      refine lv_iinc (v := (v7 + (1 : Int32))) (lv' := [(7, .int ((v7 + (1 : Int32)))), (0, .ref (h 0)), (1, .int (v1)), (2, .int (v2)), (3, .int (v3)), (4, .int (v4)), (5, .int (v5)), (6, .int (v6))]) hx hb dX2_close_84 hl (k := 7) rfl rfl (by decide) rfl (fun ls hl => ?_)
      refine lv_goto (tgt := 47) hx hb dX2_close_87 (by decide) ?_
      exact ih (v1) (v2) (v3) (v4) (v5) (v6) ((v7 + (1 : Int32))) (S.sl 3 ((((24 : Int32) * v5) + v7)).toNatClampNeg (((S).la 3 (((((24 : Int32) * v5) + v7) + v3)).toNatClampNeg))) _ _ I ls (lv_sub hl [1, 2, 3, 4, 5, 6, 7, 0] rfl) hw
set_option maxHeartbeats 4000000 in
set_option maxRecDepth 100000 in
theorem c_X2_close {l : Launch} {D : va_G} {cI cJ : ClassId} {h : Nat → Nat} (p0 : Int32) (p1 : Int32) (p2 : Int32) (S : mS) (K : Int32 → mS → Prop) (hw : wp_X2_close p0 p1 p2 S K) : mMi l D cI cJ h yX2_close wsX2_close rm_X2_close [.ref (h 0), .int (p0), .int (p1), .int (p2)] K S := by
  refine m_starti (rt := some .int) (by decide) rfl rfl (Nat.le_of_ble_eq_true rfl) ?_
  intro p e s m below meth c A ls F hr hlk I hl
  have hin : ∀ w ∈ u_ws RX2 TX2 24, w ∈ wsX2_close := by decide +kernel
  obtain ⟨hx, hb, hml, hown, hts⟩ := id F
  have hl : lv_has ls 8 [(0, .ref (h 0)), (1, .int (p0)), (2, .int (p1)), (3, .int (p2))] := hl
  unfold wp_X2_close at hw
  refine lv_aload_n hx hb dX2_close_0 rfl (lv_at hl 0 rfl) ?_
  refine lv_iconst (v := (0 : Int32)) hx hb dX2_close_1 (by decide) ?_
  refine m_put F hin I 23 (by decide) (hts (.fieldLink RX2 44 "CuttingTableModel" "thrown" "I") (by decide +kernel)) dX2_close_2 (fun H locs I => ?_)
  refine lv_aload_n hx hb dX2_close_5 rfl (lv_at hl 0 rfl) ?_
  refine lv_iload_n hx hb dX2_close_6 rfl (lv_at hl 1 rfl) ?_
  refine lv_iload_n hx hb dX2_close_7 rfl (lv_at hl 2 rfl) ?_
  refine lv_iload_n hx hb dX2_close_8 rfl (lv_at hl 3 rfl) ?_
  refine m_calli (rest := []) F I (c_X2_noGap (p0) (p1) (p2) _ _ hw) (cwV 3 hts gX2_close_X2_noGap rfl rfl rfl (by decide +kernel) ⟨Nat.le_of_ble_eq_true rfl, Nat.le_of_ble_eq_true rfl⟩) rfl hl.1 rfl (Nat.le_of_ble_eq_true rfl) dX2_close_9 ⟨Nat.zero_le _, Nat.zero_le _⟩ (fun r1 S2 H locs hw I => ?_)
  refine lv_istore (lv' := [(4, .int (r1)), (0, .ref (h 0)), (1, .int (p0)), (2, .int (p1)), (3, .int (p2))]) hx hb dX2_close_12 hl (by decide) rfl (fun ls hl => ?_)
  refine lv_iload hx hb dX2_close_14 (lv_at hl 0 rfl) ?_
  refine lv_if_le (tgt := 27) hx hb dX2_close_16 (by decide) (fun c_3 => ?_) (fun c_3 => ?_)
  · have hw := hw.1 c_3
    refine lv_aload_n hx hb dX2_close_27 rfl (lv_at hl 1 rfl) ?_
    refine m_get F hin I 5 (by decide) (v := .ref (h 5)) rfl (hts (.fieldLink RX2 23 "CuttingTableModel" "which" "[I") (by decide +kernel)) dX2_close_28 ?_
    refine lv_iload_n hx hb dX2_close_31 rfl (lv_at hl 2 rfl) ?_
    obtain ⟨hi4, hw⟩ := hw
    refine m_iald F I 5 8 (by decide) hi4 dX2_close_32 ?_
    refine lv_istore (lv' := [(5, .int (((S2).ia 5 (p0).toNatClampNeg))), (4, .int (r1)), (0, .ref (h 0)), (1, .int (p0)), (2, .int (p1)), (3, .int (p2))]) hx hb dX2_close_33 hl (by decide) rfl (fun ls hl => ?_)
    refine lv_aload_n hx hb dX2_close_35 rfl (lv_at hl 2 rfl) ?_
    refine m_get F hin I 1 (by decide) (v := .ref (h 2)) rfl (hts (.fieldLink RX2 13 "CuttingTableModel" "sizes" "[I") (by decide +kernel)) dX2_close_36 ?_
    refine lv_iload hx hb dX2_close_39 (lv_at hl 0 rfl) ?_
    obtain ⟨hi5, hw⟩ := hw
    refine m_iald F I 2 513 (by decide) hi5 dX2_close_41 ?_
    refine lv_istore (lv' := [(6, .int (((S2).ia 2 (((S2).ia 5 (p0).toNatClampNeg)).toNatClampNeg))), (5, .int (((S2).ia 5 (p0).toNatClampNeg))), (4, .int (r1)), (0, .ref (h 0)), (1, .int (p0)), (2, .int (p1)), (3, .int (p2))]) hx hb dX2_close_42 hl (by decide) rfl (fun ls hl => ?_)
    refine lv_iload_n hx hb dX2_close_44 rfl (lv_at hl 5 rfl) ?_
    refine lv_istore (lv' := [(7, .int (p1)), (6, .int (((S2).ia 2 (((S2).ia 5 (p0).toNatClampNeg)).toNatClampNeg))), (5, .int (((S2).ia 5 (p0).toNatClampNeg))), (4, .int (r1)), (0, .ref (h 0)), (1, .int (p0)), (2, .int (p1)), (3, .int (p2))]) hx hb dX2_close_45 hl (by decide) rfl (fun ls hl => ?_)
    obtain ⟨n47, hw⟩ := hw
    exact lp_X2_close_47 F hin hr hlk n47 (p0) (p1) (p2) (r1) (((S2).ia 5 (p0).toNatClampNeg)) (((S2).ia 2 (((S2).ia 5 (p0).toNatClampNeg)).toNatClampNeg)) (p1) S2 _ _ I ls (lv_sub hl [4, 5, 6, 7, 3, 2, 1, 0] rfl) hw
  · have hw := hw.2 c_3
    refine lv_aload_n hx hb dX2_close_19 rfl (lv_at hl 1 rfl) ?_
    refine lv_iload hx hb dX2_close_20 (lv_at hl 0 rfl) ?_
    refine m_calli (rest := []) F I (c_X2_told (r1) _ _ hw) (cwV 1 hts gX2_close_X2_told rfl rfl rfl (by decide +kernel) ⟨Nat.le_of_ble_eq_true rfl, Nat.le_of_ble_eq_true rfl⟩) rfl hl.1 rfl (Nat.le_of_ble_eq_true rfl) dX2_close_22 ⟨Nat.zero_le _, Nat.zero_le _⟩ (fun r17 S18 H locs hw I => ?_)
    refine lv_ineg hx hb dX2_close_25 ?_
    exact m_reti F hr hlk I dX2_close_26 hw
abbrev rm_X2_refusal : Room := { frames := 0, cells := 0, slots := 0, locals := 0 }
def wp_X2_refusal (p0 : Int32) (S : mS) (K : Int32 → mS → Prop) : Prop := ((¬ p0 = 0 → ((¬ p0 = (1 : Int32) → ((¬ p0 = (2 : Int32) → K ((-1 : Int32)) (S.si 23 (0 : Int32))) ∧ (p0 = (2 : Int32) → K ((((S.si 23 (0 : Int32))).fi 20)) (S.si 23 (0 : Int32))))) ∧ (p0 = (1 : Int32) → K ((((S.si 23 (0 : Int32))).fi 19)) (S.si 23 (0 : Int32))))) ∧ (p0 = 0 → K ((((S.si 23 (0 : Int32))).fi 18)) (S.si 23 (0 : Int32))))
set_option maxHeartbeats 4000000 in
set_option maxRecDepth 100000 in
theorem c_X2_refusal {l : Launch} {D : va_G} {cI cJ : ClassId} {h : Nat → Nat} (p0 : Int32) (S : mS) (K : Int32 → mS → Prop) (hw : wp_X2_refusal p0 S K) : mMi l D cI cJ h yX2_refusal wsX2_refusal rm_X2_refusal [.ref (h 0), .int (p0)] K S := by
  refine m_starti (rt := some .int) (by decide) rfl rfl (Nat.le_of_ble_eq_true rfl) ?_
  intro p e s m below meth c A ls F hr hlk I hl
  have hin : ∀ w ∈ u_ws RX2 TX2 24, w ∈ wsX2_refusal := by decide +kernel
  obtain ⟨hx, hb, hml, hown, hts⟩ := id F
  have hl : lv_has ls 2 [(0, .ref (h 0)), (1, .int (p0))] := hl
  unfold wp_X2_refusal at hw
  refine lv_aload_n hx hb dX2_refusal_0 rfl (lv_at hl 0 rfl) ?_
  refine lv_iconst (v := (0 : Int32)) hx hb dX2_refusal_1 (by decide) ?_
  refine m_put F hin I 23 (by decide) (hts (.fieldLink RX2 44 "CuttingTableModel" "thrown" "I") (by decide +kernel)) dX2_refusal_2 (fun H locs I => ?_)
  refine lv_iload_n hx hb dX2_refusal_5 rfl (lv_at hl 1 rfl) ?_
  refine lv_if_ne (tgt := 16) hx hb dX2_refusal_6 (by decide) (fun c_1 => ?_) (fun c_1 => ?_)
  · have hw := hw.1 c_1
    refine lv_iload_n hx hb dX2_refusal_16 rfl (lv_at hl 1 rfl) ?_
    refine lv_iconst (v := (1 : Int32)) hx hb dX2_refusal_17 (by decide) ?_
    refine lv_icmp_ne (tgt := 28) hx hb dX2_refusal_18 (by decide) (fun c_2 => ?_) (fun c_2 => ?_)
    · have hw := hw.1 c_2
      refine lv_iload_n hx hb dX2_refusal_28 rfl (lv_at hl 1 rfl) ?_
      refine lv_iconst (v := (2 : Int32)) hx hb dX2_refusal_29 (by decide) ?_
      refine lv_icmp_ne (tgt := 40) hx hb dX2_refusal_30 (by decide) (fun c_3 => ?_) (fun c_3 => ?_)
      · have hw := hw.1 c_3
        refine lv_iconst (v := (-1 : Int32)) hx hb dX2_refusal_40 (by decide) ?_
        exact m_reti F hr hlk I dX2_refusal_41 hw
      · have hw := hw.2 c_3
        refine lv_aload_n hx hb dX2_refusal_33 rfl (lv_at hl 0 rfl) ?_
        refine m_get F hin I 20 (by decide) (v := .int ((((S.si 23 (0 : Int32))).fi 20))) rfl (hts (.fieldLink RX2 54 "CuttingTableModel" "ahead" "I") (by decide +kernel)) dX2_refusal_34 ?_
        refine lv_goto (tgt := 41) hx hb dX2_refusal_37 (by decide) ?_
        exact m_reti F hr hlk I dX2_refusal_41 hw
    · have hw := hw.2 c_2
      refine lv_aload_n hx hb dX2_refusal_21 rfl (lv_at hl 0 rfl) ?_
      refine m_get F hin I 19 (by decide) (v := .int ((((S.si 23 (0 : Int32))).fi 19))) rfl (hts (.fieldLink RX2 51 "CuttingTableModel" "way" "I") (by decide +kernel)) dX2_refusal_22 ?_
      refine lv_goto (tgt := 41) hx hb dX2_refusal_25 (by decide) ?_
      exact m_reti F hr hlk I dX2_refusal_41 hw
  · have hw := hw.2 c_1
    refine lv_aload_n hx hb dX2_refusal_9 rfl (lv_at hl 0 rfl) ?_
    refine m_get F hin I 18 (by decide) (v := .int ((((S.si 23 (0 : Int32))).fi 18))) rfl (hts (.fieldLink RX2 48 "CuttingTableModel" "refused" "I") (by decide +kernel)) dX2_refusal_10 ?_
    refine lv_goto (tgt := 41) hx hb dX2_refusal_13 (by decide) ?_
    exact m_reti F hr hlk I dX2_refusal_41 hw
abbrev rm_X2_look : Room := { frames := 1, cells := 0, slots := 0, locals := 20 }
def wl_X2_look_115 (K : Int32 → mS → Prop) : Nat → Int32 → Int32 → Int32 → Int32 → Int32 → mS → Prop
  | 0, _, _, _, _, _, _ => False
  | n + 1, v1, v2, v3, v4, v5, S => ((v5 < 0 → K (v4) S) ∧ (¬ v5 < 0 → (vp_in (v5) 8 ∧ (vp_in (v1) 8 ∧ ((¬ ((S).ia 4 (v5).toNatClampNeg) = ((S).ia 4 (v1).toNatClampNeg) → wl_X2_look_115 K n (v1) (v2) (v3) (v4) ((v5 + (-1 : Int32))) S) ∧ (((S).ia 4 (v5).toNatClampNeg) = ((S).ia 4 (v1).toNatClampNeg) → (vp_in (v5) 8 ∧ (vp_in (v1) 8 ∧ ((¬ ((S).ia 5 (v5).toNatClampNeg) = ((S).ia 5 (v1).toNatClampNeg) → wl_X2_look_115 K n (v1) (v2) (v3) (v4) ((v5 + (-1 : Int32))) S) ∧ (((S).ia 5 (v5).toNatClampNeg) = ((S).ia 5 (v1).toNatClampNeg) → wl_X2_look_115 K n (v1) (v2) (v3) (v5) ((v5 + (-1 : Int32))) S))))))))))
def wp_X2_look (p0 : Int32) (p1 : Int32) (S : mS) (K : Int32 → mS → Prop) : Prop := wp_X2_isSpindle (p0) (fun r1 => ((r1 = 0 → K ((-1 : Int32)) (S.si 23 (0 : Int32))) ∧ (¬ r1 = 0 → ((p1 < 0 → K ((-1 : Int32)) (S.si 23 (0 : Int32))) ∧ (¬ p1 < 0 → (((2 : Int32) < p1 → K ((-1 : Int32)) (S.si 23 (0 : Int32))) ∧ (¬ (2 : Int32) < p1 → (vp_in (p0) 8 ∧ ((¬ (((S.si 23 (0 : Int32))).ia 4 (p0).toNatClampNeg) = 0 → (vp_in (p0) 8 ∧ ((¬ (((S.si 23 (0 : Int32))).ia 4 (p0).toNatClampNeg) = (2 : Int32) → ((¬ p1 = 0 → ((¬ p1 = (1 : Int32) → (∃ n115 : Nat, wl_X2_look_115 K n115 (p0) (p1) ((0 : Int32)) (p0) ((7 : Int32)) (S.si 23 (0 : Int32)))) ∧ (p1 = (1 : Int32) → (vp_in (p0) 8 ∧ (vp_in ((((S.si 23 (0 : Int32))).ia 5 (p0).toNatClampNeg)) 513 ∧ K ((((S.si 23 (0 : Int32))).ia 2 ((((S.si 23 (0 : Int32))).ia 5 (p0).toNatClampNeg)).toNatClampNeg)) (S.si 23 (0 : Int32))))))) ∧ (p1 = 0 → (vp_in (p0) 8 ∧ (vp_in ((((S.si 23 (0 : Int32))).ia 5 (p0).toNatClampNeg)) 513 ∧ K ((((S.si 23 (0 : Int32))).ia 1 ((((S.si 23 (0 : Int32))).ia 5 (p0).toNatClampNeg)).toNatClampNeg)) (S.si 23 (0 : Int32))))))) ∧ ((((S.si 23 (0 : Int32))).ia 4 (p0).toNatClampNeg) = (2 : Int32) → ((¬ p1 = 0 → ((¬ p1 = (1 : Int32) → (∃ n115 : Nat, wl_X2_look_115 K n115 (p0) (p1) ((1 : Int32)) (p0) ((7 : Int32)) (S.si 23 (0 : Int32)))) ∧ (p1 = (1 : Int32) → (vp_in (p0) 8 ∧ (vp_in ((((S.si 23 (0 : Int32))).ia 5 (p0).toNatClampNeg)) 513 ∧ K ((((S.si 23 (0 : Int32))).ia 6 ((((S.si 23 (0 : Int32))).ia 5 (p0).toNatClampNeg)).toNatClampNeg)) (S.si 23 (0 : Int32))))))) ∧ (p1 = 0 → K ((8 : Int32)) (S.si 23 (0 : Int32)))))))) ∧ ((((S.si 23 (0 : Int32))).ia 4 (p0).toNatClampNeg) = 0 → K ((-1 : Int32)) (S.si 23 (0 : Int32))))))))))))
set_option maxHeartbeats 4000000 in
set_option maxRecDepth 100000 in
theorem lp_X2_look_115 {p : Program} {l : Launch} {e : Env} {s : State} {m : MethodId} {args : Array Value} {below : List Frame} {meth : Method} {c : Code} {D : va_G} {cI cJ : ClassId} {h : Nat → Nat} {A : Nat → Prop} {K : Int32 → mS → Prop} (F : CallFix p m c cX2_look 6 s args wsX2_look RX2) (hin : ∀ w ∈ u_ws RX2 TX2 24, w ∈ wsX2_look) (hr : meth.sig.returnType = some .int) (hlk : meth.locks = false) :
    ∀ (n : Nat) (v1 : Int32) (v2 : Int32) (v3 : Int32) (v4 : Int32) (v5 : Int32) (S : mS) (H : Heap) (locs : List Loc), mI D cI cJ h A s s.heap H locs S → ∀ (ls : Array Slot), lv_has ls 6 [(0, .ref (h 0)), (1, .int (v1)), (2, .int (v2)), (3, .int (v3)), (4, .int (v4)), (5, .int (v5))] → wl_X2_look_115 K n v1 v2 v3 v4 v5 S → W p l e rm_X2_look s m args below meth c H locs 0 0 (MQ below (va_Qi K (mB D cI cJ h A) A) args s 0 0 A) (F0 m 115 ls []) := by
  obtain ⟨hx, hb, hml, hown, hts⟩ := id F
  intro n
  induction n with
  | zero => intro v1 v2 v3 v4 v5 S H locs I ls hl hw; exact hw.elim
  | succ n ih =>
    intro v1 v2 v3 v4 v5 S H locs I ls hl hw
    rw [wl_X2_look_115] at hw
    refine lv_iload hx hb dX2_look_115 (lv_at hl 5 rfl) ?_
    refine lv_if_lt (tgt := 167) hx hb dX2_look_117 (by decide) (fun c_11 => ?_) (fun c_11 => ?_)
    · have hw := hw.1 c_11
      refine lv_iload hx hb dX2_look_167 (lv_at hl 4 rfl) ?_
      exact m_reti F hr hlk I dX2_look_169 hw
    · have hw := hw.2 c_11
      refine lv_aload_n hx hb dX2_look_120 rfl (lv_at hl 0 rfl) ?_
      refine m_get F hin I 4 (by decide) (v := .ref (h 4)) rfl (hts (.fieldLink RX2 20 "CuttingTableModel" "lies" "[I") (by decide +kernel)) dX2_look_121 ?_
      refine lv_iload hx hb dX2_look_124 (lv_at hl 5 rfl) ?_
      obtain ⟨hi12, hw⟩ := hw
      refine m_iald F I 4 8 (by decide) hi12 dX2_look_126 ?_
      refine lv_aload_n hx hb dX2_look_127 rfl (lv_at hl 0 rfl) ?_
      refine m_get F hin I 4 (by decide) (v := .ref (h 4)) rfl (hts (.fieldLink RX2 20 "CuttingTableModel" "lies" "[I") (by decide +kernel)) dX2_look_128 ?_
      refine lv_iload_n hx hb dX2_look_131 rfl (lv_at hl 1 rfl) ?_
      obtain ⟨hi13, hw⟩ := hw
      refine m_iald F I 4 8 (by decide) hi13 dX2_look_132 ?_
      refine lv_icmp_ne (tgt := 157) hx hb dX2_look_133 (by decide) (fun c_14 => ?_) (fun c_14 => ?_)
      · have hw := hw.1 c_14
        refine lv_iload hx hb dX2_look_157 (lv_at hl 4 rfl) ?_
        refine lv_istore (lv' := [(4, .int (v4)), (0, .ref (h 0)), (1, .int (v1)), (2, .int (v2)), (3, .int (v3)), (5, .int (v5))]) hx hb dX2_look_159 hl (by decide) rfl (fun ls hl => ?_)
        refine lv_iinc (v := (v5 + (-1 : Int32))) (lv' := [(5, .int ((v5 + (-1 : Int32)))), (4, .int (v4)), (0, .ref (h 0)), (1, .int (v1)), (2, .int (v2)), (3, .int (v3))]) hx hb dX2_look_161 hl (k := 5) rfl rfl (by decide) rfl (fun ls hl => ?_)
        refine lv_goto (tgt := 115) hx hb dX2_look_164 (by decide) ?_
        exact ih (v1) (v2) (v3) (v4) ((v5 + (-1 : Int32))) S _ _ I ls (lv_sub hl [2, 3, 4, 5, 1, 0] rfl) hw
      · have hw := hw.2 c_14
        refine lv_aload_n hx hb dX2_look_136 rfl (lv_at hl 0 rfl) ?_
        refine m_get F hin I 5 (by decide) (v := .ref (h 5)) rfl (hts (.fieldLink RX2 23 "CuttingTableModel" "which" "[I") (by decide +kernel)) dX2_look_137 ?_
        refine lv_iload hx hb dX2_look_140 (lv_at hl 5 rfl) ?_
        obtain ⟨hi15, hw⟩ := hw
        refine m_iald F I 5 8 (by decide) hi15 dX2_look_142 ?_
        refine lv_aload_n hx hb dX2_look_143 rfl (lv_at hl 0 rfl) ?_
        refine m_get F hin I 5 (by decide) (v := .ref (h 5)) rfl (hts (.fieldLink RX2 23 "CuttingTableModel" "which" "[I") (by decide +kernel)) dX2_look_144 ?_
        refine lv_iload_n hx hb dX2_look_147 rfl (lv_at hl 1 rfl) ?_
        obtain ⟨hi16, hw⟩ := hw
        refine m_iald F I 5 8 (by decide) hi16 dX2_look_148 ?_
        refine lv_icmp_ne (tgt := 157) hx hb dX2_look_149 (by decide) (fun c_17 => ?_) (fun c_17 => ?_)
        · have hw := hw.1 c_17
          refine lv_iload hx hb dX2_look_157 (lv_at hl 4 rfl) ?_
          refine lv_istore (lv' := [(4, .int (v4)), (0, .ref (h 0)), (1, .int (v1)), (2, .int (v2)), (3, .int (v3)), (5, .int (v5))]) hx hb dX2_look_159 hl (by decide) rfl (fun ls hl => ?_)
          refine lv_iinc (v := (v5 + (-1 : Int32))) (lv' := [(5, .int ((v5 + (-1 : Int32)))), (4, .int (v4)), (0, .ref (h 0)), (1, .int (v1)), (2, .int (v2)), (3, .int (v3))]) hx hb dX2_look_161 hl (k := 5) rfl rfl (by decide) rfl (fun ls hl => ?_)
          refine lv_goto (tgt := 115) hx hb dX2_look_164 (by decide) ?_
          exact ih (v1) (v2) (v3) (v4) ((v5 + (-1 : Int32))) S _ _ I ls (lv_sub hl [2, 3, 4, 5, 1, 0] rfl) hw
        · have hw := hw.2 c_17
          refine lv_iload hx hb dX2_look_152 (lv_at hl 5 rfl) ?_
          refine lv_goto (tgt := 159) hx hb dX2_look_154 (by decide) ?_
          refine lv_istore (lv' := [(4, .int (v5)), (0, .ref (h 0)), (1, .int (v1)), (2, .int (v2)), (3, .int (v3)), (5, .int (v5))]) hx hb dX2_look_159 hl (by decide) rfl (fun ls hl => ?_)
          refine lv_iinc (v := (v5 + (-1 : Int32))) (lv' := [(5, .int ((v5 + (-1 : Int32)))), (4, .int (v5)), (0, .ref (h 0)), (1, .int (v1)), (2, .int (v2)), (3, .int (v3))]) hx hb dX2_look_161 hl (k := 5) rfl rfl (by decide) rfl (fun ls hl => ?_)
          refine lv_goto (tgt := 115) hx hb dX2_look_164 (by decide) ?_
          exact ih (v1) (v2) (v3) (v5) ((v5 + (-1 : Int32))) S _ _ I ls (lv_sub hl [2, 3, 4, 5, 1, 0] rfl) hw
set_option maxHeartbeats 4000000 in
set_option maxRecDepth 100000 in
theorem c_X2_look {l : Launch} {D : va_G} {cI cJ : ClassId} {h : Nat → Nat} (p0 : Int32) (p1 : Int32) (S : mS) (K : Int32 → mS → Prop) (hw : wp_X2_look p0 p1 S K) : mMi l D cI cJ h yX2_look wsX2_look rm_X2_look [.ref (h 0), .int (p0), .int (p1)] K S := by
  refine m_starti (rt := some .int) (by decide) rfl rfl (Nat.le_of_ble_eq_true rfl) ?_
  intro p e s m below meth c A ls F hr hlk I hl
  have hin : ∀ w ∈ u_ws RX2 TX2 24, w ∈ wsX2_look := by decide +kernel
  obtain ⟨hx, hb, hml, hown, hts⟩ := id F
  have hl : lv_has ls 6 [(0, .ref (h 0)), (1, .int (p0)), (2, .int (p1))] := hl
  unfold wp_X2_look at hw
  refine lv_aload_n hx hb dX2_look_0 rfl (lv_at hl 0 rfl) ?_
  refine lv_iconst (v := (0 : Int32)) hx hb dX2_look_1 (by decide) ?_
  refine m_put F hin I 23 (by decide) (hts (.fieldLink RX2 44 "CuttingTableModel" "thrown" "I") (by decide +kernel)) dX2_look_2 (fun H locs I => ?_)
  refine lv_iload_n hx hb dX2_look_5 rfl (lv_at hl 1 rfl) ?_
  refine s_calli (rest := []) F (c_X2_isSpindle (p0) _ hw) (va_cwS 1 hts gX2_look_X2_isSpindle rfl rfl rfl (by decide +kernel) ⟨Nat.le_of_ble_eq_true rfl, Nat.le_of_ble_eq_true rfl⟩) rfl hl.1 rfl (Nat.le_of_ble_eq_true rfl) dX2_look_6 ⟨Nat.zero_le _, Nat.zero_le _⟩ (fun r1 hw => ?_)
  refine lv_if_eq (tgt := 30) hx hb dX2_look_9 (by decide) (fun c_2 => ?_) (fun c_2 => ?_)
  · have hw := hw.1 c_2
    refine lv_iconst (v := (-1 : Int32)) hx hb dX2_look_30 (by decide) ?_
    exact m_reti F hr hlk I dX2_look_31 hw
  · have hw := hw.2 c_2
    refine lv_iload_n hx hb dX2_look_12 rfl (lv_at hl 2 rfl) ?_
    refine lv_if_lt (tgt := 30) hx hb dX2_look_13 (by decide) (fun c_3 => ?_) (fun c_3 => ?_)
    · have hw := hw.1 c_3
      refine lv_iconst (v := (-1 : Int32)) hx hb dX2_look_30 (by decide) ?_
      exact m_reti F hr hlk I dX2_look_31 hw
    · have hw := hw.2 c_3
      refine lv_iload_n hx hb dX2_look_16 rfl (lv_at hl 2 rfl) ?_
      refine lv_iconst (v := (2 : Int32)) hx hb dX2_look_17 (by decide) ?_
      refine lv_icmp_gt (tgt := 30) hx hb dX2_look_18 (by decide) (fun c_4 => ?_) (fun c_4 => ?_)
      · have hw := hw.1 c_4
        refine lv_iconst (v := (-1 : Int32)) hx hb dX2_look_30 (by decide) ?_
        exact m_reti F hr hlk I dX2_look_31 hw
      · have hw := hw.2 c_4
        refine lv_aload_n hx hb dX2_look_21 rfl (lv_at hl 0 rfl) ?_
        refine m_get F hin I 4 (by decide) (v := .ref (h 4)) rfl (hts (.fieldLink RX2 20 "CuttingTableModel" "lies" "[I") (by decide +kernel)) dX2_look_22 ?_
        refine lv_iload_n hx hb dX2_look_25 rfl (lv_at hl 1 rfl) ?_
        obtain ⟨hi5, hw⟩ := hw
        refine m_iald F I 4 8 (by decide) hi5 dX2_look_26 ?_
        refine lv_if_ne (tgt := 32) hx hb dX2_look_27 (by decide) (fun c_6 => ?_) (fun c_6 => ?_)
        · have hw := hw.1 c_6
          refine lv_aload_n hx hb dX2_look_32 rfl (lv_at hl 0 rfl) ?_
          refine m_get F hin I 4 (by decide) (v := .ref (h 4)) rfl (hts (.fieldLink RX2 20 "CuttingTableModel" "lies" "[I") (by decide +kernel)) dX2_look_33 ?_
          refine lv_iload_n hx hb dX2_look_36 rfl (lv_at hl 1 rfl) ?_
          obtain ⟨hi7, hw⟩ := hw
          refine m_iald F I 4 8 (by decide) hi7 dX2_look_37 ?_
          refine lv_iconst (v := (2 : Int32)) hx hb dX2_look_38 (by decide) ?_
          refine lv_icmp_ne (tgt := 46) hx hb dX2_look_39 (by decide) (fun c_8 => ?_) (fun c_8 => ?_)
          · have hw := hw.1 c_8
            refine lv_iconst (v := (0 : Int32)) hx hb dX2_look_46 (by decide) ?_
            refine lv_istore_n (lv' := [(3, .int ((0 : Int32))), (0, .ref (h 0)), (1, .int (p0)), (2, .int (p1))]) hx hb dX2_look_47 rfl hl (by decide) rfl (fun ls hl => ?_)
            refine lv_iload_n hx hb dX2_look_48 rfl (lv_at hl 3 rfl) ?_
            refine lv_if_ne (tgt := 73) hx hb dX2_look_49 (by decide) (fun c_9 => ?_) (fun c_9 => ?_)
            · have hw := hw.1 c_9
              refine lv_iload_n hx hb dX2_look_73 rfl (lv_at hl 3 rfl) ?_
              refine lv_iconst (v := (1 : Int32)) hx hb dX2_look_74 (by decide) ?_
              refine lv_icmp_ne (tgt := 108) hx hb dX2_look_75 (by decide) (fun c_10 => ?_) (fun c_10 => ?_)
              · have hw := hw.1 c_10
                refine lv_iload_n hx hb dX2_look_108 rfl (lv_at hl 2 rfl) ?_
                refine lv_istore (lv' := [(4, .int (p0)), (3, .int ((0 : Int32))), (0, .ref (h 0)), (1, .int (p0)), (2, .int (p1))]) hx hb dX2_look_109 hl (by decide) rfl (fun ls hl => ?_)
                refine lv_bipush (v := (7 : Int32)) hx hb dX2_look_111 (by decide) ?_
                refine lv_istore (lv' := [(5, .int ((7 : Int32))), (4, .int (p0)), (3, .int ((0 : Int32))), (0, .ref (h 0)), (1, .int (p0)), (2, .int (p1))]) hx hb dX2_look_113 hl (by decide) rfl (fun ls hl => ?_)
                obtain ⟨n115, hw⟩ := hw
                exact lp_X2_look_115 F hin hr hlk n115 (p0) (p1) ((0 : Int32)) (p0) ((7 : Int32)) (S.si 23 (0 : Int32)) _ _ I ls (lv_sub hl [3, 4, 5, 2, 1, 0] rfl) hw
              · have hw := hw.2 c_10
                refine lv_iload_n hx hb dX2_look_78 rfl (lv_at hl 0 rfl) ?_
                refine lv_if_eq (tgt := 96) hx hb dX2_look_79 (by decide) (fun c_18 => ?_) (fun c_18 => ?_)
                · refine lv_aload_n hx hb dX2_look_96 rfl (lv_at hl 1 rfl) ?_
                  refine m_get F hin I 1 (by decide) (v := .ref (h 2)) rfl (hts (.fieldLink RX2 13 "CuttingTableModel" "sizes" "[I") (by decide +kernel)) dX2_look_97 ?_
                  refine lv_aload_n hx hb dX2_look_100 rfl (lv_at hl 1 rfl) ?_
                  refine m_get F hin I 5 (by decide) (v := .ref (h 5)) rfl (hts (.fieldLink RX2 23 "CuttingTableModel" "which" "[I") (by decide +kernel)) dX2_look_101 ?_
                  refine lv_iload_n hx hb dX2_look_104 rfl (lv_at hl 2 rfl) ?_
                  obtain ⟨hi19, hw⟩ := hw
                  refine m_iald F I 5 8 (by decide) hi19 dX2_look_105 ?_
                  obtain ⟨hi20, hw⟩ := hw
                  refine m_iald F I 2 513 (by decide) hi20 dX2_look_106 ?_
                  exact m_reti F hr hlk I dX2_look_107 hw
                · exact absurd (by decide) c_18
            · have hw := hw.2 c_9
              refine lv_iload_n hx hb dX2_look_52 rfl (lv_at hl 0 rfl) ?_
              refine lv_if_eq (tgt := 61) hx hb dX2_look_53 (by decide) (fun c_21 => ?_) (fun c_21 => ?_)
              · refine lv_aload_n hx hb dX2_look_61 rfl (lv_at hl 1 rfl) ?_
                refine m_get F hin I 0 (by decide) (v := .ref (h 1)) rfl (hts (.fieldLink RX2 7 "CuttingTableModel" "stocks" "[I") (by decide +kernel)) dX2_look_62 ?_
                refine lv_aload_n hx hb dX2_look_65 rfl (lv_at hl 1 rfl) ?_
                refine m_get F hin I 5 (by decide) (v := .ref (h 5)) rfl (hts (.fieldLink RX2 23 "CuttingTableModel" "which" "[I") (by decide +kernel)) dX2_look_66 ?_
                refine lv_iload_n hx hb dX2_look_69 rfl (lv_at hl 2 rfl) ?_
                obtain ⟨hi22, hw⟩ := hw
                refine m_iald F I 5 8 (by decide) hi22 dX2_look_70 ?_
                obtain ⟨hi23, hw⟩ := hw
                refine m_iald F I 1 513 (by decide) hi23 dX2_look_71 ?_
                exact m_reti F hr hlk I dX2_look_72 hw
              · exact absurd (by decide) c_21
          · have hw := hw.2 c_8
            refine lv_iconst (v := (1 : Int32)) hx hb dX2_look_42 (by decide) ?_
            refine lv_goto (tgt := 47) hx hb dX2_look_43 (by decide) ?_
            refine lv_istore_n (lv' := [(3, .int ((1 : Int32))), (0, .ref (h 0)), (1, .int (p0)), (2, .int (p1))]) hx hb dX2_look_47 rfl hl (by decide) rfl (fun ls hl => ?_)
            refine lv_iload_n hx hb dX2_look_48 rfl (lv_at hl 3 rfl) ?_
            refine lv_if_ne (tgt := 73) hx hb dX2_look_49 (by decide) (fun c_24 => ?_) (fun c_24 => ?_)
            · have hw := hw.1 c_24
              refine lv_iload_n hx hb dX2_look_73 rfl (lv_at hl 3 rfl) ?_
              refine lv_iconst (v := (1 : Int32)) hx hb dX2_look_74 (by decide) ?_
              refine lv_icmp_ne (tgt := 108) hx hb dX2_look_75 (by decide) (fun c_25 => ?_) (fun c_25 => ?_)
              · have hw := hw.1 c_25
                refine lv_iload_n hx hb dX2_look_108 rfl (lv_at hl 2 rfl) ?_
                refine lv_istore (lv' := [(4, .int (p0)), (3, .int ((1 : Int32))), (0, .ref (h 0)), (1, .int (p0)), (2, .int (p1))]) hx hb dX2_look_109 hl (by decide) rfl (fun ls hl => ?_)
                refine lv_bipush (v := (7 : Int32)) hx hb dX2_look_111 (by decide) ?_
                refine lv_istore (lv' := [(5, .int ((7 : Int32))), (4, .int (p0)), (3, .int ((1 : Int32))), (0, .ref (h 0)), (1, .int (p0)), (2, .int (p1))]) hx hb dX2_look_113 hl (by decide) rfl (fun ls hl => ?_)
                obtain ⟨n115, hw⟩ := hw
                exact lp_X2_look_115 F hin hr hlk n115 (p0) (p1) ((1 : Int32)) (p0) ((7 : Int32)) (S.si 23 (0 : Int32)) _ _ I ls (lv_sub hl [3, 4, 5, 2, 1, 0] rfl) hw
              · have hw := hw.2 c_25
                refine lv_iload_n hx hb dX2_look_78 rfl (lv_at hl 0 rfl) ?_
                refine lv_if_eq (tgt := 96) hx hb dX2_look_79 (by decide) (fun c_26 => ?_) (fun c_26 => ?_)
                · exact absurd c_26 (by decide)
                · refine lv_aload_n hx hb dX2_look_82 rfl (lv_at hl 1 rfl) ?_
                  refine m_get F hin I 6 (by decide) (v := .ref (h 6)) rfl (hts (.fieldLink RX2 26 "CuttingTableModel" "tagNumbers" "[I") (by decide +kernel)) dX2_look_83 ?_
                  refine lv_aload_n hx hb dX2_look_86 rfl (lv_at hl 1 rfl) ?_
                  refine m_get F hin I 5 (by decide) (v := .ref (h 5)) rfl (hts (.fieldLink RX2 23 "CuttingTableModel" "which" "[I") (by decide +kernel)) dX2_look_87 ?_
                  refine lv_iload_n hx hb dX2_look_90 rfl (lv_at hl 2 rfl) ?_
                  obtain ⟨hi27, hw⟩ := hw
                  refine m_iald F I 5 8 (by decide) hi27 dX2_look_91 ?_
                  obtain ⟨hi28, hw⟩ := hw
                  refine m_iald F I 6 513 (by decide) hi28 dX2_look_92 ?_
                  refine lv_goto (tgt := 107) hx hb dX2_look_93 (by decide) ?_
                  exact m_reti F hr hlk I dX2_look_107 hw
            · have hw := hw.2 c_24
              refine lv_iload_n hx hb dX2_look_52 rfl (lv_at hl 0 rfl) ?_
              refine lv_if_eq (tgt := 61) hx hb dX2_look_53 (by decide) (fun c_29 => ?_) (fun c_29 => ?_)
              · exact absurd c_29 (by decide)
              · refine lv_bipush (v := (8 : Int32)) hx hb dX2_look_56 (by decide) ?_
                refine lv_goto (tgt := 72) hx hb dX2_look_58 (by decide) ?_
                exact m_reti F hr hlk I dX2_look_72 hw
        · have hw := hw.2 c_6
          refine lv_iconst (v := (-1 : Int32)) hx hb dX2_look_30 (by decide) ?_
          exact m_reti F hr hlk I dX2_look_31 hw
abbrev rm_X2_at : Room := { frames := 2, cells := 0, slots := 0, locals := 41 }
def wp_X2_at (p0 : Int32) (p1 : Int32) (S : mS) (K : Int64 → mS → Prop) : Prop := wp_X2_noReel (p0) S (fun r1 S2 => ((r1 ≤ 0 → (((((S2.si 23 (0 : Int32))).fi 23) ≤ 0 → (vp_in (p0) 8 ∧ ((p1 < 0 → ((((((S2.si 23 (0 : Int32)).si 23 (2 : Int32))).fi 23) ≤ 0 → (vp_in ((((24 : Int32) * (((S2.si 23 (0 : Int32))).ia 5 (p0).toNatClampNeg)) + p1)) 12312 ∧ (vp_in ((((S2.si 23 (0 : Int32))).ia 5 (p0).toNatClampNeg)) 513 ∧ wp_X2_isOfNumbers (((((S2.si 23 (0 : Int32)).si 23 (2 : Int32))).ia 1 ((((S2.si 23 (0 : Int32))).ia 5 (p0).toNatClampNeg)).toNatClampNeg)) (fun r10 => ((r10 = 0 → (((0 : Int64) ≤ ((((S2.si 23 (0 : Int32)).si 23 (2 : Int32))).la 3 ((((24 : Int32) * (((S2.si 23 (0 : Int32))).ia 5 (p0).toNatClampNeg)) + p1)).toNatClampNeg) → (vp_in ((((((S2.si 23 (0 : Int32)).si 23 (2 : Int32))).la 3 ((((24 : Int32) * (((S2.si 23 (0 : Int32))).ia 5 (p0).toNatClampNeg)) + p1)).toNatClampNeg)).toInt32) 513 ∧ (vp_in ((((((S2.si 23 (0 : Int32)).si 23 (2 : Int32))).la 3 ((((24 : Int32) * (((S2.si 23 (0 : Int32))).ia 5 (p0).toNatClampNeg)) + p1)).toNatClampNeg)).toInt32) 513 ∧ K ((((4 : Int64) * (((((S2.si 23 (0 : Int32)).si 23 (2 : Int32))).ia 7 ((((((S2.si 23 (0 : Int32)).si 23 (2 : Int32))).la 3 ((((24 : Int32) * (((S2.si 23 (0 : Int32))).ia 5 (p0).toNatClampNeg)) + p1)).toNatClampNeg)).toInt32).toNatClampNeg)).toInt64) + (((((S2.si 23 (0 : Int32)).si 23 (2 : Int32))).ia 8 ((((((S2.si 23 (0 : Int32)).si 23 (2 : Int32))).la 3 ((((24 : Int32) * (((S2.si 23 (0 : Int32))).ia 5 (p0).toNatClampNeg)) + p1)).toNatClampNeg)).toInt32).toNatClampNeg)).toInt64)) ((S2.si 23 (0 : Int32)).si 23 (2 : Int32))))) ∧ (¬ (0 : Int64) ≤ ((((S2.si 23 (0 : Int32)).si 23 (2 : Int32))).la 3 ((((24 : Int32) * (((S2.si 23 (0 : Int32))).ia 5 (p0).toNatClampNeg)) + p1)).toNatClampNeg) → K ((-1 : Int64)) ((S2.si 23 (0 : Int32)).si 23 (2 : Int32))))) ∧ (¬ r10 = 0 → K (((((S2.si 23 (0 : Int32)).si 23 (2 : Int32))).la 3 ((((24 : Int32) * (((S2.si 23 (0 : Int32))).ia 5 (p0).toNatClampNeg)) + p1)).toNatClampNeg)) ((S2.si 23 (0 : Int32)).si 23 (2 : Int32)))))))) ∧ (¬ ((((S2.si 23 (0 : Int32)).si 23 (2 : Int32))).fi 23) ≤ 0 → K ((0 : Int64)) ((S2.si 23 (0 : Int32)).si 23 (2 : Int32))))) ∧ (¬ p1 < 0 → (vp_in ((((S2.si 23 (0 : Int32))).ia 5 (p0).toNatClampNeg)) 513 ∧ ((p1 < (((S2.si 23 (0 : Int32))).ia 2 ((((S2.si 23 (0 : Int32))).ia 5 (p0).toNatClampNeg)).toNatClampNeg) → ((((((S2.si 23 (0 : Int32)).si 23 (0 : Int32))).fi 23) ≤ 0 → (vp_in ((((24 : Int32) * (((S2.si 23 (0 : Int32))).ia 5 (p0).toNatClampNeg)) + p1)) 12312 ∧ (vp_in ((((S2.si 23 (0 : Int32))).ia 5 (p0).toNatClampNeg)) 513 ∧ wp_X2_isOfNumbers (((((S2.si 23 (0 : Int32)).si 23 (0 : Int32))).ia 1 ((((S2.si 23 (0 : Int32))).ia 5 (p0).toNatClampNeg)).toNatClampNeg)) (fun r20 => ((r20 = 0 → (((0 : Int64) ≤ ((((S2.si 23 (0 : Int32)).si 23 (0 : Int32))).la 3 ((((24 : Int32) * (((S2.si 23 (0 : Int32))).ia 5 (p0).toNatClampNeg)) + p1)).toNatClampNeg) → (vp_in ((((((S2.si 23 (0 : Int32)).si 23 (0 : Int32))).la 3 ((((24 : Int32) * (((S2.si 23 (0 : Int32))).ia 5 (p0).toNatClampNeg)) + p1)).toNatClampNeg)).toInt32) 513 ∧ (vp_in ((((((S2.si 23 (0 : Int32)).si 23 (0 : Int32))).la 3 ((((24 : Int32) * (((S2.si 23 (0 : Int32))).ia 5 (p0).toNatClampNeg)) + p1)).toNatClampNeg)).toInt32) 513 ∧ K ((((4 : Int64) * (((((S2.si 23 (0 : Int32)).si 23 (0 : Int32))).ia 7 ((((((S2.si 23 (0 : Int32)).si 23 (0 : Int32))).la 3 ((((24 : Int32) * (((S2.si 23 (0 : Int32))).ia 5 (p0).toNatClampNeg)) + p1)).toNatClampNeg)).toInt32).toNatClampNeg)).toInt64) + (((((S2.si 23 (0 : Int32)).si 23 (0 : Int32))).ia 8 ((((((S2.si 23 (0 : Int32)).si 23 (0 : Int32))).la 3 ((((24 : Int32) * (((S2.si 23 (0 : Int32))).ia 5 (p0).toNatClampNeg)) + p1)).toNatClampNeg)).toInt32).toNatClampNeg)).toInt64)) ((S2.si 23 (0 : Int32)).si 23 (0 : Int32))))) ∧ (¬ (0 : Int64) ≤ ((((S2.si 23 (0 : Int32)).si 23 (0 : Int32))).la 3 ((((24 : Int32) * (((S2.si 23 (0 : Int32))).ia 5 (p0).toNatClampNeg)) + p1)).toNatClampNeg) → K ((-1 : Int64)) ((S2.si 23 (0 : Int32)).si 23 (0 : Int32))))) ∧ (¬ r20 = 0 → K (((((S2.si 23 (0 : Int32)).si 23 (0 : Int32))).la 3 ((((24 : Int32) * (((S2.si 23 (0 : Int32))).ia 5 (p0).toNatClampNeg)) + p1)).toNatClampNeg)) ((S2.si 23 (0 : Int32)).si 23 (0 : Int32)))))))) ∧ (¬ ((((S2.si 23 (0 : Int32)).si 23 (0 : Int32))).fi 23) ≤ 0 → K ((0 : Int64)) ((S2.si 23 (0 : Int32)).si 23 (0 : Int32))))) ∧ (¬ p1 < (((S2.si 23 (0 : Int32))).ia 2 ((((S2.si 23 (0 : Int32))).ia 5 (p0).toNatClampNeg)).toNatClampNeg) → ((((((S2.si 23 (0 : Int32)).si 23 (2 : Int32))).fi 23) ≤ 0 → (vp_in ((((24 : Int32) * (((S2.si 23 (0 : Int32))).ia 5 (p0).toNatClampNeg)) + p1)) 12312 ∧ (vp_in ((((S2.si 23 (0 : Int32))).ia 5 (p0).toNatClampNeg)) 513 ∧ wp_X2_isOfNumbers (((((S2.si 23 (0 : Int32)).si 23 (2 : Int32))).ia 1 ((((S2.si 23 (0 : Int32))).ia 5 (p0).toNatClampNeg)).toNatClampNeg)) (fun r28 => ((r28 = 0 → (((0 : Int64) ≤ ((((S2.si 23 (0 : Int32)).si 23 (2 : Int32))).la 3 ((((24 : Int32) * (((S2.si 23 (0 : Int32))).ia 5 (p0).toNatClampNeg)) + p1)).toNatClampNeg) → (vp_in ((((((S2.si 23 (0 : Int32)).si 23 (2 : Int32))).la 3 ((((24 : Int32) * (((S2.si 23 (0 : Int32))).ia 5 (p0).toNatClampNeg)) + p1)).toNatClampNeg)).toInt32) 513 ∧ (vp_in ((((((S2.si 23 (0 : Int32)).si 23 (2 : Int32))).la 3 ((((24 : Int32) * (((S2.si 23 (0 : Int32))).ia 5 (p0).toNatClampNeg)) + p1)).toNatClampNeg)).toInt32) 513 ∧ K ((((4 : Int64) * (((((S2.si 23 (0 : Int32)).si 23 (2 : Int32))).ia 7 ((((((S2.si 23 (0 : Int32)).si 23 (2 : Int32))).la 3 ((((24 : Int32) * (((S2.si 23 (0 : Int32))).ia 5 (p0).toNatClampNeg)) + p1)).toNatClampNeg)).toInt32).toNatClampNeg)).toInt64) + (((((S2.si 23 (0 : Int32)).si 23 (2 : Int32))).ia 8 ((((((S2.si 23 (0 : Int32)).si 23 (2 : Int32))).la 3 ((((24 : Int32) * (((S2.si 23 (0 : Int32))).ia 5 (p0).toNatClampNeg)) + p1)).toNatClampNeg)).toInt32).toNatClampNeg)).toInt64)) ((S2.si 23 (0 : Int32)).si 23 (2 : Int32))))) ∧ (¬ (0 : Int64) ≤ ((((S2.si 23 (0 : Int32)).si 23 (2 : Int32))).la 3 ((((24 : Int32) * (((S2.si 23 (0 : Int32))).ia 5 (p0).toNatClampNeg)) + p1)).toNatClampNeg) → K ((-1 : Int64)) ((S2.si 23 (0 : Int32)).si 23 (2 : Int32))))) ∧ (¬ r28 = 0 → K (((((S2.si 23 (0 : Int32)).si 23 (2 : Int32))).la 3 ((((24 : Int32) * (((S2.si 23 (0 : Int32))).ia 5 (p0).toNatClampNeg)) + p1)).toNatClampNeg)) ((S2.si 23 (0 : Int32)).si 23 (2 : Int32)))))))) ∧ (¬ ((((S2.si 23 (0 : Int32)).si 23 (2 : Int32))).fi 23) ≤ 0 → K ((0 : Int64)) ((S2.si 23 (0 : Int32)).si 23 (2 : Int32))))))))))) ∧ (¬ (((S2.si 23 (0 : Int32))).fi 23) ≤ 0 → K ((0 : Int64)) (S2.si 23 (0 : Int32))))) ∧ (¬ r1 ≤ 0 → (((((S2.si 23 (1 : Int32))).fi 23) ≤ 0 → (vp_in (p0) 8 ∧ ((p1 < 0 → ((((((S2.si 23 (1 : Int32)).si 23 (2 : Int32))).fi 23) ≤ 0 → (vp_in ((((24 : Int32) * (((S2.si 23 (1 : Int32))).ia 5 (p0).toNatClampNeg)) + p1)) 12312 ∧ (vp_in ((((S2.si 23 (1 : Int32))).ia 5 (p0).toNatClampNeg)) 513 ∧ wp_X2_isOfNumbers (((((S2.si 23 (1 : Int32)).si 23 (2 : Int32))).ia 1 ((((S2.si 23 (1 : Int32))).ia 5 (p0).toNatClampNeg)).toNatClampNeg)) (fun r39 => ((r39 = 0 → (((0 : Int64) ≤ ((((S2.si 23 (1 : Int32)).si 23 (2 : Int32))).la 3 ((((24 : Int32) * (((S2.si 23 (1 : Int32))).ia 5 (p0).toNatClampNeg)) + p1)).toNatClampNeg) → (vp_in ((((((S2.si 23 (1 : Int32)).si 23 (2 : Int32))).la 3 ((((24 : Int32) * (((S2.si 23 (1 : Int32))).ia 5 (p0).toNatClampNeg)) + p1)).toNatClampNeg)).toInt32) 513 ∧ (vp_in ((((((S2.si 23 (1 : Int32)).si 23 (2 : Int32))).la 3 ((((24 : Int32) * (((S2.si 23 (1 : Int32))).ia 5 (p0).toNatClampNeg)) + p1)).toNatClampNeg)).toInt32) 513 ∧ K ((((4 : Int64) * (((((S2.si 23 (1 : Int32)).si 23 (2 : Int32))).ia 7 ((((((S2.si 23 (1 : Int32)).si 23 (2 : Int32))).la 3 ((((24 : Int32) * (((S2.si 23 (1 : Int32))).ia 5 (p0).toNatClampNeg)) + p1)).toNatClampNeg)).toInt32).toNatClampNeg)).toInt64) + (((((S2.si 23 (1 : Int32)).si 23 (2 : Int32))).ia 8 ((((((S2.si 23 (1 : Int32)).si 23 (2 : Int32))).la 3 ((((24 : Int32) * (((S2.si 23 (1 : Int32))).ia 5 (p0).toNatClampNeg)) + p1)).toNatClampNeg)).toInt32).toNatClampNeg)).toInt64)) ((S2.si 23 (1 : Int32)).si 23 (2 : Int32))))) ∧ (¬ (0 : Int64) ≤ ((((S2.si 23 (1 : Int32)).si 23 (2 : Int32))).la 3 ((((24 : Int32) * (((S2.si 23 (1 : Int32))).ia 5 (p0).toNatClampNeg)) + p1)).toNatClampNeg) → K ((-1 : Int64)) ((S2.si 23 (1 : Int32)).si 23 (2 : Int32))))) ∧ (¬ r39 = 0 → K (((((S2.si 23 (1 : Int32)).si 23 (2 : Int32))).la 3 ((((24 : Int32) * (((S2.si 23 (1 : Int32))).ia 5 (p0).toNatClampNeg)) + p1)).toNatClampNeg)) ((S2.si 23 (1 : Int32)).si 23 (2 : Int32)))))))) ∧ (¬ ((((S2.si 23 (1 : Int32)).si 23 (2 : Int32))).fi 23) ≤ 0 → K ((0 : Int64)) ((S2.si 23 (1 : Int32)).si 23 (2 : Int32))))) ∧ (¬ p1 < 0 → (vp_in ((((S2.si 23 (1 : Int32))).ia 5 (p0).toNatClampNeg)) 513 ∧ ((p1 < (((S2.si 23 (1 : Int32))).ia 2 ((((S2.si 23 (1 : Int32))).ia 5 (p0).toNatClampNeg)).toNatClampNeg) → ((((((S2.si 23 (1 : Int32)).si 23 (0 : Int32))).fi 23) ≤ 0 → (vp_in ((((24 : Int32) * (((S2.si 23 (1 : Int32))).ia 5 (p0).toNatClampNeg)) + p1)) 12312 ∧ (vp_in ((((S2.si 23 (1 : Int32))).ia 5 (p0).toNatClampNeg)) 513 ∧ wp_X2_isOfNumbers (((((S2.si 23 (1 : Int32)).si 23 (0 : Int32))).ia 1 ((((S2.si 23 (1 : Int32))).ia 5 (p0).toNatClampNeg)).toNatClampNeg)) (fun r49 => ((r49 = 0 → (((0 : Int64) ≤ ((((S2.si 23 (1 : Int32)).si 23 (0 : Int32))).la 3 ((((24 : Int32) * (((S2.si 23 (1 : Int32))).ia 5 (p0).toNatClampNeg)) + p1)).toNatClampNeg) → (vp_in ((((((S2.si 23 (1 : Int32)).si 23 (0 : Int32))).la 3 ((((24 : Int32) * (((S2.si 23 (1 : Int32))).ia 5 (p0).toNatClampNeg)) + p1)).toNatClampNeg)).toInt32) 513 ∧ (vp_in ((((((S2.si 23 (1 : Int32)).si 23 (0 : Int32))).la 3 ((((24 : Int32) * (((S2.si 23 (1 : Int32))).ia 5 (p0).toNatClampNeg)) + p1)).toNatClampNeg)).toInt32) 513 ∧ K ((((4 : Int64) * (((((S2.si 23 (1 : Int32)).si 23 (0 : Int32))).ia 7 ((((((S2.si 23 (1 : Int32)).si 23 (0 : Int32))).la 3 ((((24 : Int32) * (((S2.si 23 (1 : Int32))).ia 5 (p0).toNatClampNeg)) + p1)).toNatClampNeg)).toInt32).toNatClampNeg)).toInt64) + (((((S2.si 23 (1 : Int32)).si 23 (0 : Int32))).ia 8 ((((((S2.si 23 (1 : Int32)).si 23 (0 : Int32))).la 3 ((((24 : Int32) * (((S2.si 23 (1 : Int32))).ia 5 (p0).toNatClampNeg)) + p1)).toNatClampNeg)).toInt32).toNatClampNeg)).toInt64)) ((S2.si 23 (1 : Int32)).si 23 (0 : Int32))))) ∧ (¬ (0 : Int64) ≤ ((((S2.si 23 (1 : Int32)).si 23 (0 : Int32))).la 3 ((((24 : Int32) * (((S2.si 23 (1 : Int32))).ia 5 (p0).toNatClampNeg)) + p1)).toNatClampNeg) → K ((-1 : Int64)) ((S2.si 23 (1 : Int32)).si 23 (0 : Int32))))) ∧ (¬ r49 = 0 → K (((((S2.si 23 (1 : Int32)).si 23 (0 : Int32))).la 3 ((((24 : Int32) * (((S2.si 23 (1 : Int32))).ia 5 (p0).toNatClampNeg)) + p1)).toNatClampNeg)) ((S2.si 23 (1 : Int32)).si 23 (0 : Int32)))))))) ∧ (¬ ((((S2.si 23 (1 : Int32)).si 23 (0 : Int32))).fi 23) ≤ 0 → K ((0 : Int64)) ((S2.si 23 (1 : Int32)).si 23 (0 : Int32))))) ∧ (¬ p1 < (((S2.si 23 (1 : Int32))).ia 2 ((((S2.si 23 (1 : Int32))).ia 5 (p0).toNatClampNeg)).toNatClampNeg) → ((((((S2.si 23 (1 : Int32)).si 23 (2 : Int32))).fi 23) ≤ 0 → (vp_in ((((24 : Int32) * (((S2.si 23 (1 : Int32))).ia 5 (p0).toNatClampNeg)) + p1)) 12312 ∧ (vp_in ((((S2.si 23 (1 : Int32))).ia 5 (p0).toNatClampNeg)) 513 ∧ wp_X2_isOfNumbers (((((S2.si 23 (1 : Int32)).si 23 (2 : Int32))).ia 1 ((((S2.si 23 (1 : Int32))).ia 5 (p0).toNatClampNeg)).toNatClampNeg)) (fun r57 => ((r57 = 0 → (((0 : Int64) ≤ ((((S2.si 23 (1 : Int32)).si 23 (2 : Int32))).la 3 ((((24 : Int32) * (((S2.si 23 (1 : Int32))).ia 5 (p0).toNatClampNeg)) + p1)).toNatClampNeg) → (vp_in ((((((S2.si 23 (1 : Int32)).si 23 (2 : Int32))).la 3 ((((24 : Int32) * (((S2.si 23 (1 : Int32))).ia 5 (p0).toNatClampNeg)) + p1)).toNatClampNeg)).toInt32) 513 ∧ (vp_in ((((((S2.si 23 (1 : Int32)).si 23 (2 : Int32))).la 3 ((((24 : Int32) * (((S2.si 23 (1 : Int32))).ia 5 (p0).toNatClampNeg)) + p1)).toNatClampNeg)).toInt32) 513 ∧ K ((((4 : Int64) * (((((S2.si 23 (1 : Int32)).si 23 (2 : Int32))).ia 7 ((((((S2.si 23 (1 : Int32)).si 23 (2 : Int32))).la 3 ((((24 : Int32) * (((S2.si 23 (1 : Int32))).ia 5 (p0).toNatClampNeg)) + p1)).toNatClampNeg)).toInt32).toNatClampNeg)).toInt64) + (((((S2.si 23 (1 : Int32)).si 23 (2 : Int32))).ia 8 ((((((S2.si 23 (1 : Int32)).si 23 (2 : Int32))).la 3 ((((24 : Int32) * (((S2.si 23 (1 : Int32))).ia 5 (p0).toNatClampNeg)) + p1)).toNatClampNeg)).toInt32).toNatClampNeg)).toInt64)) ((S2.si 23 (1 : Int32)).si 23 (2 : Int32))))) ∧ (¬ (0 : Int64) ≤ ((((S2.si 23 (1 : Int32)).si 23 (2 : Int32))).la 3 ((((24 : Int32) * (((S2.si 23 (1 : Int32))).ia 5 (p0).toNatClampNeg)) + p1)).toNatClampNeg) → K ((-1 : Int64)) ((S2.si 23 (1 : Int32)).si 23 (2 : Int32))))) ∧ (¬ r57 = 0 → K (((((S2.si 23 (1 : Int32)).si 23 (2 : Int32))).la 3 ((((24 : Int32) * (((S2.si 23 (1 : Int32))).ia 5 (p0).toNatClampNeg)) + p1)).toNatClampNeg)) ((S2.si 23 (1 : Int32)).si 23 (2 : Int32)))))))) ∧ (¬ ((((S2.si 23 (1 : Int32)).si 23 (2 : Int32))).fi 23) ≤ 0 → K ((0 : Int64)) ((S2.si 23 (1 : Int32)).si 23 (2 : Int32))))))))))) ∧ (¬ (((S2.si 23 (1 : Int32))).fi 23) ≤ 0 → K ((0 : Int64)) (S2.si 23 (1 : Int32)))))))
set_option maxHeartbeats 4000000 in
set_option maxRecDepth 100000 in
theorem c_X2_at {l : Launch} {D : va_G} {cI cJ : ClassId} {h : Nat → Nat} (p0 : Int32) (p1 : Int32) (S : mS) (K : Int64 → mS → Prop) (hw : wp_X2_at p0 p1 S K) : mMl l D cI cJ h yX2_at wsX2_at rm_X2_at [.ref (h 0), .int (p0), .int (p1)] K S := by
  refine m_startl (rt := some .long) (by decide) rfl rfl (Nat.le_of_ble_eq_true rfl) ?_
  intro p e s m below meth c A ls F hr hlk I hl
  have hin : ∀ w ∈ u_ws RX2 TX2 24, w ∈ wsX2_at := by decide +kernel
  obtain ⟨hx, hb, hml, hown, hts⟩ := id F
  have hl : lv_has ls 6 [(0, .ref (h 0)), (1, .int (p0)), (2, .int (p1))] := hl
  unfold wp_X2_at at hw
  refine lv_aload_n hx hb dX2_at_0 rfl (lv_at hl 0 rfl) ?_
  refine lv_aload_n hx hb dX2_at_1 rfl (lv_at hl 0 rfl) ?_
  refine lv_iload_n hx hb dX2_at_2 rfl (lv_at hl 1 rfl) ?_
  refine m_calli (rest := [.ref (h 0)]) F I (c_X2_noReel (p0) _ _ hw) (cwV 1 hts gX2_at_X2_noReel rfl rfl rfl (by decide +kernel) ⟨Nat.le_of_ble_eq_true rfl, Nat.le_of_ble_eq_true rfl⟩) rfl hl.1 rfl (Nat.le_of_ble_eq_true rfl) dX2_at_3 ⟨Nat.zero_le _, Nat.zero_le _⟩ (fun r1 S2 H locs hw I => ?_)
  refine lv_if_le (tgt := 13) hx hb dX2_at_6 (by decide) (fun c_3 => ?_) (fun c_3 => ?_)
  · have hw := hw.1 c_3
    refine lv_iconst (v := (0 : Int32)) hx hb dX2_at_13 (by decide) ?_
    refine m_put F hin I 23 (by decide) (hts (.fieldLink RX2 44 "CuttingTableModel" "thrown" "I") (by decide +kernel)) dX2_at_14 (fun H locs I => ?_)
    refine lv_aload_n hx hb dX2_at_17 rfl (lv_at hl 0 rfl) ?_
    refine m_get F hin I 23 (by decide) (v := .int ((((S2.si 23 (0 : Int32))).fi 23))) rfl (hts (.fieldLink RX2 44 "CuttingTableModel" "thrown" "I") (by decide +kernel)) dX2_at_18 ?_
    refine lv_if_le (tgt := 26) hx hb dX2_at_21 (by decide) (fun c_4 => ?_) (fun c_4 => ?_)
    · have hw := hw.1 c_4
      refine lv_aload_n hx hb dX2_at_26 rfl (lv_at hl 0 rfl) ?_
      refine m_get F hin I 5 (by decide) (v := .ref (h 5)) rfl (hts (.fieldLink RX2 23 "CuttingTableModel" "which" "[I") (by decide +kernel)) dX2_at_27 ?_
      refine lv_iload_n hx hb dX2_at_30 rfl (lv_at hl 1 rfl) ?_
      obtain ⟨hi5, hw⟩ := hw
      refine m_iald F I 5 8 (by decide) hi5 dX2_at_31 ?_
      refine lv_istore_n (lv' := [(3, .int ((((S2.si 23 (0 : Int32))).ia 5 (p0).toNatClampNeg))), (0, .ref (h 0)), (1, .int (p0)), (2, .int (p1))]) hx hb dX2_at_32 rfl hl (by decide) rfl (fun ls hl => ?_)
      refine lv_aload_n hx hb dX2_at_33 rfl (lv_at hl 1 rfl) ?_
      refine lv_iload_n hx hb dX2_at_34 rfl (lv_at hl 3 rfl) ?_
      refine lv_if_lt (tgt := 48) hx hb dX2_at_35 (by decide) (fun c_6 => ?_) (fun c_6 => ?_)
      · have hw := hw.1 c_6
        refine lv_iconst (v := (2 : Int32)) hx hb dX2_at_48 (by decide) ?_
        refine lv_goto (tgt := 53) hx hb dX2_at_49 (by decide) ?_
        refine m_put F hin I 23 (by decide) (hts (.fieldLink RX2 44 "CuttingTableModel" "thrown" "I") (by decide +kernel)) dX2_at_53 (fun H locs I => ?_)
        refine lv_aload_n hx hb dX2_at_56 rfl (lv_at hl 1 rfl) ?_
        refine m_get F hin I 23 (by decide) (v := .int (((((S2.si 23 (0 : Int32)).si 23 (2 : Int32))).fi 23))) rfl (hts (.fieldLink RX2 44 "CuttingTableModel" "thrown" "I") (by decide +kernel)) dX2_at_57 ?_
        refine lv_if_le (tgt := 65) hx hb dX2_at_60 (by decide) (fun c_7 => ?_) (fun c_7 => ?_)
        · have hw := hw.1 c_7
          refine lv_aload_n hx hb dX2_at_65 rfl (lv_at hl 1 rfl) ?_
          refine m_get F hin I 2 (by decide) (v := .ref (h 3)) rfl (hts (.fieldLink RX2 16 "CuttingTableModel" "cells" "[J") (by decide +kernel)) dX2_at_66 ?_
          refine lv_bipush (v := (24 : Int32)) hx hb dX2_at_69 (by decide) ?_
          refine lv_iload_n hx hb dX2_at_71 rfl (lv_at hl 0 rfl) ?_
          refine lv_imul hx hb dX2_at_72 ?_
          refine lv_iload_n hx hb dX2_at_73 rfl (lv_at hl 3 rfl) ?_
          refine lv_iadd hx hb dX2_at_74 ?_
          obtain ⟨hi8, hw⟩ := hw
          refine m_lald F I 3 12312 (by decide) hi8 dX2_at_75 ?_
          refine lv_lstore (lv' := [(4, .long (((((S2.si 23 (0 : Int32)).si 23 (2 : Int32))).la 3 ((((24 : Int32) * (((S2.si 23 (0 : Int32))).ia 5 (p0).toNatClampNeg)) + p1)).toNatClampNeg))), (3, .int ((((S2.si 23 (0 : Int32))).ia 5 (p0).toNatClampNeg))), (0, .ref (h 0)), (1, .int (p0)), (2, .int (p1))]) hx hb dX2_at_76 hl (by decide) rfl (fun ls hl => ?_)
          refine lv_aload_n hx hb dX2_at_78 rfl (lv_at hl 2 rfl) ?_
          refine m_get F hin I 0 (by decide) (v := .ref (h 1)) rfl (hts (.fieldLink RX2 7 "CuttingTableModel" "stocks" "[I") (by decide +kernel)) dX2_at_79 ?_
          refine lv_iload_n hx hb dX2_at_82 rfl (lv_at hl 1 rfl) ?_
          obtain ⟨hi9, hw⟩ := hw
          refine m_iald F I 1 513 (by decide) hi9 dX2_at_83 ?_
          refine s_calli (rest := []) F (c_X2_isOfNumbers (((((S2.si 23 (0 : Int32)).si 23 (2 : Int32))).ia 1 ((((S2.si 23 (0 : Int32))).ia 5 (p0).toNatClampNeg)).toNatClampNeg)) _ hw) (va_cwS 1 hts gX2_at_X2_isOfNumbers rfl rfl rfl (by decide +kernel) ⟨Nat.le_of_ble_eq_true rfl, Nat.le_of_ble_eq_true rfl⟩) rfl hl.1 rfl (Nat.le_of_ble_eq_true rfl) dX2_at_84 ⟨Nat.zero_le _, Nat.zero_le _⟩ (fun r10 hw => ?_)
          refine lv_if_eq (tgt := 93) hx hb dX2_at_87 (by decide) (fun c_11 => ?_) (fun c_11 => ?_)
          · have hw := hw.1 c_11
            refine lv_lload hx hb dX2_at_93 (lv_at hl 0 rfl) ?_
            refine lv_lconst (v := (0 : Int64)) hx hb dX2_at_95 (by decide) ?_
            refine W.lcmp hx hb dX2_at_96 ?_
            refine lv_if_ge (tgt := 106) hx hb dX2_at_97 (by decide) (fun c_12 => ?_) (fun c_12 => ?_)
            · have hw := hw.1 ((lg_cmp_ge _ _).mp c_12)
              refine lv_ldc2 hx hb hown (hts (.constantLong RX2 137 (4)) (by decide +kernel)) dX2_at_106 ?_
              refine lv_aload_n hx hb dX2_at_109 rfl (lv_at hl 2 rfl) ?_
              refine m_get F hin I 8 (by decide) (v := .ref (h 7)) rfl (hts (.fieldLink RX2 29 "CuttingTableModel" "shotNumbers" "[I") (by decide +kernel)) dX2_at_110 ?_
              refine lv_lload hx hb dX2_at_113 (lv_at hl 0 rfl) ?_
              refine lv_l2i hx hb dX2_at_115 rfl ?_
              obtain ⟨hi13, hw⟩ := hw
              refine m_iald F I 7 513 (by decide) hi13 dX2_at_116 ?_
              refine lv_i2l hx hb dX2_at_117 rfl ?_
              refine lv_lmul hx hb dX2_at_118 ?_
              refine lv_aload_n hx hb dX2_at_119 rfl (lv_at hl 2 rfl) ?_
              refine m_get F hin I 9 (by decide) (v := .ref (h 8)) rfl (hts (.fieldLink RX2 32 "CuttingTableModel" "shotKinds" "[I") (by decide +kernel)) dX2_at_120 ?_
              refine lv_lload hx hb dX2_at_123 (lv_at hl 0 rfl) ?_
              refine lv_l2i hx hb dX2_at_125 rfl ?_
              obtain ⟨hi14, hw⟩ := hw
              refine m_iald F I 8 513 (by decide) hi14 dX2_at_126 ?_
              refine lv_i2l hx hb dX2_at_127 rfl ?_
              refine lv_ladd hx hb dX2_at_128 ?_
              exact m_retl F hr hlk I dX2_at_129 hw
            · have hw := hw.2 (fun q => c_12 ((lg_cmp_ge _ _).mpr q))
              refine lv_ldc2 hx hb hown (hts (.constantLong RX2 64 (-1)) (by decide +kernel)) dX2_at_100 ?_
              refine lv_goto (tgt := 129) hx hb dX2_at_103 (by decide) ?_
              exact m_retl F hr hlk I dX2_at_129 hw
          · have hw := hw.2 c_11
            refine lv_lload hx hb dX2_at_90 (lv_at hl 0 rfl) ?_
            exact m_retl F hr hlk I dX2_at_92 hw
        · have hw := hw.2 c_7
          refine lv_lconst (v := (0 : Int64)) hx hb dX2_at_63 (by decide) ?_
          exact m_retl F hr hlk I dX2_at_64 hw
      · have hw := hw.2 c_6
        refine lv_iload_n hx hb dX2_at_38 rfl (lv_at hl 3 rfl) ?_
        refine lv_aload_n hx hb dX2_at_39 rfl (lv_at hl 1 rfl) ?_
        refine m_get F hin I 1 (by decide) (v := .ref (h 2)) rfl (hts (.fieldLink RX2 13 "CuttingTableModel" "sizes" "[I") (by decide +kernel)) dX2_at_40 ?_
        refine lv_iload_n hx hb dX2_at_43 rfl (lv_at hl 0 rfl) ?_
        obtain ⟨hi15, hw⟩ := hw
        refine m_iald F I 2 513 (by decide) hi15 dX2_at_44 ?_
        refine lv_icmp_lt (tgt := 52) hx hb dX2_at_45 (by decide) (fun c_16 => ?_) (fun c_16 => ?_)
        · have hw := hw.1 c_16
          refine lv_iconst (v := (0 : Int32)) hx hb dX2_at_52 (by decide) ?_
          refine m_put F hin I 23 (by decide) (hts (.fieldLink RX2 44 "CuttingTableModel" "thrown" "I") (by decide +kernel)) dX2_at_53 (fun H locs I => ?_)
          refine lv_aload_n hx hb dX2_at_56 rfl (lv_at hl 1 rfl) ?_
          refine m_get F hin I 23 (by decide) (v := .int (((((S2.si 23 (0 : Int32)).si 23 (0 : Int32))).fi 23))) rfl (hts (.fieldLink RX2 44 "CuttingTableModel" "thrown" "I") (by decide +kernel)) dX2_at_57 ?_
          refine lv_if_le (tgt := 65) hx hb dX2_at_60 (by decide) (fun c_17 => ?_) (fun c_17 => ?_)
          · have hw := hw.1 c_17
            refine lv_aload_n hx hb dX2_at_65 rfl (lv_at hl 1 rfl) ?_
            refine m_get F hin I 2 (by decide) (v := .ref (h 3)) rfl (hts (.fieldLink RX2 16 "CuttingTableModel" "cells" "[J") (by decide +kernel)) dX2_at_66 ?_
            refine lv_bipush (v := (24 : Int32)) hx hb dX2_at_69 (by decide) ?_
            refine lv_iload_n hx hb dX2_at_71 rfl (lv_at hl 0 rfl) ?_
            refine lv_imul hx hb dX2_at_72 ?_
            refine lv_iload_n hx hb dX2_at_73 rfl (lv_at hl 3 rfl) ?_
            refine lv_iadd hx hb dX2_at_74 ?_
            obtain ⟨hi18, hw⟩ := hw
            refine m_lald F I 3 12312 (by decide) hi18 dX2_at_75 ?_
            refine lv_lstore (lv' := [(4, .long (((((S2.si 23 (0 : Int32)).si 23 (0 : Int32))).la 3 ((((24 : Int32) * (((S2.si 23 (0 : Int32))).ia 5 (p0).toNatClampNeg)) + p1)).toNatClampNeg))), (3, .int ((((S2.si 23 (0 : Int32))).ia 5 (p0).toNatClampNeg))), (0, .ref (h 0)), (1, .int (p0)), (2, .int (p1))]) hx hb dX2_at_76 hl (by decide) rfl (fun ls hl => ?_)
            refine lv_aload_n hx hb dX2_at_78 rfl (lv_at hl 2 rfl) ?_
            refine m_get F hin I 0 (by decide) (v := .ref (h 1)) rfl (hts (.fieldLink RX2 7 "CuttingTableModel" "stocks" "[I") (by decide +kernel)) dX2_at_79 ?_
            refine lv_iload_n hx hb dX2_at_82 rfl (lv_at hl 1 rfl) ?_
            obtain ⟨hi19, hw⟩ := hw
            refine m_iald F I 1 513 (by decide) hi19 dX2_at_83 ?_
            refine s_calli (rest := []) F (c_X2_isOfNumbers (((((S2.si 23 (0 : Int32)).si 23 (0 : Int32))).ia 1 ((((S2.si 23 (0 : Int32))).ia 5 (p0).toNatClampNeg)).toNatClampNeg)) _ hw) (va_cwS 1 hts gX2_at_X2_isOfNumbers rfl rfl rfl (by decide +kernel) ⟨Nat.le_of_ble_eq_true rfl, Nat.le_of_ble_eq_true rfl⟩) rfl hl.1 rfl (Nat.le_of_ble_eq_true rfl) dX2_at_84 ⟨Nat.zero_le _, Nat.zero_le _⟩ (fun r20 hw => ?_)
            refine lv_if_eq (tgt := 93) hx hb dX2_at_87 (by decide) (fun c_21 => ?_) (fun c_21 => ?_)
            · have hw := hw.1 c_21
              refine lv_lload hx hb dX2_at_93 (lv_at hl 0 rfl) ?_
              refine lv_lconst (v := (0 : Int64)) hx hb dX2_at_95 (by decide) ?_
              refine W.lcmp hx hb dX2_at_96 ?_
              refine lv_if_ge (tgt := 106) hx hb dX2_at_97 (by decide) (fun c_22 => ?_) (fun c_22 => ?_)
              · have hw := hw.1 ((lg_cmp_ge _ _).mp c_22)
                refine lv_ldc2 hx hb hown (hts (.constantLong RX2 137 (4)) (by decide +kernel)) dX2_at_106 ?_
                refine lv_aload_n hx hb dX2_at_109 rfl (lv_at hl 2 rfl) ?_
                refine m_get F hin I 8 (by decide) (v := .ref (h 7)) rfl (hts (.fieldLink RX2 29 "CuttingTableModel" "shotNumbers" "[I") (by decide +kernel)) dX2_at_110 ?_
                refine lv_lload hx hb dX2_at_113 (lv_at hl 0 rfl) ?_
                refine lv_l2i hx hb dX2_at_115 rfl ?_
                obtain ⟨hi23, hw⟩ := hw
                refine m_iald F I 7 513 (by decide) hi23 dX2_at_116 ?_
                refine lv_i2l hx hb dX2_at_117 rfl ?_
                refine lv_lmul hx hb dX2_at_118 ?_
                refine lv_aload_n hx hb dX2_at_119 rfl (lv_at hl 2 rfl) ?_
                refine m_get F hin I 9 (by decide) (v := .ref (h 8)) rfl (hts (.fieldLink RX2 32 "CuttingTableModel" "shotKinds" "[I") (by decide +kernel)) dX2_at_120 ?_
                refine lv_lload hx hb dX2_at_123 (lv_at hl 0 rfl) ?_
                refine lv_l2i hx hb dX2_at_125 rfl ?_
                obtain ⟨hi24, hw⟩ := hw
                refine m_iald F I 8 513 (by decide) hi24 dX2_at_126 ?_
                refine lv_i2l hx hb dX2_at_127 rfl ?_
                refine lv_ladd hx hb dX2_at_128 ?_
                exact m_retl F hr hlk I dX2_at_129 hw
              · have hw := hw.2 (fun q => c_22 ((lg_cmp_ge _ _).mpr q))
                refine lv_ldc2 hx hb hown (hts (.constantLong RX2 64 (-1)) (by decide +kernel)) dX2_at_100 ?_
                refine lv_goto (tgt := 129) hx hb dX2_at_103 (by decide) ?_
                exact m_retl F hr hlk I dX2_at_129 hw
            · have hw := hw.2 c_21
              refine lv_lload hx hb dX2_at_90 (lv_at hl 0 rfl) ?_
              exact m_retl F hr hlk I dX2_at_92 hw
          · have hw := hw.2 c_17
            refine lv_lconst (v := (0 : Int64)) hx hb dX2_at_63 (by decide) ?_
            exact m_retl F hr hlk I dX2_at_64 hw
        · have hw := hw.2 c_16
          refine lv_iconst (v := (2 : Int32)) hx hb dX2_at_48 (by decide) ?_
          refine lv_goto (tgt := 53) hx hb dX2_at_49 (by decide) ?_
          refine m_put F hin I 23 (by decide) (hts (.fieldLink RX2 44 "CuttingTableModel" "thrown" "I") (by decide +kernel)) dX2_at_53 (fun H locs I => ?_)
          refine lv_aload_n hx hb dX2_at_56 rfl (lv_at hl 1 rfl) ?_
          refine m_get F hin I 23 (by decide) (v := .int (((((S2.si 23 (0 : Int32)).si 23 (2 : Int32))).fi 23))) rfl (hts (.fieldLink RX2 44 "CuttingTableModel" "thrown" "I") (by decide +kernel)) dX2_at_57 ?_
          refine lv_if_le (tgt := 65) hx hb dX2_at_60 (by decide) (fun c_25 => ?_) (fun c_25 => ?_)
          · have hw := hw.1 c_25
            refine lv_aload_n hx hb dX2_at_65 rfl (lv_at hl 1 rfl) ?_
            refine m_get F hin I 2 (by decide) (v := .ref (h 3)) rfl (hts (.fieldLink RX2 16 "CuttingTableModel" "cells" "[J") (by decide +kernel)) dX2_at_66 ?_
            refine lv_bipush (v := (24 : Int32)) hx hb dX2_at_69 (by decide) ?_
            refine lv_iload_n hx hb dX2_at_71 rfl (lv_at hl 0 rfl) ?_
            refine lv_imul hx hb dX2_at_72 ?_
            refine lv_iload_n hx hb dX2_at_73 rfl (lv_at hl 3 rfl) ?_
            refine lv_iadd hx hb dX2_at_74 ?_
            obtain ⟨hi26, hw⟩ := hw
            refine m_lald F I 3 12312 (by decide) hi26 dX2_at_75 ?_
            refine lv_lstore (lv' := [(4, .long (((((S2.si 23 (0 : Int32)).si 23 (2 : Int32))).la 3 ((((24 : Int32) * (((S2.si 23 (0 : Int32))).ia 5 (p0).toNatClampNeg)) + p1)).toNatClampNeg))), (3, .int ((((S2.si 23 (0 : Int32))).ia 5 (p0).toNatClampNeg))), (0, .ref (h 0)), (1, .int (p0)), (2, .int (p1))]) hx hb dX2_at_76 hl (by decide) rfl (fun ls hl => ?_)
            refine lv_aload_n hx hb dX2_at_78 rfl (lv_at hl 2 rfl) ?_
            refine m_get F hin I 0 (by decide) (v := .ref (h 1)) rfl (hts (.fieldLink RX2 7 "CuttingTableModel" "stocks" "[I") (by decide +kernel)) dX2_at_79 ?_
            refine lv_iload_n hx hb dX2_at_82 rfl (lv_at hl 1 rfl) ?_
            obtain ⟨hi27, hw⟩ := hw
            refine m_iald F I 1 513 (by decide) hi27 dX2_at_83 ?_
            refine s_calli (rest := []) F (c_X2_isOfNumbers (((((S2.si 23 (0 : Int32)).si 23 (2 : Int32))).ia 1 ((((S2.si 23 (0 : Int32))).ia 5 (p0).toNatClampNeg)).toNatClampNeg)) _ hw) (va_cwS 1 hts gX2_at_X2_isOfNumbers rfl rfl rfl (by decide +kernel) ⟨Nat.le_of_ble_eq_true rfl, Nat.le_of_ble_eq_true rfl⟩) rfl hl.1 rfl (Nat.le_of_ble_eq_true rfl) dX2_at_84 ⟨Nat.zero_le _, Nat.zero_le _⟩ (fun r28 hw => ?_)
            refine lv_if_eq (tgt := 93) hx hb dX2_at_87 (by decide) (fun c_29 => ?_) (fun c_29 => ?_)
            · have hw := hw.1 c_29
              refine lv_lload hx hb dX2_at_93 (lv_at hl 0 rfl) ?_
              refine lv_lconst (v := (0 : Int64)) hx hb dX2_at_95 (by decide) ?_
              refine W.lcmp hx hb dX2_at_96 ?_
              refine lv_if_ge (tgt := 106) hx hb dX2_at_97 (by decide) (fun c_30 => ?_) (fun c_30 => ?_)
              · have hw := hw.1 ((lg_cmp_ge _ _).mp c_30)
                refine lv_ldc2 hx hb hown (hts (.constantLong RX2 137 (4)) (by decide +kernel)) dX2_at_106 ?_
                refine lv_aload_n hx hb dX2_at_109 rfl (lv_at hl 2 rfl) ?_
                refine m_get F hin I 8 (by decide) (v := .ref (h 7)) rfl (hts (.fieldLink RX2 29 "CuttingTableModel" "shotNumbers" "[I") (by decide +kernel)) dX2_at_110 ?_
                refine lv_lload hx hb dX2_at_113 (lv_at hl 0 rfl) ?_
                refine lv_l2i hx hb dX2_at_115 rfl ?_
                obtain ⟨hi31, hw⟩ := hw
                refine m_iald F I 7 513 (by decide) hi31 dX2_at_116 ?_
                refine lv_i2l hx hb dX2_at_117 rfl ?_
                refine lv_lmul hx hb dX2_at_118 ?_
                refine lv_aload_n hx hb dX2_at_119 rfl (lv_at hl 2 rfl) ?_
                refine m_get F hin I 9 (by decide) (v := .ref (h 8)) rfl (hts (.fieldLink RX2 32 "CuttingTableModel" "shotKinds" "[I") (by decide +kernel)) dX2_at_120 ?_
                refine lv_lload hx hb dX2_at_123 (lv_at hl 0 rfl) ?_
                refine lv_l2i hx hb dX2_at_125 rfl ?_
                obtain ⟨hi32, hw⟩ := hw
                refine m_iald F I 8 513 (by decide) hi32 dX2_at_126 ?_
                refine lv_i2l hx hb dX2_at_127 rfl ?_
                refine lv_ladd hx hb dX2_at_128 ?_
                exact m_retl F hr hlk I dX2_at_129 hw
              · have hw := hw.2 (fun q => c_30 ((lg_cmp_ge _ _).mpr q))
                refine lv_ldc2 hx hb hown (hts (.constantLong RX2 64 (-1)) (by decide +kernel)) dX2_at_100 ?_
                refine lv_goto (tgt := 129) hx hb dX2_at_103 (by decide) ?_
                exact m_retl F hr hlk I dX2_at_129 hw
            · have hw := hw.2 c_29
              refine lv_lload hx hb dX2_at_90 (lv_at hl 0 rfl) ?_
              exact m_retl F hr hlk I dX2_at_92 hw
          · have hw := hw.2 c_25
            refine lv_lconst (v := (0 : Int64)) hx hb dX2_at_63 (by decide) ?_
            exact m_retl F hr hlk I dX2_at_64 hw
    · have hw := hw.2 c_4
      refine lv_lconst (v := (0 : Int64)) hx hb dX2_at_24 (by decide) ?_
      exact m_retl F hr hlk I dX2_at_25 hw
  · have hw := hw.2 c_3
    refine lv_iconst (v := (1 : Int32)) hx hb dX2_at_9 (by decide) ?_
    refine lv_goto (tgt := 14) hx hb dX2_at_10 (by decide) ?_
    refine m_put F hin I 23 (by decide) (hts (.fieldLink RX2 44 "CuttingTableModel" "thrown" "I") (by decide +kernel)) dX2_at_14 (fun H locs I => ?_)
    refine lv_aload_n hx hb dX2_at_17 rfl (lv_at hl 0 rfl) ?_
    refine m_get F hin I 23 (by decide) (v := .int ((((S2.si 23 (1 : Int32))).fi 23))) rfl (hts (.fieldLink RX2 44 "CuttingTableModel" "thrown" "I") (by decide +kernel)) dX2_at_18 ?_
    refine lv_if_le (tgt := 26) hx hb dX2_at_21 (by decide) (fun c_33 => ?_) (fun c_33 => ?_)
    · have hw := hw.1 c_33
      refine lv_aload_n hx hb dX2_at_26 rfl (lv_at hl 0 rfl) ?_
      refine m_get F hin I 5 (by decide) (v := .ref (h 5)) rfl (hts (.fieldLink RX2 23 "CuttingTableModel" "which" "[I") (by decide +kernel)) dX2_at_27 ?_
      refine lv_iload_n hx hb dX2_at_30 rfl (lv_at hl 1 rfl) ?_
      obtain ⟨hi34, hw⟩ := hw
      refine m_iald F I 5 8 (by decide) hi34 dX2_at_31 ?_
      refine lv_istore_n (lv' := [(3, .int ((((S2.si 23 (1 : Int32))).ia 5 (p0).toNatClampNeg))), (0, .ref (h 0)), (1, .int (p0)), (2, .int (p1))]) hx hb dX2_at_32 rfl hl (by decide) rfl (fun ls hl => ?_)
      refine lv_aload_n hx hb dX2_at_33 rfl (lv_at hl 1 rfl) ?_
      refine lv_iload_n hx hb dX2_at_34 rfl (lv_at hl 3 rfl) ?_
      refine lv_if_lt (tgt := 48) hx hb dX2_at_35 (by decide) (fun c_35 => ?_) (fun c_35 => ?_)
      · have hw := hw.1 c_35
        refine lv_iconst (v := (2 : Int32)) hx hb dX2_at_48 (by decide) ?_
        refine lv_goto (tgt := 53) hx hb dX2_at_49 (by decide) ?_
        refine m_put F hin I 23 (by decide) (hts (.fieldLink RX2 44 "CuttingTableModel" "thrown" "I") (by decide +kernel)) dX2_at_53 (fun H locs I => ?_)
        refine lv_aload_n hx hb dX2_at_56 rfl (lv_at hl 1 rfl) ?_
        refine m_get F hin I 23 (by decide) (v := .int (((((S2.si 23 (1 : Int32)).si 23 (2 : Int32))).fi 23))) rfl (hts (.fieldLink RX2 44 "CuttingTableModel" "thrown" "I") (by decide +kernel)) dX2_at_57 ?_
        refine lv_if_le (tgt := 65) hx hb dX2_at_60 (by decide) (fun c_36 => ?_) (fun c_36 => ?_)
        · have hw := hw.1 c_36
          refine lv_aload_n hx hb dX2_at_65 rfl (lv_at hl 1 rfl) ?_
          refine m_get F hin I 2 (by decide) (v := .ref (h 3)) rfl (hts (.fieldLink RX2 16 "CuttingTableModel" "cells" "[J") (by decide +kernel)) dX2_at_66 ?_
          refine lv_bipush (v := (24 : Int32)) hx hb dX2_at_69 (by decide) ?_
          refine lv_iload_n hx hb dX2_at_71 rfl (lv_at hl 0 rfl) ?_
          refine lv_imul hx hb dX2_at_72 ?_
          refine lv_iload_n hx hb dX2_at_73 rfl (lv_at hl 3 rfl) ?_
          refine lv_iadd hx hb dX2_at_74 ?_
          obtain ⟨hi37, hw⟩ := hw
          refine m_lald F I 3 12312 (by decide) hi37 dX2_at_75 ?_
          refine lv_lstore (lv' := [(4, .long (((((S2.si 23 (1 : Int32)).si 23 (2 : Int32))).la 3 ((((24 : Int32) * (((S2.si 23 (1 : Int32))).ia 5 (p0).toNatClampNeg)) + p1)).toNatClampNeg))), (3, .int ((((S2.si 23 (1 : Int32))).ia 5 (p0).toNatClampNeg))), (0, .ref (h 0)), (1, .int (p0)), (2, .int (p1))]) hx hb dX2_at_76 hl (by decide) rfl (fun ls hl => ?_)
          refine lv_aload_n hx hb dX2_at_78 rfl (lv_at hl 2 rfl) ?_
          refine m_get F hin I 0 (by decide) (v := .ref (h 1)) rfl (hts (.fieldLink RX2 7 "CuttingTableModel" "stocks" "[I") (by decide +kernel)) dX2_at_79 ?_
          refine lv_iload_n hx hb dX2_at_82 rfl (lv_at hl 1 rfl) ?_
          obtain ⟨hi38, hw⟩ := hw
          refine m_iald F I 1 513 (by decide) hi38 dX2_at_83 ?_
          refine s_calli (rest := []) F (c_X2_isOfNumbers (((((S2.si 23 (1 : Int32)).si 23 (2 : Int32))).ia 1 ((((S2.si 23 (1 : Int32))).ia 5 (p0).toNatClampNeg)).toNatClampNeg)) _ hw) (va_cwS 1 hts gX2_at_X2_isOfNumbers rfl rfl rfl (by decide +kernel) ⟨Nat.le_of_ble_eq_true rfl, Nat.le_of_ble_eq_true rfl⟩) rfl hl.1 rfl (Nat.le_of_ble_eq_true rfl) dX2_at_84 ⟨Nat.zero_le _, Nat.zero_le _⟩ (fun r39 hw => ?_)
          refine lv_if_eq (tgt := 93) hx hb dX2_at_87 (by decide) (fun c_40 => ?_) (fun c_40 => ?_)
          · have hw := hw.1 c_40
            refine lv_lload hx hb dX2_at_93 (lv_at hl 0 rfl) ?_
            refine lv_lconst (v := (0 : Int64)) hx hb dX2_at_95 (by decide) ?_
            refine W.lcmp hx hb dX2_at_96 ?_
            refine lv_if_ge (tgt := 106) hx hb dX2_at_97 (by decide) (fun c_41 => ?_) (fun c_41 => ?_)
            · have hw := hw.1 ((lg_cmp_ge _ _).mp c_41)
              refine lv_ldc2 hx hb hown (hts (.constantLong RX2 137 (4)) (by decide +kernel)) dX2_at_106 ?_
              refine lv_aload_n hx hb dX2_at_109 rfl (lv_at hl 2 rfl) ?_
              refine m_get F hin I 8 (by decide) (v := .ref (h 7)) rfl (hts (.fieldLink RX2 29 "CuttingTableModel" "shotNumbers" "[I") (by decide +kernel)) dX2_at_110 ?_
              refine lv_lload hx hb dX2_at_113 (lv_at hl 0 rfl) ?_
              refine lv_l2i hx hb dX2_at_115 rfl ?_
              obtain ⟨hi42, hw⟩ := hw
              refine m_iald F I 7 513 (by decide) hi42 dX2_at_116 ?_
              refine lv_i2l hx hb dX2_at_117 rfl ?_
              refine lv_lmul hx hb dX2_at_118 ?_
              refine lv_aload_n hx hb dX2_at_119 rfl (lv_at hl 2 rfl) ?_
              refine m_get F hin I 9 (by decide) (v := .ref (h 8)) rfl (hts (.fieldLink RX2 32 "CuttingTableModel" "shotKinds" "[I") (by decide +kernel)) dX2_at_120 ?_
              refine lv_lload hx hb dX2_at_123 (lv_at hl 0 rfl) ?_
              refine lv_l2i hx hb dX2_at_125 rfl ?_
              obtain ⟨hi43, hw⟩ := hw
              refine m_iald F I 8 513 (by decide) hi43 dX2_at_126 ?_
              refine lv_i2l hx hb dX2_at_127 rfl ?_
              refine lv_ladd hx hb dX2_at_128 ?_
              exact m_retl F hr hlk I dX2_at_129 hw
            · have hw := hw.2 (fun q => c_41 ((lg_cmp_ge _ _).mpr q))
              refine lv_ldc2 hx hb hown (hts (.constantLong RX2 64 (-1)) (by decide +kernel)) dX2_at_100 ?_
              refine lv_goto (tgt := 129) hx hb dX2_at_103 (by decide) ?_
              exact m_retl F hr hlk I dX2_at_129 hw
          · have hw := hw.2 c_40
            refine lv_lload hx hb dX2_at_90 (lv_at hl 0 rfl) ?_
            exact m_retl F hr hlk I dX2_at_92 hw
        · have hw := hw.2 c_36
          refine lv_lconst (v := (0 : Int64)) hx hb dX2_at_63 (by decide) ?_
          exact m_retl F hr hlk I dX2_at_64 hw
      · have hw := hw.2 c_35
        refine lv_iload_n hx hb dX2_at_38 rfl (lv_at hl 3 rfl) ?_
        refine lv_aload_n hx hb dX2_at_39 rfl (lv_at hl 1 rfl) ?_
        refine m_get F hin I 1 (by decide) (v := .ref (h 2)) rfl (hts (.fieldLink RX2 13 "CuttingTableModel" "sizes" "[I") (by decide +kernel)) dX2_at_40 ?_
        refine lv_iload_n hx hb dX2_at_43 rfl (lv_at hl 0 rfl) ?_
        obtain ⟨hi44, hw⟩ := hw
        refine m_iald F I 2 513 (by decide) hi44 dX2_at_44 ?_
        refine lv_icmp_lt (tgt := 52) hx hb dX2_at_45 (by decide) (fun c_45 => ?_) (fun c_45 => ?_)
        · have hw := hw.1 c_45
          refine lv_iconst (v := (0 : Int32)) hx hb dX2_at_52 (by decide) ?_
          refine m_put F hin I 23 (by decide) (hts (.fieldLink RX2 44 "CuttingTableModel" "thrown" "I") (by decide +kernel)) dX2_at_53 (fun H locs I => ?_)
          refine lv_aload_n hx hb dX2_at_56 rfl (lv_at hl 1 rfl) ?_
          refine m_get F hin I 23 (by decide) (v := .int (((((S2.si 23 (1 : Int32)).si 23 (0 : Int32))).fi 23))) rfl (hts (.fieldLink RX2 44 "CuttingTableModel" "thrown" "I") (by decide +kernel)) dX2_at_57 ?_
          refine lv_if_le (tgt := 65) hx hb dX2_at_60 (by decide) (fun c_46 => ?_) (fun c_46 => ?_)
          · have hw := hw.1 c_46
            refine lv_aload_n hx hb dX2_at_65 rfl (lv_at hl 1 rfl) ?_
            refine m_get F hin I 2 (by decide) (v := .ref (h 3)) rfl (hts (.fieldLink RX2 16 "CuttingTableModel" "cells" "[J") (by decide +kernel)) dX2_at_66 ?_
            refine lv_bipush (v := (24 : Int32)) hx hb dX2_at_69 (by decide) ?_
            refine lv_iload_n hx hb dX2_at_71 rfl (lv_at hl 0 rfl) ?_
            refine lv_imul hx hb dX2_at_72 ?_
            refine lv_iload_n hx hb dX2_at_73 rfl (lv_at hl 3 rfl) ?_
            refine lv_iadd hx hb dX2_at_74 ?_
            obtain ⟨hi47, hw⟩ := hw
            refine m_lald F I 3 12312 (by decide) hi47 dX2_at_75 ?_
            refine lv_lstore (lv' := [(4, .long (((((S2.si 23 (1 : Int32)).si 23 (0 : Int32))).la 3 ((((24 : Int32) * (((S2.si 23 (1 : Int32))).ia 5 (p0).toNatClampNeg)) + p1)).toNatClampNeg))), (3, .int ((((S2.si 23 (1 : Int32))).ia 5 (p0).toNatClampNeg))), (0, .ref (h 0)), (1, .int (p0)), (2, .int (p1))]) hx hb dX2_at_76 hl (by decide) rfl (fun ls hl => ?_)
            refine lv_aload_n hx hb dX2_at_78 rfl (lv_at hl 2 rfl) ?_
            refine m_get F hin I 0 (by decide) (v := .ref (h 1)) rfl (hts (.fieldLink RX2 7 "CuttingTableModel" "stocks" "[I") (by decide +kernel)) dX2_at_79 ?_
            refine lv_iload_n hx hb dX2_at_82 rfl (lv_at hl 1 rfl) ?_
            obtain ⟨hi48, hw⟩ := hw
            refine m_iald F I 1 513 (by decide) hi48 dX2_at_83 ?_
            refine s_calli (rest := []) F (c_X2_isOfNumbers (((((S2.si 23 (1 : Int32)).si 23 (0 : Int32))).ia 1 ((((S2.si 23 (1 : Int32))).ia 5 (p0).toNatClampNeg)).toNatClampNeg)) _ hw) (va_cwS 1 hts gX2_at_X2_isOfNumbers rfl rfl rfl (by decide +kernel) ⟨Nat.le_of_ble_eq_true rfl, Nat.le_of_ble_eq_true rfl⟩) rfl hl.1 rfl (Nat.le_of_ble_eq_true rfl) dX2_at_84 ⟨Nat.zero_le _, Nat.zero_le _⟩ (fun r49 hw => ?_)
            refine lv_if_eq (tgt := 93) hx hb dX2_at_87 (by decide) (fun c_50 => ?_) (fun c_50 => ?_)
            · have hw := hw.1 c_50
              refine lv_lload hx hb dX2_at_93 (lv_at hl 0 rfl) ?_
              refine lv_lconst (v := (0 : Int64)) hx hb dX2_at_95 (by decide) ?_
              refine W.lcmp hx hb dX2_at_96 ?_
              refine lv_if_ge (tgt := 106) hx hb dX2_at_97 (by decide) (fun c_51 => ?_) (fun c_51 => ?_)
              · have hw := hw.1 ((lg_cmp_ge _ _).mp c_51)
                refine lv_ldc2 hx hb hown (hts (.constantLong RX2 137 (4)) (by decide +kernel)) dX2_at_106 ?_
                refine lv_aload_n hx hb dX2_at_109 rfl (lv_at hl 2 rfl) ?_
                refine m_get F hin I 8 (by decide) (v := .ref (h 7)) rfl (hts (.fieldLink RX2 29 "CuttingTableModel" "shotNumbers" "[I") (by decide +kernel)) dX2_at_110 ?_
                refine lv_lload hx hb dX2_at_113 (lv_at hl 0 rfl) ?_
                refine lv_l2i hx hb dX2_at_115 rfl ?_
                obtain ⟨hi52, hw⟩ := hw
                refine m_iald F I 7 513 (by decide) hi52 dX2_at_116 ?_
                refine lv_i2l hx hb dX2_at_117 rfl ?_
                refine lv_lmul hx hb dX2_at_118 ?_
                refine lv_aload_n hx hb dX2_at_119 rfl (lv_at hl 2 rfl) ?_
                refine m_get F hin I 9 (by decide) (v := .ref (h 8)) rfl (hts (.fieldLink RX2 32 "CuttingTableModel" "shotKinds" "[I") (by decide +kernel)) dX2_at_120 ?_
                refine lv_lload hx hb dX2_at_123 (lv_at hl 0 rfl) ?_
                refine lv_l2i hx hb dX2_at_125 rfl ?_
                obtain ⟨hi53, hw⟩ := hw
                refine m_iald F I 8 513 (by decide) hi53 dX2_at_126 ?_
                refine lv_i2l hx hb dX2_at_127 rfl ?_
                refine lv_ladd hx hb dX2_at_128 ?_
                exact m_retl F hr hlk I dX2_at_129 hw
              · have hw := hw.2 (fun q => c_51 ((lg_cmp_ge _ _).mpr q))
                refine lv_ldc2 hx hb hown (hts (.constantLong RX2 64 (-1)) (by decide +kernel)) dX2_at_100 ?_
                refine lv_goto (tgt := 129) hx hb dX2_at_103 (by decide) ?_
                exact m_retl F hr hlk I dX2_at_129 hw
            · have hw := hw.2 c_50
              refine lv_lload hx hb dX2_at_90 (lv_at hl 0 rfl) ?_
              exact m_retl F hr hlk I dX2_at_92 hw
          · have hw := hw.2 c_46
            refine lv_lconst (v := (0 : Int64)) hx hb dX2_at_63 (by decide) ?_
            exact m_retl F hr hlk I dX2_at_64 hw
        · have hw := hw.2 c_45
          refine lv_iconst (v := (2 : Int32)) hx hb dX2_at_48 (by decide) ?_
          refine lv_goto (tgt := 53) hx hb dX2_at_49 (by decide) ?_
          refine m_put F hin I 23 (by decide) (hts (.fieldLink RX2 44 "CuttingTableModel" "thrown" "I") (by decide +kernel)) dX2_at_53 (fun H locs I => ?_)
          refine lv_aload_n hx hb dX2_at_56 rfl (lv_at hl 1 rfl) ?_
          refine m_get F hin I 23 (by decide) (v := .int (((((S2.si 23 (1 : Int32)).si 23 (2 : Int32))).fi 23))) rfl (hts (.fieldLink RX2 44 "CuttingTableModel" "thrown" "I") (by decide +kernel)) dX2_at_57 ?_
          refine lv_if_le (tgt := 65) hx hb dX2_at_60 (by decide) (fun c_54 => ?_) (fun c_54 => ?_)
          · have hw := hw.1 c_54
            refine lv_aload_n hx hb dX2_at_65 rfl (lv_at hl 1 rfl) ?_
            refine m_get F hin I 2 (by decide) (v := .ref (h 3)) rfl (hts (.fieldLink RX2 16 "CuttingTableModel" "cells" "[J") (by decide +kernel)) dX2_at_66 ?_
            refine lv_bipush (v := (24 : Int32)) hx hb dX2_at_69 (by decide) ?_
            refine lv_iload_n hx hb dX2_at_71 rfl (lv_at hl 0 rfl) ?_
            refine lv_imul hx hb dX2_at_72 ?_
            refine lv_iload_n hx hb dX2_at_73 rfl (lv_at hl 3 rfl) ?_
            refine lv_iadd hx hb dX2_at_74 ?_
            obtain ⟨hi55, hw⟩ := hw
            refine m_lald F I 3 12312 (by decide) hi55 dX2_at_75 ?_
            refine lv_lstore (lv' := [(4, .long (((((S2.si 23 (1 : Int32)).si 23 (2 : Int32))).la 3 ((((24 : Int32) * (((S2.si 23 (1 : Int32))).ia 5 (p0).toNatClampNeg)) + p1)).toNatClampNeg))), (3, .int ((((S2.si 23 (1 : Int32))).ia 5 (p0).toNatClampNeg))), (0, .ref (h 0)), (1, .int (p0)), (2, .int (p1))]) hx hb dX2_at_76 hl (by decide) rfl (fun ls hl => ?_)
            refine lv_aload_n hx hb dX2_at_78 rfl (lv_at hl 2 rfl) ?_
            refine m_get F hin I 0 (by decide) (v := .ref (h 1)) rfl (hts (.fieldLink RX2 7 "CuttingTableModel" "stocks" "[I") (by decide +kernel)) dX2_at_79 ?_
            refine lv_iload_n hx hb dX2_at_82 rfl (lv_at hl 1 rfl) ?_
            obtain ⟨hi56, hw⟩ := hw
            refine m_iald F I 1 513 (by decide) hi56 dX2_at_83 ?_
            refine s_calli (rest := []) F (c_X2_isOfNumbers (((((S2.si 23 (1 : Int32)).si 23 (2 : Int32))).ia 1 ((((S2.si 23 (1 : Int32))).ia 5 (p0).toNatClampNeg)).toNatClampNeg)) _ hw) (va_cwS 1 hts gX2_at_X2_isOfNumbers rfl rfl rfl (by decide +kernel) ⟨Nat.le_of_ble_eq_true rfl, Nat.le_of_ble_eq_true rfl⟩) rfl hl.1 rfl (Nat.le_of_ble_eq_true rfl) dX2_at_84 ⟨Nat.zero_le _, Nat.zero_le _⟩ (fun r57 hw => ?_)
            refine lv_if_eq (tgt := 93) hx hb dX2_at_87 (by decide) (fun c_58 => ?_) (fun c_58 => ?_)
            · have hw := hw.1 c_58
              refine lv_lload hx hb dX2_at_93 (lv_at hl 0 rfl) ?_
              refine lv_lconst (v := (0 : Int64)) hx hb dX2_at_95 (by decide) ?_
              refine W.lcmp hx hb dX2_at_96 ?_
              refine lv_if_ge (tgt := 106) hx hb dX2_at_97 (by decide) (fun c_59 => ?_) (fun c_59 => ?_)
              · have hw := hw.1 ((lg_cmp_ge _ _).mp c_59)
                refine lv_ldc2 hx hb hown (hts (.constantLong RX2 137 (4)) (by decide +kernel)) dX2_at_106 ?_
                refine lv_aload_n hx hb dX2_at_109 rfl (lv_at hl 2 rfl) ?_
                refine m_get F hin I 8 (by decide) (v := .ref (h 7)) rfl (hts (.fieldLink RX2 29 "CuttingTableModel" "shotNumbers" "[I") (by decide +kernel)) dX2_at_110 ?_
                refine lv_lload hx hb dX2_at_113 (lv_at hl 0 rfl) ?_
                refine lv_l2i hx hb dX2_at_115 rfl ?_
                obtain ⟨hi60, hw⟩ := hw
                refine m_iald F I 7 513 (by decide) hi60 dX2_at_116 ?_
                refine lv_i2l hx hb dX2_at_117 rfl ?_
                refine lv_lmul hx hb dX2_at_118 ?_
                refine lv_aload_n hx hb dX2_at_119 rfl (lv_at hl 2 rfl) ?_
                refine m_get F hin I 9 (by decide) (v := .ref (h 8)) rfl (hts (.fieldLink RX2 32 "CuttingTableModel" "shotKinds" "[I") (by decide +kernel)) dX2_at_120 ?_
                refine lv_lload hx hb dX2_at_123 (lv_at hl 0 rfl) ?_
                refine lv_l2i hx hb dX2_at_125 rfl ?_
                obtain ⟨hi61, hw⟩ := hw
                refine m_iald F I 8 513 (by decide) hi61 dX2_at_126 ?_
                refine lv_i2l hx hb dX2_at_127 rfl ?_
                refine lv_ladd hx hb dX2_at_128 ?_
                exact m_retl F hr hlk I dX2_at_129 hw
              · have hw := hw.2 (fun q => c_59 ((lg_cmp_ge _ _).mpr q))
                refine lv_ldc2 hx hb hown (hts (.constantLong RX2 64 (-1)) (by decide +kernel)) dX2_at_100 ?_
                refine lv_goto (tgt := 129) hx hb dX2_at_103 (by decide) ?_
                exact m_retl F hr hlk I dX2_at_129 hw
            · have hw := hw.2 c_58
              refine lv_lload hx hb dX2_at_90 (lv_at hl 0 rfl) ?_
              exact m_retl F hr hlk I dX2_at_92 hw
          · have hw := hw.2 c_54
            refine lv_lconst (v := (0 : Int64)) hx hb dX2_at_63 (by decide) ?_
            exact m_retl F hr hlk I dX2_at_64 hw
    · have hw := hw.2 c_33
      refine lv_lconst (v := (0 : Int64)) hx hb dX2_at_24 (by decide) ?_
      exact m_retl F hr hlk I dX2_at_25 hw
abbrev rm_X2_alike : Room := { frames := 1, cells := 0, slots := 0, locals := 20 }
def wl_X2_alike_136 (K : Int32 → mS → Prop) : Nat → Int32 → Int32 → Int32 → Int32 → Int32 → Int32 → mS → Prop
  | 0, _, _, _, _, _, _, _ => False
  | n + 1, v1, v2, v3, v4, v5, v6, S => (vp_in (v3) 513 ∧ ((((S).ia 2 (v3).toNatClampNeg) ≤ v6 → (K (v5) S ∧ narrow .boolean (.int (v5)) = .int (v5))) ∧ (¬ ((S).ia 2 (v3).toNatClampNeg) ≤ v6 → ((v5 = 0 → (K (v5) S ∧ narrow .boolean (.int (v5)) = .int (v5))) ∧ (¬ v5 = 0 → (vp_in ((((24 : Int32) * v3) + v6)) 12312 ∧ (vp_in ((((24 : Int32) * v4) + v6)) 12312 ∧ ((¬ ((S).la 3 ((((24 : Int32) * v3) + v6)).toNatClampNeg) = ((S).la 3 ((((24 : Int32) * v4) + v6)).toNatClampNeg) → wl_X2_alike_136 K n (v1) (v2) (v3) (v4) ((0 : Int32)) ((v6 + (1 : Int32))) S) ∧ (((S).la 3 ((((24 : Int32) * v3) + v6)).toNatClampNeg) = ((S).la 3 ((((24 : Int32) * v4) + v6)).toNatClampNeg) → wl_X2_alike_136 K n (v1) (v2) (v3) (v4) ((1 : Int32)) ((v6 + (1 : Int32))) S)))))))))
def wp_X2_alike (p0 : Int32) (p1 : Int32) (S : mS) (K : Int32 → mS → Prop) : Prop := wp_X2_isSpindle (p0) (fun r1 => ((r1 = 0 → K (0 : Int32) (S.si 23 (0 : Int32))) ∧ (¬ r1 = 0 → wp_X2_isSpindle (p1) (fun r3 => ((r3 = 0 → K (0 : Int32) (S.si 23 (0 : Int32))) ∧ (¬ r3 = 0 → (vp_in (p0) 8 ∧ (vp_in (p1) 8 ∧ (((((S.si 23 (0 : Int32))).ia 4 (p0).toNatClampNeg) = (((S.si 23 (0 : Int32))).ia 4 (p1).toNatClampNeg) → (vp_in (p0) 8 ∧ ((¬ (((S.si 23 (0 : Int32))).ia 4 (p0).toNatClampNeg) = 0 → (vp_in (p0) 8 ∧ (vp_in (p1) 8 ∧ (vp_in (p0) 8 ∧ ((¬ (((S.si 23 (0 : Int32))).ia 4 (p0).toNatClampNeg) = (2 : Int32) → (vp_in ((((S.si 23 (0 : Int32))).ia 5 (p0).toNatClampNeg)) 513 ∧ (vp_in ((((S.si 23 (0 : Int32))).ia 5 (p1).toNatClampNeg)) 513 ∧ ((¬ (((S.si 23 (0 : Int32))).ia 1 ((((S.si 23 (0 : Int32))).ia 5 (p0).toNatClampNeg)).toNatClampNeg) = (((S.si 23 (0 : Int32))).ia 1 ((((S.si 23 (0 : Int32))).ia 5 (p1).toNatClampNeg)).toNatClampNeg) → (∃ n136 : Nat, wl_X2_alike_136 K n136 (p0) (p1) ((((S.si 23 (0 : Int32))).ia 5 (p0).toNatClampNeg)) ((((S.si 23 (0 : Int32))).ia 5 (p1).toNatClampNeg)) ((0 : Int32)) ((0 : Int32)) (S.si 23 (0 : Int32)))) ∧ ((((S.si 23 (0 : Int32))).ia 1 ((((S.si 23 (0 : Int32))).ia 5 (p0).toNatClampNeg)).toNatClampNeg) = (((S.si 23 (0 : Int32))).ia 1 ((((S.si 23 (0 : Int32))).ia 5 (p1).toNatClampNeg)).toNatClampNeg) → (vp_in ((((S.si 23 (0 : Int32))).ia 5 (p0).toNatClampNeg)) 513 ∧ (vp_in ((((S.si 23 (0 : Int32))).ia 5 (p1).toNatClampNeg)) 513 ∧ ((¬ (((S.si 23 (0 : Int32))).ia 2 ((((S.si 23 (0 : Int32))).ia 5 (p0).toNatClampNeg)).toNatClampNeg) = (((S.si 23 (0 : Int32))).ia 2 ((((S.si 23 (0 : Int32))).ia 5 (p1).toNatClampNeg)).toNatClampNeg) → (∃ n136 : Nat, wl_X2_alike_136 K n136 (p0) (p1) ((((S.si 23 (0 : Int32))).ia 5 (p0).toNatClampNeg)) ((((S.si 23 (0 : Int32))).ia 5 (p1).toNatClampNeg)) ((0 : Int32)) ((0 : Int32)) (S.si 23 (0 : Int32)))) ∧ ((((S.si 23 (0 : Int32))).ia 2 ((((S.si 23 (0 : Int32))).ia 5 (p0).toNatClampNeg)).toNatClampNeg) = (((S.si 23 (0 : Int32))).ia 2 ((((S.si 23 (0 : Int32))).ia 5 (p1).toNatClampNeg)).toNatClampNeg) → (∃ n136 : Nat, wl_X2_alike_136 K n136 (p0) (p1) ((((S.si 23 (0 : Int32))).ia 5 (p0).toNatClampNeg)) ((((S.si 23 (0 : Int32))).ia 5 (p1).toNatClampNeg)) ((1 : Int32)) ((0 : Int32)) (S.si 23 (0 : Int32)))))))))))) ∧ ((((S.si 23 (0 : Int32))).ia 4 (p0).toNatClampNeg) = (2 : Int32) → (vp_in ((((S.si 23 (0 : Int32))).ia 5 (p0).toNatClampNeg)) 513 ∧ (vp_in ((((S.si 23 (0 : Int32))).ia 5 (p1).toNatClampNeg)) 513 ∧ ((¬ (((S.si 23 (0 : Int32))).ia 6 ((((S.si 23 (0 : Int32))).ia 5 (p0).toNatClampNeg)).toNatClampNeg) = (((S.si 23 (0 : Int32))).ia 6 ((((S.si 23 (0 : Int32))).ia 5 (p1).toNatClampNeg)).toNatClampNeg) → K (0 : Int32) (S.si 23 (0 : Int32))) ∧ ((((S.si 23 (0 : Int32))).ia 6 ((((S.si 23 (0 : Int32))).ia 5 (p0).toNatClampNeg)).toNatClampNeg) = (((S.si 23 (0 : Int32))).ia 6 ((((S.si 23 (0 : Int32))).ia 5 (p1).toNatClampNeg)).toNatClampNeg) → K (1 : Int32) (S.si 23 (0 : Int32)))))))))))) ∧ ((((S.si 23 (0 : Int32))).ia 4 (p0).toNatClampNeg) = 0 → K (1 : Int32) (S.si 23 (0 : Int32)))))) ∧ (¬ (((S.si 23 (0 : Int32))).ia 4 (p0).toNatClampNeg) = (((S.si 23 (0 : Int32))).ia 4 (p1).toNatClampNeg) → K (0 : Int32) (S.si 23 (0 : Int32))))))))))))
set_option maxHeartbeats 4000000 in
set_option maxRecDepth 100000 in
theorem lp_X2_alike_136 {p : Program} {l : Launch} {e : Env} {s : State} {m : MethodId} {args : Array Value} {below : List Frame} {meth : Method} {c : Code} {D : va_G} {cI cJ : ClassId} {h : Nat → Nat} {A : Nat → Prop} {K : Int32 → mS → Prop} (F : CallFix p m c cX2_alike 7 s args wsX2_alike RX2) (hin : ∀ w ∈ u_ws RX2 TX2 24, w ∈ wsX2_alike) (hr : meth.sig.returnType = some .boolean) (hlk : meth.locks = false) :
    ∀ (n : Nat) (v1 : Int32) (v2 : Int32) (v3 : Int32) (v4 : Int32) (v5 : Int32) (v6 : Int32) (S : mS) (H : Heap) (locs : List Loc), mI D cI cJ h A s s.heap H locs S → ∀ (ls : Array Slot), lv_has ls 7 [(0, .ref (h 0)), (1, .int (v1)), (2, .int (v2)), (3, .int (v3)), (4, .int (v4)), (5, .int (v5)), (6, .int (v6))] → wl_X2_alike_136 K n v1 v2 v3 v4 v5 v6 S → W p l e rm_X2_alike s m args below meth c H locs 0 0 (MQ below (va_Qi K (mB D cI cJ h A) A) args s 0 0 A) (F0 m 136 ls []) := by
  obtain ⟨hx, hb, hml, hown, hts⟩ := id F
  intro n
  induction n with
  | zero => intro v1 v2 v3 v4 v5 v6 S H locs I ls hl hw; exact hw.elim
  | succ n ih =>
    intro v1 v2 v3 v4 v5 v6 S H locs I ls hl hw
    rw [wl_X2_alike_136] at hw
    refine lv_iload hx hb dX2_alike_136 (lv_at hl 6 rfl) ?_
    refine lv_aload_n hx hb dX2_alike_138 rfl (lv_at hl 0 rfl) ?_
    refine m_get F hin I 1 (by decide) (v := .ref (h 2)) rfl (hts (.fieldLink RX2 13 "CuttingTableModel" "sizes" "[I") (by decide +kernel)) dX2_alike_139 ?_
    refine lv_iload_n hx hb dX2_alike_142 rfl (lv_at hl 3 rfl) ?_
    obtain ⟨hi17, hw⟩ := hw
    refine m_iald F I 2 513 (by decide) hi17 dX2_alike_143 ?_
    refine lv_icmp_ge (tgt := 194) hx hb dX2_alike_144 (by decide) (fun c_18 => ?_) (fun c_18 => ?_)
    · have hw := hw.1 c_18
      refine lv_iload hx hb dX2_alike_194 (lv_at hl 5 rfl) ?_
      exact m_retz F hr hlk I dX2_alike_196 hw
    · have hw := hw.2 c_18
      refine lv_iload hx hb dX2_alike_147 (lv_at hl 5 rfl) ?_
      refine lv_if_eq (tgt := 194) hx hb dX2_alike_149 (by decide) (fun c_19 => ?_) (fun c_19 => ?_)
      · have hw := hw.1 c_19
        refine lv_iload hx hb dX2_alike_194 (lv_at hl 5 rfl) ?_
        exact m_retz F hr hlk I dX2_alike_196 hw
      · have hw := hw.2 c_19
        refine lv_aload_n hx hb dX2_alike_152 rfl (lv_at hl 0 rfl) ?_
        refine m_get F hin I 2 (by decide) (v := .ref (h 3)) rfl (hts (.fieldLink RX2 16 "CuttingTableModel" "cells" "[J") (by decide +kernel)) dX2_alike_153 ?_
        refine lv_bipush (v := (24 : Int32)) hx hb dX2_alike_156 (by decide) ?_
        refine lv_iload_n hx hb dX2_alike_158 rfl (lv_at hl 3 rfl) ?_
        refine lv_imul hx hb dX2_alike_159 ?_
        refine lv_iload hx hb dX2_alike_160 (lv_at hl 6 rfl) ?_
        refine lv_iadd hx hb dX2_alike_162 ?_
        obtain ⟨hi20, hw⟩ := hw
        refine m_lald F I 3 12312 (by decide) hi20 dX2_alike_163 ?_
        refine lv_aload_n hx hb dX2_alike_164 rfl (lv_at hl 0 rfl) ?_
        refine m_get F hin I 2 (by decide) (v := .ref (h 3)) rfl (hts (.fieldLink RX2 16 "CuttingTableModel" "cells" "[J") (by decide +kernel)) dX2_alike_165 ?_
        refine lv_bipush (v := (24 : Int32)) hx hb dX2_alike_168 (by decide) ?_
        refine lv_iload hx hb dX2_alike_170 (lv_at hl 4 rfl) ?_
        refine lv_imul hx hb dX2_alike_172 ?_
        refine lv_iload hx hb dX2_alike_173 (lv_at hl 6 rfl) ?_
        refine lv_iadd hx hb dX2_alike_175 ?_
        obtain ⟨hi21, hw⟩ := hw
        refine m_lald F I 3 12312 (by decide) hi21 dX2_alike_176 ?_
        refine W.lcmp hx hb dX2_alike_177 ?_
        refine lv_if_ne (tgt := 185) hx hb dX2_alike_178 (by decide) (fun c_22 => ?_) (fun c_22 => ?_)
        · have hw := hw.1 (fun q => c_22 ((lg_cmp_eq _ _).mpr q))
          refine lv_iconst (v := (0 : Int32)) hx hb dX2_alike_185 (by decide) ?_
          refine lv_istore (lv' := [(5, .int ((0 : Int32))), (0, .ref (h 0)), (1, .int (v1)), (2, .int (v2)), (3, .int (v3)), (4, .int (v4)), (6, .int (v6))]) hx hb dX2_alike_186 hl (by decide) rfl (fun ls hl => ?_)
          refine lv_iinc (v := (v6 + (1 : Int32))) (lv' := [(6, .int ((v6 + (1 : Int32)))), (5, .int ((0 : Int32))), (0, .ref (h 0)), (1, .int (v1)), (2, .int (v2)), (3, .int (v3)), (4, .int (v4))]) hx hb dX2_alike_188 hl (k := 6) rfl rfl (by decide) rfl (fun ls hl => ?_)
          refine lv_goto (tgt := 136) hx hb dX2_alike_191 (by decide) ?_
          exact ih (v1) (v2) (v3) (v4) ((0 : Int32)) ((v6 + (1 : Int32))) S _ _ I ls (lv_sub hl [2, 3, 4, 5, 6, 1, 0] rfl) hw
        · have hw := hw.2 ((lg_cmp_eq _ _).mp c_22)
          refine lv_iconst (v := (1 : Int32)) hx hb dX2_alike_181 (by decide) ?_
          refine lv_goto (tgt := 186) hx hb dX2_alike_182 (by decide) ?_
          refine lv_istore (lv' := [(5, .int ((1 : Int32))), (0, .ref (h 0)), (1, .int (v1)), (2, .int (v2)), (3, .int (v3)), (4, .int (v4)), (6, .int (v6))]) hx hb dX2_alike_186 hl (by decide) rfl (fun ls hl => ?_)
          refine lv_iinc (v := (v6 + (1 : Int32))) (lv' := [(6, .int ((v6 + (1 : Int32)))), (5, .int ((1 : Int32))), (0, .ref (h 0)), (1, .int (v1)), (2, .int (v2)), (3, .int (v3)), (4, .int (v4))]) hx hb dX2_alike_188 hl (k := 6) rfl rfl (by decide) rfl (fun ls hl => ?_)
          refine lv_goto (tgt := 136) hx hb dX2_alike_191 (by decide) ?_
          exact ih (v1) (v2) (v3) (v4) ((1 : Int32)) ((v6 + (1 : Int32))) S _ _ I ls (lv_sub hl [2, 3, 4, 5, 6, 1, 0] rfl) hw
set_option maxHeartbeats 4000000 in
set_option maxRecDepth 100000 in
theorem c_X2_alike {l : Launch} {D : va_G} {cI cJ : ClassId} {h : Nat → Nat} (p0 : Int32) (p1 : Int32) (S : mS) (K : Int32 → mS → Prop) (hw : wp_X2_alike p0 p1 S K) : mMi l D cI cJ h yX2_alike wsX2_alike rm_X2_alike [.ref (h 0), .int (p0), .int (p1)] K S := by
  refine m_starti (rt := some .boolean) (by decide) rfl rfl (Nat.le_of_ble_eq_true rfl) ?_
  intro p e s m below meth c A ls F hr hlk I hl
  have hin : ∀ w ∈ u_ws RX2 TX2 24, w ∈ wsX2_alike := by decide +kernel
  obtain ⟨hx, hb, hml, hown, hts⟩ := id F
  have hl : lv_has ls 7 [(0, .ref (h 0)), (1, .int (p0)), (2, .int (p1))] := hl
  unfold wp_X2_alike at hw
  refine lv_aload_n hx hb dX2_alike_0 rfl (lv_at hl 0 rfl) ?_
  refine lv_iconst (v := (0 : Int32)) hx hb dX2_alike_1 (by decide) ?_
  refine m_put F hin I 23 (by decide) (hts (.fieldLink RX2 44 "CuttingTableModel" "thrown" "I") (by decide +kernel)) dX2_alike_2 (fun H locs I => ?_)
  refine lv_iload_n hx hb dX2_alike_5 rfl (lv_at hl 1 rfl) ?_
  refine s_calli (rest := []) F (c_X2_isSpindle (p0) _ hw) (va_cwS 1 hts gX2_alike_X2_isSpindle rfl rfl rfl (by decide +kernel) ⟨Nat.le_of_ble_eq_true rfl, Nat.le_of_ble_eq_true rfl⟩) rfl hl.1 rfl (Nat.le_of_ble_eq_true rfl) dX2_alike_6 ⟨Nat.zero_le _, Nat.zero_le _⟩ (fun r1 hw => ?_)
  refine lv_if_eq (tgt := 34) hx hb dX2_alike_9 (by decide) (fun c_2 => ?_) (fun c_2 => ?_)
  · have hw := hw.1 c_2
    refine lv_iconst (v := (0 : Int32)) hx hb dX2_alike_34 (by decide) ?_
    exact m_retz F hr hlk I dX2_alike_35 ⟨hw, by decide⟩
  · have hw := hw.2 c_2
    refine lv_iload_n hx hb dX2_alike_12 rfl (lv_at hl 2 rfl) ?_
    refine s_calli (rest := []) F (c_X2_isSpindle (p1) _ hw) (va_cwS 1 hts gX2_alike_X2_isSpindle rfl rfl rfl (by decide +kernel) ⟨Nat.le_of_ble_eq_true rfl, Nat.le_of_ble_eq_true rfl⟩) rfl hl.1 rfl (Nat.le_of_ble_eq_true rfl) dX2_alike_13 ⟨Nat.zero_le _, Nat.zero_le _⟩ (fun r3 hw => ?_)
    refine lv_if_eq (tgt := 34) hx hb dX2_alike_16 (by decide) (fun c_4 => ?_) (fun c_4 => ?_)
    · have hw := hw.1 c_4
      refine lv_iconst (v := (0 : Int32)) hx hb dX2_alike_34 (by decide) ?_
      exact m_retz F hr hlk I dX2_alike_35 ⟨hw, by decide⟩
    · have hw := hw.2 c_4
      refine lv_aload_n hx hb dX2_alike_19 rfl (lv_at hl 0 rfl) ?_
      refine m_get F hin I 4 (by decide) (v := .ref (h 4)) rfl (hts (.fieldLink RX2 20 "CuttingTableModel" "lies" "[I") (by decide +kernel)) dX2_alike_20 ?_
      refine lv_iload_n hx hb dX2_alike_23 rfl (lv_at hl 1 rfl) ?_
      obtain ⟨hi5, hw⟩ := hw
      refine m_iald F I 4 8 (by decide) hi5 dX2_alike_24 ?_
      refine lv_aload_n hx hb dX2_alike_25 rfl (lv_at hl 0 rfl) ?_
      refine m_get F hin I 4 (by decide) (v := .ref (h 4)) rfl (hts (.fieldLink RX2 20 "CuttingTableModel" "lies" "[I") (by decide +kernel)) dX2_alike_26 ?_
      refine lv_iload_n hx hb dX2_alike_29 rfl (lv_at hl 2 rfl) ?_
      obtain ⟨hi6, hw⟩ := hw
      refine m_iald F I 4 8 (by decide) hi6 dX2_alike_30 ?_
      refine lv_icmp_eq (tgt := 36) hx hb dX2_alike_31 (by decide) (fun c_7 => ?_) (fun c_7 => ?_)
      · have hw := hw.1 c_7
        refine lv_aload_n hx hb dX2_alike_36 rfl (lv_at hl 0 rfl) ?_
        refine m_get F hin I 4 (by decide) (v := .ref (h 4)) rfl (hts (.fieldLink RX2 20 "CuttingTableModel" "lies" "[I") (by decide +kernel)) dX2_alike_37 ?_
        refine lv_iload_n hx hb dX2_alike_40 rfl (lv_at hl 1 rfl) ?_
        obtain ⟨hi8, hw⟩ := hw
        refine m_iald F I 4 8 (by decide) hi8 dX2_alike_41 ?_
        refine lv_if_ne (tgt := 47) hx hb dX2_alike_42 (by decide) (fun c_9 => ?_) (fun c_9 => ?_)
        · have hw := hw.1 c_9
          refine lv_aload_n hx hb dX2_alike_47 rfl (lv_at hl 0 rfl) ?_
          refine m_get F hin I 5 (by decide) (v := .ref (h 5)) rfl (hts (.fieldLink RX2 23 "CuttingTableModel" "which" "[I") (by decide +kernel)) dX2_alike_48 ?_
          refine lv_iload_n hx hb dX2_alike_51 rfl (lv_at hl 1 rfl) ?_
          obtain ⟨hi10, hw⟩ := hw
          refine m_iald F I 5 8 (by decide) hi10 dX2_alike_52 ?_
          refine lv_istore_n (lv' := [(3, .int ((((S.si 23 (0 : Int32))).ia 5 (p0).toNatClampNeg))), (0, .ref (h 0)), (1, .int (p0)), (2, .int (p1))]) hx hb dX2_alike_53 rfl hl (by decide) rfl (fun ls hl => ?_)
          refine lv_aload_n hx hb dX2_alike_54 rfl (lv_at hl 1 rfl) ?_
          refine m_get F hin I 5 (by decide) (v := .ref (h 5)) rfl (hts (.fieldLink RX2 23 "CuttingTableModel" "which" "[I") (by decide +kernel)) dX2_alike_55 ?_
          refine lv_iload_n hx hb dX2_alike_58 rfl (lv_at hl 3 rfl) ?_
          obtain ⟨hi11, hw⟩ := hw
          refine m_iald F I 5 8 (by decide) hi11 dX2_alike_59 ?_
          refine lv_istore (lv' := [(4, .int ((((S.si 23 (0 : Int32))).ia 5 (p1).toNatClampNeg))), (3, .int ((((S.si 23 (0 : Int32))).ia 5 (p0).toNatClampNeg))), (0, .ref (h 0)), (1, .int (p0)), (2, .int (p1))]) hx hb dX2_alike_60 hl (by decide) rfl (fun ls hl => ?_)
          refine lv_aload_n hx hb dX2_alike_62 rfl (lv_at hl 2 rfl) ?_
          refine m_get F hin I 4 (by decide) (v := .ref (h 4)) rfl (hts (.fieldLink RX2 20 "CuttingTableModel" "lies" "[I") (by decide +kernel)) dX2_alike_63 ?_
          refine lv_iload_n hx hb dX2_alike_66 rfl (lv_at hl 3 rfl) ?_
          obtain ⟨hi12, hw⟩ := hw
          refine m_iald F I 4 8 (by decide) hi12 dX2_alike_67 ?_
          refine lv_iconst (v := (2 : Int32)) hx hb dX2_alike_68 (by decide) ?_
          refine lv_icmp_ne (tgt := 94) hx hb dX2_alike_69 (by decide) (fun c_13 => ?_) (fun c_13 => ?_)
          · have hw := hw.1 c_13
            refine lv_aload_n hx hb dX2_alike_94 rfl (lv_at hl 2 rfl) ?_
            refine m_get F hin I 0 (by decide) (v := .ref (h 1)) rfl (hts (.fieldLink RX2 7 "CuttingTableModel" "stocks" "[I") (by decide +kernel)) dX2_alike_95 ?_
            refine lv_iload_n hx hb dX2_alike_98 rfl (lv_at hl 1 rfl) ?_
            obtain ⟨hi14, hw⟩ := hw
            refine m_iald F I 1 513 (by decide) hi14 dX2_alike_99 ?_
            refine lv_aload_n hx hb dX2_alike_100 rfl (lv_at hl 2 rfl) ?_
            refine m_get F hin I 0 (by decide) (v := .ref (h 1)) rfl (hts (.fieldLink RX2 7 "CuttingTableModel" "stocks" "[I") (by decide +kernel)) dX2_alike_101 ?_
            refine lv_iload hx hb dX2_alike_104 (lv_at hl 0 rfl) ?_
            obtain ⟨hi15, hw⟩ := hw
            refine m_iald F I 1 513 (by decide) hi15 dX2_alike_106 ?_
            refine lv_icmp_ne (tgt := 130) hx hb dX2_alike_107 (by decide) (fun c_16 => ?_) (fun c_16 => ?_)
            · have hw := hw.1 c_16
              refine lv_iconst (v := (0 : Int32)) hx hb dX2_alike_130 (by decide) ?_
              refine lv_istore (lv' := [(5, .int ((0 : Int32))), (4, .int ((((S.si 23 (0 : Int32))).ia 5 (p1).toNatClampNeg))), (3, .int ((((S.si 23 (0 : Int32))).ia 5 (p0).toNatClampNeg))), (0, .ref (h 0)), (1, .int (p0)), (2, .int (p1))]) hx hb dX2_alike_131 hl (by decide) rfl (fun ls hl => ?_)
              refine lv_iconst (v := (0 : Int32)) hx hb dX2_alike_133 (by decide) ?_
              refine lv_istore (lv' := [(6, .int ((0 : Int32))), (5, .int ((0 : Int32))), (4, .int ((((S.si 23 (0 : Int32))).ia 5 (p1).toNatClampNeg))), (3, .int ((((S.si 23 (0 : Int32))).ia 5 (p0).toNatClampNeg))), (0, .ref (h 0)), (1, .int (p0)), (2, .int (p1))]) hx hb dX2_alike_134 hl (by decide) rfl (fun ls hl => ?_)
              obtain ⟨n136, hw⟩ := hw
              exact lp_X2_alike_136 F hin hr hlk n136 (p0) (p1) ((((S.si 23 (0 : Int32))).ia 5 (p0).toNatClampNeg)) ((((S.si 23 (0 : Int32))).ia 5 (p1).toNatClampNeg)) ((0 : Int32)) ((0 : Int32)) (S.si 23 (0 : Int32)) _ _ I ls (lv_sub hl [4, 5, 6, 3, 2, 1, 0] rfl) hw
            · have hw := hw.2 c_16
              refine lv_aload_n hx hb dX2_alike_110 rfl (lv_at hl 2 rfl) ?_
              refine m_get F hin I 1 (by decide) (v := .ref (h 2)) rfl (hts (.fieldLink RX2 13 "CuttingTableModel" "sizes" "[I") (by decide +kernel)) dX2_alike_111 ?_
              refine lv_iload_n hx hb dX2_alike_114 rfl (lv_at hl 1 rfl) ?_
              obtain ⟨hi23, hw⟩ := hw
              refine m_iald F I 2 513 (by decide) hi23 dX2_alike_115 ?_
              refine lv_aload_n hx hb dX2_alike_116 rfl (lv_at hl 2 rfl) ?_
              refine m_get F hin I 1 (by decide) (v := .ref (h 2)) rfl (hts (.fieldLink RX2 13 "CuttingTableModel" "sizes" "[I") (by decide +kernel)) dX2_alike_117 ?_
              refine lv_iload hx hb dX2_alike_120 (lv_at hl 0 rfl) ?_
              obtain ⟨hi24, hw⟩ := hw
              refine m_iald F I 2 513 (by decide) hi24 dX2_alike_122 ?_
              refine lv_icmp_ne (tgt := 130) hx hb dX2_alike_123 (by decide) (fun c_25 => ?_) (fun c_25 => ?_)
              · have hw := hw.1 c_25
                refine lv_iconst (v := (0 : Int32)) hx hb dX2_alike_130 (by decide) ?_
                refine lv_istore (lv' := [(5, .int ((0 : Int32))), (4, .int ((((S.si 23 (0 : Int32))).ia 5 (p1).toNatClampNeg))), (3, .int ((((S.si 23 (0 : Int32))).ia 5 (p0).toNatClampNeg))), (0, .ref (h 0)), (1, .int (p0)), (2, .int (p1))]) hx hb dX2_alike_131 hl (by decide) rfl (fun ls hl => ?_)
                refine lv_iconst (v := (0 : Int32)) hx hb dX2_alike_133 (by decide) ?_
                refine lv_istore (lv' := [(6, .int ((0 : Int32))), (5, .int ((0 : Int32))), (4, .int ((((S.si 23 (0 : Int32))).ia 5 (p1).toNatClampNeg))), (3, .int ((((S.si 23 (0 : Int32))).ia 5 (p0).toNatClampNeg))), (0, .ref (h 0)), (1, .int (p0)), (2, .int (p1))]) hx hb dX2_alike_134 hl (by decide) rfl (fun ls hl => ?_)
                obtain ⟨n136, hw⟩ := hw
                exact lp_X2_alike_136 F hin hr hlk n136 (p0) (p1) ((((S.si 23 (0 : Int32))).ia 5 (p0).toNatClampNeg)) ((((S.si 23 (0 : Int32))).ia 5 (p1).toNatClampNeg)) ((0 : Int32)) ((0 : Int32)) (S.si 23 (0 : Int32)) _ _ I ls (lv_sub hl [4, 5, 6, 3, 2, 1, 0] rfl) hw
              · have hw := hw.2 c_25
                refine lv_iconst (v := (1 : Int32)) hx hb dX2_alike_126 (by decide) ?_
                refine lv_goto (tgt := 131) hx hb dX2_alike_127 (by decide) ?_
                refine lv_istore (lv' := [(5, .int ((1 : Int32))), (4, .int ((((S.si 23 (0 : Int32))).ia 5 (p1).toNatClampNeg))), (3, .int ((((S.si 23 (0 : Int32))).ia 5 (p0).toNatClampNeg))), (0, .ref (h 0)), (1, .int (p0)), (2, .int (p1))]) hx hb dX2_alike_131 hl (by decide) rfl (fun ls hl => ?_)
                refine lv_iconst (v := (0 : Int32)) hx hb dX2_alike_133 (by decide) ?_
                refine lv_istore (lv' := [(6, .int ((0 : Int32))), (5, .int ((1 : Int32))), (4, .int ((((S.si 23 (0 : Int32))).ia 5 (p1).toNatClampNeg))), (3, .int ((((S.si 23 (0 : Int32))).ia 5 (p0).toNatClampNeg))), (0, .ref (h 0)), (1, .int (p0)), (2, .int (p1))]) hx hb dX2_alike_134 hl (by decide) rfl (fun ls hl => ?_)
                obtain ⟨n136, hw⟩ := hw
                exact lp_X2_alike_136 F hin hr hlk n136 (p0) (p1) ((((S.si 23 (0 : Int32))).ia 5 (p0).toNatClampNeg)) ((((S.si 23 (0 : Int32))).ia 5 (p1).toNatClampNeg)) ((1 : Int32)) ((0 : Int32)) (S.si 23 (0 : Int32)) _ _ I ls (lv_sub hl [4, 5, 6, 3, 2, 1, 0] rfl) hw
          · have hw := hw.2 c_13
            refine lv_aload_n hx hb dX2_alike_72 rfl (lv_at hl 2 rfl) ?_
            refine m_get F hin I 6 (by decide) (v := .ref (h 6)) rfl (hts (.fieldLink RX2 26 "CuttingTableModel" "tagNumbers" "[I") (by decide +kernel)) dX2_alike_73 ?_
            refine lv_iload_n hx hb dX2_alike_76 rfl (lv_at hl 1 rfl) ?_
            obtain ⟨hi26, hw⟩ := hw
            refine m_iald F I 6 513 (by decide) hi26 dX2_alike_77 ?_
            refine lv_aload_n hx hb dX2_alike_78 rfl (lv_at hl 2 rfl) ?_
            refine m_get F hin I 6 (by decide) (v := .ref (h 6)) rfl (hts (.fieldLink RX2 26 "CuttingTableModel" "tagNumbers" "[I") (by decide +kernel)) dX2_alike_79 ?_
            refine lv_iload hx hb dX2_alike_82 (lv_at hl 0 rfl) ?_
            obtain ⟨hi27, hw⟩ := hw
            refine m_iald F I 6 513 (by decide) hi27 dX2_alike_84 ?_
            refine lv_icmp_ne (tgt := 92) hx hb dX2_alike_85 (by decide) (fun c_28 => ?_) (fun c_28 => ?_)
            · have hw := hw.1 c_28
              refine lv_iconst (v := (0 : Int32)) hx hb dX2_alike_92 (by decide) ?_
              exact m_retz F hr hlk I dX2_alike_93 ⟨hw, by decide⟩
            · have hw := hw.2 c_28
              refine lv_iconst (v := (1 : Int32)) hx hb dX2_alike_88 (by decide) ?_
              refine lv_goto (tgt := 93) hx hb dX2_alike_89 (by decide) ?_
              exact m_retz F hr hlk I dX2_alike_93 ⟨hw, by decide⟩
        · have hw := hw.2 c_9
          refine lv_iconst (v := (1 : Int32)) hx hb dX2_alike_45 (by decide) ?_
          exact m_retz F hr hlk I dX2_alike_46 ⟨hw, by decide⟩
      · have hw := hw.2 c_7
        refine lv_iconst (v := (0 : Int32)) hx hb dX2_alike_34 (by decide) ?_
        exact m_retz F hr hlk I dX2_alike_35 ⟨hw, by decide⟩
abbrev rm_X2_count : Room := { frames := 0, cells := 0, slots := 0, locals := 0 }
def wp_X2_count (p0 : Int32) (S : mS) (K : Int32 → mS → Prop) : Prop := ((p0 = (0 : Int32) → K ((((S.si 23 (0 : Int32))).fi 3)) (S.si 23 (0 : Int32))) ∧ (p0 = (1 : Int32) → K ((((S.si 23 (0 : Int32))).fi 21)) (S.si 23 (0 : Int32))) ∧ (p0 = (2 : Int32) → K ((((S.si 23 (0 : Int32))).fi 22)) (S.si 23 (0 : Int32))) ∧ (p0 = (3 : Int32) → K ((((S.si 23 (0 : Int32))).fi 12)) (S.si 23 (0 : Int32))) ∧ (p0 = (4 : Int32) → K ((((S.si 23 (0 : Int32))).fi 16)) (S.si 23 (0 : Int32))) ∧ (p0 = (5 : Int32) → K ((((S.si 23 (0 : Int32))).fi 10)) (S.si 23 (0 : Int32))) ∧ (¬ p0 = (0 : Int32) → ¬ p0 = (1 : Int32) → ¬ p0 = (2 : Int32) → ¬ p0 = (3 : Int32) → ¬ p0 = (4 : Int32) → ¬ p0 = (5 : Int32) → K ((-1 : Int32)) (S.si 23 (0 : Int32))))
set_option maxHeartbeats 4000000 in
set_option maxRecDepth 100000 in
theorem c_X2_count {l : Launch} {D : va_G} {cI cJ : ClassId} {h : Nat → Nat} (p0 : Int32) (S : mS) (K : Int32 → mS → Prop) (hw : wp_X2_count p0 S K) : mMi l D cI cJ h yX2_count wsX2_count rm_X2_count [.ref (h 0), .int (p0)] K S := by
  refine m_starti (rt := some .int) (by decide) rfl rfl (Nat.le_of_ble_eq_true rfl) ?_
  intro p e s m below meth c A ls F hr hlk I hl
  have hin : ∀ w ∈ u_ws RX2 TX2 24, w ∈ wsX2_count := by decide +kernel
  obtain ⟨hx, hb, hml, hown, hts⟩ := id F
  have hl : lv_has ls 2 [(0, .ref (h 0)), (1, .int (p0))] := hl
  unfold wp_X2_count at hw
  refine lv_aload_n hx hb dX2_count_0 rfl (lv_at hl 0 rfl) ?_
  refine lv_iconst (v := (0 : Int32)) hx hb dX2_count_1 (by decide) ?_
  refine m_put F hin I 23 (by decide) (hts (.fieldLink RX2 44 "CuttingTableModel" "thrown" "I") (by decide +kernel)) dX2_count_2 (fun H locs I => ?_)
  refine lv_iload_n hx hb dX2_count_5 rfl (lv_at hl 1 rfl) ?_
  by_cases c_1 : p0 = (0 : Int32)
  · have hw := hw.1 c_1
    refine lv_tableIn (off := 38) (tgt := 44) hx hb dX2_count_6 (by rw [c_1]; decide) (by rw [c_1]; decide) (by rw [c_1]; decide) (by decide) ?_
    refine lv_aload_n hx hb dX2_count_44 rfl (lv_at hl 0 rfl) ?_
    refine m_get F hin I 3 (by decide) (v := .int ((((S.si 23 (0 : Int32))).fi 3))) rfl (hts (.fieldLink RX2 57 "CuttingTableModel" "reels" "I") (by decide +kernel)) dX2_count_45 ?_
    exact m_reti F hr hlk I dX2_count_48 hw
  have hw := hw.2
  by_cases c_2 : p0 = (1 : Int32)
  · have hw := hw.1 c_2
    refine lv_tableIn (off := 43) (tgt := 49) hx hb dX2_count_6 (by rw [c_2]; decide) (by rw [c_2]; decide) (by rw [c_2]; decide) (by decide) ?_
    refine lv_aload_n hx hb dX2_count_49 rfl (lv_at hl 0 rfl) ?_
    refine m_get F hin I 21 (by decide) (v := .int ((((S.si 23 (0 : Int32))).fi 21))) rfl (hts (.fieldLink RX2 113 "CuttingTableModel" "splices" "I") (by decide +kernel)) dX2_count_50 ?_
    exact m_reti F hr hlk I dX2_count_53 hw
  have hw := hw.2
  by_cases c_3 : p0 = (2 : Int32)
  · have hw := hw.1 c_3
    refine lv_tableIn (off := 48) (tgt := 54) hx hb dX2_count_6 (by rw [c_3]; decide) (by rw [c_3]; decide) (by rw [c_3]; decide) (by decide) ?_
    refine lv_aload_n hx hb dX2_count_54 rfl (lv_at hl 0 rfl) ?_
    refine m_get F hin I 22 (by decide) (v := .int ((((S.si 23 (0 : Int32))).fi 22))) rfl (hts (.fieldLink RX2 122 "CuttingTableModel" "went" "I") (by decide +kernel)) dX2_count_55 ?_
    exact m_reti F hr hlk I dX2_count_58 hw
  have hw := hw.2
  by_cases c_4 : p0 = (3 : Int32)
  · have hw := hw.1 c_4
    refine lv_tableIn (off := 53) (tgt := 59) hx hb dX2_count_6 (by rw [c_4]; decide) (by rw [c_4]; decide) (by rw [c_4]; decide) (by decide) ?_
    refine lv_aload_n hx hb dX2_count_59 rfl (lv_at hl 0 rfl) ?_
    refine m_get F hin I 12 (by decide) (v := .int ((((S.si 23 (0 : Int32))).fi 12))) rfl (hts (.fieldLink RX2 129 "CuttingTableModel" "cuts" "I") (by decide +kernel)) dX2_count_60 ?_
    exact m_reti F hr hlk I dX2_count_63 hw
  have hw := hw.2
  by_cases c_5 : p0 = (4 : Int32)
  · have hw := hw.1 c_5
    refine lv_tableIn (off := 58) (tgt := 64) hx hb dX2_count_6 (by rw [c_5]; decide) (by rw [c_5]; decide) (by rw [c_5]; decide) (by decide) ?_
    refine lv_aload_n hx hb dX2_count_64 rfl (lv_at hl 0 rfl) ?_
    refine m_get F hin I 16 (by decide) (v := .int ((((S.si 23 (0 : Int32))).fi 16))) rfl (hts (.fieldLink RX2 96 "CuttingTableModel" "binMany" "I") (by decide +kernel)) dX2_count_65 ?_
    exact m_reti F hr hlk I dX2_count_68 hw
  have hw := hw.2
  by_cases c_6 : p0 = (5 : Int32)
  · have hw := hw.1 c_6
    refine lv_tableIn (off := 63) (tgt := 69) hx hb dX2_count_6 (by rw [c_6]; decide) (by rw [c_6]; decide) (by rw [c_6]; decide) (by decide) ?_
    refine lv_aload_n hx hb dX2_count_69 rfl (lv_at hl 0 rfl) ?_
    refine m_get F hin I 10 (by decide) (v := .int ((((S.si 23 (0 : Int32))).fi 10))) rfl (hts (.fieldLink RX2 99 "CuttingTableModel" "shots" "I") (by decide +kernel)) dX2_count_70 ?_
    exact m_reti F hr hlk I dX2_count_73 hw
  have hw := hw.2
  have hw := hw c_1 c_2 c_3 c_4 c_5 c_6
  refine lv_tableOut (tgt := 74) hx hb dX2_count_6 (by have nc_1 := lv_neT c_1 (k := (0 : Int32)) (a := 0) rfl; have nc_2 := lv_neT c_2 (k := (1 : Int32)) (a := 1) rfl; have nc_3 := lv_neT c_3 (k := (2 : Int32)) (a := 2) rfl; have nc_4 := lv_neT c_4 (k := (3 : Int32)) (a := 3) rfl; have nc_5 := lv_neT c_5 (k := (4 : Int32)) (a := 4) rfl; have nc_6 := lv_neT c_6 (k := (5 : Int32)) (a := 5) rfl; omega) (by decide) ?_
  refine lv_iconst (v := (-1 : Int32)) hx hb dX2_count_74 (by decide) ?_
  exact m_reti F hr hlk I dX2_count_75 hw
abbrev rm_X2_thrown : Room := { frames := 0, cells := 0, slots := 0, locals := 0 }
def wp_X2_thrown  (S : mS) (K : Int32 → mS → Prop) : Prop := K (((S).fi 23)) S
set_option maxHeartbeats 4000000 in
set_option maxRecDepth 100000 in
theorem c_X2_thrown {l : Launch} {D : va_G} {cI cJ : ClassId} {h : Nat → Nat}  (S : mS) (K : Int32 → mS → Prop) (hw : wp_X2_thrown  S K) : mMi l D cI cJ h yX2_thrown wsX2_thrown rm_X2_thrown [.ref (h 0)] K S := by
  refine m_starti (rt := some .int) (by decide) rfl rfl (Nat.le_of_ble_eq_true rfl) ?_
  intro p e s m below meth c A ls F hr hlk I hl
  have hin : ∀ w ∈ u_ws RX2 TX2 24, w ∈ wsX2_thrown := by decide +kernel
  obtain ⟨hx, hb, hml, hown, hts⟩ := id F
  have hl : lv_has ls 1 [(0, .ref (h 0))] := hl
  unfold wp_X2_thrown at hw
  refine lv_aload_n hx hb dX2_thrown_0 rfl (lv_at hl 0 rfl) ?_
  refine m_get F hin I 23 (by decide) (v := .int (((S).fi 23))) rfl (hts (.fieldLink RX2 44 "CuttingTableModel" "thrown" "I") (by decide +kernel)) dX2_thrown_1 ?_
  exact m_reti F hr hlk I dX2_thrown_4 hw
end
section
section CWorld
/-- the class's state: int fields by slot; spindles; cuts; bin's frames; bin's reel; the pool of Loads (kind 0) and their rows (kind 1) by address: addresses, kind, sort, number, frames' address, length, contents -/
def cS : Type := (Nat → Int32) × (Nat → Option Nat) × (Nat → Int32) × (Nat → Int64) × Option Nat × List Nat × (Nat → Nat) × (Nat → Int32) × (Nat → Int32) × (Nat → Option Nat) × (Nat → Nat) × (Nat → Nat → Int64)
def cS.fi (C : cS) : Nat → Int32 := C.1
def cS.sp (C : cS) : Nat → Option Nat := C.2.1
def cS.cu (C : cS) : Nat → Int32 := C.2.2.1
def cS.bf (C : cS) : Nat → Int64 := C.2.2.2.1
def cS.br (C : cS) : Option Nat := C.2.2.2.2.1
def cS.L (C : cS) : List Nat := C.2.2.2.2.2.1
def cS.kd (C : cS) : Nat → Nat := C.2.2.2.2.2.2.1
def cS.so (C : cS) : Nat → Int32 := C.2.2.2.2.2.2.2.1
def cS.nu (C : cS) : Nat → Int32 := C.2.2.2.2.2.2.2.2.1
def cS.fr (C : cS) : Nat → Option Nat := C.2.2.2.2.2.2.2.2.2.1
def cS.ln (C : cS) : Nat → Nat := C.2.2.2.2.2.2.2.2.2.2.1
def cS.ar (C : cS) : Nat → Nat → Int64 := C.2.2.2.2.2.2.2.2.2.2.2
def cS.ld (C : cS) (a : Nat) : Prop := a ∈ C.L ∧ C.kd a = 0
def cS.aw (C : cS) (a : Nat) : Prop := a ∈ C.L ∧ C.kd a = 1
def cS.si (C : cS) (k : Nat) (v : Int32) : cS := (upd C.fi k v, C.sp, C.cu, C.bf, C.br, C.L, C.kd, C.so, C.nu, C.fr, C.ln, C.ar)
def cS.ssp (C : cS) (k : Nat) (r : Option Nat) : cS := (C.fi, va_up C.sp k r, C.cu, C.bf, C.br, C.L, C.kd, C.so, C.nu, C.fr, C.ln, C.ar)
def cS.scu (C : cS) (k : Nat) (v : Int32) : cS := (C.fi, C.sp, upd C.cu k v, C.bf, C.br, C.L, C.kd, C.so, C.nu, C.fr, C.ln, C.ar)
def cS.ccu (C : cS) (sp dp n : Nat) : cS := (C.fi, C.sp, va_cpy C.cu C.cu sp dp n, C.bf, C.br, C.L, C.kd, C.so, C.nu, C.fr, C.ln, C.ar)
def cS.cpb (C : cS) (b sp dp n : Nat) : cS := (C.fi, C.sp, C.cu, va_cpy (C.ar b) C.bf sp dp n, C.br, C.L, C.kd, C.so, C.nu, C.fr, C.ln, C.ar)
def cS.sbr (C : cS) (r : Option Nat) : cS := (C.fi, C.sp, C.cu, C.bf, r, C.L, C.kd, C.so, C.nu, C.fr, C.ln, C.ar)
def cS.sar (C : cS) (b : Nat) (g : Nat → Int64) : cS := (C.fi, C.sp, C.cu, C.bf, C.br, C.L, C.kd, C.so, C.nu, C.fr, C.ln, va_up C.ar b g)
def cS.sal (C : cS) (b k : Nat) (v : Int64) : cS := C.sar b (vp_updL (C.ar b) k v)
def cS.cbp (C : cS) (b sp dp n : Nat) : cS := C.sar b (va_cpy C.bf (C.ar b) sp dp n)
def cS.cpp (C : cS) (a b sp dp n : Nat) : cS := C.sar b (va_cpy (C.ar a) (C.ar b) sp dp n)
def cS.nl (C : cS) (q : Nat) : cS := (C.fi, C.sp, C.cu, C.bf, C.br, C.L ++ [q], va_up C.kd q 0, va_up C.so q 0, va_up C.nu q 0, va_up C.fr q none, C.ln, C.ar)
def cS.na (C : cS) (q n : Nat) (f : Nat → Int64) : cS := (C.fi, C.sp, C.cu, C.bf, C.br, C.L ++ [q], va_up C.kd q 1, C.so, C.nu, C.fr, va_up C.ln q n, va_up C.ar q f)
def cS.slo (C : cS) (q : Nat) (v : Int32) : cS := (C.fi, C.sp, C.cu, C.bf, C.br, C.L, C.kd, va_up C.so q v, C.nu, C.fr, C.ln, C.ar)
def cS.sln (C : cS) (q : Nat) (v : Int32) : cS := (C.fi, C.sp, C.cu, C.bf, C.br, C.L, C.kd, C.so, va_up C.nu q v, C.fr, C.ln, C.ar)
def cS.slf (C : cS) (q : Nat) (r : Option Nat) : cS := (C.fi, C.sp, C.cu, C.bf, C.br, C.L, C.kd, C.so, C.nu, va_up C.fr q r, C.ln, C.ar)
def pF (cJ : ClassId) (C : cS) (a : Nat) : va_E := if C.kd a = 0 then .inr (0, [.int (C.so a), .int (C.nu a), va_rf (C.fr a)]) else .inl (cJ, C.ln a, .inr (.inl (C.ar a)))
def cfs (h : Nat → Nat) (C : cS) : List Value := [.ref (h 1), .ref (h 2), .int (C.fi 2), .ref (h 3), va_rf C.br, .int (C.fi 5), .int (C.fi 6), .int (C.fi 7), .int (C.fi 8), .int (C.fi 9), .int (C.fi 10), .int (C.fi 11), .int (C.fi 12), .int (C.fi 13)]
def cX (cI cJ cO : ClassId) (h : Nat → Nat) (C : cS) : va_W := [(h 0, .inr (1, cfs h C)), (h 1, .inl (cO, 8, .inr (.inr (.inr (.inr C.sp))))), (h 2, .inl (cI, 80, .inl C.cu)), (h 3, .inl (cJ, 24, .inr (.inl C.bf)))]
def cW (cI cJ cO : ClassId) (h : Nat → Nat) (C : cS) : va_W := cX cI cJ cO h C ++ va_pl C.L (pF cJ C)
def tysC (cI cJ cO : ClassId) : List (ClassId × FieldType) := [(cI, .int), (cJ, .long), (cO, .object RX0)]
def cG (D : va_G) (cI cJ cO : ClassId) (h : Nat → Nat) (A : Nat → Prop) (s : State) (H0 H : Heap) (locs : List Loc) (C : cS) : Prop :=
  va_K D vwCl (tysC cI cJ cO) s ∧ va_P D vwCl (cW cI cJ cO h C) H ∧ va_D A (cW cI cJ cO h C) ∧ va_S A H0 H locs ∧ (∀ q, H0.size ≤ q → A q) ∧ va_Nw (.castable "[J" "java/lang/Cloneable") s
def cPc (D : va_G) (cI cJ cO : ClassId) (h : Nat → Nat) (C : cS) (sz : Nat) (As : List Value) : Array Value → State → Prop :=
  va_Pc As (fun U => U.heap.size = sz ∧ va_P D vwCl (cW cI cJ cO h C) U.heap ∧ va_K D vwCl (tysC cI cJ cO) U ∧ va_D (fun _ => True) (cW cI cJ cO h C) ∧ va_Nw (.castable "[J" "java/lang/Cloneable") U)
def cB (D : va_G) (cI cJ cO : ClassId) (h : Nat → Nat) (A : Nat → Prop) (u : cS) (t : State) : Prop := va_P D vwCl (cW cI cJ cO h u) t.heap ∧ va_K D vwCl (tysC cI cJ cO) t ∧ va_D A (cW cI cJ cO h u)
def cMi (l : Launch) (D : va_G) (cI cJ cO : ClassId) (h : Nat → Nat) (y : MethodName) (ws : List Cond) (rm : Room) (mc ms : Nat) (As : List Value) (K : Int32 → cS → Prop) (C : cS) : Prop :=
  ∀ sz : Nat, Met l y ws rm (cPc D cI cJ cO h C sz As) (va_Qi K (cB D cI cJ cO h (va_A (cW cI cJ cO h C) sz)) (va_A (cW cI cJ cO h C) sz)) mc ms (va_A (cW cI cJ cO h C) sz)
def cMl (l : Launch) (D : va_G) (cI cJ cO : ClassId) (h : Nat → Nat) (y : MethodName) (ws : List Cond) (rm : Room) (mc ms : Nat) (As : List Value) (K : Int64 → cS → Prop) (C : cS) : Prop :=
  ∀ sz : Nat, Met l y ws rm (cPc D cI cJ cO h C sz As) (va_Ql K (cB D cI cJ cO h (va_A (cW cI cJ cO h C) sz)) (va_A (cW cI cJ cO h C) sz)) mc ms (va_A (cW cI cJ cO h C) sz)
def cMv (l : Launch) (D : va_G) (cI cJ cO : ClassId) (h : Nat → Nat) (y : MethodName) (ws : List Cond) (rm : Room) (mc ms : Nat) (As : List Value) (K : cS → Prop) (C : cS) : Prop :=
  ∀ sz : Nat, Met l y ws rm (cPc D cI cJ cO h C sz As) (va_Qv K (cB D cI cJ cO h (va_A (cW cI cJ cO h C) sz)) (va_A (cW cI cJ cO h C) sz)) mc ms (va_A (cW cI cJ cO h C) sz)
def cMq (l : Launch) (D : va_G) (cI cJ cO : ClassId) (h : Nat → Nat) (y : MethodName) (ws : List Cond) (rm : Room) (mc ms : Nat) (As : List Value) (K : Option Nat → cS → Prop) (C : cS) : Prop :=
  ∀ sz : Nat, Met l y ws rm (cPc D cI cJ cO h C sz As) (va_Qq K (cB D cI cJ cO h (va_A (cW cI cJ cO h C) sz)) (va_A (cW cI cJ cO h C) sz)) mc ms (va_A (cW cI cJ cO h C) sz)
def cInt : List Nat := [2, 5, 6, 7, 8, 9, 10, 11, 12, 13]
theorem c_pf {k : Nat} (hk : k ∈ cInt) : k < 14 ∧ (TX1 k).2.2.2 = false ∧ parseFieldDescriptor (TX1 k).2.2.1 = some .int ∧ ∀ (h : Nat → Nat) (C : cS) (v : Int32), (cfs h C).set k (.int v) = cfs h (C.si k v) := by
  simp only [cInt, List.mem_cons, List.not_mem_nil, or_false] at hk
  rcases hk with rfl | rfl | rfl | rfl | rfl | rfl | rfl | rfl | rfl | rfl <;> exact ⟨by decide, rfl, tyX1_ok _ (by decide), fun _ _ _ => rfl⟩
section Rows
variable {p : Program} {l : Launch} {e : Env} {R : Room} {s : State} {m : MethodId} {args : Array Value} {below : List Frame} {meth : Method} {c : Code} {H H0 : Heap} {locs : List Loc} {cells slots : Nat} {Q : State → Prop} {cc : ByteArray} {nL pc : Nat} {ls : Array Slot} {rest st0 : List Value} {Ts : List Cond} {D : va_G} {cI cJ cO : ClassId} {h : Nat → Nat} {A : Nat → Prop} {C : cS} {own : String}
theorem c_ldk {a : Nat} (ha : C.ld a) : ∃ k : Nat, (cW cI cJ cO h C)[k]? = some (a, pF cJ C a) ∧ (cW cI cJ cO h C)[k]? = some (a, .inr (0, [.int (C.so a), .int (C.nu a), va_rf (C.fr a)])) := by
  obtain ⟨k, hk⟩ := va_pl_get (X := cX cI cJ cO h C) (f := pF cJ C) ha.1
  exact ⟨k, hk, by rw [show pF cJ C a = .inr (0, [.int (C.so a), .int (C.nu a), va_rf (C.fr a)]) from if_pos ha.2] at hk; exact hk⟩
theorem c_awk {a : Nat} (ha : C.aw a) : ∃ k : Nat, (cW cI cJ cO h C)[k]? = some (a, pF cJ C a) ∧ (cW cI cJ cO h C)[k]? = some (a, .inl (cJ, C.ln a, .inr (.inl (C.ar a)))) := by
  obtain ⟨k, hk⟩ := va_pl_get (X := cX cI cJ cO h C) (f := pF cJ C) ha.1
  exact ⟨k, hk, by rw [show pF cJ C a = .inl (cJ, C.ln a, .inr (.inl (C.ar a))) from if_neg (by rw [ha.2]; decide)] at hk; exact hk⟩
theorem c_aws {a k : Nat} (ha : C.aw a) (hD : va_D A (cW cI cJ cO h C)) (hk : (cW cI cJ cO h C)[k]? = some (a, pF cJ C a)) (g : Nat → Int64) : (cW cI cJ cO h C).set k (a, .inl (cJ, C.ln a, .inr (.inl g))) = cW cI cJ cO h (C.sar a g) := by
  refine (va_pl_set (X := cX cI cJ cO h C) (L := C.L) (f := pF cJ C) hD ha.1 hk).trans ?_
  have e : va_up (pF cJ C) a (.inl (cJ, C.ln a, .inr (.inl g))) = pF cJ (C.sar a g) := by
    funext b
    by_cases hb : b = a
    · subst hb
      rw [va_up_self]
      show _ = (if C.kd b = 0 then _ else (Sum.inl (cJ, C.ln b, Sum.inr (Sum.inl (va_up C.ar b g b))) : va_E))
      rw [if_neg (by rw [ha.2]; decide), va_up_self]
    · rw [va_up_ne _ _ hb]
      show (if C.kd b = 0 then _ else _) = (if C.kd b = 0 then _ else (Sum.inl (cJ, C.ln b, Sum.inr (Sum.inl (va_up C.ar a g b))) : va_E))
      rw [va_up_ne _ _ hb]
      rfl
  rw [e]
  rfl
theorem c_get (F : CallFix p m c cc nL s args Ts RX1) (hin : ∀ w ∈ u_ws RX1 TX1 14, w ∈ Ts) (I : cG D cI cJ cO h A s H0 H locs C) (k : Nat) (hk : k < 14) {v : Value} (hv : (cfs h C)[k]? = some v) {index : Nat} (hlink : (Cond.fieldLink RX1 index (TX1 k).1 (TX1 k).2.1 (TX1 k).2.2.1).before args s = true) (hdg : decode cc pc = .ok (.getfield index, 3))
    (kk : W p l e R s m args below meth c H locs cells slots Q (F0 m (pc + 3) ls (v :: rest))) : W p l e R s m args below meth c H locs cells slots Q (F0 m pc ls (.ref (h 0) :: rest)) :=
  va_get (D := D) (cl := vwCl) (ci := 1) (C := RX1) (T := TX1) (N := 14) (ws := cW cI cJ cO h C) F.1 F.2.1 F.2.2.2.2 hin F.2.2.2.1 I.1 I.2.1 0 rfl rfl k hk hlink (fun _ q => q) hv hdg kk
theorem c_put (F : CallFix p m c cc nL s args Ts RX1) (hin : ∀ w ∈ u_ws RX1 TX1 14, w ∈ Ts) (I : cG D cI cJ cO h A s H0 H locs C) (k : Nat) (hk : k ∈ cInt) {v : Int32} {index : Nat} (hlink : (Cond.fieldLink RX1 index (TX1 k).1 (TX1 k).2.1 (TX1 k).2.2.1).before args s = true) (hdg : decode cc pc = .ok (.putfield index, 3))
    (kk : ∀ (H1 : Heap) (locs1 : List Loc), cG D cI cJ cO h A s H0 H1 locs1 (C.si k v) → W p l e R s m args below meth c H1 locs1 cells slots Q (F0 m (pc + 3) ls rest)) : W p l e R s m args below meth c H locs cells slots Q (F0 m pc ls (.int v :: .ref (h 0) :: rest)) := by
  obtain ⟨h1, h2, h3, h4⟩ := c_pf hk
  refine va_put (D := D) (cl := vwCl) (ci := 1) (C := RX1) (T := TX1) (N := 14) (ws := cW cI cJ cO h C) (fs := cfs h C) F.1 F.2.1 F.2.2.2.2 hin tyX1 tyX1_ok nmX1 F.2.2.2.1 I.1 I.2.1 I.2.2.1 I.2.2.2.1 0 rfl rfl k h1 hlink (fun _ q => q) h2 h3 rfl rfl h1 hdg (fun H1 locs1 hP hD hS => kk H1 locs1 ⟨I.1, ?_, ?_, hS, I.2.2.2.2⟩)
  · rw [h4] at hP; exact hP
  · rw [h4] at hD; exact hD
theorem c_putq {r : Option Nat} (F : CallFix p m c cc nL s args Ts RX1) (hin : ∀ w ∈ u_ws RX1 TX1 14, w ∈ Ts) (I : cG D cI cJ cO h A s H0 H locs C) {index : Nat} (hlink : (Cond.fieldLink RX1 index "CuttingTable" "binReel" "LCuttingTable$Load;").before args s = true) (hdg : decode cc pc = .ok (.putfield index, 3))
    (kk : ∀ (H1 : Heap) (locs1 : List Loc), cG D cI cJ cO h A s H0 H1 locs1 (C.sbr r) → W p l e R s m args below meth c H1 locs1 cells slots Q (F0 m (pc + 3) ls rest)) : W p l e R s m args below meth c H locs cells slots Q (F0 m pc ls (va_rf r :: .ref (h 0) :: rest)) := by
  refine va_put (D := D) (cl := vwCl) (ci := 1) (C := RX1) (T := TX1) (N := 14) (ws := cW cI cJ cO h C) (fs := cfs h C) (ty := .object "CuttingTable$Load") (v := va_rf r) F.1 F.2.1 F.2.2.2.2 hin tyX1 tyX1_ok nmX1 F.2.2.2.1 I.1 I.2.1 I.2.2.1 I.2.2.2.1 0 rfl rfl 4 (by decide) hlink (fun _ q => q) rfl (tyX1_ok 4 (by decide)) (by cases r <;> rfl) (by cases r <;> rfl) (by show 4 < 14; decide) hdg (fun H1 locs1 hP hD hS => kk H1 locs1 ⟨I.1, hP, hD, hS, I.2.2.2.2⟩)
theorem c_lget (F : CallFix p m c cc nL s args Ts RX1) (hin : ∀ w ∈ u_ws RX0 TX0 3, w ∈ Ts) (I : cG D cI cJ cO h A s H0 H locs C) {a : Nat} (ha : C.ld a) (k : Nat) (hk : k < 3) {v : Value} (hv : ([.int (C.so a), .int (C.nu a), va_rf (C.fr a)] : List Value)[k]? = some v) {index : Nat} (hlink : (Cond.fieldLink RX1 index (TX0 k).1 (TX0 k).2.1 (TX0 k).2.2.1).before args s = true) (hdg : decode cc pc = .ok (.getfield index, 3))
    (kk : W p l e R s m args below meth c H locs cells slots Q (F0 m (pc + 3) ls (v :: rest))) : W p l e R s m args below meth c H locs cells slots Q (F0 m pc ls (.ref a :: rest)) := by
  obtain ⟨q0, -, hq⟩ := c_ldk (cI := cI) (cJ := cJ) (cO := cO) (h := h) ha
  exact va_get (D := D) (cl := vwCl) (ci := 0) (C := RX0) (T := TX0) (N := 3) (ws := cW cI cJ cO h C) F.1 F.2.1 F.2.2.2.2 hin F.2.2.2.1 I.1 I.2.1 q0 hq rfl k hk hlink (fun _ q => q) hv hdg kk
theorem c_iald (F : CallFix p m c cc nL s args Ts own) (I : cG D cI cJ cO h A s H0 H locs C) {i : Int32} (hi : vp_in i 80) (hdg : decode cc pc = .ok (.iaload, 1))
    (kk : W p l e R s m args below meth c H locs cells slots Q (F0 m (pc + 1) ls (.int (C.cu i.toNatClampNeg) :: rest))) : W p l e R s m args below meth c H locs cells slots Q (F0 m pc ls (.int i :: .ref (h 2) :: rest)) :=
  va_iald (ws := cW cI cJ cO h C) F.1 F.2.1 I.1 I.2.1 2 0 rfl rfl hi hdg kk
theorem c_iast (F : CallFix p m c cc nL s args Ts own) (I : cG D cI cJ cO h A s H0 H locs C) {i x : Int32} (hi : vp_in i 80) (hdg : decode cc pc = .ok (.iastore, 1))
    (kk : ∀ (H1 : Heap) (locs1 : List Loc), cG D cI cJ cO h A s H0 H1 locs1 (C.scu i.toNatClampNeg x) → W p l e R s m args below meth c H1 locs1 cells slots Q (F0 m (pc + 1) ls rest)) : W p l e R s m args below meth c H locs cells slots Q (F0 m pc ls (.int x :: .int i :: .ref (h 2) :: rest)) :=
  va_iast (ws := cW cI cJ cO h C) F.1 F.2.1 I.1 I.2.1 I.2.2.1 I.2.2.2.1 2 0 rfl rfl hi hdg (fun H1 locs1 hP hD hS => kk H1 locs1 ⟨I.1, hP, hD, hS, I.2.2.2.2⟩)
theorem c_lald (F : CallFix p m c cc nL s args Ts own) (I : cG D cI cJ cO h A s H0 H locs C) {a : Nat} (ha : C.aw a) {i : Int32} (hi : vp_in i (C.ln a)) (hdg : decode cc pc = .ok (.laload, 1))
    (kk : W p l e R s m args below meth c H locs cells slots Q (F0 m (pc + 1) ls (.long (C.ar a i.toNatClampNeg) :: rest))) : W p l e R s m args below meth c H locs cells slots Q (F0 m pc ls (.int i :: .ref a :: rest)) := by
  obtain ⟨q0, -, hq⟩ := c_awk (cI := cI) (cJ := cJ) (cO := cO) (h := h) ha
  exact va_lald (ws := cW cI cJ cO h C) F.1 F.2.1 I.1 I.2.1 q0 1 hq rfl hi hdg kk
theorem c_last (F : CallFix p m c cc nL s args Ts own) (I : cG D cI cJ cO h A s H0 H locs C) {a : Nat} (ha : C.aw a) {i : Int32} {x : Int64} (hi : vp_in i (C.ln a)) (hdg : decode cc pc = .ok (.lastore, 1))
    (kk : ∀ (H1 : Heap) (locs1 : List Loc), cG D cI cJ cO h A s H0 H1 locs1 (C.sal a i.toNatClampNeg x) → W p l e R s m args below meth c H1 locs1 cells slots Q (F0 m (pc + 1) ls rest)) : W p l e R s m args below meth c H locs cells slots Q (F0 m pc ls (.long x :: .int i :: .ref a :: rest)) := by
  obtain ⟨q0, hp, hq⟩ := c_awk (cI := cI) (cJ := cJ) (cO := cO) (h := h) ha
  refine va_last (ws := cW cI cJ cO h C) F.1 F.2.1 I.1 I.2.1 I.2.2.1 I.2.2.2.1 q0 1 hq rfl hi hdg (fun H1 locs1 hP hD hS => kk H1 locs1 ⟨I.1, ?_, ?_, hS, I.2.2.2.2⟩)
  · rw [c_aws ha I.2.2.1 hp] at hP; exact hP
  · rw [c_aws ha I.2.2.1 hp] at hD; exact hD
theorem c_alen (F : CallFix p m c cc nL s args Ts own) (I : cG D cI cJ cO h A s H0 H locs C) {a : Nat} (ha : C.aw a) (hdg : decode cc pc = .ok (.arraylength, 1))
    (kk : W p l e R s m args below meth c H locs cells slots Q (F0 m (pc + 1) ls (.int (nI (C.ln a)) :: rest))) : W p l e R s m args below meth c H locs cells slots Q (F0 m pc ls (.ref a :: rest)) := by
  obtain ⟨q0, -, hq⟩ := c_awk (cI := cI) (cJ := cJ) (cO := cO) (h := h) ha
  exact va_alen (ws := cW cI cJ cO h C) (ty := .long) F.1 F.2.1 I.1 I.2.1 q0 1 hq rfl rfl hdg kk
theorem c_aald (F : CallFix p m c cc nL s args Ts own) (I : cG D cI cJ cO h A s H0 H locs C) {i : Int32} (hi : vp_in i 8) (hdg : decode cc pc = .ok (.aaload, 1))
    (kk : W p l e R s m args below meth c H locs cells slots Q (F0 m (pc + 1) ls (va_rf (C.sp i.toNatClampNeg) :: rest))) : W p l e R s m args below meth c H locs cells slots Q (F0 m pc ls (.int i :: .ref (h 1) :: rest)) :=
  va_aldq (ws := cW cI cJ cO h C) (C := RX0) F.1 F.2.1 I.1 I.2.1 1 2 rfl rfl hi hdg kk
theorem c_aast (F : CallFix p m c cc nL s args Ts own) (I : cG D cI cJ cO h A s H0 H locs C) {a : Nat} (ha : C.ld a) {i : Int32} (hi : vp_in i 8) (hdg : decode cc pc = .ok (.aastore, 1))
    (kk : ∀ (H1 : Heap) (locs1 : List Loc), cG D cI cJ cO h A s H0 H1 locs1 (C.ssp i.toNatClampNeg (some a)) → W p l e R s m args below meth c H1 locs1 cells slots Q (F0 m (pc + 1) ls rest)) : W p l e R s m args below meth c H locs cells slots Q (F0 m pc ls (.ref a :: .int i :: .ref (h 1) :: rest)) := by
  obtain ⟨q0, -, hq⟩ := c_ldk (cI := cI) (cJ := cJ) (cO := cO) (h := h) ha
  exact va_astq (ws := cW cI cJ cO h C) (r := (RX0, TX0, 3)) F.1 F.2.1 I.1 I.2.1 I.2.2.1 I.2.2.2.1 1 2 q0 0 rfl rfl hq rfl hi hdg (fun H1 locs1 hP hD hS => kk H1 locs1 ⟨I.1, hP, hD, hS, I.2.2.2.2⟩)
theorem c_aastN (F : CallFix p m c cc nL s args Ts own) (I : cG D cI cJ cO h A s H0 H locs C) {i : Int32} (hi : vp_in i 8) (hdg : decode cc pc = .ok (.aastore, 1))
    (kk : ∀ (H1 : Heap) (locs1 : List Loc), cG D cI cJ cO h A s H0 H1 locs1 (C.ssp i.toNatClampNeg none) → W p l e R s m args below meth c H1 locs1 cells slots Q (F0 m (pc + 1) ls rest)) : W p l e R s m args below meth c H locs cells slots Q (F0 m pc ls (.null :: .int i :: .ref (h 1) :: rest)) :=
  va_astqN (ws := cW cI cJ cO h C) (C := RX0) F.1 F.2.1 I.1 I.2.1 I.2.2.1 I.2.2.2.1 1 2 rfl rfl hi hdg (fun H1 locs1 hP hD hS => kk H1 locs1 ⟨I.1, hP, hD, hS, I.2.2.2.2⟩)
theorem c_reti {K : Int32 → cS → Prop} (F : CallFix p m c cc nL s args Ts own) (hr : meth.sig.returnType = some .int) (hlk : meth.locks = false) (I : cG D cI cJ cO h A s s.heap H locs C) {v : Int32} (hdg : decode cc pc = .ok (.ireturn, 1)) (hK : K v C) : W p l e R s m args below meth c H locs cells slots (MQ below (va_Qi K (cB D cI cJ cO h A) A) args s cells slots A) (F0 m pc ls [.int v]) :=
  W.iret (v := v) F.1 F.2.1 hr (fun t ht hW => ⟨⟨v, C, rfl, hK, by rw [ht]; exact I.2.1, va_K.moved hW.alike I.1, I.2.2.1⟩, I.2.2.2.1.F ht⟩) I.2.2.2.1.2.2 hdg hlk
theorem c_retz {K : Int32 → cS → Prop} (F : CallFix p m c cc nL s args Ts own) (hr : meth.sig.returnType = some .boolean) (hlk : meth.locks = false) (I : cG D cI cJ cO h A s s.heap H locs C) {v : Int32} (hdg : decode cc pc = .ok (.ireturn, 1)) (hK : K v C ∧ narrow .boolean (.int v) = .int v) : W p l e R s m args below meth c H locs cells slots (MQ below (va_Qi K (cB D cI cJ cO h A) A) args s cells slots A) (F0 m pc ls [.int v]) :=
  W.zret (v := v) F.1 F.2.1 hr hK.2 (fun t ht hW => ⟨⟨v, C, rfl, hK.1, by rw [ht]; exact I.2.1, va_K.moved hW.alike I.1, I.2.2.1⟩, I.2.2.2.1.F ht⟩) I.2.2.2.1.2.2 hdg hlk
theorem c_retl {K : Int64 → cS → Prop} (F : CallFix p m c cc nL s args Ts own) (hr : meth.sig.returnType = some .long) (hlk : meth.locks = false) (I : cG D cI cJ cO h A s s.heap H locs C) {v : Int64} (hdg : decode cc pc = .ok (.lreturn, 1)) (hK : K v C) : W p l e R s m args below meth c H locs cells slots (MQ below (va_Ql K (cB D cI cJ cO h A) A) args s cells slots A) (F0 m pc ls [.long v]) :=
  W.lret (v := v) F.1 F.2.1 hr (fun t ht hW => ⟨⟨v, C, rfl, hK, by rw [ht]; exact I.2.1, va_K.moved hW.alike I.1, I.2.2.1⟩, I.2.2.2.1.F ht⟩) I.2.2.2.1.2.2 hdg hlk
theorem c_retv {K : cS → Prop} (F : CallFix p m c cc nL s args Ts own) (hr : meth.sig.returnType = none) (hlk : meth.locks = false) (I : cG D cI cJ cO h A s s.heap H locs C) (hdg : decode cc pc = .ok (.return_, 1)) (hK : K C) : W p l e R s m args below meth c H locs cells slots (MQ below (va_Qv K (cB D cI cJ cO h A) A) args s cells slots A) (F0 m pc ls []) :=
  W.vret F.1 F.2.1 hr (fun t ht hW => ⟨⟨C, rfl, hK, by rw [ht]; exact I.2.1, va_K.moved hW.alike I.1, I.2.2.1⟩, I.2.2.2.1.F ht⟩) I.2.2.2.1.2.2 hdg hlk
theorem c_retq {K : Option Nat → cS → Prop} {v : Option Nat} (F : CallFix p m c cc nL s args Ts own) {n9 : String} (hr : meth.sig.returnType = some (.object n9)) (hlk : meth.locks = false) (I : cG D cI cJ cO h A s s.heap H locs C) (hdg : decode cc pc = .ok (.areturn, 1)) (hK : K v C) : W p l e R s m args below meth c H locs cells slots (MQ below (va_Qq K (cB D cI cJ cO h A) A) args s cells slots A) (F0 m pc ls [va_rf v]) :=
  W.aret (v := va_rf v) F.1 F.2.1 hr (Or.inl ⟨n9, rfl⟩) (va_rf_or v) (fun t ht hW => ⟨⟨v, C, rfl, hK, by rw [ht]; exact I.2.1, va_K.moved hW.alike I.1, I.2.2.1⟩, I.2.2.2.1.F ht⟩) I.2.2.2.1.2.2 hdg hlk
theorem c_free (I : cG D cI cJ cO h A s H0 H locs C) : ∀ q, va_A (cW cI cJ cO h C) H.size q → A q := by
  intro q hq
  rcases hq with ⟨k, e, hk⟩ | hq
  · exact I.2.2.1.2 k _ hk
  · exact I.2.2.2.2.1 q (Nat.le_trans I.2.2.2.1.1 hq)
theorem c_blind {As : List Value} {sz : Nat} : FrameBlind (cPc D cI cJ cO h C sz As) := fun a U g mk q => by
  obtain ⟨q0, q1, qP, qK, qD, qN⟩ := q
  exact ⟨q0, q1, qP, va_K.moved (u := U) (U := U.calling g mk a) (Vm.Alike.refl U.vm) qK, qD, va_Nw.same (u := U) (U := U.calling g mk a) rfl rfl qN⟩
theorem c_pre (I : cG D cI cJ cO h A s H0 H locs C) (As : List Value) : ∀ U : State, U.heap = H → s.WarmedH U.vm → cPc D cI cJ cO h C H.size As As.toArray U :=
  fun U hU hW => ⟨rfl, by rw [hU], by rw [hU]; exact I.2.1, va_K.moved hW.alike I.1, I.2.2.1.weaken (fun _ _ _ _ => trivial), va_Nw.warmC hW I.2.2.2.2.2⟩
theorem c_recv (I : cG D cI cJ cO h A s H0 H locs C) : ∃ cell : Cell, H[h 0]? = some cell ∧ cell.vm.isStatics = false ∧ s.vm.findClass RX1 = some cell.cls :=
  va_recv (q0 := 0) (ci := 1) (q := (RX1, TX1, 14)) (fs := cfs h C) (ws := cW cI cJ cO h C) I.1 I.2.1 rfl rfl
theorem c_back (I : cG D cI cJ cO h A s H0 H locs C) {u : cS} {t : State} {H1 : Heap} {locs1 : List Loc} (ht : t.heap = H1) (hvm : s.vm.Alike t.vm) (hB : cB D cI cJ cO h (va_A (cW cI cJ cO h C) H.size) u t) (hS : va_S A H0 H1 locs1) : cG D cI cJ cO h A s H0 H1 locs1 u := by
  obtain ⟨hP, -, hD⟩ := hB
  rw [ht] at hP
  exact ⟨I.1, hP, hD.weaken (fun k q hk hq => c_free I _ hq), hS, I.2.2.2.2⟩
theorem c_start {y : MethodName} {ws ws' : List Cond} {maxL : Nat} {rm : Room} {mc ms : Nat} {As : List Value} {Qc : (Nat → Prop) → Array Value → State → Outcome → State → Prop} {rt : Option FieldType} {R0 : String} (hy : plainName y.cls = true) (hw : ws = Cond.code y cc maxL rt :: ws') (hy2 : y.cls = R0) (hA : (lg_sl As).length ≤ maxL)
    (body : ∀ (p : Program) (e : Env) (s : State) (m : MethodId) (below : List Frame) (meth : Method) (c : Code) (A : Nat → Prop) (ls : Array Slot), CallFix p m c cc maxL s As.toArray ws R0 → meth.sig.returnType = rt → meth.locks = false → cG D cI cJ cO h A s s.heap s.heap [] C → lv_has ls maxL (lv_args 0 As) → (∀ sz, y.name = "<init>" → sz = s.heap.size → meth.name = "<init>") → W p l e rm s m As.toArray below meth c s.heap [] 0 0 (MQ below (Qc A) As.toArray s mc ms A) (F0 m 0 ls [])) :
    ∀ sz : Nat, Met l y ws rm (cPc D cI cJ cO h C sz As) (Qc (va_A (cW cI cJ cO h C) sz)) mc ms (va_A (cW cI cJ cO h C) sz) := by
  intro sz
  refine Met.ofW (cc := cc) (maxL := maxL) (ret := rt) hy hw ?_
  intro p e s m args below meth c s₁ B hml hv
  obtain ⟨rfl, hsz, hP, hK, hD0, hN⟩ := hv
  have hown : s.vm.findClass R0 = some m.cls := hy2 ▸ findClass_of_methodNamed B.named
  subst hsz
  have hl := lv_entry As (n := maxL) hA
  rw [lg_entry_eq]
  exact body p e s m below meth c _ _ ⟨B.exec, B.bytes, hml, hown, atoms_spec (ws := ws) B.pre⟩ B.returns B.notSynchronized ⟨hK, hP, hD0.self (sz := s.heap.size), va_S.rf, fun q hq => Or.inr hq, hN⟩ hl (fun _ hn _ => by rw [← hn]; exact (name_of_methodNamed B.named B.method).1)
theorem c_starti {y : MethodName} {ws ws' : List Cond} {maxL : Nat} {rm : Room} {mc ms : Nat} {As : List Value} {K : Int32 → cS → Prop} {rt : Option FieldType} {R0 : String} (hy : plainName y.cls = true) (hw : ws = Cond.code y cc maxL rt :: ws') (hy2 : y.cls = R0) (hA : (lg_sl As).length ≤ maxL)
    (body : ∀ (p : Program) (e : Env) (s : State) (m : MethodId) (below : List Frame) (meth : Method) (c : Code) (A : Nat → Prop) (ls : Array Slot), CallFix p m c cc maxL s As.toArray ws R0 → meth.sig.returnType = rt → meth.locks = false → cG D cI cJ cO h A s s.heap s.heap [] C → lv_has ls maxL (lv_args 0 As) → (∀ sz, y.name = "<init>" → sz = s.heap.size → meth.name = "<init>") → W p l e rm s m As.toArray below meth c s.heap [] 0 0 (MQ below (va_Qi K (cB D cI cJ cO h A) A) As.toArray s mc ms A) (F0 m 0 ls [])) :
    cMi l D cI cJ cO h y ws rm mc ms As K C := c_start (Qc := fun A => va_Qi K (cB D cI cJ cO h A) A) hy hw hy2 hA body
theorem c_startl {y : MethodName} {ws ws' : List Cond} {maxL : Nat} {rm : Room} {mc ms : Nat} {As : List Value} {K : Int64 → cS → Prop} {rt : Option FieldType} {R0 : String} (hy : plainName y.cls = true) (hw : ws = Cond.code y cc maxL rt :: ws') (hy2 : y.cls = R0) (hA : (lg_sl As).length ≤ maxL)
    (body : ∀ (p : Program) (e : Env) (s : State) (m : MethodId) (below : List Frame) (meth : Method) (c : Code) (A : Nat → Prop) (ls : Array Slot), CallFix p m c cc maxL s As.toArray ws R0 → meth.sig.returnType = rt → meth.locks = false → cG D cI cJ cO h A s s.heap s.heap [] C → lv_has ls maxL (lv_args 0 As) → (∀ sz, y.name = "<init>" → sz = s.heap.size → meth.name = "<init>") → W p l e rm s m As.toArray below meth c s.heap [] 0 0 (MQ below (va_Ql K (cB D cI cJ cO h A) A) As.toArray s mc ms A) (F0 m 0 ls [])) :
    cMl l D cI cJ cO h y ws rm mc ms As K C := c_start (Qc := fun A => va_Ql K (cB D cI cJ cO h A) A) hy hw hy2 hA body
theorem c_startv {y : MethodName} {ws ws' : List Cond} {maxL : Nat} {rm : Room} {mc ms : Nat} {As : List Value} {K : cS → Prop} {rt : Option FieldType} {R0 : String} (hy : plainName y.cls = true) (hw : ws = Cond.code y cc maxL rt :: ws') (hy2 : y.cls = R0) (hA : (lg_sl As).length ≤ maxL)
    (body : ∀ (p : Program) (e : Env) (s : State) (m : MethodId) (below : List Frame) (meth : Method) (c : Code) (A : Nat → Prop) (ls : Array Slot), CallFix p m c cc maxL s As.toArray ws R0 → meth.sig.returnType = rt → meth.locks = false → cG D cI cJ cO h A s s.heap s.heap [] C → lv_has ls maxL (lv_args 0 As) → (∀ sz, y.name = "<init>" → sz = s.heap.size → meth.name = "<init>") → W p l e rm s m As.toArray below meth c s.heap [] 0 0 (MQ below (va_Qv K (cB D cI cJ cO h A) A) As.toArray s mc ms A) (F0 m 0 ls [])) :
    cMv l D cI cJ cO h y ws rm mc ms As K C := c_start (Qc := fun A => va_Qv K (cB D cI cJ cO h A) A) hy hw hy2 hA body
theorem c_startq {y : MethodName} {ws ws' : List Cond} {maxL : Nat} {rm : Room} {mc ms : Nat} {As : List Value} {K : Option Nat → cS → Prop} {rt : Option FieldType} {R0 : String} (hy : plainName y.cls = true) (hw : ws = Cond.code y cc maxL rt :: ws') (hy2 : y.cls = R0) (hA : (lg_sl As).length ≤ maxL)
    (body : ∀ (p : Program) (e : Env) (s : State) (m : MethodId) (below : List Frame) (meth : Method) (c : Code) (A : Nat → Prop) (ls : Array Slot), CallFix p m c cc maxL s As.toArray ws R0 → meth.sig.returnType = rt → meth.locks = false → cG D cI cJ cO h A s s.heap s.heap [] C → lv_has ls maxL (lv_args 0 As) → (∀ sz, y.name = "<init>" → sz = s.heap.size → meth.name = "<init>") → W p l e rm s m As.toArray below meth c s.heap [] 0 0 (MQ below (va_Qq K (cB D cI cJ cO h A) A) As.toArray s mc ms A) (F0 m 0 ls [])) :
    cMq l D cI cJ cO h y ws rm mc ms As K C := c_start (Qc := fun A => va_Qq K (cB D cI cJ cO h A) A) hy hw hy2 hA body
section Calls
variable {y : MethodName} {ws : List Cond} {rm : Room} {bytes : ByteArray} {maxL index n mc ms : Nat} {ret : Option FieldType} {As : List Value}
theorem c_calli {K : Int32 → cS → Prop} (F : CallFix p m c cc nL s args Ts own) (I : cG D cI cJ cO h A s H0 H locs C) (hM : cMi l D cI cJ cO h y ws rm mc ms (.ref (h 0) :: As) K C) (cw : CallW R s args own RX1 index y bytes maxL ret ws rm mc ms n) (hn : As.length = n) (hsize : ls.size = nL) (hstack : st0 = As.reverse ++ .ref (h 0) :: rest) (hW : (rest.map fun v => v.category).sum ≤ 8) (hdg : decode cc pc = .ok (.invokevirtual index, 3)) (hf : cells + mc ≤ R.cells ∧ slots + ms ≤ R.slots)
    (kk : ∀ (r : Int32) (u : cS) (H1 : Heap) (locs1 : List Loc), K r u → cG D cI cJ cO h A s H0 H1 locs1 u → W p l e R s m args below meth c H1 locs1 (cells + mc) (slots + ms) Q (F0 m (pc + 3) ls (.int r :: rest))) : W p l e R s m args below meth c H locs cells slots Q (F0 m pc ls st0) :=
  va_calli (va_runV F (hM H.size) cw ⟨c_blind, c_recv I, c_pre I _⟩ rfl hn hsize hstack (lv_room hW) hdg hf) I.2.2.2.1 (fun q _ hq => c_free I q hq) (c_free I) (fun r u t H1 locs1 ht hvm hw hB hz hk hS => kk r u H1 locs1 hw (c_back I ht hvm hB hS))
theorem c_calll {K : Int64 → cS → Prop} (F : CallFix p m c cc nL s args Ts own) (I : cG D cI cJ cO h A s H0 H locs C) (hM : cMl l D cI cJ cO h y ws rm mc ms (.ref (h 0) :: As) K C) (cw : CallW R s args own RX1 index y bytes maxL ret ws rm mc ms n) (hn : As.length = n) (hsize : ls.size = nL) (hstack : st0 = As.reverse ++ .ref (h 0) :: rest) (hW : (rest.map fun v => v.category).sum ≤ 8) (hdg : decode cc pc = .ok (.invokevirtual index, 3)) (hf : cells + mc ≤ R.cells ∧ slots + ms ≤ R.slots)
    (kk : ∀ (r : Int64) (u : cS) (H1 : Heap) (locs1 : List Loc), K r u → cG D cI cJ cO h A s H0 H1 locs1 u → W p l e R s m args below meth c H1 locs1 (cells + mc) (slots + ms) Q (F0 m (pc + 3) ls (.long r :: rest))) : W p l e R s m args below meth c H locs cells slots Q (F0 m pc ls st0) :=
  va_calll (va_runV F (hM H.size) cw ⟨c_blind, c_recv I, c_pre I _⟩ rfl hn hsize hstack (lv_room hW) hdg hf) I.2.2.2.1 (fun q _ hq => c_free I q hq) (c_free I) (fun r u t H1 locs1 ht hvm hw hB hz hk hS => kk r u H1 locs1 hw (c_back I ht hvm hB hS))
theorem c_callq {K : Option Nat → cS → Prop} (F : CallFix p m c cc nL s args Ts own) (I : cG D cI cJ cO h A s H0 H locs C) (hM : cMq l D cI cJ cO h y ws rm mc ms (.ref (h 0) :: As) K C) (cw : CallW R s args own RX1 index y bytes maxL ret ws rm mc ms n) (hn : As.length = n) (hsize : ls.size = nL) (hstack : st0 = As.reverse ++ .ref (h 0) :: rest) (hW : (rest.map fun v => v.category).sum ≤ 8) (hdg : decode cc pc = .ok (.invokevirtual index, 3)) (hf : cells + mc ≤ R.cells ∧ slots + ms ≤ R.slots)
    (kk : ∀ (r : Option Nat) (u : cS) (H1 : Heap) (locs1 : List Loc), K r u → cG D cI cJ cO h A s H0 H1 locs1 u → W p l e R s m args below meth c H1 locs1 (cells + mc) (slots + ms) Q (F0 m (pc + 3) ls (va_rf r :: rest))) : W p l e R s m args below meth c H locs cells slots Q (F0 m pc ls st0) :=
  va_callq (va_runV F (hM H.size) cw ⟨c_blind, c_recv I, c_pre I _⟩ rfl hn hsize hstack (lv_room hW) hdg hf) I.2.2.2.1 (fun q _ hq => c_free I q hq) (c_free I) (fun r u t H1 locs1 ht hvm hw hB hz hk hS => kk r u H1 locs1 hw (c_back I ht hvm hB hS))
theorem c_callv {K : cS → Prop} (F : CallFix p m c cc nL s args Ts own) (I : cG D cI cJ cO h A s H0 H locs C) (hM : cMv l D cI cJ cO h y ws rm mc ms (.ref (h 0) :: As) K C) (cw : CallW R s args own RX1 index y bytes maxL ret ws rm mc ms n) (hn : As.length = n) (hsize : ls.size = nL) (hstack : st0 = As.reverse ++ .ref (h 0) :: rest) (hW : (rest.map fun v => v.category).sum ≤ 8) (hdg : decode cc pc = .ok (.invokevirtual index, 3)) (hf : cells + mc ≤ R.cells ∧ slots + ms ≤ R.slots)
    (kk : ∀ (u : cS) (H1 : Heap) (locs1 : List Loc), K u → cG D cI cJ cO h A s H0 H1 locs1 u → W p l e R s m args below meth c H1 locs1 (cells + mc) (slots + ms) Q (F0 m (pc + 3) ls rest)) : W p l e R s m args below meth c H locs cells slots Q (F0 m pc ls st0) :=
  va_callv (va_runV F (hM H.size) cw ⟨c_blind, c_recv I, c_pre I _⟩ rfl hn hsize hstack (lv_room hW) hdg hf) I.2.2.2.1 (fun q _ hq => c_free I q hq) (c_free I) (fun u t H1 locs1 ht hvm hw hB hz hk hS => kk u H1 locs1 hw (c_back I ht hvm hB hS))
theorem c_callSi {K : Int32 → cS → Prop} (F : CallFix p m c cc nL s args Ts own) (I : cG D cI cJ cO h A s H0 H locs C) (hM : cMi l D cI cJ cO h y ws rm mc ms As K C) (cw : CallB R s args own index y bytes maxL ret ws rm mc ms n ∧ (Cond.static y).before args s = true) (hn : As.length = n) (hsize : ls.size = nL) (hstack : st0 = As.reverse ++ rest) (hW : (rest.map fun v => v.category).sum ≤ 8) (hdg : decode cc pc = .ok (.invokestatic index, 3)) (hf : cells + mc ≤ R.cells ∧ slots + ms ≤ R.slots)
    (kk : ∀ (r : Int32) (u : cS) (H1 : Heap) (locs1 : List Loc), K r u → cG D cI cJ cO h A s H0 H1 locs1 u → W p l e R s m args below meth c H1 locs1 (cells + mc) (slots + ms) Q (F0 m (pc + 3) ls (.int r :: rest))) : W p l e R s m args below meth c H locs cells slots Q (F0 m pc ls st0) :=
  va_calli (va_runS F (hM H.size) cw ⟨c_blind, c_pre I _⟩ rfl hn hsize hstack (lv_room hW) hdg hf) I.2.2.2.1 (fun q _ hq => c_free I q hq) (c_free I) (fun r u t H1 locs1 ht hvm hw hB hz hk hS => kk r u H1 locs1 hw (c_back I ht hvm hB hS))
theorem c_callSv {K : cS → Prop} (F : CallFix p m c cc nL s args Ts own) (I : cG D cI cJ cO h A s H0 H locs C) (hM : cMv l D cI cJ cO h y ws rm mc ms As K C) (cw : CallB R s args own index y bytes maxL ret ws rm mc ms n ∧ (Cond.static y).before args s = true) (hn : As.length = n) (hsize : ls.size = nL) (hstack : st0 = As.reverse ++ rest) (hW : (rest.map fun v => v.category).sum ≤ 8) (hdg : decode cc pc = .ok (.invokestatic index, 3)) (hf : cells + mc ≤ R.cells ∧ slots + ms ≤ R.slots)
    (kk : ∀ (u : cS) (H1 : Heap) (locs1 : List Loc), K u → cG D cI cJ cO h A s H0 H1 locs1 u → W p l e R s m args below meth c H1 locs1 (cells + mc) (slots + ms) Q (F0 m (pc + 3) ls rest)) : W p l e R s m args below meth c H locs cells slots Q (F0 m pc ls st0) :=
  va_callv (va_runS F (hM H.size) cw ⟨c_blind, c_pre I _⟩ rfl hn hsize hstack (lv_room hW) hdg hf) I.2.2.2.1 (fun q _ hq => c_free I q hq) (c_free I) (fun u t H1 locs1 ht hvm hw hB hz hk hS => kk u H1 locs1 hw (c_back I ht hvm hB hS))
theorem c_callI {K : cS → Prop} {o : Nat} (F : CallFix p m c cc nL s args Ts own) (I : cG D cI cJ cO h A s H0 H locs C) (hM : cMv l D cI cJ cO h y ws rm mc ms (.ref o :: As) K C) (cw : CallB R s args own index y bytes maxL none ws rm mc ms n ∧ y.name = "<init>" ∧ (Cond.instanceMethod y).before args s = true) (hn : As.length = n) (hsize : ls.size = nL) (hstack : st0 = As.reverse ++ .ref o :: rest) (hW : (rest.map fun v => v.category).sum ≤ 8) (hdg : decode cc pc = .ok (.invokespecial index, 3)) (hf : cells + mc ≤ R.cells ∧ slots + ms ≤ R.slots)
    (kk : ∀ (u : cS) (H1 : Heap) (locs1 : List Loc), K u → cG D cI cJ cO h A s H0 H1 locs1 u → W p l e R s m args below meth c H1 locs1 (cells + mc) (slots + ms) Q (F0 m (pc + 3) ls rest)) : W p l e R s m args below meth c H locs cells slots Q (F0 m pc ls st0) :=
  va_callv (va_runI F (hM H.size) cw ⟨c_blind, c_pre I _⟩ rfl hn hsize hstack (lv_room hW) hdg hf) I.2.2.2.1 (fun q _ hq => c_free I q hq) (c_free I) (fun u t H1 locs1 ht hvm hw hB hz hk hS => kk u H1 locs1 hw (c_back I ht hvm hB hS))
end Calls
end Rows
end CWorld
end
section
section CWorld2
variable {p : Program} {l : Launch} {e : Env} {R : Room} {s : State} {m : MethodId} {args : Array Value} {below : List Frame} {meth : Method} {c : Code} {H H0 : Heap} {locs : List Loc} {cells slots : Nat} {Q : State → Prop} {cc : ByteArray} {nL pc : Nat} {ls : Array Slot} {rest st0 : List Value} {Ts : List Cond} {D : va_G} {cI cJ cO : ClassId} {h : Nat → Nat} {A : Nat → Prop} {C : cS} {own : String}
theorem c_fresh (I : cG D cI cJ cO h A s H0 H locs C) {q : Nat} {e : va_E} (hD : va_D A (cW cI cJ cO h C ++ [(q, e)])) : q ∉ C.L := by
  intro hq
  obtain ⟨k, hk⟩ := va_pl_get (X := cX cI cJ cO h C) (f := pF cJ C) hq
  have hk : (cW cI cJ cO h C)[k]? = some (q, pF cJ C q) := hk
  have hl := (List.getElem?_eq_some_iff.mp hk).1
  have h1 : (cW cI cJ cO h C ++ [(q, e)])[k]? = some (q, pF cJ C q) := by rw [List.getElem?_append_left hl]; exact hk
  have h2 : (cW cI cJ cO h C ++ [(q, e)])[(cW cI cJ cO h C).length]? = some (q, e) := by simp
  have := hD.1 _ _ _ _ h1 h2 rfl
  have hl' : k < (cW cI cJ cO h C).length := hl
  omega
theorem c_pushL {q : Nat} (hq : q ∉ C.L) : cW cI cJ cO h C ++ [(q, .inr (0, [.int 0, .int 0, .null]))] = cW cI cJ cO h (C.nl q) := by
  show (cX cI cJ cO h C ++ va_pl C.L (pF cJ C)) ++ _ = cX cI cJ cO h (C.nl q) ++ va_pl (C.L ++ [q]) (pF cJ (C.nl q))
  rw [List.append_assoc, va_pl_push hq]
  have e : va_up (pF cJ C) q (.inr (0, [.int 0, .int 0, .null])) = pF cJ (C.nl q) := by
    funext b
    show _ = (if va_up C.kd q 0 b = 0 then .inr (0, [.int (va_up C.so q 0 b), .int (va_up C.nu q 0 b), va_rf (va_up C.fr q none b)]) else .inl (cJ, C.ln b, .inr (.inl (C.ar b))) : va_E)
    by_cases hb : b = q
    · subst hb
      simp only [va_up_self]
      rfl
    · simp only [va_up_ne _ _ hb]
      rfl
  rw [e]
  rfl
theorem c_pushA {q n : Nat} {f : Nat → Int64} (hq : q ∉ C.L) : cW cI cJ cO h C ++ [(q, .inl (cJ, n, .inr (.inl f)))] = cW cI cJ cO h (C.na q n f) := by
  show (cX cI cJ cO h C ++ va_pl C.L (pF cJ C)) ++ _ = cX cI cJ cO h (C.na q n f) ++ va_pl (C.L ++ [q]) (pF cJ (C.na q n f))
  rw [List.append_assoc, va_pl_push hq]
  have e : va_up (pF cJ C) q (.inl (cJ, n, .inr (.inl f))) = pF cJ (C.na q n f) := by
    funext b
    show _ = (if va_up C.kd q 1 b = 0 then .inr (0, [.int (C.so b), .int (C.nu b), va_rf (C.fr b)]) else .inl (cJ, va_up C.ln q n b, .inr (.inl (va_up C.ar q f b))) : va_E)
    by_cases hb : b = q
    · subst hb
      simp only [va_up_self]
      rfl
    · simp only [va_up_ne _ _ hb]
      rfl
  rw [e]
  rfl
theorem c_new (F : CallFix p m c cc nL s args Ts RX1) (hin : ∀ w ∈ u_ws RX0 TX0 3, w ∈ Ts) (I : cG D cI cJ cO h A s H0 H locs C) {index : Nat} (hcl : (Cond.classLink RX1 index RX0).before args s = true) (hinst : (Cond.instantiable RX0 3).before args s = true) (hini : (Cond.initialized RX0).before args s = true) (hcells : cells + 1 ≤ R.cells) (hslots : slots + 3 ≤ R.slots) (hdg : decode cc pc = .ok (.new index, 3))
    (kk : ∀ (q : Nat) (H1 : Heap), q ∉ C.L → cG D cI cJ cO h A s H0 H1 locs (C.nl q) → W p l e R s m args below meth c H1 locs (cells + 1) (slots + 3) Q (F0 m (pc + 3) ls (.ref q :: rest))) : W p l e R s m args below meth c H locs cells slots Q (F0 m pc ls rest) := by
  refine va_new (ci := 0) (fs := [.int 0, .int 0, .null]) (C := RX0) (T := TX0) (N := 3) (ws := cW cI cJ cO h C) F.1 F.2.1 F.2.2.2.2 hin tyX0 tyX0_ok F.2.2.2.1 hcl hinst hini I.1 I.2.1 I.2.2.1 I.2.2.2.1 I.2.2.2.2.1 rfl (fun j hj => by rcases (show j = 0 ∨ j = 1 ∨ j = 2 by omega) with rfl | rfl | rfl <;> rfl) hcells hslots hdg (fun q H1 hP hD hS => ?_)
  have hq := c_fresh I hD
  rw [c_pushL hq] at hP hD
  exact kk q H1 hq ⟨I.1, hP, hD, hS, I.2.2.2.2⟩
theorem c_newa (F : CallFix p m c cc nL s args Ts own) (I : cG D cI cJ cO h A s H0 H locs C) (harr : (Cond.arrayClass (newarray.typeOf .long)).before args s = true) {n : Int32} (hn : ¬ n < 0) (hb : n.toNatClampNeg ≤ 1000) (hcells : cells + 1 ≤ R.cells) (hslots : slots + n.toNatClampNeg ≤ R.slots) (hdg : decode cc pc = .ok (.newarray .long, 2))
    (kk : ∀ (q : Nat) (H1 : Heap), q ∉ C.L → cG D cI cJ cO h A s H0 H1 locs (C.na q n.toNatClampNeg (fun _ => 0)) → W p l e R s m args below meth c H1 locs (cells + 1) (slots + n.toNatClampNeg) Q (F0 m (pc + 2) ls (.ref q :: rest))) : W p l e R s m args below meth c H locs cells slots Q (F0 m pc ls (.int n :: rest)) := by
  refine va_newa (a0 := (n.toNatClampNeg, .inr (.inl (fun _ => 0)))) (ty := .long) (ws := cW cI cJ cO h C) F.1 F.2.1 harr rfl I.1 I.2.1 I.2.2.1 I.2.2.2.1 I.2.2.2.2.1 (fun cA => rfl) hn rfl (by show _ * 8 ≤ _; omega) hcells hslots hdg (fun q cA H1 hK hP hD hS => ?_)
  have h1 : s.vm.findClass ("[" ++ (FieldType.long).toString) = some cA := (hK.2 3 (cA, .long) rfl).2
  have h2 : s.vm.findClass ("[" ++ (FieldType.long).toString) = some cJ := (I.1.2 1 (cJ, .long) rfl).2
  cases h1.symm.trans h2
  have hq := c_fresh I hD
  rw [c_pushA hq] at hP hD
  exact kk q H1 hq ⟨I.1, hP, hD, hS, I.2.2.2.2⟩
theorem c_nmJ (I : cG D cI cJ cO h A s H0 H locs C) : s.vm.findClass "[J" = some cJ := (I.1.2 1 (cJ, .long) rfl).2
theorem c_clone (F : CallFix p m c cc nL s args Ts RX1) (hl : ls.size = nL) (I : cG D cI cJ cO h A s H0 H locs C) {index : Nat}
    (hlink : (Cond.methodLink RX1 index ⟨"[J", "clone", "()Ljava/lang/Object;"⟩).before args s = true) (hsame : (Cond.sameMethod "[J" "java/lang/Object" "clone" "()Ljava/lang/Object;").before args s = true)
    (hnat : (Cond.native ⟨"java/lang/Object", "clone", "()Ljava/lang/Object;"⟩).before args s = true) (hinst : (Cond.instanceMethod ⟨"java/lang/Object", "clone", "()Ljava/lang/Object;"⟩).before args s = true)
    (hsel : (Cond.selects "[J" ⟨"[J", "clone", "()Ljava/lang/Object;"⟩ ⟨"java/lang/Object", "clone", "()Ljava/lang/Object;"⟩).before args s = true) {a : Nat} (ha : C.aw a)
    (hframes : 1 ≤ R.frames) (hlocals : (rest.map fun v => v.category).sum + 14 ≤ R.locals) (hcells : cells + 1 ≤ R.cells) (hslots : slots + C.ln a ≤ R.slots) (hdg : decode cc pc = .ok (.invokevirtual index, 3))
    (kk : ∀ (q : Nat) (H1 : Heap), q ∉ C.L → cG D cI cJ cO h A s H0 H1 locs (C.na q (C.ln a) (C.ar a)) → W p l e R s m args below meth c H1 locs (cells + 1) (slots + C.ln a) Q (F0 m (pc + 3) ls (.ref q :: rest))) : W p l e R s m args below meth c H locs cells slots Q (F0 m pc ls (.ref a :: rest)) := by
  obtain ⟨q0, -, hq0⟩ := c_awk (cI := cI) (cJ := cJ) (cO := cO) (h := h) ha
  refine va_clone (ad := "[J") (ty := .long) (ws := cW cI cJ cO h C) F.1 F.2.1 (F.2.2.1.trans hl.symm) F.2.2.2.1 hlink hsame hnat hinst hsel I.2.2.2.2.2 I.1 I.2.1 I.2.2.1 I.2.2.2.1 I.2.2.2.2.1 q0 1 hq0 rfl (c_nmJ I) (fun i v hv => ?_) hframes hlocals hcells hslots hdg (fun q H1 hK hP hD hS => ?_)
  · have hi : i < (C.ln a) := by
      have := (Array.getElem?_eq_some_iff.mp hv).1
      have e : (vp_cell cJ (C.ln a, .inr (.inl (C.ar a)))).slots.size = C.ln a := arrV_size _ _ _
      omega
    have e : (vp_cell cJ (C.ln a, .inr (.inl (C.ar a)))).slots[i]? = some (.long (C.ar a i)) := arrV_read _ _ hi
    rw [e] at hv
    cases hv
    rfl
  · have hq := c_fresh I hD
    rw [c_pushA hq] at hP hD
    exact kk q H1 hq ⟨I.1, hP, hD, hS, I.2.2.2.2⟩
theorem c_castA (F : CallFix p m c cc nL s args Ts RX1) (I : cG D cI cJ cO h A s H0 H locs C) {a : Nat} (ha : C.aw a) {index : Nat} (hlink : (Cond.classLink RX1 index "[J").before args s = true) (hdg : decode cc pc = .ok (.checkcast index, 3))
    (kk : W p l e R s m args below meth c H locs cells slots Q (F0 m (pc + 3) ls (.ref a :: rest))) : W p l e R s m args below meth c H locs cells slots Q (F0 m pc ls (.ref a :: rest)) := by
  obtain ⟨q0, -, hq0⟩ := c_awk (cI := cI) (cJ := cJ) (cO := cO) (h := h) ha
  exact va_castA (ws := cW cI cJ cO h C) F.1 F.2.1 F.2.2.2.1 hlink I.2.1 q0 hq0 (c_nmJ I) hdg kk
section Copies
variable {index : Nat} {sp dp n : Int32}
theorem c_cpyc (F : CallFix p m c cc nL s args Ts own) (hl : ls.size = nL) (I : cG D cI cJ cO h A s H0 H locs C) (hlink : (Cond.methodLink own index arraycopyName).before args s = true) (hnat : (Cond.native arraycopyName).before args s = true) (hstat : (Cond.static arraycopyName).before args s = true) (hini : (Cond.initialized "java/lang/System").before args s = true)
    (h1 : ¬ sp < 0) (h2 : ¬ dp < 0) (h3 : ¬ n < 0) (h4 : sp.toNatClampNeg + n.toNatClampNeg ≤ 80) (h5 : dp.toNatClampNeg + n.toNatClampNeg ≤ 80) (hframes : 1 ≤ R.frames) (hlocals : (rest.map fun v => v.category).sum + 18 ≤ R.locals) (hdg : decode cc pc = .ok (.invokestatic index, 3))
    (kk : ∀ (H1 : Heap) (locs1 : List Loc), cG D cI cJ cO h A s H0 H1 locs1 (C.ccu sp.toNatClampNeg dp.toNatClampNeg n.toNatClampNeg) → W p l e R s m args below meth c H1 locs1 cells slots Q (F0 m (pc + 3) ls rest)) : W p l e R s m args below meth c H locs cells slots Q (F0 m pc ls (.int n :: .int dp :: .ref (h 2) :: .int sp :: .ref (h 2) :: rest)) :=
  va_copyi (ws := cW cI cJ cO h C) (ty := .int) F.1 F.2.1 (F.2.2.1.trans hl.symm) F.2.2.2.1 hlink hnat hstat hini I.1 I.2.1 I.2.2.1 I.2.2.2.1 2 2 0 0 rfl rfl rfl rfl rfl h1 h2 h3 h4 h5 (fun _ _ => rfl) hframes hlocals hdg (fun H1 locs1 hP hD hS => kk H1 locs1 ⟨I.1, hP, hD, hS, I.2.2.2.2⟩)
theorem c_cpyf (F : CallFix p m c cc nL s args Ts own) (hl : ls.size = nL) (I : cG D cI cJ cO h A s H0 H locs C) (hlink : (Cond.methodLink own index arraycopyName).before args s = true) (hnat : (Cond.native arraycopyName).before args s = true) (hstat : (Cond.static arraycopyName).before args s = true) (hini : (Cond.initialized "java/lang/System").before args s = true)
    {a : Nat} (ha : C.aw a) (h1 : ¬ sp < 0) (h2 : ¬ dp < 0) (h3 : ¬ n < 0) (h4 : sp.toNatClampNeg + n.toNatClampNeg ≤ C.ln a) (h5 : dp.toNatClampNeg + n.toNatClampNeg ≤ 24) (hframes : 1 ≤ R.frames) (hlocals : (rest.map fun v => v.category).sum + 18 ≤ R.locals) (hdg : decode cc pc = .ok (.invokestatic index, 3))
    (kk : ∀ (H1 : Heap) (locs1 : List Loc), cG D cI cJ cO h A s H0 H1 locs1 (C.cpb a sp.toNatClampNeg dp.toNatClampNeg n.toNatClampNeg) → W p l e R s m args below meth c H1 locs1 cells slots Q (F0 m (pc + 3) ls rest)) : W p l e R s m args below meth c H locs cells slots Q (F0 m pc ls (.int n :: .int dp :: .ref (h 3) :: .int sp :: .ref a :: rest)) := by
  obtain ⟨q0, -, hq0⟩ := c_awk (cI := cI) (cJ := cJ) (cO := cO) (h := h) ha
  exact va_copyl (ws := cW cI cJ cO h C) (ty := .long) F.1 F.2.1 (F.2.2.1.trans hl.symm) F.2.2.2.1 hlink hnat hstat hini I.1 I.2.1 I.2.2.1 I.2.2.2.1 q0 3 1 1 hq0 rfl rfl rfl rfl h1 h2 h3 h4 h5 (fun _ _ => rfl) hframes hlocals hdg (fun H1 locs1 hP hD hS => kk H1 locs1 ⟨I.1, hP, hD, hS, I.2.2.2.2⟩)
theorem c_cpyb (F : CallFix p m c cc nL s args Ts own) (hl : ls.size = nL) (I : cG D cI cJ cO h A s H0 H locs C) (hlink : (Cond.methodLink own index arraycopyName).before args s = true) (hnat : (Cond.native arraycopyName).before args s = true) (hstat : (Cond.static arraycopyName).before args s = true) (hini : (Cond.initialized "java/lang/System").before args s = true)
    {b : Nat} (ha : C.aw b) (h1 : ¬ sp < 0) (h2 : ¬ dp < 0) (h3 : ¬ n < 0) (h4 : sp.toNatClampNeg + n.toNatClampNeg ≤ 24) (h5 : dp.toNatClampNeg + n.toNatClampNeg ≤ C.ln b) (hframes : 1 ≤ R.frames) (hlocals : (rest.map fun v => v.category).sum + 18 ≤ R.locals) (hdg : decode cc pc = .ok (.invokestatic index, 3))
    (kk : ∀ (H1 : Heap) (locs1 : List Loc), cG D cI cJ cO h A s H0 H1 locs1 (C.cbp b sp.toNatClampNeg dp.toNatClampNeg n.toNatClampNeg) → W p l e R s m args below meth c H1 locs1 cells slots Q (F0 m (pc + 3) ls rest)) : W p l e R s m args below meth c H locs cells slots Q (F0 m pc ls (.int n :: .int dp :: .ref b :: .int sp :: .ref (h 3) :: rest)) := by
  obtain ⟨q0, hp0, hq0⟩ := c_awk (cI := cI) (cJ := cJ) (cO := cO) (h := h) ha
  refine va_copyl (ws := cW cI cJ cO h C) (ty := .long) F.1 F.2.1 (F.2.2.1.trans hl.symm) F.2.2.2.1 hlink hnat hstat hini I.1 I.2.1 I.2.2.1 I.2.2.2.1 3 q0 1 1 rfl hq0 rfl rfl rfl h1 h2 h3 h4 h5 (fun _ _ => rfl) hframes hlocals hdg (fun H1 locs1 hP hD hS => kk H1 locs1 ⟨I.1, ?_, ?_, hS, I.2.2.2.2⟩)
  · rw [c_aws ha I.2.2.1 hp0] at hP; exact hP
  · rw [c_aws ha I.2.2.1 hp0] at hD; exact hD
theorem c_cpyp (F : CallFix p m c cc nL s args Ts own) (hl : ls.size = nL) (I : cG D cI cJ cO h A s H0 H locs C) (hlink : (Cond.methodLink own index arraycopyName).before args s = true) (hnat : (Cond.native arraycopyName).before args s = true) (hstat : (Cond.static arraycopyName).before args s = true) (hini : (Cond.initialized "java/lang/System").before args s = true)
    {a b : Nat} (ha : C.aw a) (hb : C.aw b) (h1 : ¬ sp < 0) (h2 : ¬ dp < 0) (h3 : ¬ n < 0) (h4 : sp.toNatClampNeg + n.toNatClampNeg ≤ C.ln a) (h5 : dp.toNatClampNeg + n.toNatClampNeg ≤ C.ln b) (hframes : 1 ≤ R.frames) (hlocals : (rest.map fun v => v.category).sum + 18 ≤ R.locals) (hdg : decode cc pc = .ok (.invokestatic index, 3))
    (kk : ∀ (H1 : Heap) (locs1 : List Loc), cG D cI cJ cO h A s H0 H1 locs1 (C.cpp a b sp.toNatClampNeg dp.toNatClampNeg n.toNatClampNeg) → W p l e R s m args below meth c H1 locs1 cells slots Q (F0 m (pc + 3) ls rest)) : W p l e R s m args below meth c H locs cells slots Q (F0 m pc ls (.int n :: .int dp :: .ref b :: .int sp :: .ref a :: rest)) := by
  obtain ⟨q0, -, hq0⟩ := c_awk (cI := cI) (cJ := cJ) (cO := cO) (h := h) ha
  obtain ⟨q1, hp1, hq1⟩ := c_awk (cI := cI) (cJ := cJ) (cO := cO) (h := h) hb
  refine va_copyl (ws := cW cI cJ cO h C) (ty := .long) F.1 F.2.1 (F.2.2.1.trans hl.symm) F.2.2.2.1 hlink hnat hstat hini I.1 I.2.1 I.2.2.1 I.2.2.2.1 q0 q1 1 1 hq0 hq1 rfl rfl rfl h1 h2 h3 h4 h5 (fun _ _ => rfl) hframes hlocals hdg (fun H1 locs1 hP hD hS => kk H1 locs1 ⟨I.1, ?_, ?_, hS, I.2.2.2.2⟩)
  · rw [c_aws hb I.2.2.1 hp1] at hP; exact hP
  · rw [c_aws hb I.2.2.1 hp1] at hD; exact hD
end Copies
/-- a Load's own fields, laid by its constructor -/
theorem c_lset {a k : Nat} {fs : List Value} {C' : cS} (ha : C.ld a) (hD : va_D A (cW cI cJ cO h C)) (hk : (cW cI cJ cO h C)[k]? = some (a, pF cJ C a)) (hX : cX cI cJ cO h C' = cX cI cJ cO h C) (hL : C'.L = C.L) (hF : va_up (pF cJ C) a (.inr (0, fs)) = pF cJ C') : (cW cI cJ cO h C).set k (a, .inr (0, fs)) = cW cI cJ cO h C' := by
  refine (va_pl_set (X := cX cI cJ cO h C) (L := C.L) (f := pF cJ C) hD ha.1 hk).trans ?_
  rw [hF]
  show _ = cX cI cJ cO h C' ++ va_pl C'.L (pF cJ C')
  rw [hX, hL]
theorem c_lput0 {a : Nat} {v : Int32} (ha : C.ld a) : va_up (pF cJ C) a (.inr (0, [.int v, .int (C.nu a), va_rf (C.fr a)])) = pF cJ (C.slo a v) := by
  funext b
  show _ = (if C.kd b = 0 then .inr (0, [.int (va_up C.so a v b), .int (C.nu b), va_rf (C.fr b)]) else .inl (cJ, C.ln b, .inr (.inl (C.ar b))) : va_E)
  by_cases hb : b = a
  · subst hb; simp only [va_up_self]; rw [if_pos ha.2]
  · simp only [va_up_ne _ _ hb]; rfl
theorem c_lput1 {a : Nat} {v : Int32} (ha : C.ld a) : va_up (pF cJ C) a (.inr (0, [.int (C.so a), .int v, va_rf (C.fr a)])) = pF cJ (C.sln a v) := by
  funext b
  show _ = (if C.kd b = 0 then .inr (0, [.int (C.so b), .int (va_up C.nu a v b), va_rf (C.fr b)]) else .inl (cJ, C.ln b, .inr (.inl (C.ar b))) : va_E)
  by_cases hb : b = a
  · subst hb; simp only [va_up_self]; rw [if_pos ha.2]
  · simp only [va_up_ne _ _ hb]; rfl
theorem c_lput2 {a : Nat} {r : Option Nat} (ha : C.ld a) : va_up (pF cJ C) a (.inr (0, [.int (C.so a), .int (C.nu a), va_rf r])) = pF cJ (C.slf a r) := by
  funext b
  show _ = (if C.kd b = 0 then .inr (0, [.int (C.so b), .int (C.nu b), va_rf (va_up C.fr a r b)]) else .inl (cJ, C.ln b, .inr (.inl (C.ar b))) : va_E)
  by_cases hb : b = a
  · subst hb; simp only [va_up_self]; rw [if_pos ha.2]
  · simp only [va_up_ne _ _ hb]; rfl
theorem c_lput (F : CallFix p m c cc nL s args Ts RX0) (hin : ∀ w ∈ u_ws RX0 TX0 3, w ∈ Ts) (hini : meth.name = "<init>") (I : cG D cI cJ cO h A s H0 H locs C) {a : Nat} (ha : C.ld a) (k : Nat) (hk : k < 3) {v : Value} {fs : List Value} {C' : cS} (hfs : ([.int (C.so a), .int (C.nu a), va_rf (C.fr a)] : List Value).set k v = fs) (hX : cX cI cJ cO h C' = cX cI cJ cO h C) (hL : C'.L = C.L) (hF : va_up (pF cJ C) a (.inr (0, fs)) = pF cJ C') (hn : narrow (tyX0 k) v = v) (hfit : fits (tyX0 k) v = true) (hfin : (TX0 k).2.2.2 = true) (hdc : (TX0 k).1 = RX0) {index : Nat} (hlink : (Cond.fieldLink RX0 index (TX0 k).1 (TX0 k).2.1 (TX0 k).2.2.1).before args s = true) (hdg : decode cc pc = .ok (.putfield index, 3))
    (kk : ∀ (H1 : Heap) (locs1 : List Loc), cG D cI cJ cO h A s H0 H1 locs1 C' → W p l e R s m args below meth c H1 locs1 cells slots Q (F0 m (pc + 3) ls rest)) : W p l e R s m args below meth c H locs cells slots Q (F0 m pc ls (v :: .ref a :: rest)) := by
  obtain ⟨q0, hp, hq⟩ := c_ldk (cI := cI) (cJ := cJ) (cO := cO) (h := h) ha
  refine va_putF (D := D) (cl := vwCl) (ci := 0) (C := RX0) (T := TX0) (N := 3) (ws := cW cI cJ cO h C) F.1 F.2.1 F.2.2.2.2 hin tyX0 tyX0_ok nmX0 F.2.2.2.1 I.1 I.2.1 I.2.2.1 I.2.2.2.1 q0 hq rfl k hk hlink (fun _ q => q) hfin hini hdc (tyX0_ok k hk) hn hfit (by show k < 3; exact hk) hdg (fun H1 locs1 hP hD hS => kk H1 locs1 ⟨I.1, ?_, ?_, hS, I.2.2.2.2⟩)
  · rw [hfs, c_lset ha I.2.2.1 hp hX hL hF] at hP; exact hP
  · rw [hfs, c_lset ha I.2.2.1 hp hX hL hF] at hD; exact hD
theorem c_aw_na (C : cS) (q n : Nat) (f : Nat → Int64) : (C.na q n f).aw q := ⟨List.mem_append_right _ List.mem_cons_self, va_up_self _ _ _⟩
end CWorld2
end
section
section CInit
theorem l_X0 {C : cS} {a o : Nat} {v : Int32} (h : C.ld a) : (C.slo o v).ld a := ⟨h.1, h.2⟩
theorem l_X1 {C : cS} {a o : Nat} {v : Int32} (h : C.ld a) : (C.sln o v).ld a := ⟨h.1, h.2⟩
theorem x_X0 {cI cJ cO : ClassId} {h : Nat → Nat} (C : cS) (o : Nat) (v : Int32) : cX cI cJ cO h (C.slo o v) = cX cI cJ cO h C := by unfold cX cfs; rfl
theorem x_X1 {cI cJ cO : ClassId} {h : Nat → Nat} (C : cS) (o : Nat) (v : Int32) : cX cI cJ cO h (C.sln o v) = cX cI cJ cO h C := by unfold cX cfs; rfl
theorem x_X2 {cI cJ cO : ClassId} {h : Nat → Nat} (C : cS) (o : Nat) (v : Option Nat) : cX cI cJ cO h (C.slf o v) = cX cI cJ cO h C := by unfold cX cfs; rfl
theorem x_hl0 : (TX0 0).1 = RX0 := rfl
theorem x_hl1 : (TX0 1).1 = RX0 := rfl
theorem x_hl2 : (TX0 2).1 = RX0 := rfl
theorem x_n0 (x : Int32) : narrow (tyX0 0) (.int x) = .int x := rfl
theorem x_n1 (x : Int32) : narrow (tyX0 1) (.int x) = .int x := rfl
theorem x_n2 (x : Nat) : narrow (tyX0 2) (.ref x) = .ref x := rfl
theorem x_f0 (x : Int32) : fits (tyX0 0) (.int x) = true := rfl
theorem x_f1 (x : Int32) : fits (tyX0 1) (.int x) = true := rfl
theorem x_f2 (x : Nat) : fits (tyX0 2) (.ref x) = true := rfl
abbrev rm_X0_init : Room := { frames := 1, cells := 0, slots := 0, locals := 12 }
def wp_X0_init (o : Nat) (p0 p1 : Int32) (p2 : Nat) (C : cS) (K : cS → Prop) : Prop := C.ld o ∧ K (((C.slo o p0).sln o p1).slf o (some p2))
set_option maxHeartbeats 4000000 in
set_option maxRecDepth 100000 in
theorem c_X0_init {l : Launch} {D : va_G} {cI cJ cO : ClassId} {h : Nat → Nat} (o : Nat) (p0 p1 : Int32) (p2 : Nat) (C : cS) (K : cS → Prop) (hw : wp_X0_init o p0 p1 p2 C K) : cMv l D cI cJ cO h yX0_init wsX0_init rm_X0_init 0 0 [.ref o, .int p0, .int p1, .ref p2] K C := by
  refine c_startv (rt := none) (R0 := RX0) (by decide) rfl rfl (Nat.le_of_ble_eq_true rfl) ?_
  intro p e s m below meth c A ls F hr hlk I hl hini
  have hin0 : ∀ w ∈ u_ws RX0 TX0 3, w ∈ wsX0_init := by decide +kernel
  have hnm := hini _ rfl rfl
  obtain ⟨hx, hb, hml, hown, hts⟩ := id F
  have hl : lv_has ls 4 [(0, .ref o), (1, .int p0), (2, .int p1), (3, .ref p2)] := hl
  obtain ⟨hld, hw⟩ := hw
  refine lv_aload_n hx hb dX0_init_0 rfl (lv_at hl 0 rfl) ?_
  refine W.objInit hx hb hown (hts (.methodLink RX0 1 objectInit) (by decide +kernel)) (hts (.instanceMethod objectInit) (by decide +kernel)) (hts _ (List.mem_cons_of_mem _ (List.mem_append_left _ (List.mem_of_getElem? (i := 2) rfl)))) rfl (by rw [hml]; exact hl.1) rfl dX0_init_1 (Nat.le_of_ble_eq_true rfl) (Nat.le_of_ble_eq_true rfl) ?_
  refine W.eq (g2 := F0 m 4 ls []) rfl ?_
  refine lv_aload_n hx hb dX0_init_4 rfl (lv_at hl 0 rfl) ?_
  refine lv_iload_n hx hb dX0_init_5 rfl (lv_at hl 1 rfl) ?_
  refine c_lput (C' := C.slo o p0) F hin0 hnm I hld 0 (by decide) rfl (x_X0 _ _ _) rfl (c_lput0 hld) (x_n0 _) (x_f0 _) rfl x_hl0 (hts (.fieldLink RX0 7 "CuttingTable$Load" "sort" "I") (by decide +kernel)) dX0_init_6 (fun H locs I => ?_)
  refine lv_aload_n hx hb dX0_init_9 rfl (lv_at hl 0 rfl) ?_
  refine lv_iload_n hx hb dX0_init_10 rfl (lv_at hl 2 rfl) ?_
  refine c_lput (C' := (C.slo o p0).sln o p1) F hin0 hnm I (C := C.slo o p0) (l_X0 hld) 1 (by decide) rfl (x_X1 _ _ _) rfl (c_lput1 (C := C.slo o p0) (l_X0 hld)) (x_n1 _) (x_f1 _) rfl x_hl1 (hts (.fieldLink RX0 13 "CuttingTable$Load" "number" "I") (by decide +kernel)) dX0_init_11 (fun H locs I => ?_)
  refine lv_aload_n hx hb dX0_init_14 rfl (lv_at hl 0 rfl) ?_
  refine lv_aload_n hx hb dX0_init_15 rfl (lv_at hl 3 rfl) ?_
  refine c_lput (C' := ((C.slo o p0).sln o p1).slf o (some p2)) F hin0 hnm I (C := (C.slo o p0).sln o p1) (l_X1 (l_X0 hld)) 2 (by decide) rfl (x_X2 _ _ _) rfl (c_lput2 (r := some p2) (C := (C.slo o p0).sln o p1) (l_X1 (l_X0 hld))) (x_n2 _) (x_f2 _) rfl x_hl2 (hts (.fieldLink RX0 16 "CuttingTable$Load" "frames" "[J") (by decide +kernel)) dX0_init_16 (fun H locs I => ?_)
  exact c_retv F hr hlk I dX0_init_19 hw
end CInit
end
