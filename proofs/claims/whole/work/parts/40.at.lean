section AtWorld
abbrev exS : String := "java/lang/IllegalStateException"
abbrev exX : String := "java/lang/IndexOutOfBoundsException"
abbrev exN : List String := ["java/lang/RuntimeException", "java/lang/Exception"]
/-- what at() needs beside the world: Throwable's two statics, apart from A; the two texts; the two casts -/
def aT (sa sb : Nat) (A : Nat → Prop) (U : State) (H : Heap) : Prop :=
  vx_Zq Bundle.tN "UNASSIGNED_STACK" Bundle.steD A U H ∧ vx_Zq Bundle.tN "SUPPRESSED_SENTINEL" Bundle.listD A U H ∧ vk_R RX1 127 "no reel lies there" sa U ∧ vk_R RX1 134 "the reel has no such frame" sb U ∧ va_Nw (.castable exS exS) U ∧ va_Nw (.castable exX exX) U ∧ va_Nw (.declares (Bundle.initS "java/lang/RuntimeException")) U ∧ va_Nw (.declares (Bundle.initS "java/lang/Exception")) U ∧ va_Nw (.declares (Bundle.initS Bundle.tN)) U
theorem aT.narrow {sa sb : Nat} {A B : Nat → Prop} {U : State} {H : Heap} (h : aT sa sb A U H) (hAB : ∀ q, B q → A q) : aT sa sb B U H := ⟨h.1.narrow hAB, h.2.1.narrow hAB, h.2.2⟩
theorem aT.kept {sa sb : Nat} {A : Nat → Prop} {U : State} {H H1 : Heap} (h : aT sa sb A U H) (hq : ∀ a : Nat, a < H.size → ¬ A a → H1[a]? = H[a]?) : aT sa sb A U H1 := ⟨h.1.kept hq, h.2.1.kept hq, h.2.2⟩
theorem aT.warm {sa sb : Nat} {A : Nat → Prop} {s U : State} {H : Heap} (hW : s.WarmedH U.vm) (h : aT sa sb A s H) : aT sa sb A U H :=
  ⟨vx_Zq.moved hW.alike h.1, vx_Zq.moved hW.alike h.2.1, vk_R.warm hW h.2.2.1, vk_R.warm hW h.2.2.2.1, va_Nw.warmC hW h.2.2.2.2.1, va_Nw.warmC hW h.2.2.2.2.2.1, va_Nw.warmD hW h.2.2.2.2.2.2.1, va_Nw.warmD hW h.2.2.2.2.2.2.2.1, va_Nw.warmD hW h.2.2.2.2.2.2.2.2⟩
theorem aT.same {sa sb : Nat} {A : Nat → Prop} {s U : State} {H : Heap} (hv : s.vm = U.vm) (h : aT sa sb A s H) : aT sa sb A U H :=
  ⟨vx_Zq.moved (by rw [← hv]; exact Vm.Alike.refl _) h.1, vx_Zq.moved (by rw [← hv]; exact Vm.Alike.refl _) h.2.1, vk_R.same hv.symm h.2.2.1, vk_R.same hv.symm h.2.2.2.1, va_Nw.same rfl hv h.2.2.2.2.1, va_Nw.same rfl hv h.2.2.2.2.2.1, va_Nw.same rfl hv h.2.2.2.2.2.2.1, va_Nw.same rfl hv h.2.2.2.2.2.2.2.1, va_Nw.same rfl hv h.2.2.2.2.2.2.2.2⟩
def aPc (D : va_G) (cI cJ cO : ClassId) (h : Nat → Nat) (sa sb : Nat) (C : cS) (sz : Nat) (As : List Value) : Array Value → State → Prop :=
  fun a U => cPc D cI cJ cO h C sz As a U ∧ aT sa sb (va_A (cW cI cJ cO h C) sz) U U.heap
theorem a_blind {D : va_G} {cI cJ cO : ClassId} {h : Nat → Nat} {sa sb : Nat} {C : cS} {As : List Value} {sz : Nat} : FrameBlind (aPc D cI cJ cO h sa sb C sz As) := fun a U g mk q =>
  ⟨c_blind a U g mk q.1, aT.same (s := U) (U := U.calling g mk a) rfl q.2⟩
def aMl (l : Launch) (D : va_G) (cI cJ cO : ClassId) (h : Nat → Nat) (sa sb : Nat) (y : MethodName) (ws : List Cond) (rm : Room) (mc ms : Nat) (As : List Value) (K : Int64 → cS → Prop) (KX : String → cS → Prop) (C : cS) : Prop :=
  ∀ sz : Nat, vx_Met l y ws rm (aPc D cI cJ cO h sa sb C sz As) (va_Ql K (cB D cI cJ cO h (va_A (cW cI cJ cO h C) sz)) (va_A (cW cI cJ cO h C) sz)) (vx_X (fun _ : cS => True) (fun E u t => KX E u ∧ cB D cI cJ cO h (va_A (cW cI cJ cO h C) sz) u t) (va_A (cW cI cJ cO h C) sz)) mc ms (va_A (cW cI cJ cO h C) sz)
section Rows
variable {p : Program} {l : Launch} {e : Env} {R : Room} {s : State} {m : MethodId} {args : Array Value} {below : List Frame} {meth : Method} {c : Code} {H H0 : Heap} {locs : List Loc} {cells slots : Nat} {Q : State → Prop} {cc : ByteArray} {nL pc : Nat} {ls : Array Slot} {rest st0 : List Value} {Ts : List Cond} {D : va_G} {cI cJ cO : ClassId} {h : Nat → Nat} {A : Nat → Prop} {C : cS} {own : String} {sa sb : Nat}
theorem a_start {y : MethodName} {ws ws' : List Cond} {maxL : Nat} {rm : Room} {mc ms : Nat} {As : List Value} {K : Int64 → cS → Prop} {KX : String → cS → Prop} {rt : Option FieldType} {R0 : String} (hy : plainName y.cls = true) (hw : ws = Cond.code y cc maxL rt :: ws') (hy2 : y.cls = R0) (hA : (lg_sl As).length ≤ maxL)
    (body : ∀ (p : Program) (e : Env) (s : State) (m : MethodId) (below : List Frame) (meth : Method) (c : Code) (A : Nat → Prop) (ls : Array Slot), CallFix p m c cc maxL s As.toArray ws R0 → meth.sig.returnType = rt → meth.locks = false → cG D cI cJ cO h A s s.heap s.heap [] C → lv_has ls maxL (lv_args 0 As) → (∀ x ∈ c.exceptionTable.toList, False) → aT sa sb A s s.heap →
      W p l e rm s m As.toArray below meth c s.heap [] 0 0 (vx_MQ below (va_Ql K (cB D cI cJ cO h A) A) (vx_X (fun _ : cS => True) (fun E u t => KX E u ∧ cB D cI cJ cO h A u t) A) As.toArray s mc ms A) (F0 m 0 ls [])) :
    aMl l D cI cJ cO h sa sb y ws rm mc ms As K KX C := by
  intro sz
  refine vx_ofW (cc := cc) (maxL := maxL) (ret := rt) hy hw ?_
  intro p e s m args below meth c s₁ B hml htab hv
  obtain ⟨⟨rfl, hsz, hP, hK, hD0, hN⟩, hT⟩ := hv
  have hown : s.vm.findClass R0 = some m.cls := hy2 ▸ findClass_of_methodNamed B.named
  subst hsz
  have hl := lv_entry As (n := maxL) hA
  rw [lg_entry_eq]
  exact body p e s m below meth c _ _ ⟨B.exec, B.bytes, hml, hown, atoms_spec (ws := ws) B.pre⟩ B.returns B.notSynchronized ⟨hK, hP, hD0.self (sz := s.heap.size), va_S.rf, fun q hq => Or.inr hq, hN⟩ hl htab hT
/-- the world where an exception leaves: nothing of it changed -/
theorem a_leave {KX : String → cS → Prop} {E : String} (I : cG D cI cJ cO h A s s.heap H locs C) (hK : KX E C) (t : State) (hvm : s.vm.Alike t.vm) (hz : H.size ≤ t.heap.size) (hk : ∀ q : Nat, q < H.size → t.heap[q]? = H[q]?) : vx_X (fun _ : cS => True) (fun E u t => KX E u ∧ cB D cI cJ cO h A u t) A E s t := by
  refine ⟨C, trivial, ⟨hK, I.2.1.kept (fun k q hq => hk _ (I.2.1 k q hq).lt), va_K.moved hvm I.1, I.2.2.1⟩, Nat.le_trans I.2.2.2.1.1 hz, fun q hq hA => ?_⟩
  rw [hk q (Nat.lt_of_lt_of_le hq I.2.2.2.1.1)]
  exact I.2.2.2.1.2.1 q hq hA
abbrev rm_X1_at : Room := { frames := 6, cells := 1, slots := 6, locals := 82 }
set_option maxHeartbeats 4000000 in
set_option maxRecDepth 100000 in
theorem at_throwS {Qc : Array Value → State → Outcome → State → Prop} {KX : String → cS → Prop} (F : CallFix p m c cX1_at 6 s args wsX1_at RX1) (h0 : l.stackTraces = false) (hT : aT sa sb A s s.heap) (htab : ∀ x ∈ c.exceptionTable.toList, False) (hlk : meth.locks = false) (hsize : ls.size = 6) (I : cG D cI cJ cO h A s s.heap H locs C) (hK : KX exS C) :
    W p l e rm_X1_at s m args below meth c H locs 0 0 (vx_MQ below Qc (vx_X (fun _ : cS => True) (fun E u t => KX E u ∧ cB D cI cJ cO h A u t) A) args s 1 6 A) (F0 m 19 ls []) := by
  obtain ⟨hx, hb, hml, hown, hts⟩ := id F
  refine vx_throwS (own := RX1) (cls := exS) (names := exN) (ik := 125) (is := 127) (ic := 129) (sa := sa) (text := "no reel lies there") (A := A) hx hb h0 hown (by decide +kernel) (by decide +kernel) (hts (.classLink RX1 125 exS) (by decide +kernel)) (hts (.initialized exS) (by decide +kernel)) hT.2.2.1
    (vx_hat (B := [.castable exS exS, .declares (Bundle.initS "java/lang/RuntimeException"), .declares (Bundle.initS "java/lang/Exception"), .declares (Bundle.initS Bundle.tN)]) (fun w hw => hts w (List.mem_cons_of_mem _ (List.mem_append_left _ (List.mem_append_right _ hw)))) (by decide +kernel) (vx_c (va_Nw.use rfl hT.2.2.2.2.1) (vx_c (va_Nw.use rfl hT.2.2.2.2.2.2.1) (vx_c (va_Nw.use rfl hT.2.2.2.2.2.2.2.1) (vx_c (va_Nw.use rfl hT.2.2.2.2.2.2.2.2) vx_n))))) (by decide +kernel) hT.1 hT.2.1 I.2.2.2.1 (hsize.trans hml.symm) dX1_at_19 dX1_at_22 dX1_at_23 dX1_at_25 dX1_at_28 (fun x hx => (htab x hx).elim) (by decide) (by decide) (by decide) (by decide) hlk (a_leave I hK) I.2.2.2.1.2.2 (by decide) (by decide)
set_option maxHeartbeats 4000000 in
set_option maxRecDepth 100000 in
theorem at_throwX {Qc : Array Value → State → Outcome → State → Prop} {KX : String → cS → Prop} (F : CallFix p m c cX1_at 6 s args wsX1_at RX1) (h0 : l.stackTraces = false) (hT : aT sa sb A s s.heap) (htab : ∀ x ∈ c.exceptionTable.toList, False) (hlk : meth.locks = false) (hsize : ls.size = 6) (I : cG D cI cJ cO h A s s.heap H locs C) (hK : KX exX C) :
    W p l e rm_X1_at s m args below meth c H locs 0 0 (vx_MQ below Qc (vx_X (fun _ : cS => True) (fun E u t => KX E u ∧ cB D cI cJ cO h A u t) A) args s 1 6 A) (F0 m 42 ls []) := by
  obtain ⟨hx, hb, hml, hown, hts⟩ := id F
  refine vx_throwS (own := RX1) (cls := exX) (names := exN) (ik := 132) (is := 134) (ic := 136) (sa := sb) (text := "the reel has no such frame") (A := A) hx hb h0 hown (by decide +kernel) (by decide +kernel) (hts (.classLink RX1 132 exX) (by decide +kernel)) (hts (.initialized exX) (by decide +kernel)) hT.2.2.2.1
    (vx_hat (B := [.castable exX exX, .declares (Bundle.initS "java/lang/RuntimeException"), .declares (Bundle.initS "java/lang/Exception"), .declares (Bundle.initS Bundle.tN)]) (fun w hw => hts w (List.mem_cons_of_mem _ (List.mem_append_right _ hw))) (by decide +kernel) (vx_c (va_Nw.use rfl hT.2.2.2.2.2.1) (vx_c (va_Nw.use rfl hT.2.2.2.2.2.2.1) (vx_c (va_Nw.use rfl hT.2.2.2.2.2.2.2.1) (vx_c (va_Nw.use rfl hT.2.2.2.2.2.2.2.2) vx_n))))) (by decide +kernel) hT.1 hT.2.1 I.2.2.2.1 (hsize.trans hml.symm) dX1_at_42 dX1_at_45 dX1_at_46 dX1_at_48 dX1_at_51 (fun x hx => (htab x hx).elim) (by decide) (by decide) (by decide) (by decide) hlk (a_leave I hK) I.2.2.2.1.2.2 (by decide) (by decide)
end Rows
def wp_X1_at (p0 : Int32) (p1 : Int32) (C : cS) (K : Int64 → cS → Prop) (KX : String → cS → Prop) : Prop := wp_X1_loadOn (p0) C (fun r1 C2 => ((r1 = none → KX exS C2) ∧ (∀ y3, r1 = some y3 → ((C2).ld (y3) ∧ ((¬ ((C2).so (y3)) = (8 : Int32) → ((p1 < 0 → KX exX C2) ∧ (¬ p1 < 0 → ((C2).ld (y3) ∧ ∃ b7, (C2).fr (y3) = some b7 ∧ ((C2).aw (b7) ∧ ((p1 < (nI ((C2).ln (b7))) → ((C2).ld (y3) ∧ ∃ b10, (C2).fr (y3) = some b10 ∧ ((C2).aw (b10) ∧ vp_in (p1) ((C2).ln (b10)) ∧ ((C2).ld (y3) ∧ wp_X1_isOfNumbers (((C2).so (y3))) (fun r13 => ((r13 = 0 → ((¬ ((C2).ar (b10) (p1).toNatClampNeg) = (0 : Int64) → wp_X1_numberOf (((C2).ar (b10) (p1).toNatClampNeg)) (fun r16 => wp_X1_kindOf (((C2).ar (b10) (p1).toNatClampNeg)) (fun r17 => K ((((4 : Int64) * (r16).toInt64) + (r17).toInt64)) C2))) ∧ (((C2).ar (b10) (p1).toNatClampNeg) = (0 : Int64) → K ((-1 : Int64)) C2))) ∧ (¬ r13 = 0 → K (((C2).ar (b10) (p1).toNatClampNeg)) C2))))))) ∧ (¬ p1 < (nI ((C2).ln (b7))) → KX exX C2))))))) ∧ (((C2).so (y3)) = (8 : Int32) → KX exS C2))))))
set_option maxHeartbeats 4000000 in
set_option maxRecDepth 100000 in
theorem c_X1_at {l : Launch} (h0 : l.stackTraces = false) {D : va_G} {cI cJ cO : ClassId} {h : Nat → Nat} {sa sb : Nat} (p0 : Int32) (p1 : Int32) (C : cS) (K : Int64 → cS → Prop) (KX : String → cS → Prop) (hw : wp_X1_at p0 p1 C K KX) : aMl l D cI cJ cO h sa sb yX1_at wsX1_at rm_X1_at 1 6 [.ref (h 0), .int (p0), .int (p1)] K KX C := by
  refine a_start (rt := some .long) (R0 := RX1) (by decide) rfl rfl (Nat.le_of_ble_eq_true rfl) ?_
  intro p e s m below meth c A ls F hr hlk I hl htab hT
  have hin : ∀ w ∈ u_ws RX1 TX1 14, w ∈ wsX1_at := by decide +kernel
  have hin0 : ∀ w ∈ u_ws RX0 TX0 3, w ∈ wsX1_at := by decide +kernel
  obtain ⟨hx, hb, hml, hown, hts⟩ := id F
  have hl : lv_has ls 6 [(0, .ref (h 0)), (1, .int (p0)), (2, .int (p1))] := hl
  unfold wp_X1_at at hw
  refine lv_aload_n hx hb dX1_at_0 rfl (lv_at hl 0 rfl) ?_
  refine lv_iload_n hx hb dX1_at_1 rfl (lv_at hl 1 rfl) ?_
  refine c_callq (rest := []) F I (c_X1_loadOn (p0) _ _ hw) (cwV 1 hts gX1_at_X1_loadOn rfl rfl rfl (by decide +kernel) ⟨Nat.le_of_ble_eq_true rfl, Nat.le_of_ble_eq_true rfl⟩) rfl hl.1 rfl (Nat.le_of_ble_eq_true rfl) dX1_at_2 ⟨by decide, by decide⟩ (fun r1 C2 H locs hw I => ?_)
  rcases e4 : r1 with _ | y3
  · have hw := hw.1 e4
    refine lv_astore_nN (lv' := [(3, .null), (0, .ref (h 0)), (1, .int (p0)), (2, .int (p1))]) hx hb dX1_at_5 rfl hl (by decide) rfl (fun ls hl => ?_)
    refine lv_aload_nN hx hb dX1_at_6 rfl (lv_at hl 0 rfl) ?_
    refine lv_ifnullN (tgt := 19) hx hb dX1_at_7 (by decide) ?_
    exact at_throwS F h0 hT htab hlk hl.1 I hw
  · have hw := hw.2 y3 e4
    refine lv_astore_n (lv' := [(3, .ref (y3)), (0, .ref (h 0)), (1, .int (p0)), (2, .int (p1))]) hx hb dX1_at_5 rfl hl (by decide) rfl (fun ls hl => ?_)
    refine lv_aload_n hx hb dX1_at_6 rfl (lv_at hl 0 rfl) ?_
    refine lv_ifnull hx hb dX1_at_7 ?_
    refine lv_aload_n hx hb dX1_at_10 rfl (lv_at hl 0 rfl) ?_
    obtain ⟨hld, hw⟩ := hw
    refine c_lget F hin0 I hld 0 (by decide) (v := .int (((C2).so (y3)))) rfl (hts (.fieldLink RX1 42 "CuttingTable$Load" "sort" "I") (by decide +kernel)) dX1_at_11 ?_
    refine lv_bipush (v := (8 : Int32)) hx hb dX1_at_14 (by decide) ?_
    refine lv_icmp_ne (tgt := 29) hx hb dX1_at_16 (by decide) (fun c_5 => ?_) (fun c_5 => ?_)
    · have hw := hw.1 c_5
      refine lv_iload_n hx hb dX1_at_29 rfl (lv_at hl 3 rfl) ?_
      refine lv_if_lt (tgt := 42) hx hb dX1_at_30 (by decide) (fun c_6 => ?_) (fun c_6 => ?_)
      · have hw := hw.1 c_6
        exact at_throwX F h0 hT htab hlk hl.1 I hw
      · have hw := hw.2 c_6
        refine lv_iload_n hx hb dX1_at_33 rfl (lv_at hl 3 rfl) ?_
        refine lv_aload_n hx hb dX1_at_34 rfl (lv_at hl 0 rfl) ?_
        obtain ⟨hld, b7, e8, hw⟩ := hw
        refine c_lget F hin0 I hld 2 (by decide) (v := .ref b7) (by rw [← show va_rf ((C2).fr (y3)) = .ref b7 from by rw [e8]; rfl]; rfl) (hts (.fieldLink RX1 48 "CuttingTable$Load" "frames" "[J") (by decide +kernel)) dX1_at_35 ?_
        obtain ⟨haw, hw⟩ := hw
        refine c_alen F I haw dX1_at_38 ?_
        refine lv_icmp_lt (tgt := 52) hx hb dX1_at_39 (by decide) (fun c_9 => ?_) (fun c_9 => ?_)
        · have hw := hw.1 c_9
          refine lv_aload_n hx hb dX1_at_52 rfl (lv_at hl 0 rfl) ?_
          obtain ⟨hld, b10, e11, hw⟩ := hw
          refine c_lget F hin0 I hld 2 (by decide) (v := .ref b10) (by rw [← show va_rf ((C2).fr (y3)) = .ref b10 from by rw [e11]; rfl]; rfl) (hts (.fieldLink RX1 48 "CuttingTable$Load" "frames" "[J") (by decide +kernel)) dX1_at_53 ?_
          refine lv_iload_n hx hb dX1_at_56 rfl (lv_at hl 3 rfl) ?_
          obtain ⟨haw, hi12, hw⟩ := hw
          refine c_lald F I haw hi12 dX1_at_57 ?_
          refine lv_lstore (lv' := [(4, .long (((C2).ar (b10) (p1).toNatClampNeg))), (3, .ref (y3)), (0, .ref (h 0)), (1, .int (p0)), (2, .int (p1))]) hx hb dX1_at_58 hl (by decide) rfl (fun ls hl => ?_)
          refine lv_aload_n hx hb dX1_at_60 rfl (lv_at hl 1 rfl) ?_
          obtain ⟨hld, hw⟩ := hw
          refine c_lget F hin0 I hld 0 (by decide) (v := .int (((C2).so (y3)))) rfl (hts (.fieldLink RX1 42 "CuttingTable$Load" "sort" "I") (by decide +kernel)) dX1_at_61 ?_
          refine s_calli (rest := []) F (c_X1_isOfNumbers (((C2).so (y3))) _ hw) (va_cwS 1 hts gX1_at_X1_isOfNumbers rfl rfl rfl (by decide +kernel) ⟨Nat.le_of_ble_eq_true rfl, Nat.le_of_ble_eq_true rfl⟩) rfl hl.1 rfl (Nat.le_of_ble_eq_true rfl) dX1_at_64 ⟨Nat.zero_le _, Nat.zero_le _⟩ (fun r13 hw => ?_)
          refine lv_if_eq (tgt := 73) hx hb dX1_at_67 (by decide) (fun c_14 => ?_) (fun c_14 => ?_)
          · have hw := hw.1 c_14
            refine lv_lload hx hb dX1_at_73 (lv_at hl 0 rfl) ?_
            refine lv_lconst (v := (0 : Int64)) hx hb dX1_at_75 (by decide) ?_
            refine W.lcmp hx hb dX1_at_76 ?_
            refine lv_if_ne (tgt := 86) hx hb dX1_at_77 (by decide) (fun c_15 => ?_) (fun c_15 => ?_)
            · have hw := hw.1 (fun q => c_15 ((lg_cmp_eq _ _).mpr q))
              refine lv_ldc2 hx hb hown (hts (.constantLong RX1 142 (4)) (by decide +kernel)) dX1_at_86 ?_
              refine lv_lload hx hb dX1_at_89 (lv_at hl 0 rfl) ?_
              refine s_calli (rest := [.long ((4 : Int64))]) F (c_X1_numberOf (((C2).ar (b10) (p1).toNatClampNeg)) _ hw) (va_cwS 1 hts gX1_at_X1_numberOf rfl rfl rfl (by decide +kernel) ⟨Nat.le_of_ble_eq_true rfl, Nat.le_of_ble_eq_true rfl⟩) rfl hl.1 rfl (Nat.le_of_ble_eq_true rfl) dX1_at_91 ⟨Nat.zero_le _, Nat.zero_le _⟩ (fun r16 hw => ?_)
              refine lv_i2l hx hb dX1_at_94 rfl ?_
              refine lv_lmul hx hb dX1_at_95 ?_
              refine lv_lload hx hb dX1_at_96 (lv_at hl 0 rfl) ?_
              refine s_calli (rest := [.long (((4 : Int64) * (r16).toInt64))]) F (c_X1_kindOf (((C2).ar (b10) (p1).toNatClampNeg)) _ hw) (va_cwS 1 hts gX1_at_X1_kindOf rfl rfl rfl (by decide +kernel) ⟨Nat.le_of_ble_eq_true rfl, Nat.le_of_ble_eq_true rfl⟩) rfl hl.1 rfl (Nat.le_of_ble_eq_true rfl) dX1_at_98 ⟨Nat.zero_le _, Nat.zero_le _⟩ (fun r17 hw => ?_)
              refine lv_i2l hx hb dX1_at_101 rfl ?_
              refine lv_ladd hx hb dX1_at_102 ?_
              refine W.widen (k := 1) (n := 6) (by omega) (by omega) ?_
              exact vx_ret (c_retl F hr hlk I dX1_at_103 hw)
            · have hw := hw.2 ((lg_cmp_eq _ _).mp c_15)
              refine lv_ldc2 hx hb hown (hts (.constantLong RX1 140 (-1)) (by decide +kernel)) dX1_at_80 ?_
              refine lv_goto (tgt := 103) hx hb dX1_at_83 (by decide) ?_
              refine W.widen (k := 1) (n := 6) (by omega) (by omega) ?_
              exact vx_ret (c_retl F hr hlk I dX1_at_103 hw)
          · have hw := hw.2 c_14
            refine lv_lload hx hb dX1_at_70 (lv_at hl 0 rfl) ?_
            refine W.widen (k := 1) (n := 6) (by omega) (by omega) ?_
            exact vx_ret (c_retl F hr hlk I dX1_at_72 hw)
        · have hw := hw.2 c_9
          exact at_throwX F h0 hT htab hlk hl.1 I hw
    · have hw := hw.2 c_5
      exact at_throwS F h0 hT htab hlk hl.1 I hw
end AtWorld
