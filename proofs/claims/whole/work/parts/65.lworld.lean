section LawWorld
section Lists
variable {D : va_G} {cl : List vw_C} {A : Nat → Prop} {a b b1 : va_W} {H H1 : Heap}
theorem ap_l {k : Nat} {q : Nat × va_E} (hq : a[k]? = some q) : (a ++ b)[k]? = some q := by rw [List.getElem?_append_left (List.getElem?_eq_some_iff.mp hq).1]; exact hq
theorem ap_r {k : Nat} {q : Nat × va_E} (hq : b[k]? = some q) : (a ++ b)[a.length + k]? = some q := by rw [List.getElem?_append_right (Nat.le_add_right _ _), Nat.add_sub_cancel_left]; exact hq
theorem pl_P (h : va_P D cl (a ++ b) H) : va_P D cl a H := fun k q hq => h k q (ap_l hq)
theorem pr_P (h : va_P D cl (a ++ b) H) : va_P D cl b H := fun k q hq => h _ q (ap_r hq)
theorem pl_D (h : va_D A (a ++ b)) : va_D A a := ⟨fun i j p q hp hq e => h.1 i j p q (ap_l hp) (ap_l hq) e, fun k q hq => h.2 k q (ap_l hq)⟩
theorem pr_D (h : va_D A (a ++ b)) : va_D A b := ⟨fun i j p q hp hq e => by have := h.1 _ _ p q (ap_r (a := a) hp) (ap_r (a := a) hq) e; omega, fun k q hq => h.2 _ q (ap_r hq)⟩
/-- behind a call that had b alone: a is as it was -/
theorem jn_r (hP : va_P D cl (a ++ b) H) (hD : va_D A (a ++ b)) (hk : ∀ q : Nat, q < H.size → ¬ va_A b H.size q → H1[q]? = H[q]?) (hF : ∀ q, va_A b H.size q → A q) (hP1 : va_P D cl b1 H1) (hD1 : va_D (va_A b H.size) b1) : va_P D cl (a ++ b1) H1 ∧ va_D A (a ++ b1) := by
  have hPa := pl_P hP
  have apart : ∀ (k : Nat) (q : Nat × va_E), a[k]? = some q → ¬ va_A b H.size q.1 := by
    intro k q hq h
    rcases h with ⟨k2, e, h⟩ | h
    · have := hD.1 _ _ _ _ (ap_l (b := b) hq) (ap_r (a := a) h) rfl
      have := (List.getElem?_eq_some_iff.mp hq).1
      omega
    · have := (hPa k q hq).lt
      omega
  exact ⟨va_P.app (hPa.kept (fun k q hq => hk q.1 (hPa k q hq).lt (apart k q hq))) hP1, va_D.app (pl_D hD) (hD1.weaken (fun k q _ h => hF q.1 h)) (fun i j x y hx hy hxy => (apart i x hx) (by rw [hxy]; exact hD1.2 j y hy))⟩
theorem sw_P (h : va_P D cl (a ++ b) H) : va_P D cl (b ++ a) H := va_P.swap (a := []) (b := a) (c := b) h
theorem sw_D (h : va_D A (a ++ b)) : va_D A (b ++ a) := va_D.swap (a := []) (b := a) (c := b) h
theorem fr_b {H0 : Heap} {locs : List Loc} (hD : va_D A b) (hS : va_S A H0 H locs) (hA : ∀ q, H0.size ≤ q → A q) : ∀ q, va_A b H.size q → A q := by
  intro q hq
  rcases hq with ⟨k, e, hk⟩ | hq
  · exact hD.2 k _ hk
  · exact hA q (Nat.le_trans hS.1 hq)
end Lists
def oW (cJ : ClassId) (o : Nat) (g : Nat → Int64) : va_W := [(o, .inl (cJ, 1, .inr (.inl g)))]
/-- a world X beside the class's -/
def CI (D : va_G) (cI cJ cO : ClassId) (h : Nat → Nat) (A : Nat → Prop) (s : State) (H0 H : Heap) (locs : List Loc) (X : va_W) (C : cS) : Prop :=
  va_K D vwCl (tysC cI cJ cO) s ∧ va_P D vwCl (X ++ cW cI cJ cO h C) H ∧ va_D A (X ++ cW cI cJ cO h C) ∧ va_S A H0 H locs ∧ (∀ q, H0.size ≤ q → A q) ∧ va_Nw (.castable "[J" "java/lang/Cloneable") s
section Rows
variable {p : Program} {l : Launch} {e : Env} {R : Room} {s : State} {m : MethodId} {args : Array Value} {below : List Frame} {meth : Method} {c : Code} {H H0 : Heap} {locs : List Loc} {cells slots : Nat} {Q : State → Prop} {cc : ByteArray} {nL pc : Nat} {ls : Array Slot} {rest st0 : List Value} {Ts : List Cond} {D : va_G} {cI cJ cO : ClassId} {h hm : Nat → Nat} {A : Nat → Prop} {C : cS} {M : mS} {X : va_W} {own : String} {sa sb o : Nat} {g : Nat → Int64}
theorem CI.toG (I : CI D cI cJ cO h A s H0 H locs X C) : cG D cI cJ cO h A s H0 H locs C := ⟨I.1, pr_P I.2.1, pr_D I.2.2.1, I.2.2.2.1, I.2.2.2.2.1, I.2.2.2.2.2⟩
theorem CI.back (I : CI D cI cJ cO h A s H0 H locs X C) {u : cS} {t : State} {H1 : Heap} {locs1 : List Loc} (ht : t.heap = H1) (hB : cB D cI cJ cO h (va_A (cW cI cJ cO h C) H.size) u t) (hk : ∀ q : Nat, q < H.size → ¬ va_A (cW cI cJ cO h C) H.size q → H1[q]? = H[q]?) (hS : va_S A H0 H1 locs1) : CI D cI cJ cO h A s H0 H1 locs1 X u := by
  obtain ⟨hP, -, hD⟩ := hB
  rw [ht] at hP
  obtain ⟨h1, h2⟩ := jn_r I.2.1 I.2.2.1 hk (c_free I.toG) hP hD
  exact ⟨I.1, h1, h2, hS, I.2.2.2.2⟩
theorem CI.toM (I : CI D cI cJ cO h A s H0 H locs (mW cI cJ hm M ++ oW cJ o g) C) : mI D cI cJ hm A s H0 H locs M := ⟨I.1.sub [0, 1] rfl, pl_P (pl_P I.2.1), pl_D (pl_D I.2.2.1), I.2.2.2.1, I.2.2.2.2.1⟩
theorem CI.backm (I : CI D cI cJ cO h A s H0 H locs (mW cI cJ hm M ++ oW cJ o g) C) {u : mS} {t : State} {H1 : Heap} {locs1 : List Loc} (ht : t.heap = H1) (hB : mB D cI cJ hm (va_A (mW cI cJ hm M) H.size) u t) (hk : ∀ q : Nat, q < H.size → ¬ va_A (mW cI cJ hm M) H.size q → H1[q]? = H[q]?) (hS : va_S A H0 H1 locs1) : CI D cI cJ cO h A s H0 H1 locs1 (mW cI cJ hm u ++ oW cJ o g) C := by
  obtain ⟨hP, -, hD⟩ := hB
  rw [ht] at hP
  have i1 := I.2.1
  have i2 := I.2.2.1
  rw [List.append_assoc] at i1 i2
  obtain ⟨h1, h2⟩ := jn_r (sw_P i1) (sw_D i2) hk (m_free I.toM) hP hD
  have h1 := sw_P h1
  have h2 := sw_D h2
  rw [← List.append_assoc] at h1 h2
  exact ⟨I.1, h1, h2, hS, I.2.2.2.2⟩
section Calls
variable {y : MethodName} {ws : List Cond} {rm : Room} {bytes : ByteArray} {maxL index n mc ms : Nat} {ret : Option FieldType} {As : List Value}
theorem lc_i {K : Int32 → cS → Prop} (F : CallFix p m c cc nL s args Ts own) (I : CI D cI cJ cO h A s H0 H locs X C) (hM : cMi l D cI cJ cO h y ws rm mc ms (.ref (h 0) :: As) K C) (cw : CallW R s args own RX1 index y bytes maxL ret ws rm mc ms n) (hn : As.length = n) (hsize : ls.size = nL) (hstack : st0 = As.reverse ++ .ref (h 0) :: rest) (hW : (rest.map fun v => v.category).sum ≤ 8) (hdg : decode cc pc = .ok (.invokevirtual index, 3)) (hf : cells + mc ≤ R.cells ∧ slots + ms ≤ R.slots)
    (kk : ∀ (r : Int32) (u : cS) (H1 : Heap) (locs1 : List Loc), K r u → CI D cI cJ cO h A s H0 H1 locs1 X u → W p l e R s m args below meth c H1 locs1 (cells + mc) (slots + ms) Q (F0 m (pc + 3) ls (.int r :: rest))) : W p l e R s m args below meth c H locs cells slots Q (F0 m pc ls st0) :=
  va_calli (va_runV F (hM H.size) cw ⟨c_blind, c_recv I.toG, c_pre I.toG _⟩ rfl hn hsize hstack (lv_room hW) hdg hf) I.2.2.2.1 (fun q _ hq => c_free I.toG q hq) (c_free I.toG) (fun r u t H1 locs1 ht hvm hw hB hz hk hS => kk r u H1 locs1 hw (I.back ht hB hk hS))
theorem lm_i {K : Int32 → mS → Prop} (F : CallFix p m c cc nL s args Ts own) (I : CI D cI cJ cO h A s H0 H locs (mW cI cJ hm M ++ oW cJ o g) C) (hM : mMi l D cI cJ hm y ws rm (.ref (hm 0) :: As) K M) (cw : CallW R s args own RX2 index y bytes maxL ret ws rm 0 0 n) (hn : As.length = n) (hsize : ls.size = nL) (hstack : st0 = As.reverse ++ .ref (hm 0) :: rest) (hW : (rest.map fun v => v.category).sum ≤ 8) (hdg : decode cc pc = .ok (.invokevirtual index, 3)) (hf : cells ≤ R.cells ∧ slots ≤ R.slots)
    (kk : ∀ (r : Int32) (u : mS) (H1 : Heap) (locs1 : List Loc), K r u → CI D cI cJ cO h A s H0 H1 locs1 (mW cI cJ hm u ++ oW cJ o g) C → W p l e R s m args below meth c H1 locs1 cells slots Q (F0 m (pc + 3) ls (.int r :: rest))) : W p l e R s m args below meth c H locs cells slots Q (F0 m pc ls st0) :=
  va_calli (va_runV F (hM H.size) cw ⟨m_blind, m_recv I.toM, m_pre I.toM _⟩ rfl hn hsize hstack (lv_room hW) hdg hf) I.2.2.2.1 (fun q _ hq => m_free I.toM q hq) (m_free I.toM) (fun r u t H1 locs1 ht hvm hw hB hz hk hS => kk r u H1 locs1 hw (I.backm ht hB hk hS))
theorem lm_l {K : Int64 → mS → Prop} (F : CallFix p m c cc nL s args Ts own) (I : CI D cI cJ cO h A s H0 H locs (mW cI cJ hm M ++ oW cJ o g) C) (hM : mMl l D cI cJ hm y ws rm (.ref (hm 0) :: As) K M) (cw : CallW R s args own RX2 index y bytes maxL ret ws rm 0 0 n) (hn : As.length = n) (hsize : ls.size = nL) (hstack : st0 = As.reverse ++ .ref (hm 0) :: rest) (hW : (rest.map fun v => v.category).sum ≤ 8) (hdg : decode cc pc = .ok (.invokevirtual index, 3)) (hf : cells ≤ R.cells ∧ slots ≤ R.slots)
    (kk : ∀ (r : Int64) (u : mS) (H1 : Heap) (locs1 : List Loc), K r u → CI D cI cJ cO h A s H0 H1 locs1 (mW cI cJ hm u ++ oW cJ o g) C → W p l e R s m args below meth c H1 locs1 cells slots Q (F0 m (pc + 3) ls (.long r :: rest))) : W p l e R s m args below meth c H locs cells slots Q (F0 m pc ls st0) :=
  va_calll (va_runV F (hM H.size) cw ⟨m_blind, m_recv I.toM, m_pre I.toM _⟩ rfl hn hsize hstack (lv_room hW) hdg hf) I.2.2.2.1 (fun q _ hq => m_free I.toM q hq) (m_free I.toM) (fun r u t H1 locs1 ht hvm hw hB hz hk hS => kk r u H1 locs1 hw (I.backm ht hB hk hS))
end Calls
/-- what the law's at() needs: the class, the row of one long, what at() needs, and that the one exception isn't the other -/
def hPc (D : va_G) (cI cJ cO : ClassId) (h : Nat → Nat) (sa sb o : Nat) (g : Nat → Int64) (C : cS) (sz : Nat) (As : List Value) : Array Value → State → Prop :=
  va_Pc As (fun U => U.heap.size = sz ∧ va_P D vwCl (oW cJ o g ++ cW cI cJ cO h C) U.heap ∧ va_K D vwCl (tysC cI cJ cO) U ∧ va_D (fun _ => True) (oW cJ o g ++ cW cI cJ cO h C) ∧ va_Nw (.castable "[J" "java/lang/Cloneable") U ∧ aT sa sb (va_A (oW cJ o g ++ cW cI cJ cO h C) sz) U U.heap ∧ va_Nc exX exS U)
theorem h_blind {As : List Value} {sz : Nat} : FrameBlind (hPc D cI cJ cO h sa sb o g C sz As) := fun a U f mk q => by
  obtain ⟨q0, q1, qP, qK, qD, qN, qT, qC⟩ := q
  exact ⟨q0, q1, qP, va_K.moved (u := U) (U := U.calling f mk a) (Vm.Alike.refl U.vm) qK, qD, va_Nw.same (u := U) (U := U.calling f mk a) rfl rfl qN, aT.same (s := U) (U := U.calling f mk a) rfl qT, va_Nc.moved (u := U) (U := U.calling f mk a) (Vm.Alike.refl U.vm) qC⟩
def hB (D : va_G) (cI cJ cO : ClassId) (h : Nat → Nat) (o : Nat) (A : Nat → Prop) (u : (Nat → Int64) × cS) (t : State) : Prop := va_P D vwCl (oW cJ o u.1 ++ cW cI cJ cO h u.2) t.heap ∧ va_K D vwCl (tysC cI cJ cO) t ∧ va_D A (oW cJ o u.1 ++ cW cI cJ cO h u.2)
abbrev rm_L_at : Room := { frames := 7, cells := 1, slots := 6, locals := 107 }
def wp_L_at (p0 p1 : Int32) (g : Nat → Int64) (C : cS) (K : Int32 → (Nat → Int64) × cS → Prop) : Prop := wp_X1_at p0 p1 C (fun v C' => K 0 (vp_updL g 0 v, C')) (fun E C' => (E = exS ∧ K 1 (g, C')) ∨ (E = exX ∧ K 2 (g, C')))
set_option maxHeartbeats 1000000 in
set_option maxRecDepth 100000 in
theorem c_L_at {l : Launch} (h0 : l.stackTraces = false) (p0 p1 : Int32) (K : Int32 → (Nat → Int64) × cS → Prop) (hw : wp_L_at p0 p1 g C K) (sz : Nat) :
    Met l yL_at wsL_at rm_L_at (hPc D cI cJ cO h sa sb o g C sz [.ref (h 0), .int p0, .int p1, .ref o]) (va_Qi K (hB D cI cJ cO h o (va_A (oW cJ o g ++ cW cI cJ cO h C) sz)) (va_A (oW cJ o g ++ cW cI cJ cO h C) sz)) 1 6 (va_A (oW cJ o g ++ cW cI cJ cO h C) sz) := by
  refine va_MetW (cc := cL_at) (maxL := 5) (ret := some .int) (hh := [(0, 9, 12, 13), (0, 9, 16, 15)]) (by decide) rfl ?_
  intro p e s m args below meth c s₁ B hml hv
  obtain ⟨rfl, hsz, hP, hK, hD0, hN, hT, hC⟩ := hv
  have hx := B.exec
  have hb := B.bytes
  have hr := B.returns
  have hts := atoms_spec (ws := wsL_at) B.pre
  have hown : s.vm.findClass RL = some m.cls := findClass_of_methodNamed B.named
  have hlk := B.notSynchronized
  have htab := vx_table (x := yL_at) B (hts (.codeWith yL_at cL_at 5 (some .int) [(0, 9, 12, 13), (0, 9, 16, 15)]) List.mem_cons_self)
  subst hsz
  have hD := hD0.self (sz := s.heap.size)
  generalize hAe : va_A (oW cJ o g ++ cW cI cJ cO h C) s.heap.size = A at hD hT ⊢
  have hA : ∀ q : Nat, s.heap.size ≤ q → A q := fun q h => by rw [← hAe]; exact Or.inr h
  have hS : va_S A s.heap s.heap [] := va_S.rf
  have I : CI D cI cJ cO h A s s.heap s.heap [] (oW cJ o g) C := ⟨hK, hP, hD, hS, hA, hN⟩
  have hl := lv_entry ([.ref (h 0), .int p0, .int p1, .ref o]) (n := 5) (Nat.le_of_ble_eq_true rfl)
  rw [lg_entry_eq]
  generalize (lg_sl ([.ref (h 0), .int p0, .int p1, .ref o]) ++ List.replicate (5 - (lg_sl ([.ref (h 0), .int p0, .int p1, .ref o])).length) Slot.unset).toArray = ls at hl ⊢
  have hl : lv_has ls 5 [(0, .ref (h 0)), (1, .int p0), (2, .int p1), (3, .ref o)] := hl
  refine lv_aload_n hx hb dL_at_0 rfl (lv_at hl 3 rfl) ?_
  refine lv_iconst (v := (0 : Int32)) hx hb dL_at_1 (by decide) ?_
  refine lv_aload_n hx hb dL_at_2 rfl (lv_at hl 0 rfl) ?_
  refine lv_iload_n hx hb dL_at_3 rfl (lv_at hl 1 rfl) ?_
  refine lv_iload_n hx hb dL_at_4 rfl (lv_at hl 2 rfl) ?_
  have F : CallFix p m c cL_at 5 s _ wsL_at RL := ⟨hx, hb, hml, hown, hts⟩
  have hgp : ∀ U : State, U.heap = s.heap → s.WarmedH U.vm → aPc D cI cJ cO h sa sb C s.heap.size [.ref (h 0), .int p0, .int p1] [Value.ref (h 0), .int p0, .int p1].toArray U := fun U hU hW =>
    ⟨c_pre I.toG _ U hU hW, by rw [hU]; exact (aT.warm hW hT).narrow (c_free I.toG)⟩
  refine vx_calll (A0 := A) (H0 := s.heap) (rest := [.int 0, .ref o]) (vx_runV (As := [.int p0, .int p1]) F (c_X1_at h0 p0 p1 C _ _ hw s.heap.size) (cwV 2 hts gL_at_X1_at rfl rfl rfl (by decide +kernel) ⟨Nat.le_of_ble_eq_true rfl, Nat.le_of_ble_eq_true rfl⟩) ⟨a_blind, c_recv I.toG, hgp⟩ rfl rfl hl.1 rfl (lv_room (Nat.le_of_ble_eq_true rfl)) dL_at_5 ⟨Nat.le_of_ble_eq_true rfl, Nat.le_of_ble_eq_true rfl⟩) hS (fun q _ hq => c_free I.toG q hq) (c_free I.toG) (fun q _ hq => c_free I.toG q hq) (fun E ce q9 u t H1 locs1 ht hvm _ hBX hz hk hS hce hcv hcl => ?_) (fun v u t H1 locs1 ht hvm hw hBB hz hk hS => ?_)
  · obtain ⟨hX, hBB⟩ := hBX
    have I1 := I.back ht hBB hk hS
    rcases hX with ⟨rfl, hw⟩ | ⟨rfl, hw⟩
    · refine vx_catch (own := RL) (name := exS) hown [] ⟨0, 9, 12, 13⟩ [⟨0, 9, 16, 15⟩] htab (fun z hz => nomatch hz) (by decide) (by decide) (hts (.classLink RL 13 exS) (by decide +kernel)) (va_Nw.use rfl hT.2.2.2.2.1) hce hcv hcl ?_
      refine lv_astore (lv' := [(4, .ref q9), (0, .ref (h 0)), (1, .int p0), (2, .int p1), (3, .ref o)]) hx hb dL_at_12 hl (by decide) rfl (fun ls hl => ?_)
      refine lv_iconst (v := (1 : Int32)) hx hb dL_at_14 (by decide) ?_
      exact W.iret (v := 1) hx hb hr (fun t ht hW => ⟨⟨1, (g, u), rfl, hw, by rw [ht]; exact I1.2.1, va_K.moved hW.alike I1.1, I1.2.2.1⟩, hS.F ht⟩) hS.2.2 dL_at_15 hlk
    · refine vx_catch (own := RL) (name := exX) hown [⟨0, 9, 12, 13⟩] ⟨0, 9, 16, 15⟩ [] htab (fun z hz => ?_) (by decide) (by decide) (hts (.classLink RL 15 exX) (by decide +kernel)) (va_Nw.use rfl hT.2.2.2.2.2.1) hce hcv hcl ?_
      · rw [List.mem_singleton] at hz
        subst hz
        exact Or.inr ⟨by decide, exS, hts (.classLink RL 13 exS) (by decide +kernel), hC⟩
      refine lv_astore (lv' := [(4, .ref q9), (0, .ref (h 0)), (1, .int p0), (2, .int p1), (3, .ref o)]) hx hb dL_at_16 hl (by decide) rfl (fun ls hl => ?_)
      refine lv_iconst (v := (2 : Int32)) hx hb dL_at_18 (by decide) ?_
      exact W.iret (v := 2) hx hb hr (fun t ht hW => ⟨⟨2, (g, u), rfl, hw, by rw [ht]; exact I1.2.1, va_K.moved hW.alike I1.1, I1.2.2.1⟩, hS.F ht⟩) hS.2.2 dL_at_19 hlk
  · have I1 := I.back ht hBB hk hS
    refine va_last (ws := oW cJ o g ++ cW cI cJ cO h u) hx hb I1.1 I1.2.1 I1.2.2.1 I1.2.2.2.1 0 1 rfl rfl (vp_in_nI (n := 0) (N := 1) (by decide) (by decide)) dL_at_8 (fun H2 locs2 hP2 hD2 hS2 => ?_)
    refine lv_goto (tgt := 20) hx hb dL_at_9 (by decide) ?_
    refine lv_iconst (v := (0 : Int32)) hx hb dL_at_20 (by decide) ?_
    exact W.iret (v := 0) hx hb hr (fun t ht hW => ⟨⟨0, (vp_updL g 0 v, u), rfl, hw, by rw [ht]; exact hP2, va_K.moved hW.alike I1.1, hD2⟩, hS2.F ht⟩) hS2.2.2 dL_at_21 hlk
end Rows
end LawWorld
