section CInit
theorem l_X0 {C : cS} {a o : Nat} {v : Int32} (h : C.ld a) : (C.slo o v).ld a := ⟨h.1, h.2⟩
theorem l_X1 {C : cS} {a o : Nat} {v : Int32} (h : C.ld a) : (C.sln o v).ld a := ⟨h.1, h.2⟩
theorem x_X0 {cI cJ cO : ClassId} {h : Nat → Nat} (C : cS) (o : Nat) (v : Int32) : cX cI cJ cO h (C.slo o v) = cX cI cJ cO h C := by unfold cX cfs; rfl
theorem x_X1 {cI cJ cO : ClassId} {h : Nat → Nat} (C : cS) (o : Nat) (v : Int32) : cX cI cJ cO h (C.sln o v) = cX cI cJ cO h C := by unfold cX cfs; rfl
theorem x_X2 {cI cJ cO : ClassId} {h : Nat → Nat} (C : cS) (o : Nat) (v : Option Nat) : cX cI cJ cO h (C.slf o v) = cX cI cJ cO h C := by unfold cX cfs; rfl
theorem x_hl0 : (TX0 0).1 = RX0 := rfl
theorem x_hl1 : (TX0 1).1 = RX0 := rfl
theorem x_hl2 : (TX0 2).1 = RX0 := rfl
theorem x_n0 (x : Int32) : narrow (tyX0 0) (.int x) = .int x := rfl
theorem x_n1 (x : Int32) : narrow (tyX0 1) (.int x) = .int x := rfl
theorem x_n2 (x : Nat) : narrow (tyX0 2) (.ref x) = .ref x := rfl
theorem x_f0 (x : Int32) : fits (tyX0 0) (.int x) = true := rfl
theorem x_f1 (x : Int32) : fits (tyX0 1) (.int x) = true := rfl
theorem x_f2 (x : Nat) : fits (tyX0 2) (.ref x) = true := rfl
abbrev rm_X0_init : Room := { frames := 1, cells := 0, slots := 0, locals := 12 }
def wp_X0_init (o : Nat) (p0 p1 : Int32) (p2 : Nat) (C : cS) (K : cS → Prop) : Prop := C.ld o ∧ K (((C.slo o p0).sln o p1).slf o (some p2))
set_option maxHeartbeats 4000000 in
set_option maxRecDepth 100000 in
theorem c_X0_init {l : Launch} {D : va_G} {cI cJ cO : ClassId} {h : Nat → Nat} (o : Nat) (p0 p1 : Int32) (p2 : Nat) (C : cS) (K : cS → Prop) (hw : wp_X0_init o p0 p1 p2 C K) : cMv l D cI cJ cO h yX0_init wsX0_init rm_X0_init 0 0 [.ref o, .int p0, .int p1, .ref p2] K C := by
  refine c_startv (rt := none) (R0 := RX0) (by decide) rfl rfl (Nat.le_of_ble_eq_true rfl) ?_
  intro p e s m below meth c A ls F hr hlk I hl hini
  have hin0 : ∀ w ∈ u_ws RX0 TX0 3, w ∈ wsX0_init := by decide +kernel
  have hnm := hini _ rfl rfl
  obtain ⟨hx, hb, hml, hown, hts⟩ := id F
  have hl : lv_has ls 4 [(0, .ref o), (1, .int p0), (2, .int p1), (3, .ref p2)] := hl
  obtain ⟨hld, hw⟩ := hw
  refine lv_aload_n hx hb dX0_init_0 rfl (lv_at hl 0 rfl) ?_
  refine W.objInit hx hb hown (hts (.methodLink RX0 1 objectInit) (by decide +kernel)) (hts (.instanceMethod objectInit) (by decide +kernel)) (hts _ (List.mem_cons_of_mem _ (List.mem_append_left _ (List.mem_of_getElem? (i := 2) rfl)))) rfl (by rw [hml]; exact hl.1) rfl dX0_init_1 (Nat.le_of_ble_eq_true rfl) (Nat.le_of_ble_eq_true rfl) ?_
  refine W.eq (g2 := F0 m 4 ls []) rfl ?_
  refine lv_aload_n hx hb dX0_init_4 rfl (lv_at hl 0 rfl) ?_
  refine lv_iload_n hx hb dX0_init_5 rfl (lv_at hl 1 rfl) ?_
  refine c_lput (C' := C.slo o p0) F hin0 hnm I hld 0 (by decide) rfl (x_X0 _ _ _) rfl (c_lput0 hld) (x_n0 _) (x_f0 _) rfl x_hl0 (hts (.fieldLink RX0 7 "CuttingTable$Load" "sort" "I") (by decide +kernel)) dX0_init_6 (fun H locs I => ?_)
  refine lv_aload_n hx hb dX0_init_9 rfl (lv_at hl 0 rfl) ?_
  refine lv_iload_n hx hb dX0_init_10 rfl (lv_at hl 2 rfl) ?_
  refine c_lput (C' := (C.slo o p0).sln o p1) F hin0 hnm I (C := C.slo o p0) (l_X0 hld) 1 (by decide) rfl (x_X1 _ _ _) rfl (c_lput1 (C := C.slo o p0) (l_X0 hld)) (x_n1 _) (x_f1 _) rfl x_hl1 (hts (.fieldLink RX0 13 "CuttingTable$Load" "number" "I") (by decide +kernel)) dX0_init_11 (fun H locs I => ?_)
  refine lv_aload_n hx hb dX0_init_14 rfl (lv_at hl 0 rfl) ?_
  refine lv_aload_n hx hb dX0_init_15 rfl (lv_at hl 3 rfl) ?_
  refine c_lput (C' := ((C.slo o p0).sln o p1).slf o (some p2)) F hin0 hnm I (C := (C.slo o p0).sln o p1) (l_X1 (l_X0 hld)) 2 (by decide) rfl (x_X2 _ _ _) rfl (c_lput2 (r := some p2) (C := (C.slo o p0).sln o p1) (l_X1 (l_X0 hld))) (x_n2 _) (x_f2 _) rfl x_hl2 (hts (.fieldLink RX0 16 "CuttingTable$Load" "frames" "[J") (by decide +kernel)) dX0_init_16 (fun H locs I => ?_)
  exact c_retv F hr hlk I dX0_init_19 hw
end CInit
