abbrev rm_X1_isSpindle : Room := { frames := 0, cells := 0, slots := 0, locals := 0 }
def wp_X1_isSpindle (p0 : Int32) (K : Int32 → Prop) : Prop := ((p0 < 0 → K (0 : Int32)) ∧ (¬ p0 < 0 → (((8 : Int32) ≤ p0 → K (0 : Int32)) ∧ (¬ (8 : Int32) ≤ p0 → K (1 : Int32)))))
set_option maxHeartbeats 4000000 in
set_option maxRecDepth 100000 in
theorem c_X1_isSpindle {l : Launch} (p0 : Int32) (K : Int32 → Prop) (hw : wp_X1_isSpindle p0 K) : sMi l yX1_isSpindle wsX1_isSpindle rm_X1_isSpindle [.int (p0)] K := by
  refine s_start (rt := some .boolean) (R0 := RX1) (by decide) rfl rfl (Nat.le_of_ble_eq_true rfl) ?_
  intro p e s m below meth c ls F hr hlk hl
  obtain ⟨hx, hb, hml, hown, hts⟩ := id F
  have hl : lv_has ls 1 [(0, .int (p0))] := hl
  unfold wp_X1_isSpindle at hw
  refine lv_iload_n hx hb dX1_isSpindle_0 rfl (lv_at hl 0 rfl) ?_
  refine lv_if_lt (tgt := 14) hx hb dX1_isSpindle_1 (by decide) (fun c_1 => ?_) (fun c_1 => ?_)
  · have hw := hw.1 c_1
    refine lv_iconst (v := (0 : Int32)) hx hb dX1_isSpindle_14 (by decide) ?_
    exact s_retz F hr hlk dX1_isSpindle_15 ⟨hw, by decide⟩
  · have hw := hw.2 c_1
    refine lv_iload_n hx hb dX1_isSpindle_4 rfl (lv_at hl 0 rfl) ?_
    refine lv_bipush (v := (8 : Int32)) hx hb dX1_isSpindle_5 (by decide) ?_
    refine lv_icmp_ge (tgt := 14) hx hb dX1_isSpindle_7 (by decide) (fun c_2 => ?_) (fun c_2 => ?_)
    · have hw := hw.1 c_2
      refine lv_iconst (v := (0 : Int32)) hx hb dX1_isSpindle_14 (by decide) ?_
      exact s_retz F hr hlk dX1_isSpindle_15 ⟨hw, by decide⟩
    · have hw := hw.2 c_2
      refine lv_iconst (v := (1 : Int32)) hx hb dX1_isSpindle_10 (by decide) ?_
      refine lv_goto (tgt := 15) hx hb dX1_isSpindle_11 (by decide) ?_
      exact s_retz F hr hlk dX1_isSpindle_15 ⟨hw, by decide⟩
abbrev rm_X1_isOfNumbers : Room := { frames := 0, cells := 0, slots := 0, locals := 0 }
def wp_X1_isOfNumbers (p0 : Int32) (K : Int32 → Prop) : Prop := (((5 : Int32) ≤ p0 → K (0 : Int32)) ∧ (¬ (5 : Int32) ≤ p0 → K (1 : Int32)))
set_option maxHeartbeats 4000000 in
set_option maxRecDepth 100000 in
theorem c_X1_isOfNumbers {l : Launch} (p0 : Int32) (K : Int32 → Prop) (hw : wp_X1_isOfNumbers p0 K) : sMi l yX1_isOfNumbers wsX1_isOfNumbers rm_X1_isOfNumbers [.int (p0)] K := by
  refine s_start (rt := some .boolean) (R0 := RX1) (by decide) rfl rfl (Nat.le_of_ble_eq_true rfl) ?_
  intro p e s m below meth c ls F hr hlk hl
  obtain ⟨hx, hb, hml, hown, hts⟩ := id F
  have hl : lv_has ls 1 [(0, .int (p0))] := hl
  unfold wp_X1_isOfNumbers at hw
  refine lv_iload_n hx hb dX1_isOfNumbers_0 rfl (lv_at hl 0 rfl) ?_
  refine lv_iconst (v := (5 : Int32)) hx hb dX1_isOfNumbers_1 (by decide) ?_
  refine lv_icmp_ge (tgt := 9) hx hb dX1_isOfNumbers_2 (by decide) (fun c_1 => ?_) (fun c_1 => ?_)
  · have hw := hw.1 c_1
    refine lv_iconst (v := (0 : Int32)) hx hb dX1_isOfNumbers_9 (by decide) ?_
    exact s_retz F hr hlk dX1_isOfNumbers_10 ⟨hw, by decide⟩
  · have hw := hw.2 c_1
    refine lv_iconst (v := (1 : Int32)) hx hb dX1_isOfNumbers_5 (by decide) ?_
    refine lv_goto (tgt := 10) hx hb dX1_isOfNumbers_6 (by decide) ?_
    exact s_retz F hr hlk dX1_isOfNumbers_10 ⟨hw, by decide⟩
abbrev rm_X1_kindOf : Room := { frames := 0, cells := 0, slots := 0, locals := 0 }
def wp_X1_kindOf (p0 : Int64) (K : Int32 → Prop) : Prop := K (((((p0).toUInt64 >>> (((32 : Int32)).toInt64.toUInt64 &&& Int64.toUInt64 63)).toInt64).toInt32 &&& (3 : Int32)))
set_option maxHeartbeats 4000000 in
set_option maxRecDepth 100000 in
theorem c_X1_kindOf {l : Launch} (p0 : Int64) (K : Int32 → Prop) (hw : wp_X1_kindOf p0 K) : sMi l yX1_kindOf wsX1_kindOf rm_X1_kindOf [.long (p0)] K := by
  refine s_start (rt := some .int) (R0 := RX1) (by decide) rfl rfl (Nat.le_of_ble_eq_true rfl) ?_
  intro p e s m below meth c ls F hr hlk hl
  obtain ⟨hx, hb, hml, hown, hts⟩ := id F
  have hl : lv_has ls 2 [(0, .long (p0))] := hl
  unfold wp_X1_kindOf at hw
  refine lv_lload_n hx hb dX1_kindOf_0 rfl (lv_at hl 0 rfl) ?_
  refine lv_bipush (v := (32 : Int32)) hx hb dX1_kindOf_1 (by decide) ?_
  refine lv_lushr hx hb dX1_kindOf_3 rfl ?_
  refine lv_l2i hx hb dX1_kindOf_4 rfl ?_
  refine lv_iconst (v := (3 : Int32)) hx hb dX1_kindOf_5 (by decide) ?_
  refine lv_iand hx hb dX1_kindOf_6 ?_
  exact s_reti F hr hlk dX1_kindOf_7 hw
abbrev rm_X1_numberOf : Room := { frames := 0, cells := 0, slots := 0, locals := 0 }
def wp_X1_numberOf (p0 : Int64) (K : Int32 → Prop) : Prop := K ((p0).toInt32)
set_option maxHeartbeats 4000000 in
set_option maxRecDepth 100000 in
theorem c_X1_numberOf {l : Launch} (p0 : Int64) (K : Int32 → Prop) (hw : wp_X1_numberOf p0 K) : sMi l yX1_numberOf wsX1_numberOf rm_X1_numberOf [.long (p0)] K := by
  refine s_start (rt := some .int) (R0 := RX1) (by decide) rfl rfl (Nat.le_of_ble_eq_true rfl) ?_
  intro p e s m below meth c ls F hr hlk hl
  obtain ⟨hx, hb, hml, hown, hts⟩ := id F
  have hl : lv_has ls 2 [(0, .long (p0))] := hl
  unfold wp_X1_numberOf at hw
  refine lv_lload_n hx hb dX1_numberOf_0 rfl (lv_at hl 0 rfl) ?_
  refine lv_l2i hx hb dX1_numberOf_1 rfl ?_
  exact s_reti F hr hlk dX1_numberOf_2 hw
abbrev rm_X1_bears : Room := { frames := 1, cells := 0, slots := 0, locals := 21 }
def wp_X1_bears (p0 : Int32) (p1 : Int64) (K : Int32 → Prop) : Prop := wp_X1_isOfNumbers (p0) (fun r1 => ((¬ r1 = 0 → K (1 : Int32)) ∧ (r1 = 0 → ((p1 = (0 : Int64) → K (1 : Int32)) ∧ (¬ p1 = (0 : Int64) → wp_X1_kindOf (p1) (fun r4 => ((r4 < (p0 - (5 : Int32)) → K (0 : Int32)) ∧ (¬ r4 < (p0 - (5 : Int32)) → K (1 : Int32)))))))))
set_option maxHeartbeats 4000000 in
set_option maxRecDepth 100000 in
theorem c_X1_bears {l : Launch} (p0 : Int32) (p1 : Int64) (K : Int32 → Prop) (hw : wp_X1_bears p0 p1 K) : sMi l yX1_bears wsX1_bears rm_X1_bears [.int (p0), .long (p1)] K := by
  refine s_start (rt := some .boolean) (R0 := RX1) (by decide) rfl rfl (Nat.le_of_ble_eq_true rfl) ?_
  intro p e s m below meth c ls F hr hlk hl
  obtain ⟨hx, hb, hml, hown, hts⟩ := id F
  have hl : lv_has ls 3 [(0, .int (p0)), (1, .long (p1))] := hl
  unfold wp_X1_bears at hw
  refine lv_iload_n hx hb dX1_bears_0 rfl (lv_at hl 0 rfl) ?_
  refine s_calli (rest := []) F (c_X1_isOfNumbers (p0) _ hw) (va_cwS 1 hts gX1_bears_X1_isOfNumbers rfl rfl rfl (by decide +kernel) ⟨Nat.le_of_ble_eq_true rfl, Nat.le_of_ble_eq_true rfl⟩) rfl hl.1 rfl (Nat.le_of_ble_eq_true rfl) dX1_bears_1 ⟨Nat.zero_le _, Nat.zero_le _⟩ (fun r1 hw => ?_)
  refine lv_if_ne (tgt := 23) hx hb dX1_bears_4 (by decide) (fun c_2 => ?_) (fun c_2 => ?_)
  · have hw := hw.1 c_2
    refine lv_iconst (v := (1 : Int32)) hx hb dX1_bears_23 (by decide) ?_
    refine lv_goto (tgt := 28) hx hb dX1_bears_24 (by decide) ?_
    exact s_retz F hr hlk dX1_bears_28 ⟨hw, by decide⟩
  · have hw := hw.2 c_2
    refine lv_lload_n hx hb dX1_bears_7 rfl (lv_at hl 1 rfl) ?_
    refine lv_lconst (v := (0 : Int64)) hx hb dX1_bears_8 (by decide) ?_
    refine W.lcmp hx hb dX1_bears_9 ?_
    refine lv_if_eq (tgt := 23) hx hb dX1_bears_10 (by decide) (fun c_3 => ?_) (fun c_3 => ?_)
    · have hw := hw.1 ((lg_cmp_eq _ _).mp c_3)
      refine lv_iconst (v := (1 : Int32)) hx hb dX1_bears_23 (by decide) ?_
      refine lv_goto (tgt := 28) hx hb dX1_bears_24 (by decide) ?_
      exact s_retz F hr hlk dX1_bears_28 ⟨hw, by decide⟩
    · have hw := hw.2 (fun q => c_3 ((lg_cmp_eq _ _).mpr q))
      refine lv_lload_n hx hb dX1_bears_13 rfl (lv_at hl 1 rfl) ?_
      refine s_calli (rest := []) F (c_X1_kindOf (p1) _ hw) (va_cwS 1 hts gX1_bears_X1_kindOf rfl rfl rfl (by decide +kernel) ⟨Nat.le_of_ble_eq_true rfl, Nat.le_of_ble_eq_true rfl⟩) rfl hl.1 rfl (Nat.le_of_ble_eq_true rfl) dX1_bears_14 ⟨Nat.zero_le _, Nat.zero_le _⟩ (fun r4 hw => ?_)
      refine lv_iload_n hx hb dX1_bears_17 rfl (lv_at hl 0 rfl) ?_
      refine lv_iconst (v := (5 : Int32)) hx hb dX1_bears_18 (by decide) ?_
      refine lv_isub hx hb dX1_bears_19 ?_
      refine lv_icmp_lt (tgt := 27) hx hb dX1_bears_20 (by decide) (fun c_5 => ?_) (fun c_5 => ?_)
      · have hw := hw.1 c_5
        refine lv_iconst (v := (0 : Int32)) hx hb dX1_bears_27 (by decide) ?_
        exact s_retz F hr hlk dX1_bears_28 ⟨hw, by decide⟩
      · have hw := hw.2 c_5
        refine lv_iconst (v := (1 : Int32)) hx hb dX1_bears_23 (by decide) ?_
        refine lv_goto (tgt := 28) hx hb dX1_bears_24 (by decide) ?_
        exact s_retz F hr hlk dX1_bears_28 ⟨hw, by decide⟩
abbrev rm_X1_wayOut : Room := { frames := 0, cells := 0, slots := 0, locals := 0 }
def wp_X1_wayOut (p0 : Int32) (p1 : Int64) (p2 : Int32) (p3 : Int32) (p4 : Int32) (K : Int32 → Prop) : Prop := ((0 ≤ p0 → (((0 : Int64) ≤ p1 → ((0 ≤ p2 → ((((p0).toInt64 + (p2).toInt64) ≤ (p3).toInt64 → (((p1 + (p2).toInt64) ≤ (p4).toInt64 → K ((0 : Int32))) ∧ (¬ (p1 + (p2).toInt64) ≤ (p4).toInt64 → K ((5 : Int32))))) ∧ (¬ ((p0).toInt64 + (p2).toInt64) ≤ (p3).toInt64 → K ((4 : Int32))))) ∧ (¬ 0 ≤ p2 → K ((3 : Int32))))) ∧ (¬ (0 : Int64) ≤ p1 → K ((2 : Int32))))) ∧ (¬ 0 ≤ p0 → K ((1 : Int32))))
set_option maxHeartbeats 4000000 in
set_option maxRecDepth 100000 in
theorem c_X1_wayOut {l : Launch} (p0 : Int32) (p1 : Int64) (p2 : Int32) (p3 : Int32) (p4 : Int32) (K : Int32 → Prop) (hw : wp_X1_wayOut p0 p1 p2 p3 p4 K) : sMi l yX1_wayOut wsX1_wayOut rm_X1_wayOut [.int (p0), .long (p1), .int (p2), .int (p3), .int (p4)] K := by
  refine s_start (rt := some .int) (R0 := RX1) (by decide) rfl rfl (Nat.le_of_ble_eq_true rfl) ?_
  intro p e s m below meth c ls F hr hlk hl
  obtain ⟨hx, hb, hml, hown, hts⟩ := id F
  have hl : lv_has ls 6 [(0, .int (p0)), (1, .long (p1)), (3, .int (p2)), (4, .int (p3)), (5, .int (p4))] := hl
  unfold wp_X1_wayOut at hw
  refine lv_iload_n hx hb dX1_wayOut_0 rfl (lv_at hl 0 rfl) ?_
  refine lv_if_ge (tgt := 6) hx hb dX1_wayOut_1 (by decide) (fun c_1 => ?_) (fun c_1 => ?_)
  · have hw := hw.1 c_1
    refine lv_lload_n hx hb dX1_wayOut_6 rfl (lv_at hl 1 rfl) ?_
    refine lv_lconst (v := (0 : Int64)) hx hb dX1_wayOut_7 (by decide) ?_
    refine W.lcmp hx hb dX1_wayOut_8 ?_
    refine lv_if_ge (tgt := 14) hx hb dX1_wayOut_9 (by decide) (fun c_2 => ?_) (fun c_2 => ?_)
    · have hw := hw.1 ((lg_cmp_ge _ _).mp c_2)
      refine lv_iload_n hx hb dX1_wayOut_14 rfl (lv_at hl 2 rfl) ?_
      refine lv_if_ge (tgt := 20) hx hb dX1_wayOut_15 (by decide) (fun c_3 => ?_) (fun c_3 => ?_)
      · have hw := hw.1 c_3
        refine lv_iload_n hx hb dX1_wayOut_20 rfl (lv_at hl 0 rfl) ?_
        refine lv_i2l hx hb dX1_wayOut_21 rfl ?_
        refine lv_iload_n hx hb dX1_wayOut_22 rfl (lv_at hl 2 rfl) ?_
        refine lv_i2l hx hb dX1_wayOut_23 rfl ?_
        refine lv_ladd hx hb dX1_wayOut_24 ?_
        refine lv_iload hx hb dX1_wayOut_25 (lv_at hl 3 rfl) ?_
        refine lv_i2l hx hb dX1_wayOut_27 rfl ?_
        refine W.lcmp hx hb dX1_wayOut_28 ?_
        refine lv_if_le (tgt := 34) hx hb dX1_wayOut_29 (by decide) (fun c_4 => ?_) (fun c_4 => ?_)
        · have hw := hw.1 ((lg_cmp_le _ _).mp c_4)
          refine lv_lload_n hx hb dX1_wayOut_34 rfl (lv_at hl 1 rfl) ?_
          refine lv_iload_n hx hb dX1_wayOut_35 rfl (lv_at hl 2 rfl) ?_
          refine lv_i2l hx hb dX1_wayOut_36 rfl ?_
          refine lv_ladd hx hb dX1_wayOut_37 ?_
          refine lv_iload hx hb dX1_wayOut_38 (lv_at hl 4 rfl) ?_
          refine lv_i2l hx hb dX1_wayOut_40 rfl ?_
          refine W.lcmp hx hb dX1_wayOut_41 ?_
          refine lv_if_le (tgt := 49) hx hb dX1_wayOut_42 (by decide) (fun c_5 => ?_) (fun c_5 => ?_)
          · have hw := hw.1 ((lg_cmp_le _ _).mp c_5)
            refine lv_iconst (v := (0 : Int32)) hx hb dX1_wayOut_49 (by decide) ?_
            exact s_reti F hr hlk dX1_wayOut_50 hw
          · have hw := hw.2 (fun q => c_5 ((lg_cmp_le _ _).mpr q))
            refine lv_iconst (v := (5 : Int32)) hx hb dX1_wayOut_45 (by decide) ?_
            refine lv_goto (tgt := 50) hx hb dX1_wayOut_46 (by decide) ?_
            exact s_reti F hr hlk dX1_wayOut_50 hw
        · have hw := hw.2 (fun q => c_4 ((lg_cmp_le _ _).mpr q))
          refine lv_iconst (v := (4 : Int32)) hx hb dX1_wayOut_32 (by decide) ?_
          exact s_reti F hr hlk dX1_wayOut_33 hw
      · have hw := hw.2 c_3
        refine lv_iconst (v := (3 : Int32)) hx hb dX1_wayOut_18 (by decide) ?_
        exact s_reti F hr hlk dX1_wayOut_19 hw
    · have hw := hw.2 (fun q => c_2 ((lg_cmp_ge _ _).mpr q))
      refine lv_iconst (v := (2 : Int32)) hx hb dX1_wayOut_12 (by decide) ?_
      exact s_reti F hr hlk dX1_wayOut_13 hw
  · have hw := hw.2 c_1
    refine lv_iconst (v := (1 : Int32)) hx hb dX1_wayOut_4 (by decide) ?_
    exact s_reti F hr hlk dX1_wayOut_5 hw
abbrev rm_X1_fitted : Room := { frames := 0, cells := 0, slots := 0, locals := 0 }
def wp_X1_fitted (p0 : Int32) (p1 : Int64) (K : Int64 → Prop) : Prop := ((p0 = (0 : Int32) → K (((p1).toInt32).toInt64)) ∧ (p0 = (1 : Int32) → K (p1)) ∧ (p0 = (2 : Int32) → K ((((p1).toInt32).toInt16.toInt32).toInt64)) ∧ (p0 = (3 : Int32) → K (((((p1).toInt32).toUInt32 % 65536).toInt32).toInt64)) ∧ (p0 = (4 : Int32) → ((¬ p1 = (0 : Int64) → K ((1 : Int64))) ∧ (p1 = (0 : Int64) → K ((0 : Int64))))) ∧ (¬ p0 = (0 : Int32) → ¬ p0 = (1 : Int32) → ¬ p0 = (2 : Int32) → ¬ p0 = (3 : Int32) → ¬ p0 = (4 : Int32) → K (p1)))
set_option maxHeartbeats 4000000 in
set_option maxRecDepth 100000 in
theorem c_X1_fitted {l : Launch} (p0 : Int32) (p1 : Int64) (K : Int64 → Prop) (hw : wp_X1_fitted p0 p1 K) : sMl l yX1_fitted wsX1_fitted rm_X1_fitted [.int (p0), .long (p1)] K := by
  refine s_start (rt := some .long) (R0 := RX1) (by decide) rfl rfl (Nat.le_of_ble_eq_true rfl) ?_
  intro p e s m below meth c ls F hr hlk hl
  obtain ⟨hx, hb, hml, hown, hts⟩ := id F
  have hl : lv_has ls 3 [(0, .int (p0)), (1, .long (p1))] := hl
  unfold wp_X1_fitted at hw
  refine lv_iload_n hx hb dX1_fitted_0 rfl (lv_at hl 0 rfl) ?_
  by_cases c_1 : p0 = (0 : Int32)
  · have hw := hw.1 c_1
    refine lv_tableIn (off := 35) (tgt := 36) hx hb dX1_fitted_1 (by rw [c_1]; decide) (by rw [c_1]; decide) (by rw [c_1]; decide) (by decide) ?_
    refine lv_lload_n hx hb dX1_fitted_36 rfl (lv_at hl 1 rfl) ?_
    refine lv_l2i hx hb dX1_fitted_37 rfl ?_
    refine lv_i2l hx hb dX1_fitted_38 rfl ?_
    exact s_retl F hr hlk dX1_fitted_39 hw
  have hw := hw.2
  by_cases c_2 : p0 = (1 : Int32)
  · have hw := hw.1 c_2
    refine lv_tableIn (off := 61) (tgt := 62) hx hb dX1_fitted_1 (by rw [c_2]; decide) (by rw [c_2]; decide) (by rw [c_2]; decide) (by decide) ?_
    refine lv_lload_n hx hb dX1_fitted_62 rfl (lv_at hl 1 rfl) ?_
    exact s_retl F hr hlk dX1_fitted_63 hw
  have hw := hw.2
  by_cases c_3 : p0 = (2 : Int32)
  · have hw := hw.1 c_3
    refine lv_tableIn (off := 39) (tgt := 40) hx hb dX1_fitted_1 (by rw [c_3]; decide) (by rw [c_3]; decide) (by rw [c_3]; decide) (by decide) ?_
    refine lv_lload_n hx hb dX1_fitted_40 rfl (lv_at hl 1 rfl) ?_
    refine lv_l2i hx hb dX1_fitted_41 rfl ?_
    refine lv_i2s hx hb dX1_fitted_42 rfl ?_
    refine lv_i2l hx hb dX1_fitted_43 rfl ?_
    exact s_retl F hr hlk dX1_fitted_44 hw
  have hw := hw.2
  by_cases c_4 : p0 = (3 : Int32)
  · have hw := hw.1 c_4
    refine lv_tableIn (off := 44) (tgt := 45) hx hb dX1_fitted_1 (by rw [c_4]; decide) (by rw [c_4]; decide) (by rw [c_4]; decide) (by decide) ?_
    refine lv_lload_n hx hb dX1_fitted_45 rfl (lv_at hl 1 rfl) ?_
    refine lv_l2i hx hb dX1_fitted_46 rfl ?_
    refine lv_i2c hx hb dX1_fitted_47 rfl ?_
    refine lv_i2l hx hb dX1_fitted_48 rfl ?_
    exact s_retl F hr hlk dX1_fitted_49 hw
  have hw := hw.2
  by_cases c_5 : p0 = (4 : Int32)
  · have hw := hw.1 c_5
    refine lv_tableIn (off := 49) (tgt := 50) hx hb dX1_fitted_1 (by rw [c_5]; decide) (by rw [c_5]; decide) (by rw [c_5]; decide) (by decide) ?_
    refine lv_lload_n hx hb dX1_fitted_50 rfl (lv_at hl 1 rfl) ?_
    refine lv_lconst (v := (0 : Int64)) hx hb dX1_fitted_51 (by decide) ?_
    refine W.lcmp hx hb dX1_fitted_52 ?_
    refine lv_if_ne (tgt := 60) hx hb dX1_fitted_53 (by decide) (fun c_6 => ?_) (fun c_6 => ?_)
    · have hw := hw.1 (fun q => c_6 ((lg_cmp_eq _ _).mpr q))
      refine lv_lconst (v := (1 : Int64)) hx hb dX1_fitted_60 (by decide) ?_
      exact s_retl F hr hlk dX1_fitted_61 hw
    · have hw := hw.2 ((lg_cmp_eq _ _).mp c_6)
      refine lv_lconst (v := (0 : Int64)) hx hb dX1_fitted_56 (by decide) ?_
      refine lv_goto (tgt := 61) hx hb dX1_fitted_57 (by decide) ?_
      exact s_retl F hr hlk dX1_fitted_61 hw
  have hw := hw.2
  have hw := hw c_1 c_2 c_3 c_4 c_5
  refine lv_tableOut (tgt := 62) hx hb dX1_fitted_1 (by have nc_1 := lv_neT c_1 (k := (0 : Int32)) (a := 0) rfl; have nc_2 := lv_neT c_2 (k := (1 : Int32)) (a := 1) rfl; have nc_3 := lv_neT c_3 (k := (2 : Int32)) (a := 2) rfl; have nc_4 := lv_neT c_4 (k := (3 : Int32)) (a := 3) rfl; have nc_5 := lv_neT c_5 (k := (4 : Int32)) (a := 4) rfl; omega) (by decide) ?_
  refine lv_lload_n hx hb dX1_fitted_62 rfl (lv_at hl 1 rfl) ?_
  exact s_retl F hr hlk dX1_fitted_63 hw
abbrev rm_X1_shotOf : Room := { frames := 0, cells := 0, slots := 0, locals := 0 }
def wp_X1_shotOf (p0 : Int32) (p1 : Int32) (p2 : Int32) (K : Int64 → Prop) : Prop := K (((((p0).toInt64 <<< (((34 : Int32)).toInt64 &&& 63)) ||| ((p1).toInt64 <<< (((32 : Int32)).toInt64 &&& 63))) ||| ((p2).toInt64 &&& (4294967295 : Int64))))
set_option maxHeartbeats 4000000 in
set_option maxRecDepth 100000 in
theorem c_X1_shotOf {l : Launch} (p0 : Int32) (p1 : Int32) (p2 : Int32) (K : Int64 → Prop) (hw : wp_X1_shotOf p0 p1 p2 K) : sMl l yX1_shotOf wsX1_shotOf rm_X1_shotOf [.int (p0), .int (p1), .int (p2)] K := by
  refine s_start (rt := some .long) (R0 := RX1) (by decide) rfl rfl (Nat.le_of_ble_eq_true rfl) ?_
  intro p e s m below meth c ls F hr hlk hl
  obtain ⟨hx, hb, hml, hown, hts⟩ := id F
  have hl : lv_has ls 3 [(0, .int (p0)), (1, .int (p1)), (2, .int (p2))] := hl
  unfold wp_X1_shotOf at hw
  refine lv_iload_n hx hb dX1_shotOf_0 rfl (lv_at hl 0 rfl) ?_
  refine lv_i2l hx hb dX1_shotOf_1 rfl ?_
  refine lv_bipush (v := (34 : Int32)) hx hb dX1_shotOf_2 (by decide) ?_
  refine lv_lshl hx hb dX1_shotOf_4 rfl ?_
  refine lv_iload_n hx hb dX1_shotOf_5 rfl (lv_at hl 1 rfl) ?_
  refine lv_i2l hx hb dX1_shotOf_6 rfl ?_
  refine lv_bipush (v := (32 : Int32)) hx hb dX1_shotOf_7 (by decide) ?_
  refine lv_lshl hx hb dX1_shotOf_9 rfl ?_
  refine lv_lor hx hb dX1_shotOf_10 ?_
  refine lv_iload_n hx hb dX1_shotOf_11 rfl (lv_at hl 2 rfl) ?_
  refine lv_i2l hx hb dX1_shotOf_12 rfl ?_
  refine lv_ldc2 hx hb hown (hts (.constantLong RX1 184 (4294967295)) (by decide +kernel)) dX1_shotOf_13 ?_
  refine lv_land hx hb dX1_shotOf_16 ?_
  refine lv_lor hx hb dX1_shotOf_17 ?_
  exact s_retl F hr hlk dX1_shotOf_18 hw
abbrev rm_X1_settle : Room := { frames := 0, cells := 0, slots := 0, locals := 0 }
def wp_X1_settle (p0 : Int32) (p1 : Int32) (p2 : Int32) (C : cS) (K : Int32 → cS → Prop) : Prop := K (p0) (((C.si 7 (p0)).si 8 (p1)).si 9 (p2))
set_option maxHeartbeats 4000000 in
set_option maxRecDepth 100000 in
theorem c_X1_settle {l : Launch} {D : va_G} {cI cJ cO : ClassId} {h : Nat → Nat} (p0 : Int32) (p1 : Int32) (p2 : Int32) (C : cS) (K : Int32 → cS → Prop) (hw : wp_X1_settle p0 p1 p2 C K) : cMi l D cI cJ cO h yX1_settle wsX1_settle rm_X1_settle 0 0 [.ref (h 0), .int (p0), .int (p1), .int (p2)] K C := by
  refine c_starti (rt := some .int) (R0 := RX1) (by decide) rfl rfl (Nat.le_of_ble_eq_true rfl) ?_
  intro p e s m below meth c A ls F hr hlk I hl hini
  have hin : ∀ w ∈ u_ws RX1 TX1 14, w ∈ wsX1_settle := by decide +kernel
  have hin0 : True := trivial
  obtain ⟨hx, hb, hml, hown, hts⟩ := id F
  have hl : lv_has ls 4 [(0, .ref (h 0)), (1, .int (p0)), (2, .int (p1)), (3, .int (p2))] := hl
  unfold wp_X1_settle at hw
  refine lv_aload_n hx hb dX1_settle_0 rfl (lv_at hl 0 rfl) ?_
  refine lv_iload_n hx hb dX1_settle_1 rfl (lv_at hl 1 rfl) ?_
  refine c_put F hin I 7 (by decide) (hts (.fieldLink RX1 108 "CuttingTable" "lastRefusal" "I") (by decide +kernel)) dX1_settle_2 (fun H locs I => ?_)
  refine lv_aload_n hx hb dX1_settle_5 rfl (lv_at hl 0 rfl) ?_
  refine lv_iload_n hx hb dX1_settle_6 rfl (lv_at hl 2 rfl) ?_
  refine c_put F hin I 8 (by decide) (hts (.fieldLink RX1 111 "CuttingTable" "lastWay" "I") (by decide +kernel)) dX1_settle_7 (fun H locs I => ?_)
  refine lv_aload_n hx hb dX1_settle_10 rfl (lv_at hl 0 rfl) ?_
  refine lv_iload_n hx hb dX1_settle_11 rfl (lv_at hl 3 rfl) ?_
  refine c_put F hin I 9 (by decide) (hts (.fieldLink RX1 114 "CuttingTable" "lastAhead" "I") (by decide +kernel)) dX1_settle_12 (fun H locs I => ?_)
  refine lv_iload_n hx hb dX1_settle_15 rfl (lv_at hl 1 rfl) ?_
  exact c_reti F hr hlk I dX1_settle_16 hw
abbrev rm_X1_emptyBin : Room := { frames := 0, cells := 0, slots := 0, locals := 0 }
def wp_X1_emptyBin  (C : cS) (K : cS → Prop) : Prop := K (((C.sbr none).si 5 (0 : Int32)).si 6 (0 : Int32))
set_option maxHeartbeats 4000000 in
set_option maxRecDepth 100000 in
theorem c_X1_emptyBin {l : Launch} {D : va_G} {cI cJ cO : ClassId} {h : Nat → Nat}  (C : cS) (K : cS → Prop) (hw : wp_X1_emptyBin  C K) : cMv l D cI cJ cO h yX1_emptyBin wsX1_emptyBin rm_X1_emptyBin 0 0 [.ref (h 0)] K C := by
  refine c_startv (rt := none) (R0 := RX1) (by decide) rfl rfl (Nat.le_of_ble_eq_true rfl) ?_
  intro p e s m below meth c A ls F hr hlk I hl hini
  have hin : ∀ w ∈ u_ws RX1 TX1 14, w ∈ wsX1_emptyBin := by decide +kernel
  have hin0 : True := trivial
  obtain ⟨hx, hb, hml, hown, hts⟩ := id F
  have hl : lv_has ls 1 [(0, .ref (h 0))] := hl
  unfold wp_X1_emptyBin at hw
  refine lv_aload_n hx hb dX1_emptyBin_0 rfl (lv_at hl 0 rfl) ?_
  refine lv_null hx hb dX1_emptyBin_1 ?_
  refine c_putq (r := none) F hin I (hts (.fieldLink RX1 101 "CuttingTable" "binReel" "LCuttingTable$Load;") (by decide +kernel)) dX1_emptyBin_2 (fun H locs I => ?_)
  refine lv_aload_n hx hb dX1_emptyBin_5 rfl (lv_at hl 0 rfl) ?_
  refine lv_iconst (v := (0 : Int32)) hx hb dX1_emptyBin_6 (by decide) ?_
  refine c_put F hin I 5 (by decide) (hts (.fieldLink RX1 105 "CuttingTable" "binPlace" "I") (by decide +kernel)) dX1_emptyBin_7 (fun H locs I => ?_)
  refine lv_aload_n hx hb dX1_emptyBin_10 rfl (lv_at hl 0 rfl) ?_
  refine lv_iconst (v := (0 : Int32)) hx hb dX1_emptyBin_11 (by decide) ?_
  refine c_put F hin I 6 (by decide) (hts (.fieldLink RX1 98 "CuttingTable" "binCount" "I") (by decide +kernel)) dX1_emptyBin_12 (fun H locs I => ?_)
  exact c_retv F hr hlk I dX1_emptyBin_15 hw
abbrev rm_X1_fillBin : Room := { frames := 1, cells := 0, slots := 0, locals := 38 }
def wp_X1_fillBin (p0 : Nat) (p1 : Int32) (p2 : Int32) (C : cS) (K : cS → Prop) : Prop := ((C).ld (p0) ∧ ∃ b1, (C).fr (p0) = some b1 ∧ ((C).aw (b1) ∧ ¬ p1 < 0 ∧ ¬ (0 : Int32) < 0 ∧ ¬ p2 < 0 ∧ (p1).toNatClampNeg + (p2).toNatClampNeg ≤ ((C).ln (b1)) ∧ ((0 : Int32)).toNatClampNeg + (p2).toNatClampNeg ≤ 24 ∧ K ((((C.cpb (b1) (p1).toNatClampNeg ((0 : Int32)).toNatClampNeg (p2).toNatClampNeg).sbr (some (p0))).si 5 (p1)).si 6 (p2))))
set_option maxHeartbeats 4000000 in
set_option maxRecDepth 100000 in
theorem c_X1_fillBin {l : Launch} {D : va_G} {cI cJ cO : ClassId} {h : Nat → Nat} (p0 : Nat) (p1 : Int32) (p2 : Int32) (C : cS) (K : cS → Prop) (hw : wp_X1_fillBin p0 p1 p2 C K) : cMv l D cI cJ cO h yX1_fillBin wsX1_fillBin rm_X1_fillBin 0 0 [.ref (h 0), .ref (p0), .int (p1), .int (p2)] K C := by
  refine c_startv (rt := none) (R0 := RX1) (by decide) rfl rfl (Nat.le_of_ble_eq_true rfl) ?_
  intro p e s m below meth c A ls F hr hlk I hl hini
  have hin : ∀ w ∈ u_ws RX1 TX1 14, w ∈ wsX1_fillBin := by decide +kernel
  have hin0 : ∀ w ∈ u_ws RX0 TX0 3, w ∈ wsX1_fillBin := by decide +kernel
  obtain ⟨hx, hb, hml, hown, hts⟩ := id F
  have hl : lv_has ls 4 [(0, .ref (h 0)), (1, .ref (p0)), (2, .int (p1)), (3, .int (p2))] := hl
  unfold wp_X1_fillBin at hw
  refine lv_aload_n hx hb dX1_fillBin_0 rfl (lv_at hl 1 rfl) ?_
  obtain ⟨hld, b1, e2, hw⟩ := hw
  refine c_lget F hin0 I hld 2 (by decide) (v := .ref b1) (by rw [← show va_rf ((C).fr (p0)) = .ref b1 from by rw [e2]; rfl]; rfl) (hts (.fieldLink RX1 48 "CuttingTable$Load" "frames" "[J") (by decide +kernel)) dX1_fillBin_1 ?_
  refine lv_iload_n hx hb dX1_fillBin_4 rfl (lv_at hl 2 rfl) ?_
  refine lv_aload_n hx hb dX1_fillBin_5 rfl (lv_at hl 0 rfl) ?_
  refine c_get F hin I 3 (by decide) (v := .ref (h 3)) rfl (hts (.fieldLink RX1 19 "CuttingTable" "binFrames" "[J") (by decide +kernel)) dX1_fillBin_6 ?_
  refine lv_iconst (v := (0 : Int32)) hx hb dX1_fillBin_9 (by decide) ?_
  refine lv_iload_n hx hb dX1_fillBin_10 rfl (lv_at hl 3 rfl) ?_
  obtain ⟨ha0, hn1, hn2, hn3, hn4, hn5, hw⟩ := hw
  refine c_cpyf (rest := []) F hl.1 I (hts (.methodLink RX1 82 arraycopyName) (by decide +kernel)) (hts (.native arraycopyName) (by decide +kernel)) (hts (.static arraycopyName) (by decide +kernel)) (hts (.initialized "java/lang/System") (by decide +kernel)) ha0 hn1 hn2 hn3 hn4 hn5 (Nat.le_of_ble_eq_true rfl) (Nat.le_of_ble_eq_true rfl) dX1_fillBin_11 (fun H locs I => ?_)
  refine lv_aload_n hx hb dX1_fillBin_14 rfl (lv_at hl 0 rfl) ?_
  refine lv_aload_n hx hb dX1_fillBin_15 rfl (lv_at hl 1 rfl) ?_
  refine c_putq (r := some (p0)) F hin I (hts (.fieldLink RX1 101 "CuttingTable" "binReel" "LCuttingTable$Load;") (by decide +kernel)) dX1_fillBin_16 (fun H locs I => ?_)
  refine lv_aload_n hx hb dX1_fillBin_19 rfl (lv_at hl 0 rfl) ?_
  refine lv_iload_n hx hb dX1_fillBin_20 rfl (lv_at hl 2 rfl) ?_
  refine c_put F hin I 5 (by decide) (hts (.fieldLink RX1 105 "CuttingTable" "binPlace" "I") (by decide +kernel)) dX1_fillBin_21 (fun H locs I => ?_)
  refine lv_aload_n hx hb dX1_fillBin_24 rfl (lv_at hl 0 rfl) ?_
  refine lv_iload_n hx hb dX1_fillBin_25 rfl (lv_at hl 3 rfl) ?_
  refine c_put F hin I 6 (by decide) (hts (.fieldLink RX1 98 "CuttingTable" "binCount" "I") (by decide +kernel)) dX1_fillBin_26 (fun H locs I => ?_)
  exact c_retv F hr hlk I dX1_fillBin_29 hw
abbrev rm_X1_newShot : Room := { frames := 1, cells := 0, slots := 0, locals := 22 }
def wp_X1_newShot (p0 : Int32) (p1 : Int32) (C : cS) (K : Int64 → cS → Prop) : Prop := wp_X1_shotOf ((((C.fi 13) + (1 : Int32)))) (p0) (p1) (fun r1 => K (r1) (C.si 13 (((C.fi 13) + (1 : Int32)))))
set_option maxHeartbeats 4000000 in
set_option maxRecDepth 100000 in
theorem c_X1_newShot {l : Launch} {D : va_G} {cI cJ cO : ClassId} {h : Nat → Nat} (p0 : Int32) (p1 : Int32) (C : cS) (K : Int64 → cS → Prop) (hw : wp_X1_newShot p0 p1 C K) : cMl l D cI cJ cO h yX1_newShot wsX1_newShot rm_X1_newShot 0 0 [.ref (h 0), .int (p0), .int (p1)] K C := by
  refine c_startl (rt := some .long) (R0 := RX1) (by decide) rfl rfl (Nat.le_of_ble_eq_true rfl) ?_
  intro p e s m below meth c A ls F hr hlk I hl hini
  have hin : ∀ w ∈ u_ws RX1 TX1 14, w ∈ wsX1_newShot := by decide +kernel
  have hin0 : True := trivial
  obtain ⟨hx, hb, hml, hown, hts⟩ := id F
  have hl : lv_has ls 3 [(0, .ref (h 0)), (1, .int (p0)), (2, .int (p1))] := hl
  unfold wp_X1_newShot at hw
  refine lv_aload_n hx hb dX1_newShot_0 rfl (lv_at hl 0 rfl) ?_
  refine lv_dup hx hb dX1_newShot_1 rfl ?_
  refine c_get F hin I 13 (by decide) (v := .int ((C.fi 13))) rfl (hts (.fieldLink RX1 161 "CuttingTable" "shotsMade" "I") (by decide +kernel)) dX1_newShot_2 ?_
  refine lv_iconst (v := (1 : Int32)) hx hb dX1_newShot_5 (by decide) ?_
  refine lv_iadd hx hb dX1_newShot_6 ?_
  refine c_put F hin I 13 (by decide) (hts (.fieldLink RX1 161 "CuttingTable" "shotsMade" "I") (by decide +kernel)) dX1_newShot_7 (fun H locs I => ?_)
  refine lv_aload_n hx hb dX1_newShot_10 rfl (lv_at hl 0 rfl) ?_
  refine c_get F hin I 13 (by decide) (v := .int ((((C.fi 13) + (1 : Int32))))) rfl (hts (.fieldLink RX1 161 "CuttingTable" "shotsMade" "I") (by decide +kernel)) dX1_newShot_11 ?_
  refine lv_iload_n hx hb dX1_newShot_14 rfl (lv_at hl 1 rfl) ?_
  refine lv_iload_n hx hb dX1_newShot_15 rfl (lv_at hl 2 rfl) ?_
  refine s_calll (rest := []) F (c_X1_shotOf ((((C.fi 13) + (1 : Int32)))) (p0) (p1) _ hw) (va_cwS 3 hts gX1_newShot_X1_shotOf rfl rfl rfl (by decide +kernel) ⟨Nat.le_of_ble_eq_true rfl, Nat.le_of_ble_eq_true rfl⟩) rfl hl.1 rfl (Nat.le_of_ble_eq_true rfl) dX1_newShot_16 ⟨Nat.zero_le _, Nat.zero_le _⟩ (fun r1 hw => ?_)
  exact c_retl F hr hlk I dX1_newShot_19 hw
abbrev rm_X1_loadOn : Room := { frames := 1, cells := 0, slots := 0, locals := 20 }
def wp_X1_loadOn (p0 : Int32) (C : cS) (K : Option Nat → cS → Prop) : Prop := wp_X1_isSpindle (p0) (fun r1 => ((r1 = 0 → K (none : Option Nat) C) ∧ (¬ r1 = 0 → (vp_in (p0) 8 ∧ ((((C).sp (p0).toNatClampNeg) = none → K (none : Option Nat) C) ∧ (∀ y4, ((C).sp (p0).toNatClampNeg) = some y4 → K (some (y4) : Option Nat) C))))))
set_option maxHeartbeats 4000000 in
set_option maxRecDepth 100000 in
theorem c_X1_loadOn {l : Launch} {D : va_G} {cI cJ cO : ClassId} {h : Nat → Nat} (p0 : Int32) (C : cS) (K : Option Nat → cS → Prop) (hw : wp_X1_loadOn p0 C K) : cMq l D cI cJ cO h yX1_loadOn wsX1_loadOn rm_X1_loadOn 0 0 [.ref (h 0), .int (p0)] K C := by
  refine c_startq (rt := some (.object "CuttingTable$Load")) (R0 := RX1) (by decide) rfl rfl (Nat.le_of_ble_eq_true rfl) ?_
  intro p e s m below meth c A ls F hr hlk I hl hini
  have hin : ∀ w ∈ u_ws RX1 TX1 14, w ∈ wsX1_loadOn := by decide +kernel
  have hin0 : True := trivial
  obtain ⟨hx, hb, hml, hown, hts⟩ := id F
  have hl : lv_has ls 2 [(0, .ref (h 0)), (1, .int (p0))] := hl
  unfold wp_X1_loadOn at hw
  refine lv_iload_n hx hb dX1_loadOn_0 rfl (lv_at hl 1 rfl) ?_
  refine s_calli (rest := []) F (c_X1_isSpindle (p0) _ hw) (va_cwS 1 hts gX1_loadOn_X1_isSpindle rfl rfl rfl (by decide +kernel) ⟨Nat.le_of_ble_eq_true rfl, Nat.le_of_ble_eq_true rfl⟩) rfl hl.1 rfl (Nat.le_of_ble_eq_true rfl) dX1_loadOn_1 ⟨Nat.zero_le _, Nat.zero_le _⟩ (fun r1 hw => ?_)
  refine lv_if_eq (tgt := 16) hx hb dX1_loadOn_4 (by decide) (fun c_2 => ?_) (fun c_2 => ?_)
  · have hw := hw.1 c_2
    refine lv_null hx hb dX1_loadOn_16 ?_
    exact c_retq (v := (none : Option Nat)) F hr hlk I dX1_loadOn_17 hw
  · have hw := hw.2 c_2
    refine lv_aload_n hx hb dX1_loadOn_7 rfl (lv_at hl 0 rfl) ?_
    refine c_get F hin I 0 (by decide) (v := .ref (h 1)) rfl (hts (.fieldLink RX1 11 "CuttingTable" "spindles" "[LCuttingTable$Load;") (by decide +kernel)) dX1_loadOn_8 ?_
    refine lv_iload_n hx hb dX1_loadOn_11 rfl (lv_at hl 1 rfl) ?_
    obtain ⟨hi3, hw⟩ := hw
    refine c_aald F I hi3 dX1_loadOn_12 ?_
    rcases e5 : ((C).sp (p0).toNatClampNeg) with _ | y4
    · have hw := hw.1 e5
      refine lv_goto (tgt := 17) hx hb dX1_loadOn_13 (by decide) ?_
      exact c_retq (v := (none : Option Nat)) F hr hlk I dX1_loadOn_17 hw
    · have hw := hw.2 y4 e5
      refine lv_goto (tgt := 17) hx hb dX1_loadOn_13 (by decide) ?_
      exact c_retq (v := (some (y4) : Option Nat)) F hr hlk I dX1_loadOn_17 hw
abbrev rm_X1_lowestWith : Room := { frames := 0, cells := 0, slots := 0, locals := 0 }
def wl_X1_lowestWith_2 (K : Int32 → cS → Prop) : Nat → Nat → Int32 → cS → Prop
  | 0, _, _, _ => False
  | n + 1, v1, v2, C => (((8 : Int32) ≤ v2 → K ((-1 : Int32)) C) ∧ (¬ (8 : Int32) ≤ v2 → (vp_in (v2) 8 ∧ ((((C).sp (v2).toNatClampNeg) = none → ((¬ (none : Option Nat) = (some (v1) : Option Nat) → wl_X1_lowestWith_2 K n (v1) ((v2 + (1 : Int32))) C) ∧ ((none : Option Nat) = (some (v1) : Option Nat) → K (v2) C))) ∧ (∀ y3, ((C).sp (v2).toNatClampNeg) = some y3 → ((¬ (some (y3) : Option Nat) = (some (v1) : Option Nat) → wl_X1_lowestWith_2 K n (v1) ((v2 + (1 : Int32))) C) ∧ ((some (y3) : Option Nat) = (some (v1) : Option Nat) → K (v2) C)))))))
def wp_X1_lowestWith (p0 : Nat) (C : cS) (K : Int32 → cS → Prop) : Prop := (∃ n2 : Nat, wl_X1_lowestWith_2 K n2 (p0) ((0 : Int32)) C)
set_option maxHeartbeats 4000000 in
set_option maxRecDepth 100000 in
theorem lp_X1_lowestWith_2 {p : Program} {l : Launch} {e : Env} {s : State} {m : MethodId} {args : Array Value} {below : List Frame} {meth : Method} {c : Code} {D : va_G} {cI cJ cO : ClassId} {h : Nat → Nat} {A : Nat → Prop} {K : Int32 → cS → Prop} (F : CallFix p m c cX1_lowestWith 3 s args wsX1_lowestWith RX1) (hin : ∀ w ∈ u_ws RX1 TX1 14, w ∈ wsX1_lowestWith) (hin0 : True) (hr : meth.sig.returnType = some .int) (hlk : meth.locks = false) :
    ∀ (n : Nat) (v1 : Nat) (v2 : Int32) (C : cS) (H : Heap) (locs : List Loc), cG D cI cJ cO h A s s.heap H locs C → ∀ (ls : Array Slot), lv_has ls 3 [(0, .ref (h 0)), (1, .ref (v1)), (2, .int (v2))] → wl_X1_lowestWith_2 K n v1 v2 C → W p l e rm_X1_lowestWith s m args below meth c H locs 0 0 (MQ below (va_Qi K (cB D cI cJ cO h A) A) args s 0 0 A) (F0 m 2 ls []) := by
  obtain ⟨hx, hb, hml, hown, hts⟩ := id F
  intro n
  induction n with
  | zero => intro v1 v2 C H locs I ls hl hw; exact hw.elim
  | succ n ih =>
    intro v1 v2 C H locs I ls hl hw
    rw [wl_X1_lowestWith_2] at hw
    refine lv_iload_n hx hb dX1_lowestWith_2 rfl (lv_at hl 2 rfl) ?_
    refine lv_bipush (v := (8 : Int32)) hx hb dX1_lowestWith_3 (by decide) ?_
    refine lv_icmp_ge (tgt := 26) hx hb dX1_lowestWith_5 (by decide) (fun c_1 => ?_) (fun c_1 => ?_)
    · have hw := hw.1 c_1
      refine lv_iconst (v := (-1 : Int32)) hx hb dX1_lowestWith_26 (by decide) ?_
      exact c_reti F hr hlk I dX1_lowestWith_27 hw
    · have hw := hw.2 c_1
      refine lv_aload_n hx hb dX1_lowestWith_8 rfl (lv_at hl 0 rfl) ?_
      refine c_get F hin I 0 (by decide) (v := .ref (h 1)) rfl (hts (.fieldLink RX1 11 "CuttingTable" "spindles" "[LCuttingTable$Load;") (by decide +kernel)) dX1_lowestWith_9 ?_
      refine lv_iload_n hx hb dX1_lowestWith_12 rfl (lv_at hl 2 rfl) ?_
      obtain ⟨hi2, hw⟩ := hw
      refine c_aald F I hi2 dX1_lowestWith_13 ?_
      rcases e4 : ((C).sp (v2).toNatClampNeg) with _ | y3
      · have hw := hw.1 e4
        refine lv_aload_n hx hb dX1_lowestWith_14 rfl (lv_at hl 1 rfl) ?_
        refine lv_acmp_ne (rx := (none : Option Nat)) (ry := (some (v1) : Option Nat)) (tgt := 20) hx hb dX1_lowestWith_15 (by decide) (fun c_5 => ?_) (fun c_5 => ?_)
        · have hw := hw.1 c_5
          refine lv_iinc (v := (v2 + (1 : Int32))) (lv' := [(2, .int ((v2 + (1 : Int32)))), (0, .ref (h 0)), (1, .ref (v1))]) hx hb dX1_lowestWith_20 hl (k := 2) rfl rfl (by decide) rfl (fun ls hl => ?_)
          refine lv_goto (tgt := 2) hx hb dX1_lowestWith_23 (by decide) ?_
          exact ih (v1) ((v2 + (1 : Int32))) C _ _ I ls (lv_sub hl [1, 2, 0] rfl) hw
        · have hw := hw.2 c_5
          refine lv_iload_n hx hb dX1_lowestWith_18 rfl (lv_at hl 2 rfl) ?_
          exact c_reti F hr hlk I dX1_lowestWith_19 hw
      · have hw := hw.2 y3 e4
        refine lv_aload_n hx hb dX1_lowestWith_14 rfl (lv_at hl 1 rfl) ?_
        refine lv_acmp_ne (rx := (some (y3) : Option Nat)) (ry := (some (v1) : Option Nat)) (tgt := 20) hx hb dX1_lowestWith_15 (by decide) (fun c_6 => ?_) (fun c_6 => ?_)
        · have hw := hw.1 c_6
          refine lv_iinc (v := (v2 + (1 : Int32))) (lv' := [(2, .int ((v2 + (1 : Int32)))), (0, .ref (h 0)), (1, .ref (v1))]) hx hb dX1_lowestWith_20 hl (k := 2) rfl rfl (by decide) rfl (fun ls hl => ?_)
          refine lv_goto (tgt := 2) hx hb dX1_lowestWith_23 (by decide) ?_
          exact ih (v1) ((v2 + (1 : Int32))) C _ _ I ls (lv_sub hl [1, 2, 0] rfl) hw
        · have hw := hw.2 c_6
          refine lv_iload_n hx hb dX1_lowestWith_18 rfl (lv_at hl 2 rfl) ?_
          exact c_reti F hr hlk I dX1_lowestWith_19 hw
set_option maxHeartbeats 4000000 in
set_option maxRecDepth 100000 in
theorem c_X1_lowestWith {l : Launch} {D : va_G} {cI cJ cO : ClassId} {h : Nat → Nat} (p0 : Nat) (C : cS) (K : Int32 → cS → Prop) (hw : wp_X1_lowestWith p0 C K) : cMi l D cI cJ cO h yX1_lowestWith wsX1_lowestWith rm_X1_lowestWith 0 0 [.ref (h 0), .ref (p0)] K C := by
  refine c_starti (rt := some .int) (R0 := RX1) (by decide) rfl rfl (Nat.le_of_ble_eq_true rfl) ?_
  intro p e s m below meth c A ls F hr hlk I hl hini
  have hin : ∀ w ∈ u_ws RX1 TX1 14, w ∈ wsX1_lowestWith := by decide +kernel
  have hin0 : True := trivial
  obtain ⟨hx, hb, hml, hown, hts⟩ := id F
  have hl : lv_has ls 3 [(0, .ref (h 0)), (1, .ref (p0))] := hl
  unfold wp_X1_lowestWith at hw
  refine lv_iconst (v := (0 : Int32)) hx hb dX1_lowestWith_0 (by decide) ?_
  refine lv_istore_n (lv' := [(2, .int ((0 : Int32))), (0, .ref (h 0)), (1, .ref (p0))]) hx hb dX1_lowestWith_1 rfl hl (by decide) rfl (fun ls hl => ?_)
  obtain ⟨n2, hw⟩ := hw
  exact lp_X1_lowestWith_2 F hin hin0 hr hlk n2 (p0) ((0 : Int32)) C _ _ I ls (lv_sub hl [1, 2, 0] rfl) hw
abbrev rm_X1_sameFrames : Room := { frames := 0, cells := 0, slots := 0, locals := 0 }
def wl_X1_sameFrames_11 (K : Int32 → cS → Prop) : Nat → Nat → Nat → Int32 → cS → Prop
  | 0, _, _, _, _ => False
  | n + 1, v0, v1, v2, C => ((C).aw (v0) ∧ (((nI ((C).ln (v0))) ≤ v2 → K (1 : Int32) C) ∧ (¬ (nI ((C).ln (v0))) ≤ v2 → ((C).aw (v0) ∧ vp_in (v2) ((C).ln (v0)) ∧ ((C).aw (v1) ∧ vp_in (v2) ((C).ln (v1)) ∧ ((((C).ar (v0) (v2).toNatClampNeg) = ((C).ar (v1) (v2).toNatClampNeg) → wl_X1_sameFrames_11 K n (v0) (v1) ((v2 + (1 : Int32))) C) ∧ (¬ ((C).ar (v0) (v2).toNatClampNeg) = ((C).ar (v1) (v2).toNatClampNeg) → K (0 : Int32) C)))))))
def wp_X1_sameFrames (p0 : Nat) (p1 : Nat) (C : cS) (K : Int32 → cS → Prop) : Prop := ((C).aw (p0) ∧ ((C).aw (p1) ∧ (((nI ((C).ln (p0))) = (nI ((C).ln (p1))) → (∃ n11 : Nat, wl_X1_sameFrames_11 K n11 (p0) (p1) ((0 : Int32)) C)) ∧ (¬ (nI ((C).ln (p0))) = (nI ((C).ln (p1))) → K (0 : Int32) C))))
set_option maxHeartbeats 4000000 in
set_option maxRecDepth 100000 in
theorem lp_X1_sameFrames_11 {p : Program} {l : Launch} {e : Env} {s : State} {m : MethodId} {args : Array Value} {below : List Frame} {meth : Method} {c : Code} {D : va_G} {cI cJ cO : ClassId} {h : Nat → Nat} {A : Nat → Prop} {K : Int32 → cS → Prop} (F : CallFix p m c cX1_sameFrames 3 s args wsX1_sameFrames RX1) (hin : True) (hin0 : True) (hr : meth.sig.returnType = some .boolean) (hlk : meth.locks = false) :
    ∀ (n : Nat) (v0 : Nat) (v1 : Nat) (v2 : Int32) (C : cS) (H : Heap) (locs : List Loc), cG D cI cJ cO h A s s.heap H locs C → ∀ (ls : Array Slot), lv_has ls 3 [(0, .ref (v0)), (1, .ref (v1)), (2, .int (v2))] → wl_X1_sameFrames_11 K n v0 v1 v2 C → W p l e rm_X1_sameFrames s m args below meth c H locs 0 0 (MQ below (va_Qi K (cB D cI cJ cO h A) A) args s 0 0 A) (F0 m 11 ls []) := by
  obtain ⟨hx, hb, hml, hown, hts⟩ := id F
  intro n
  induction n with
  | zero => intro v0 v1 v2 C H locs I ls hl hw; exact hw.elim
  | succ n ih =>
    intro v0 v1 v2 C H locs I ls hl hw
    rw [wl_X1_sameFrames_11] at hw
    refine lv_iload_n hx hb dX1_sameFrames_11 rfl (lv_at hl 2 rfl) ?_
    refine lv_aload_n hx hb dX1_sameFrames_12 rfl (lv_at hl 0 rfl) ?_
    obtain ⟨haw, hw⟩ := hw
    refine c_alen F I haw dX1_sameFrames_13 ?_
    refine lv_icmp_ge (tgt := 35) hx hb dX1_sameFrames_14 (by decide) (fun c_2 => ?_) (fun c_2 => ?_)
    · have hw := hw.1 c_2
      refine lv_iconst (v := (1 : Int32)) hx hb dX1_sameFrames_35 (by decide) ?_
      exact c_retz F hr hlk I dX1_sameFrames_36 ⟨hw, by decide⟩
    · have hw := hw.2 c_2
      refine lv_aload_n hx hb dX1_sameFrames_17 rfl (lv_at hl 0 rfl) ?_
      refine lv_iload_n hx hb dX1_sameFrames_18 rfl (lv_at hl 2 rfl) ?_
      obtain ⟨haw, hi3, hw⟩ := hw
      refine c_lald F I haw hi3 dX1_sameFrames_19 ?_
      refine lv_aload_n hx hb dX1_sameFrames_20 rfl (lv_at hl 1 rfl) ?_
      refine lv_iload_n hx hb dX1_sameFrames_21 rfl (lv_at hl 2 rfl) ?_
      obtain ⟨haw, hi4, hw⟩ := hw
      refine c_lald F I haw hi4 dX1_sameFrames_22 ?_
      refine W.lcmp hx hb dX1_sameFrames_23 ?_
      refine lv_if_eq (tgt := 29) hx hb dX1_sameFrames_24 (by decide) (fun c_5 => ?_) (fun c_5 => ?_)
      · have hw := hw.1 ((lg_cmp_eq _ _).mp c_5)
        refine lv_iinc (v := (v2 + (1 : Int32))) (lv' := [(2, .int ((v2 + (1 : Int32)))), (0, .ref (v0)), (1, .ref (v1))]) hx hb dX1_sameFrames_29 hl (k := 2) rfl rfl (by decide) rfl (fun ls hl => ?_)
        refine lv_goto (tgt := 11) hx hb dX1_sameFrames_32 (by decide) ?_
        exact ih (v0) (v1) ((v2 + (1 : Int32))) C _ _ I ls (lv_sub hl [1, 2, 0] rfl) hw
      · have hw := hw.2 (fun q => c_5 ((lg_cmp_eq _ _).mpr q))
        refine lv_iconst (v := (0 : Int32)) hx hb dX1_sameFrames_27 (by decide) ?_
        exact c_retz F hr hlk I dX1_sameFrames_28 ⟨hw, by decide⟩
set_option maxHeartbeats 4000000 in
set_option maxRecDepth 100000 in
theorem c_X1_sameFrames {l : Launch} {D : va_G} {cI cJ cO : ClassId} {h : Nat → Nat} (p0 : Nat) (p1 : Nat) (C : cS) (K : Int32 → cS → Prop) (hw : wp_X1_sameFrames p0 p1 C K) : cMi l D cI cJ cO h yX1_sameFrames wsX1_sameFrames rm_X1_sameFrames 0 0 [.ref (p0), .ref (p1)] K C := by
  refine c_starti (rt := some .boolean) (R0 := RX1) (by decide) rfl rfl (Nat.le_of_ble_eq_true rfl) ?_
  intro p e s m below meth c A ls F hr hlk I hl hini
  have hin : True := trivial
  have hin0 : True := trivial
  obtain ⟨hx, hb, hml, hown, hts⟩ := id F
  have hl : lv_has ls 3 [(0, .ref (p0)), (1, .ref (p1))] := hl
  unfold wp_X1_sameFrames at hw
  refine lv_aload_n hx hb dX1_sameFrames_0 rfl (lv_at hl 0 rfl) ?_
  obtain ⟨haw, hw⟩ := hw
  refine c_alen F I haw dX1_sameFrames_1 ?_
  refine lv_aload_n hx hb dX1_sameFrames_2 rfl (lv_at hl 1 rfl) ?_
  obtain ⟨haw, hw⟩ := hw
  refine c_alen F I haw dX1_sameFrames_3 ?_
  refine lv_icmp_eq (tgt := 9) hx hb dX1_sameFrames_4 (by decide) (fun c_1 => ?_) (fun c_1 => ?_)
  · have hw := hw.1 c_1
    refine lv_iconst (v := (0 : Int32)) hx hb dX1_sameFrames_9 (by decide) ?_
    refine lv_istore_n (lv' := [(2, .int ((0 : Int32))), (0, .ref (p0)), (1, .ref (p1))]) hx hb dX1_sameFrames_10 rfl hl (by decide) rfl (fun ls hl => ?_)
    obtain ⟨n11, hw⟩ := hw
    exact lp_X1_sameFrames_11 F hin hin0 hr hlk n11 (p0) (p1) ((0 : Int32)) C _ _ I ls (lv_sub hl [1, 2, 0] rfl) hw
  · have hw := hw.2 c_1
    refine lv_iconst (v := (0 : Int32)) hx hb dX1_sameFrames_7 (by decide) ?_
    exact c_retz F hr hlk I dX1_sameFrames_8 ⟨hw, by decide⟩
abbrev rm_X1_blankFrames : Room := { frames := 0, cells := 0, slots := 0, locals := 0 }
def wl_X1_blankFrames_2 (K : cS → Prop) : Nat → Nat → Int32 → Int32 → Int32 → cS → Prop
  | 0, _, _, _, _, _ => False
  | n + 1, v0, v1, v2, v3, C => ((v2 ≤ v3 → K C) ∧ (¬ v2 ≤ v3 → ((C).aw (v0) ∧ vp_in (v3) ((C).ln (v0)) ∧ wl_X1_blankFrames_2 K n (v0) (v1) (v2) ((v3 + (1 : Int32))) (C.sal (v0) (v3).toNatClampNeg ((0 : Int64))))))
def wp_X1_blankFrames (p0 : Nat) (p1 : Int32) (p2 : Int32) (C : cS) (K : cS → Prop) : Prop := (∃ n2 : Nat, wl_X1_blankFrames_2 K n2 (p0) (p1) (p2) (p1) C)
set_option maxHeartbeats 4000000 in
set_option maxRecDepth 100000 in
theorem lp_X1_blankFrames_2 {p : Program} {l : Launch} {e : Env} {s : State} {m : MethodId} {args : Array Value} {below : List Frame} {meth : Method} {c : Code} {D : va_G} {cI cJ cO : ClassId} {h : Nat → Nat} {A : Nat → Prop} {K : cS → Prop} (F : CallFix p m c cX1_blankFrames 4 s args wsX1_blankFrames RX1) (hin : True) (hin0 : True) (hr : meth.sig.returnType = none) (hlk : meth.locks = false) :
    ∀ (n : Nat) (v0 : Nat) (v1 : Int32) (v2 : Int32) (v3 : Int32) (C : cS) (H : Heap) (locs : List Loc), cG D cI cJ cO h A s s.heap H locs C → ∀ (ls : Array Slot), lv_has ls 4 [(0, .ref (v0)), (1, .int (v1)), (2, .int (v2)), (3, .int (v3))] → wl_X1_blankFrames_2 K n v0 v1 v2 v3 C → W p l e rm_X1_blankFrames s m args below meth c H locs 0 0 (MQ below (va_Qv K (cB D cI cJ cO h A) A) args s 0 0 A) (F0 m 2 ls []) := by
  obtain ⟨hx, hb, hml, hown, hts⟩ := id F
  intro n
  induction n with
  | zero => intro v0 v1 v2 v3 C H locs I ls hl hw; exact hw.elim
  | succ n ih =>
    intro v0 v1 v2 v3 C H locs I ls hl hw
    rw [wl_X1_blankFrames_2] at hw
    refine lv_iload_n hx hb dX1_blankFrames_2 rfl (lv_at hl 3 rfl) ?_
    refine lv_iload_n hx hb dX1_blankFrames_3 rfl (lv_at hl 2 rfl) ?_
    refine lv_icmp_ge (tgt := 17) hx hb dX1_blankFrames_4 (by decide) (fun c_1 => ?_) (fun c_1 => ?_)
    · have hw := hw.1 c_1
      exact c_retv F hr hlk I dX1_blankFrames_17 hw
    · have hw := hw.2 c_1
      refine lv_aload_n hx hb dX1_blankFrames_7 rfl (lv_at hl 0 rfl) ?_
      refine lv_iload_n hx hb dX1_blankFrames_8 rfl (lv_at hl 3 rfl) ?_
      refine lv_lconst (v := (0 : Int64)) hx hb dX1_blankFrames_9 (by decide) ?_
      obtain ⟨haw, hi2, hw⟩ := hw
      refine c_last F I haw hi2 dX1_blankFrames_10 (fun H locs I => ?_)
      refine lv_iinc (v := (v3 + (1 : Int32))) (lv' := [(3, .int ((v3 + (1 : Int32)))), (0, .ref (v0)), (1, .int (v1)), (2, .int (v2))]) hx hb dX1_blankFrames_11 hl (k := 3) rfl rfl (by decide) rfl (fun ls hl => ?_)
      refine lv_goto (tgt := 2) hx hb dX1_blankFrames_14 (by decide) ?_
      exact ih (v0) (v1) (v2) ((v3 + (1 : Int32))) (C.sal (v0) (v3).toNatClampNeg ((0 : Int64))) _ _ I ls (lv_sub hl [1, 2, 3, 0] rfl) hw
set_option maxHeartbeats 4000000 in
set_option maxRecDepth 100000 in
theorem c_X1_blankFrames {l : Launch} {D : va_G} {cI cJ cO : ClassId} {h : Nat → Nat} (p0 : Nat) (p1 : Int32) (p2 : Int32) (C : cS) (K : cS → Prop) (hw : wp_X1_blankFrames p0 p1 p2 C K) : cMv l D cI cJ cO h yX1_blankFrames wsX1_blankFrames rm_X1_blankFrames 0 0 [.ref (p0), .int (p1), .int (p2)] K C := by
  refine c_startv (rt := none) (R0 := RX1) (by decide) rfl rfl (Nat.le_of_ble_eq_true rfl) ?_
  intro p e s m below meth c A ls F hr hlk I hl hini
  have hin : True := trivial
  have hin0 : True := trivial
  obtain ⟨hx, hb, hml, hown, hts⟩ := id F
  have hl : lv_has ls 4 [(0, .ref (p0)), (1, .int (p1)), (2, .int (p2))] := hl
  unfold wp_X1_blankFrames at hw
  refine lv_iload_n hx hb dX1_blankFrames_0 rfl (lv_at hl 1 rfl) ?_
  refine lv_istore_n (lv' := [(3, .int (p1)), (0, .ref (p0)), (1, .int (p1)), (2, .int (p2))]) hx hb dX1_blankFrames_1 rfl hl (by decide) rfl (fun ls hl => ?_)
  obtain ⟨n2, hw⟩ := hw
  exact lp_X1_blankFrames_2 F hin hin0 hr hlk n2 (p0) (p1) (p2) (p1) C _ _ I ls (lv_sub hl [1, 2, 3, 0] rfl) hw
abbrev rm_X1_borneAhead : Room := { frames := 2, cells := 0, slots := 0, locals := 43 }
def wl_X1_borneAhead_3 (K : Int32 → cS → Prop) : Nat → Nat → Int32 → Int32 → Int32 → Int32 → cS → Prop
  | 0, _, _, _, _, _, _ => False
  | n + 1, v0, v1, v2, v3, v4, C => ((v2 ≤ v4 → K (v4) C) ∧ (¬ v2 ≤ v4 → ((C).aw (v0) ∧ vp_in ((v1 + v4)) ((C).ln (v0)) ∧ wp_X1_bears (v3) (((C).ar (v0) ((v1 + v4)).toNatClampNeg)) (fun r3 => ((r3 = 0 → K (v4) C) ∧ (¬ r3 = 0 → wl_X1_borneAhead_3 K n (v0) (v1) (v2) (v3) ((v4 + (1 : Int32))) C))))))
def wp_X1_borneAhead (p0 : Nat) (p1 : Int32) (p2 : Int32) (p3 : Int32) (C : cS) (K : Int32 → cS → Prop) : Prop := (∃ n3 : Nat, wl_X1_borneAhead_3 K n3 (p0) (p1) (p2) (p3) ((0 : Int32)) C)
set_option maxHeartbeats 4000000 in
set_option maxRecDepth 100000 in
theorem lp_X1_borneAhead_3 {p : Program} {l : Launch} {e : Env} {s : State} {m : MethodId} {args : Array Value} {below : List Frame} {meth : Method} {c : Code} {D : va_G} {cI cJ cO : ClassId} {h : Nat → Nat} {A : Nat → Prop} {K : Int32 → cS → Prop} (F : CallFix p m c cX1_borneAhead 5 s args wsX1_borneAhead RX1) (hin : True) (hin0 : True) (hr : meth.sig.returnType = some .int) (hlk : meth.locks = false) :
    ∀ (n : Nat) (v0 : Nat) (v1 : Int32) (v2 : Int32) (v3 : Int32) (v4 : Int32) (C : cS) (H : Heap) (locs : List Loc), cG D cI cJ cO h A s s.heap H locs C → ∀ (ls : Array Slot), lv_has ls 5 [(0, .ref (v0)), (1, .int (v1)), (2, .int (v2)), (3, .int (v3)), (4, .int (v4))] → wl_X1_borneAhead_3 K n v0 v1 v2 v3 v4 C → W p l e rm_X1_borneAhead s m args below meth c H locs 0 0 (MQ below (va_Qi K (cB D cI cJ cO h A) A) args s 0 0 A) (F0 m 3 ls []) := by
  obtain ⟨hx, hb, hml, hown, hts⟩ := id F
  intro n
  induction n with
  | zero => intro v0 v1 v2 v3 v4 C H locs I ls hl hw; exact hw.elim
  | succ n ih =>
    intro v0 v1 v2 v3 v4 C H locs I ls hl hw
    rw [wl_X1_borneAhead_3] at hw
    refine lv_iload hx hb dX1_borneAhead_3 (lv_at hl 4 rfl) ?_
    refine lv_iload_n hx hb dX1_borneAhead_5 rfl (lv_at hl 2 rfl) ?_
    refine lv_icmp_ge (tgt := 28) hx hb dX1_borneAhead_6 (by decide) (fun c_1 => ?_) (fun c_1 => ?_)
    · have hw := hw.1 c_1
      refine lv_iload hx hb dX1_borneAhead_28 (lv_at hl 4 rfl) ?_
      exact c_reti F hr hlk I dX1_borneAhead_30 hw
    · have hw := hw.2 c_1
      refine lv_iload_n hx hb dX1_borneAhead_9 rfl (lv_at hl 3 rfl) ?_
      refine lv_aload_n hx hb dX1_borneAhead_10 rfl (lv_at hl 0 rfl) ?_
      refine lv_iload_n hx hb dX1_borneAhead_11 rfl (lv_at hl 1 rfl) ?_
      refine lv_iload hx hb dX1_borneAhead_12 (lv_at hl 4 rfl) ?_
      refine lv_iadd hx hb dX1_borneAhead_14 ?_
      obtain ⟨haw, hi2, hw⟩ := hw
      refine c_lald F I haw hi2 dX1_borneAhead_15 ?_
      refine s_calli (rest := []) F (c_X1_bears (v3) (((C).ar (v0) ((v1 + v4)).toNatClampNeg)) _ hw) (va_cwS 2 hts gX1_borneAhead_X1_bears rfl rfl rfl (by decide +kernel) ⟨Nat.le_of_ble_eq_true rfl, Nat.le_of_ble_eq_true rfl⟩) rfl hl.1 rfl (Nat.le_of_ble_eq_true rfl) dX1_borneAhead_16 ⟨Nat.zero_le _, Nat.zero_le _⟩ (fun r3 hw => ?_)
      refine lv_if_eq (tgt := 28) hx hb dX1_borneAhead_19 (by decide) (fun c_4 => ?_) (fun c_4 => ?_)
      · have hw := hw.1 c_4
        refine lv_iload hx hb dX1_borneAhead_28 (lv_at hl 4 rfl) ?_
        exact c_reti F hr hlk I dX1_borneAhead_30 hw
      · have hw := hw.2 c_4
        refine lv_iinc (v := (v4 + (1 : Int32))) (lv' := [(4, .int ((v4 + (1 : Int32)))), (0, .ref (v0)), (1, .int (v1)), (2, .int (v2)), (3, .int (v3))]) hx hb dX1_borneAhead_22 hl (k := 4) rfl rfl (by decide) rfl (fun ls hl => ?_)
        refine lv_goto (tgt := 3) hx hb dX1_borneAhead_25 (by decide) ?_
        exact ih (v0) (v1) (v2) (v3) ((v4 + (1 : Int32))) C _ _ I ls (lv_sub hl [1, 2, 3, 4, 0] rfl) hw
set_option maxHeartbeats 4000000 in
set_option maxRecDepth 100000 in
theorem c_X1_borneAhead {l : Launch} {D : va_G} {cI cJ cO : ClassId} {h : Nat → Nat} (p0 : Nat) (p1 : Int32) (p2 : Int32) (p3 : Int32) (C : cS) (K : Int32 → cS → Prop) (hw : wp_X1_borneAhead p0 p1 p2 p3 C K) : cMi l D cI cJ cO h yX1_borneAhead wsX1_borneAhead rm_X1_borneAhead 0 0 [.ref (p0), .int (p1), .int (p2), .int (p3)] K C := by
  refine c_starti (rt := some .int) (R0 := RX1) (by decide) rfl rfl (Nat.le_of_ble_eq_true rfl) ?_
  intro p e s m below meth c A ls F hr hlk I hl hini
  have hin : True := trivial
  have hin0 : True := trivial
  obtain ⟨hx, hb, hml, hown, hts⟩ := id F
  have hl : lv_has ls 5 [(0, .ref (p0)), (1, .int (p1)), (2, .int (p2)), (3, .int (p3))] := hl
  unfold wp_X1_borneAhead at hw
  refine lv_iconst (v := (0 : Int32)) hx hb dX1_borneAhead_0 (by decide) ?_
  refine lv_istore (lv' := [(4, .int ((0 : Int32))), (0, .ref (p0)), (1, .int (p1)), (2, .int (p2)), (3, .int (p3))]) hx hb dX1_borneAhead_1 hl (by decide) rfl (fun ls hl => ?_)
  obtain ⟨n3, hw⟩ := hw
  exact lp_X1_borneAhead_3 F hin hin0 hr hlk n3 (p0) (p1) (p2) (p3) ((0 : Int32)) C _ _ I ls (lv_sub hl [1, 2, 3, 4, 0] rfl) hw
abbrev rm_X1_refusalOfReel : Room := { frames := 1, cells := 0, slots := 0, locals := 20 }
def wp_X1_refusalOfReel (p0 : Int32) (C : cS) (K : Int32 → cS → Prop) : Prop := wp_X1_isSpindle (p0) (fun r1 => ((¬ r1 = 0 → (vp_in (p0) 8 ∧ ((((C).sp (p0).toNatClampNeg) = none → K ((1 : Int32)) C) ∧ (∀ y4, ((C).sp (p0).toNatClampNeg) = some y4 → ((C).ld (y4) ∧ ((¬ ((C).so (y4)) = (8 : Int32) → K ((0 : Int32)) C) ∧ (((C).so (y4)) = (8 : Int32) → K ((2 : Int32)) C))))))) ∧ (r1 = 0 → K ((6 : Int32)) C)))
set_option maxHeartbeats 4000000 in
set_option maxRecDepth 100000 in
theorem c_X1_refusalOfReel {l : Launch} {D : va_G} {cI cJ cO : ClassId} {h : Nat → Nat} (p0 : Int32) (C : cS) (K : Int32 → cS → Prop) (hw : wp_X1_refusalOfReel p0 C K) : cMi l D cI cJ cO h yX1_refusalOfReel wsX1_refusalOfReel rm_X1_refusalOfReel 0 0 [.ref (h 0), .int (p0)] K C := by
  refine c_starti (rt := some .int) (R0 := RX1) (by decide) rfl rfl (Nat.le_of_ble_eq_true rfl) ?_
  intro p e s m below meth c A ls F hr hlk I hl hini
  have hin : ∀ w ∈ u_ws RX1 TX1 14, w ∈ wsX1_refusalOfReel := by decide +kernel
  have hin0 : ∀ w ∈ u_ws RX0 TX0 3, w ∈ wsX1_refusalOfReel := by decide +kernel
  obtain ⟨hx, hb, hml, hown, hts⟩ := id F
  have hl : lv_has ls 3 [(0, .ref (h 0)), (1, .int (p0))] := hl
  unfold wp_X1_refusalOfReel at hw
  refine lv_iload_n hx hb dX1_refusalOfReel_0 rfl (lv_at hl 1 rfl) ?_
  refine s_calli (rest := []) F (c_X1_isSpindle (p0) _ hw) (va_cwS 1 hts gX1_refusalOfReel_X1_isSpindle rfl rfl rfl (by decide +kernel) ⟨Nat.le_of_ble_eq_true rfl, Nat.le_of_ble_eq_true rfl⟩) rfl hl.1 rfl (Nat.le_of_ble_eq_true rfl) dX1_refusalOfReel_1 ⟨Nat.zero_le _, Nat.zero_le _⟩ (fun r1 hw => ?_)
  refine lv_if_ne (tgt := 10) hx hb dX1_refusalOfReel_4 (by decide) (fun c_2 => ?_) (fun c_2 => ?_)
  · have hw := hw.1 c_2
    refine lv_aload_n hx hb dX1_refusalOfReel_10 rfl (lv_at hl 0 rfl) ?_
    refine c_get F hin I 0 (by decide) (v := .ref (h 1)) rfl (hts (.fieldLink RX1 11 "CuttingTable" "spindles" "[LCuttingTable$Load;") (by decide +kernel)) dX1_refusalOfReel_11 ?_
    refine lv_iload_n hx hb dX1_refusalOfReel_14 rfl (lv_at hl 1 rfl) ?_
    obtain ⟨hi3, hw⟩ := hw
    refine c_aald F I hi3 dX1_refusalOfReel_15 ?_
    rcases e5 : ((C).sp (p0).toNatClampNeg) with _ | y4
    · have hw := hw.1 e5
      refine lv_astore_nN (lv' := [(2, .null), (0, .ref (h 0)), (1, .int (p0))]) hx hb dX1_refusalOfReel_16 rfl hl (by decide) rfl (fun ls hl => ?_)
      refine lv_aload_nN hx hb dX1_refusalOfReel_17 rfl (lv_at hl 0 rfl) ?_
      refine lv_ifnonnullN hx hb dX1_refusalOfReel_18 ?_
      refine lv_iconst (v := (1 : Int32)) hx hb dX1_refusalOfReel_21 (by decide) ?_
      exact c_reti F hr hlk I dX1_refusalOfReel_22 hw
    · have hw := hw.2 y4 e5
      refine lv_astore_n (lv' := [(2, .ref (y4)), (0, .ref (h 0)), (1, .int (p0))]) hx hb dX1_refusalOfReel_16 rfl hl (by decide) rfl (fun ls hl => ?_)
      refine lv_aload_n hx hb dX1_refusalOfReel_17 rfl (lv_at hl 0 rfl) ?_
      refine lv_ifnonnull (tgt := 23) hx hb dX1_refusalOfReel_18 (by decide) ?_
      refine lv_aload_n hx hb dX1_refusalOfReel_23 rfl (lv_at hl 0 rfl) ?_
      obtain ⟨hld, hw⟩ := hw
      refine c_lget F hin0 I hld 0 (by decide) (v := .int (((C).so (y4)))) rfl (hts (.fieldLink RX1 42 "CuttingTable$Load" "sort" "I") (by decide +kernel)) dX1_refusalOfReel_24 ?_
      refine lv_bipush (v := (8 : Int32)) hx hb dX1_refusalOfReel_27 (by decide) ?_
      refine lv_icmp_ne (tgt := 36) hx hb dX1_refusalOfReel_29 (by decide) (fun c_6 => ?_) (fun c_6 => ?_)
      · have hw := hw.1 c_6
        refine lv_iconst (v := (0 : Int32)) hx hb dX1_refusalOfReel_36 (by decide) ?_
        exact c_reti F hr hlk I dX1_refusalOfReel_37 hw
      · have hw := hw.2 c_6
        refine lv_iconst (v := (2 : Int32)) hx hb dX1_refusalOfReel_32 (by decide) ?_
        refine lv_goto (tgt := 37) hx hb dX1_refusalOfReel_33 (by decide) ?_
        exact c_reti F hr hlk I dX1_refusalOfReel_37 hw
  · have hw := hw.2 c_2
    refine lv_bipush (v := (6 : Int32)) hx hb dX1_refusalOfReel_7 (by decide) ?_
    exact c_reti F hr hlk I dX1_refusalOfReel_9 hw
abbrev rm_X1_refusalOfFrame : Room := { frames := 2, cells := 0, slots := 0, locals := 42 }
def wp_X1_refusalOfFrame (p0 : Int32) (p1 : Int32) (p2 : Int32) (C : cS) (K : Int32 → cS → Prop) : Prop := wp_X1_refusalOfReel (p0) C (fun r1 C2 => ((r1 = 0 → (vp_in (p0) 8 ∧ ((((C2).sp (p0).toNatClampNeg) = none → False) ∧ (∀ y5, ((C2).sp (p0).toNatClampNeg) = some y5 → ((C2).ld (y5) ∧ wp_X1_isOfNumbers (((C2).so (y5))) (fun r7 => ((r7 = p1 → ((p2 < 0 → K ((4 : Int32)) C2) ∧ (¬ p2 < 0 → ((C2).ld (y5) ∧ ∃ b10, (C2).fr (y5) = some b10 ∧ ((C2).aw (b10) ∧ ((p2 < (nI ((C2).ln (b10))) → K ((0 : Int32)) C2) ∧ (¬ p2 < (nI ((C2).ln (b10))) → K ((4 : Int32)) C2))))))) ∧ (¬ r7 = p1 → K ((3 : Int32)) C2)))))))) ∧ (¬ r1 = 0 → K (r1) C2)))
set_option maxHeartbeats 4000000 in
set_option maxRecDepth 100000 in
theorem c_X1_refusalOfFrame {l : Launch} {D : va_G} {cI cJ cO : ClassId} {h : Nat → Nat} (p0 : Int32) (p1 : Int32) (p2 : Int32) (C : cS) (K : Int32 → cS → Prop) (hw : wp_X1_refusalOfFrame p0 p1 p2 C K) : cMi l D cI cJ cO h yX1_refusalOfFrame wsX1_refusalOfFrame rm_X1_refusalOfFrame 0 0 [.ref (h 0), .int (p0), .int (p1), .int (p2)] K C := by
  refine c_starti (rt := some .int) (R0 := RX1) (by decide) rfl rfl (Nat.le_of_ble_eq_true rfl) ?_
  intro p e s m below meth c A ls F hr hlk I hl hini
  have hin : ∀ w ∈ u_ws RX1 TX1 14, w ∈ wsX1_refusalOfFrame := by decide +kernel
  have hin0 : ∀ w ∈ u_ws RX0 TX0 3, w ∈ wsX1_refusalOfFrame := by decide +kernel
  obtain ⟨hx, hb, hml, hown, hts⟩ := id F
  have hl : lv_has ls 6 [(0, .ref (h 0)), (1, .int (p0)), (2, .int (p1)), (3, .int (p2))] := hl
  unfold wp_X1_refusalOfFrame at hw
  refine lv_aload_n hx hb dX1_refusalOfFrame_0 rfl (lv_at hl 0 rfl) ?_
  refine lv_iload_n hx hb dX1_refusalOfFrame_1 rfl (lv_at hl 1 rfl) ?_
  refine c_calli (rest := []) F I (c_X1_refusalOfReel (p0) _ _ hw) (cwV 1 hts gX1_refusalOfFrame_X1_refusalOfReel rfl rfl rfl (by decide +kernel) ⟨Nat.le_of_ble_eq_true rfl, Nat.le_of_ble_eq_true rfl⟩) rfl hl.1 rfl (Nat.le_of_ble_eq_true rfl) dX1_refusalOfFrame_2 ⟨Nat.zero_le _, Nat.zero_le _⟩ (fun r1 C2 H locs hw I => ?_)
  refine lv_istore (lv' := [(4, .int (r1)), (0, .ref (h 0)), (1, .int (p0)), (2, .int (p1)), (3, .int (p2))]) hx hb dX1_refusalOfFrame_5 hl (by decide) rfl (fun ls hl => ?_)
  refine lv_iload hx hb dX1_refusalOfFrame_7 (lv_at hl 0 rfl) ?_
  refine lv_if_eq (tgt := 15) hx hb dX1_refusalOfFrame_9 (by decide) (fun c_3 => ?_) (fun c_3 => ?_)
  · have hw := hw.1 c_3
    refine lv_aload_n hx hb dX1_refusalOfFrame_15 rfl (lv_at hl 1 rfl) ?_
    refine c_get F hin I 0 (by decide) (v := .ref (h 1)) rfl (hts (.fieldLink RX1 11 "CuttingTable" "spindles" "[LCuttingTable$Load;") (by decide +kernel)) dX1_refusalOfFrame_16 ?_
    refine lv_iload_n hx hb dX1_refusalOfFrame_19 rfl (lv_at hl 2 rfl) ?_
    obtain ⟨hi4, hw⟩ := hw
    refine c_aald F I hi4 dX1_refusalOfFrame_20 ?_
    rcases e6 : ((C2).sp (p0).toNatClampNeg) with _ | y5
    · have hw := hw.1 e6
      refine lv_astoreN (lv' := [(5, .null), (4, .int (r1)), (0, .ref (h 0)), (1, .int (p0)), (2, .int (p1)), (3, .int (p2))]) hx hb dX1_refusalOfFrame_21 hl (by decide) rfl (fun ls hl => ?_)
      refine lv_aloadN hx hb dX1_refusalOfFrame_23 (lv_at hl 0 rfl) ?_
      exact hw.elim
    · have hw := hw.2 y5 e6
      refine lv_astore (lv' := [(5, .ref (y5)), (4, .int (r1)), (0, .ref (h 0)), (1, .int (p0)), (2, .int (p1)), (3, .int (p2))]) hx hb dX1_refusalOfFrame_21 hl (by decide) rfl (fun ls hl => ?_)
      refine lv_aload hx hb dX1_refusalOfFrame_23 (lv_at hl 0 rfl) ?_
      obtain ⟨hld, hw⟩ := hw
      refine c_lget F hin0 I hld 0 (by decide) (v := .int (((C2).so (y5)))) rfl (hts (.fieldLink RX1 42 "CuttingTable$Load" "sort" "I") (by decide +kernel)) dX1_refusalOfFrame_25 ?_
      refine s_calli (rest := []) F (c_X1_isOfNumbers (((C2).so (y5))) _ hw) (va_cwS 1 hts gX1_refusalOfFrame_X1_isOfNumbers rfl rfl rfl (by decide +kernel) ⟨Nat.le_of_ble_eq_true rfl, Nat.le_of_ble_eq_true rfl⟩) rfl hl.1 rfl (Nat.le_of_ble_eq_true rfl) dX1_refusalOfFrame_28 ⟨Nat.zero_le _, Nat.zero_le _⟩ (fun r7 hw => ?_)
      refine lv_iload_n hx hb dX1_refusalOfFrame_31 rfl (lv_at hl 4 rfl) ?_
      refine lv_icmp_eq (tgt := 37) hx hb dX1_refusalOfFrame_32 (by decide) (fun c_8 => ?_) (fun c_8 => ?_)
      · have hw := hw.1 c_8
        refine lv_iload_n hx hb dX1_refusalOfFrame_37 rfl (lv_at hl 5 rfl) ?_
        refine lv_if_lt (tgt := 51) hx hb dX1_refusalOfFrame_38 (by decide) (fun c_9 => ?_) (fun c_9 => ?_)
        · have hw := hw.1 c_9
          refine lv_iconst (v := (4 : Int32)) hx hb dX1_refusalOfFrame_51 (by decide) ?_
          refine lv_goto (tgt := 56) hx hb dX1_refusalOfFrame_52 (by decide) ?_
          exact c_reti F hr hlk I dX1_refusalOfFrame_56 hw
        · have hw := hw.2 c_9
          refine lv_iload_n hx hb dX1_refusalOfFrame_41 rfl (lv_at hl 5 rfl) ?_
          refine lv_aload hx hb dX1_refusalOfFrame_42 (lv_at hl 0 rfl) ?_
          obtain ⟨hld, b10, e11, hw⟩ := hw
          refine c_lget F hin0 I hld 2 (by decide) (v := .ref b10) (by rw [← show va_rf ((C2).fr (y5)) = .ref b10 from by rw [e11]; rfl]; rfl) (hts (.fieldLink RX1 48 "CuttingTable$Load" "frames" "[J") (by decide +kernel)) dX1_refusalOfFrame_44 ?_
          obtain ⟨haw, hw⟩ := hw
          refine c_alen F I haw dX1_refusalOfFrame_47 ?_
          refine lv_icmp_lt (tgt := 55) hx hb dX1_refusalOfFrame_48 (by decide) (fun c_12 => ?_) (fun c_12 => ?_)
          · have hw := hw.1 c_12
            refine lv_iconst (v := (0 : Int32)) hx hb dX1_refusalOfFrame_55 (by decide) ?_
            exact c_reti F hr hlk I dX1_refusalOfFrame_56 hw
          · have hw := hw.2 c_12
            refine lv_iconst (v := (4 : Int32)) hx hb dX1_refusalOfFrame_51 (by decide) ?_
            refine lv_goto (tgt := 56) hx hb dX1_refusalOfFrame_52 (by decide) ?_
            exact c_reti F hr hlk I dX1_refusalOfFrame_56 hw
      · have hw := hw.2 c_8
        refine lv_iconst (v := (3 : Int32)) hx hb dX1_refusalOfFrame_35 (by decide) ?_
        exact c_reti F hr hlk I dX1_refusalOfFrame_36 hw
  · have hw := hw.2 c_3
    refine lv_iload hx hb dX1_refusalOfFrame_12 (lv_at hl 0 rfl) ?_
    exact c_reti F hr hlk I dX1_refusalOfFrame_14 hw
abbrev rm_X1_refusalOfGap : Room := { frames := 2, cells := 0, slots := 0, locals := 42 }
def wp_X1_refusalOfGap (p0 : Int32) (p1 : Int32) (p2 : Int32) (C : cS) (K : Int32 → cS → Prop) : Prop := wp_X1_refusalOfReel (p0) C (fun r1 C2 => ((r1 = 0 → (vp_in (p0) 8 ∧ ((((C2).sp (p0).toNatClampNeg) = none → False) ∧ (∀ y5, ((C2).sp (p0).toNatClampNeg) = some y5 → ((C2).ld (y5) ∧ ∃ b7, (C2).fr (y5) = some b7 ∧ ((C2).aw (b7) ∧ wp_X1_wayOut (p1) ((0 : Int64)) (p2) ((nI ((C2).ln (b7)))) ((nI ((C2).ln (b7)))) (fun r9 => ((¬ r9 = 0 → wp_X1_settle ((4 : Int32)) (r9) ((0 : Int32)) C2 (fun r11 C12 => K (r11) C12)) ∧ (r9 = 0 → wp_X1_settle ((0 : Int32)) (r9) ((0 : Int32)) C2 (fun r13 C14 => K (r13) C14)))))))))) ∧ (¬ r1 = 0 → wp_X1_settle (r1) ((0 : Int32)) ((0 : Int32)) C2 (fun r15 C16 => K (r15) C16))))
set_option maxHeartbeats 4000000 in
set_option maxRecDepth 100000 in
theorem c_X1_refusalOfGap {l : Launch} {D : va_G} {cI cJ cO : ClassId} {h : Nat → Nat} (p0 : Int32) (p1 : Int32) (p2 : Int32) (C : cS) (K : Int32 → cS → Prop) (hw : wp_X1_refusalOfGap p0 p1 p2 C K) : cMi l D cI cJ cO h yX1_refusalOfGap wsX1_refusalOfGap rm_X1_refusalOfGap 0 0 [.ref (h 0), .int (p0), .int (p1), .int (p2)] K C := by
  refine c_starti (rt := some .int) (R0 := RX1) (by decide) rfl rfl (Nat.le_of_ble_eq_true rfl) ?_
  intro p e s m below meth c A ls F hr hlk I hl hini
  have hin : ∀ w ∈ u_ws RX1 TX1 14, w ∈ wsX1_refusalOfGap := by decide +kernel
  have hin0 : ∀ w ∈ u_ws RX0 TX0 3, w ∈ wsX1_refusalOfGap := by decide +kernel
  obtain ⟨hx, hb, hml, hown, hts⟩ := id F
  have hl : lv_has ls 7 [(0, .ref (h 0)), (1, .int (p0)), (2, .int (p1)), (3, .int (p2))] := hl
  unfold wp_X1_refusalOfGap at hw
  refine lv_aload_n hx hb dX1_refusalOfGap_0 rfl (lv_at hl 0 rfl) ?_
  refine lv_iload_n hx hb dX1_refusalOfGap_1 rfl (lv_at hl 1 rfl) ?_
  refine c_calli (rest := []) F I (c_X1_refusalOfReel (p0) _ _ hw) (cwV 1 hts gX1_refusalOfGap_X1_refusalOfReel rfl rfl rfl (by decide +kernel) ⟨Nat.le_of_ble_eq_true rfl, Nat.le_of_ble_eq_true rfl⟩) rfl hl.1 rfl (Nat.le_of_ble_eq_true rfl) dX1_refusalOfGap_2 ⟨Nat.zero_le _, Nat.zero_le _⟩ (fun r1 C2 H locs hw I => ?_)
  refine lv_istore (lv' := [(4, .int (r1)), (0, .ref (h 0)), (1, .int (p0)), (2, .int (p1)), (3, .int (p2))]) hx hb dX1_refusalOfGap_5 hl (by decide) rfl (fun ls hl => ?_)
  refine lv_iload hx hb dX1_refusalOfGap_7 (lv_at hl 0 rfl) ?_
  refine lv_if_eq (tgt := 21) hx hb dX1_refusalOfGap_9 (by decide) (fun c_3 => ?_) (fun c_3 => ?_)
  · have hw := hw.1 c_3
    refine lv_aload_n hx hb dX1_refusalOfGap_21 rfl (lv_at hl 1 rfl) ?_
    refine c_get F hin I 0 (by decide) (v := .ref (h 1)) rfl (hts (.fieldLink RX1 11 "CuttingTable" "spindles" "[LCuttingTable$Load;") (by decide +kernel)) dX1_refusalOfGap_22 ?_
    refine lv_iload_n hx hb dX1_refusalOfGap_25 rfl (lv_at hl 2 rfl) ?_
    obtain ⟨hi4, hw⟩ := hw
    refine c_aald F I hi4 dX1_refusalOfGap_26 ?_
    rcases e6 : ((C2).sp (p0).toNatClampNeg) with _ | y5
    · have hw := hw.1 e6
      exact hw.elim
    · have hw := hw.2 y5 e6
      obtain ⟨hld, b7, e8, hw⟩ := hw
      refine c_lget F hin0 I hld 2 (by decide) (v := .ref b7) (by rw [← show va_rf ((C2).fr (y5)) = .ref b7 from by rw [e8]; rfl]; rfl) (hts (.fieldLink RX1 48 "CuttingTable$Load" "frames" "[J") (by decide +kernel)) dX1_refusalOfGap_27 ?_
      obtain ⟨haw, hw⟩ := hw
      refine c_alen F I haw dX1_refusalOfGap_30 ?_
      refine lv_istore (lv' := [(5, .int ((nI ((C2).ln (b7))))), (4, .int (r1)), (0, .ref (h 0)), (1, .int (p0)), (2, .int (p1)), (3, .int (p2))]) hx hb dX1_refusalOfGap_31 hl (by decide) rfl (fun ls hl => ?_)
      refine lv_iload_n hx hb dX1_refusalOfGap_33 rfl (lv_at hl 4 rfl) ?_
      refine lv_lconst (v := (0 : Int64)) hx hb dX1_refusalOfGap_34 (by decide) ?_
      refine lv_iload_n hx hb dX1_refusalOfGap_35 rfl (lv_at hl 5 rfl) ?_
      refine lv_iload hx hb dX1_refusalOfGap_36 (lv_at hl 0 rfl) ?_
      refine lv_iload hx hb dX1_refusalOfGap_38 (lv_at hl 0 rfl) ?_
      refine s_calli (rest := []) F (c_X1_wayOut (p1) ((0 : Int64)) (p2) ((nI ((C2).ln (b7)))) ((nI ((C2).ln (b7)))) _ hw) (va_cwS 5 hts gX1_refusalOfGap_X1_wayOut rfl rfl rfl (by decide +kernel) ⟨Nat.le_of_ble_eq_true rfl, Nat.le_of_ble_eq_true rfl⟩) rfl hl.1 rfl (Nat.le_of_ble_eq_true rfl) dX1_refusalOfGap_40 ⟨Nat.zero_le _, Nat.zero_le _⟩ (fun r9 hw => ?_)
      refine lv_istore (lv' := [(6, .int (r9)), (5, .int ((nI ((C2).ln (b7))))), (4, .int (r1)), (0, .ref (h 0)), (1, .int (p0)), (2, .int (p1)), (3, .int (p2))]) hx hb dX1_refusalOfGap_43 hl (by decide) rfl (fun ls hl => ?_)
      refine lv_aload_n hx hb dX1_refusalOfGap_45 rfl (lv_at hl 3 rfl) ?_
      refine lv_iload hx hb dX1_refusalOfGap_46 (lv_at hl 0 rfl) ?_
      refine lv_if_ne (tgt := 55) hx hb dX1_refusalOfGap_48 (by decide) (fun c_10 => ?_) (fun c_10 => ?_)
      · have hw := hw.1 c_10
        refine lv_iconst (v := (4 : Int32)) hx hb dX1_refusalOfGap_55 (by decide) ?_
        refine lv_iload hx hb dX1_refusalOfGap_56 (lv_at hl 0 rfl) ?_
        refine lv_iconst (v := (0 : Int32)) hx hb dX1_refusalOfGap_58 (by decide) ?_
        refine c_calli (rest := []) F I (c_X1_settle ((4 : Int32)) (r9) ((0 : Int32)) _ _ hw) (cwV 3 hts gX1_refusalOfGap_X1_settle rfl rfl rfl (by decide +kernel) ⟨Nat.le_of_ble_eq_true rfl, Nat.le_of_ble_eq_true rfl⟩) rfl hl.1 rfl (Nat.le_of_ble_eq_true rfl) dX1_refusalOfGap_59 ⟨Nat.zero_le _, Nat.zero_le _⟩ (fun r11 C12 H locs hw I => ?_)
        exact c_reti F hr hlk I dX1_refusalOfGap_62 hw
      · have hw := hw.2 c_10
        refine lv_iconst (v := (0 : Int32)) hx hb dX1_refusalOfGap_51 (by decide) ?_
        refine lv_goto (tgt := 56) hx hb dX1_refusalOfGap_52 (by decide) ?_
        refine lv_iload hx hb dX1_refusalOfGap_56 (lv_at hl 0 rfl) ?_
        refine lv_iconst (v := (0 : Int32)) hx hb dX1_refusalOfGap_58 (by decide) ?_
        refine c_calli (rest := []) F I (c_X1_settle ((0 : Int32)) (r9) ((0 : Int32)) _ _ hw) (cwV 3 hts gX1_refusalOfGap_X1_settle rfl rfl rfl (by decide +kernel) ⟨Nat.le_of_ble_eq_true rfl, Nat.le_of_ble_eq_true rfl⟩) rfl hl.1 rfl (Nat.le_of_ble_eq_true rfl) dX1_refusalOfGap_59 ⟨Nat.zero_le _, Nat.zero_le _⟩ (fun r13 C14 H locs hw I => ?_)
        exact c_reti F hr hlk I dX1_refusalOfGap_62 hw
  · have hw := hw.2 c_3
    refine lv_aload_n hx hb dX1_refusalOfGap_12 rfl (lv_at hl 1 rfl) ?_
    refine lv_iload hx hb dX1_refusalOfGap_13 (lv_at hl 0 rfl) ?_
    refine lv_iconst (v := (0 : Int32)) hx hb dX1_refusalOfGap_15 (by decide) ?_
    refine lv_iconst (v := (0 : Int32)) hx hb dX1_refusalOfGap_16 (by decide) ?_
    refine c_calli (rest := []) F I (c_X1_settle (r1) ((0 : Int32)) ((0 : Int32)) _ _ hw) (cwV 3 hts gX1_refusalOfGap_X1_settle rfl rfl rfl (by decide +kernel) ⟨Nat.le_of_ble_eq_true rfl, Nat.le_of_ble_eq_true rfl⟩) rfl hl.1 rfl (Nat.le_of_ble_eq_true rfl) dX1_refusalOfGap_17 ⟨Nat.zero_le _, Nat.zero_le _⟩ (fun r15 C16 H locs hw I => ?_)
    exact c_reti F hr hlk I dX1_refusalOfGap_20 hw
abbrev rm_X1_refusalOfPair : Room := { frames := 2, cells := 0, slots := 0, locals := 42 }
def wp_X1_refusalOfPair (p0 : Int32) (p1 : Int32) (C : cS) (K : Int32 → cS → Prop) : Prop := wp_X1_refusalOfReel (p0) C (fun r1 C2 => wp_X1_refusalOfReel (p1) C2 (fun r3 C4 => ((r1 = (6 : Int32) → K ((6 : Int32)) C4) ∧ (¬ r1 = (6 : Int32) → ((¬ r3 = (6 : Int32) → ((r1 = (1 : Int32) → K ((1 : Int32)) C4) ∧ (¬ r1 = (1 : Int32) → ((¬ r3 = (1 : Int32) → ((r1 = (2 : Int32) → K ((2 : Int32)) C4) ∧ (¬ r1 = (2 : Int32) → ((¬ r3 = (2 : Int32) → (vp_in (p0) 8 ∧ ((((C4).sp (p0).toNatClampNeg) = none → False) ∧ (∀ y12, ((C4).sp (p0).toNatClampNeg) = some y12 → ((C4).ld (y12) ∧ (vp_in (p1) 8 ∧ ((((C4).sp (p1).toNatClampNeg) = none → False) ∧ (∀ y15, ((C4).sp (p1).toNatClampNeg) = some y15 → ((C4).ld (y15) ∧ ((((C4).so (y12)) = ((C4).so (y15)) → K ((0 : Int32)) C4) ∧ (¬ ((C4).so (y12)) = ((C4).so (y15)) → wp_X1_isOfNumbers (((C4).so (y12))) (fun r19 => ((¬ r19 = 0 → K ((3 : Int32)) C4) ∧ (r19 = 0 → wp_X1_isOfNumbers (((C4).so (y15))) (fun r22 => ((r22 = 0 → K ((0 : Int32)) C4) ∧ (¬ r22 = 0 → K ((3 : Int32)) C4))))))))))))))))) ∧ (r3 = (2 : Int32) → K ((2 : Int32)) C4))))) ∧ (r3 = (1 : Int32) → K ((1 : Int32)) C4))))) ∧ (r3 = (6 : Int32) → K ((6 : Int32)) C4))))))
set_option maxHeartbeats 4000000 in
set_option maxRecDepth 100000 in
theorem c_X1_refusalOfPair {l : Launch} {D : va_G} {cI cJ cO : ClassId} {h : Nat → Nat} (p0 : Int32) (p1 : Int32) (C : cS) (K : Int32 → cS → Prop) (hw : wp_X1_refusalOfPair p0 p1 C K) : cMi l D cI cJ cO h yX1_refusalOfPair wsX1_refusalOfPair rm_X1_refusalOfPair 0 0 [.ref (h 0), .int (p0), .int (p1)] K C := by
  refine c_starti (rt := some .int) (R0 := RX1) (by decide) rfl rfl (Nat.le_of_ble_eq_true rfl) ?_
  intro p e s m below meth c A ls F hr hlk I hl hini
  have hin : ∀ w ∈ u_ws RX1 TX1 14, w ∈ wsX1_refusalOfPair := by decide +kernel
  have hin0 : ∀ w ∈ u_ws RX0 TX0 3, w ∈ wsX1_refusalOfPair := by decide +kernel
  obtain ⟨hx, hb, hml, hown, hts⟩ := id F
  have hl : lv_has ls 8 [(0, .ref (h 0)), (1, .int (p0)), (2, .int (p1))] := hl
  unfold wp_X1_refusalOfPair at hw
  refine lv_aload_n hx hb dX1_refusalOfPair_0 rfl (lv_at hl 0 rfl) ?_
  refine lv_iload_n hx hb dX1_refusalOfPair_1 rfl (lv_at hl 1 rfl) ?_
  refine c_calli (rest := []) F I (c_X1_refusalOfReel (p0) _ _ hw) (cwV 1 hts gX1_refusalOfPair_X1_refusalOfReel rfl rfl rfl (by decide +kernel) ⟨Nat.le_of_ble_eq_true rfl, Nat.le_of_ble_eq_true rfl⟩) rfl hl.1 rfl (Nat.le_of_ble_eq_true rfl) dX1_refusalOfPair_2 ⟨Nat.zero_le _, Nat.zero_le _⟩ (fun r1 C2 H locs hw I => ?_)
  refine lv_istore_n (lv' := [(3, .int (r1)), (0, .ref (h 0)), (1, .int (p0)), (2, .int (p1))]) hx hb dX1_refusalOfPair_5 rfl hl (by decide) rfl (fun ls hl => ?_)
  refine lv_aload_n hx hb dX1_refusalOfPair_6 rfl (lv_at hl 1 rfl) ?_
  refine lv_iload_n hx hb dX1_refusalOfPair_7 rfl (lv_at hl 3 rfl) ?_
  refine c_calli (rest := []) F I (c_X1_refusalOfReel (p1) _ _ hw) (cwV 1 hts gX1_refusalOfPair_X1_refusalOfReel rfl rfl rfl (by decide +kernel) ⟨Nat.le_of_ble_eq_true rfl, Nat.le_of_ble_eq_true rfl⟩) rfl hl.1 rfl (Nat.le_of_ble_eq_true rfl) dX1_refusalOfPair_8 ⟨Nat.zero_le _, Nat.zero_le _⟩ (fun r3 C4 H locs hw I => ?_)
  refine lv_istore (lv' := [(4, .int (r3)), (3, .int (r1)), (0, .ref (h 0)), (1, .int (p0)), (2, .int (p1))]) hx hb dX1_refusalOfPair_11 hl (by decide) rfl (fun ls hl => ?_)
  refine lv_iload_n hx hb dX1_refusalOfPair_13 rfl (lv_at hl 1 rfl) ?_
  refine lv_bipush (v := (6 : Int32)) hx hb dX1_refusalOfPair_14 (by decide) ?_
  refine lv_icmp_eq (tgt := 26) hx hb dX1_refusalOfPair_16 (by decide) (fun c_5 => ?_) (fun c_5 => ?_)
  · have hw := hw.1 c_5
    refine lv_bipush (v := (6 : Int32)) hx hb dX1_refusalOfPair_26 (by decide) ?_
    exact c_reti F hr hlk I dX1_refusalOfPair_28 hw
  · have hw := hw.2 c_5
    refine lv_iload hx hb dX1_refusalOfPair_19 (lv_at hl 0 rfl) ?_
    refine lv_bipush (v := (6 : Int32)) hx hb dX1_refusalOfPair_21 (by decide) ?_
    refine lv_icmp_ne (tgt := 29) hx hb dX1_refusalOfPair_23 (by decide) (fun c_6 => ?_) (fun c_6 => ?_)
    · have hw := hw.1 c_6
      refine lv_iload_n hx hb dX1_refusalOfPair_29 rfl (lv_at hl 1 rfl) ?_
      refine lv_iconst (v := (1 : Int32)) hx hb dX1_refusalOfPair_30 (by decide) ?_
      refine lv_icmp_eq (tgt := 40) hx hb dX1_refusalOfPair_31 (by decide) (fun c_7 => ?_) (fun c_7 => ?_)
      · have hw := hw.1 c_7
        refine lv_iconst (v := (1 : Int32)) hx hb dX1_refusalOfPair_40 (by decide) ?_
        exact c_reti F hr hlk I dX1_refusalOfPair_41 hw
      · have hw := hw.2 c_7
        refine lv_iload hx hb dX1_refusalOfPair_34 (lv_at hl 0 rfl) ?_
        refine lv_iconst (v := (1 : Int32)) hx hb dX1_refusalOfPair_36 (by decide) ?_
        refine lv_icmp_ne (tgt := 42) hx hb dX1_refusalOfPair_37 (by decide) (fun c_8 => ?_) (fun c_8 => ?_)
        · have hw := hw.1 c_8
          refine lv_iload_n hx hb dX1_refusalOfPair_42 rfl (lv_at hl 1 rfl) ?_
          refine lv_iconst (v := (2 : Int32)) hx hb dX1_refusalOfPair_43 (by decide) ?_
          refine lv_icmp_eq (tgt := 53) hx hb dX1_refusalOfPair_44 (by decide) (fun c_9 => ?_) (fun c_9 => ?_)
          · have hw := hw.1 c_9
            refine lv_iconst (v := (2 : Int32)) hx hb dX1_refusalOfPair_53 (by decide) ?_
            exact c_reti F hr hlk I dX1_refusalOfPair_54 hw
          · have hw := hw.2 c_9
            refine lv_iload hx hb dX1_refusalOfPair_47 (lv_at hl 0 rfl) ?_
            refine lv_iconst (v := (2 : Int32)) hx hb dX1_refusalOfPair_49 (by decide) ?_
            refine lv_icmp_ne (tgt := 55) hx hb dX1_refusalOfPair_50 (by decide) (fun c_10 => ?_) (fun c_10 => ?_)
            · have hw := hw.1 c_10
              refine lv_aload_n hx hb dX1_refusalOfPair_55 rfl (lv_at hl 2 rfl) ?_
              refine c_get F hin I 0 (by decide) (v := .ref (h 1)) rfl (hts (.fieldLink RX1 11 "CuttingTable" "spindles" "[LCuttingTable$Load;") (by decide +kernel)) dX1_refusalOfPair_56 ?_
              refine lv_iload_n hx hb dX1_refusalOfPair_59 rfl (lv_at hl 3 rfl) ?_
              obtain ⟨hi11, hw⟩ := hw
              refine c_aald F I hi11 dX1_refusalOfPair_60 ?_
              rcases e13 : ((C4).sp (p0).toNatClampNeg) with _ | y12
              · have hw := hw.1 e13
                exact hw.elim
              · have hw := hw.2 y12 e13
                obtain ⟨hld, hw⟩ := hw
                refine c_lget F hin0 I hld 0 (by decide) (v := .int (((C4).so (y12)))) rfl (hts (.fieldLink RX1 42 "CuttingTable$Load" "sort" "I") (by decide +kernel)) dX1_refusalOfPair_61 ?_
                refine lv_istore (lv' := [(5, .int (((C4).so (y12)))), (4, .int (r3)), (3, .int (r1)), (0, .ref (h 0)), (1, .int (p0)), (2, .int (p1))]) hx hb dX1_refusalOfPair_64 hl (by decide) rfl (fun ls hl => ?_)
                refine lv_aload_n hx hb dX1_refusalOfPair_66 rfl (lv_at hl 3 rfl) ?_
                refine c_get F hin I 0 (by decide) (v := .ref (h 1)) rfl (hts (.fieldLink RX1 11 "CuttingTable" "spindles" "[LCuttingTable$Load;") (by decide +kernel)) dX1_refusalOfPair_67 ?_
                refine lv_iload_n hx hb dX1_refusalOfPair_70 rfl (lv_at hl 5 rfl) ?_
                obtain ⟨hi14, hw⟩ := hw
                refine c_aald F I hi14 dX1_refusalOfPair_71 ?_
                rcases e16 : ((C4).sp (p1).toNatClampNeg) with _ | y15
                · have hw := hw.1 e16
                  exact hw.elim
                · have hw := hw.2 y15 e16
                  obtain ⟨hld, hw⟩ := hw
                  refine c_lget F hin0 I hld 0 (by decide) (v := .int (((C4).so (y15)))) rfl (hts (.fieldLink RX1 42 "CuttingTable$Load" "sort" "I") (by decide +kernel)) dX1_refusalOfPair_72 ?_
                  refine lv_istore (lv' := [(6, .int (((C4).so (y15)))), (5, .int (((C4).so (y12)))), (4, .int (r3)), (3, .int (r1)), (0, .ref (h 0)), (1, .int (p0)), (2, .int (p1))]) hx hb dX1_refusalOfPair_75 hl (by decide) rfl (fun ls hl => ?_)
                  refine lv_iload hx hb dX1_refusalOfPair_77 (lv_at hl 1 rfl) ?_
                  refine lv_iload hx hb dX1_refusalOfPair_79 (lv_at hl 0 rfl) ?_
                  refine lv_icmp_eq (tgt := 104) hx hb dX1_refusalOfPair_81 (by decide) (fun c_17 => ?_) (fun c_17 => ?_)
                  · have hw := hw.1 c_17
                    refine lv_iconst (v := (0 : Int32)) hx hb dX1_refusalOfPair_104 (by decide) ?_
                    refine lv_istore (lv' := [(7, .int ((0 : Int32))), (6, .int (((C4).so (y15)))), (5, .int (((C4).so (y12)))), (4, .int (r3)), (3, .int (r1)), (0, .ref (h 0)), (1, .int (p0)), (2, .int (p1))]) hx hb dX1_refusalOfPair_105 hl (by decide) rfl (fun ls hl => ?_)
                    refine lv_iload hx hb dX1_refusalOfPair_107 (lv_at hl 0 rfl) ?_
                    refine lv_if_eq (tgt := 116) hx hb dX1_refusalOfPair_109 (by decide) (fun c_18 => ?_) (fun c_18 => ?_)
                    · refine lv_iconst (v := (0 : Int32)) hx hb dX1_refusalOfPair_116 (by decide) ?_
                      exact c_reti F hr hlk I dX1_refusalOfPair_117 hw
                    · exact absurd (by decide) c_18
                  · have hw := hw.2 c_17
                    refine lv_iload hx hb dX1_refusalOfPair_84 (lv_at hl 1 rfl) ?_
                    refine s_calli (rest := []) F (c_X1_isOfNumbers (((C4).so (y12))) _ hw) (va_cwS 1 hts gX1_refusalOfPair_X1_isOfNumbers rfl rfl rfl (by decide +kernel) ⟨Nat.le_of_ble_eq_true rfl, Nat.le_of_ble_eq_true rfl⟩) rfl hl.1 rfl (Nat.le_of_ble_eq_true rfl) dX1_refusalOfPair_86 ⟨Nat.zero_le _, Nat.zero_le _⟩ (fun r19 hw => ?_)
                    refine lv_if_ne (tgt := 100) hx hb dX1_refusalOfPair_89 (by decide) (fun c_20 => ?_) (fun c_20 => ?_)
                    · have hw := hw.1 c_20
                      refine lv_iconst (v := (1 : Int32)) hx hb dX1_refusalOfPair_100 (by decide) ?_
                      refine lv_goto (tgt := 105) hx hb dX1_refusalOfPair_101 (by decide) ?_
                      refine lv_istore (lv' := [(7, .int ((1 : Int32))), (6, .int (((C4).so (y15)))), (5, .int (((C4).so (y12)))), (4, .int (r3)), (3, .int (r1)), (0, .ref (h 0)), (1, .int (p0)), (2, .int (p1))]) hx hb dX1_refusalOfPair_105 hl (by decide) rfl (fun ls hl => ?_)
                      refine lv_iload hx hb dX1_refusalOfPair_107 (lv_at hl 0 rfl) ?_
                      refine lv_if_eq (tgt := 116) hx hb dX1_refusalOfPair_109 (by decide) (fun c_21 => ?_) (fun c_21 => ?_)
                      · exact absurd c_21 (by decide)
                      · refine lv_iconst (v := (3 : Int32)) hx hb dX1_refusalOfPair_112 (by decide) ?_
                        refine lv_goto (tgt := 117) hx hb dX1_refusalOfPair_113 (by decide) ?_
                        exact c_reti F hr hlk I dX1_refusalOfPair_117 hw
                    · have hw := hw.2 c_20
                      refine lv_iload hx hb dX1_refusalOfPair_92 (lv_at hl 0 rfl) ?_
                      refine s_calli (rest := []) F (c_X1_isOfNumbers (((C4).so (y15))) _ hw) (va_cwS 1 hts gX1_refusalOfPair_X1_isOfNumbers rfl rfl rfl (by decide +kernel) ⟨Nat.le_of_ble_eq_true rfl, Nat.le_of_ble_eq_true rfl⟩) rfl hl.1 rfl (Nat.le_of_ble_eq_true rfl) dX1_refusalOfPair_94 ⟨Nat.zero_le _, Nat.zero_le _⟩ (fun r22 hw => ?_)
                      refine lv_if_eq (tgt := 104) hx hb dX1_refusalOfPair_97 (by decide) (fun c_23 => ?_) (fun c_23 => ?_)
                      · have hw := hw.1 c_23
                        refine lv_iconst (v := (0 : Int32)) hx hb dX1_refusalOfPair_104 (by decide) ?_
                        refine lv_istore (lv' := [(7, .int ((0 : Int32))), (6, .int (((C4).so (y15)))), (5, .int (((C4).so (y12)))), (4, .int (r3)), (3, .int (r1)), (0, .ref (h 0)), (1, .int (p0)), (2, .int (p1))]) hx hb dX1_refusalOfPair_105 hl (by decide) rfl (fun ls hl => ?_)
                        refine lv_iload hx hb dX1_refusalOfPair_107 (lv_at hl 0 rfl) ?_
                        refine lv_if_eq (tgt := 116) hx hb dX1_refusalOfPair_109 (by decide) (fun c_24 => ?_) (fun c_24 => ?_)
                        · refine lv_iconst (v := (0 : Int32)) hx hb dX1_refusalOfPair_116 (by decide) ?_
                          exact c_reti F hr hlk I dX1_refusalOfPair_117 hw
                        · exact absurd (by decide) c_24
                      · have hw := hw.2 c_23
                        refine lv_iconst (v := (1 : Int32)) hx hb dX1_refusalOfPair_100 (by decide) ?_
                        refine lv_goto (tgt := 105) hx hb dX1_refusalOfPair_101 (by decide) ?_
                        refine lv_istore (lv' := [(7, .int ((1 : Int32))), (6, .int (((C4).so (y15)))), (5, .int (((C4).so (y12)))), (4, .int (r3)), (3, .int (r1)), (0, .ref (h 0)), (1, .int (p0)), (2, .int (p1))]) hx hb dX1_refusalOfPair_105 hl (by decide) rfl (fun ls hl => ?_)
                        refine lv_iload hx hb dX1_refusalOfPair_107 (lv_at hl 0 rfl) ?_
                        refine lv_if_eq (tgt := 116) hx hb dX1_refusalOfPair_109 (by decide) (fun c_25 => ?_) (fun c_25 => ?_)
                        · exact absurd c_25 (by decide)
                        · refine lv_iconst (v := (3 : Int32)) hx hb dX1_refusalOfPair_112 (by decide) ?_
                          refine lv_goto (tgt := 117) hx hb dX1_refusalOfPair_113 (by decide) ?_
                          exact c_reti F hr hlk I dX1_refusalOfPair_117 hw
            · have hw := hw.2 c_10
              refine lv_iconst (v := (2 : Int32)) hx hb dX1_refusalOfPair_53 (by decide) ?_
              exact c_reti F hr hlk I dX1_refusalOfPair_54 hw
        · have hw := hw.2 c_8
          refine lv_iconst (v := (1 : Int32)) hx hb dX1_refusalOfPair_40 (by decide) ?_
          exact c_reti F hr hlk I dX1_refusalOfPair_41 hw
    · have hw := hw.2 c_6
      refine lv_bipush (v := (6 : Int32)) hx hb dX1_refusalOfPair_26 (by decide) ?_
      exact c_reti F hr hlk I dX1_refusalOfPair_28 hw
abbrev rm_X1_doSplice : Room := { frames := 3, cells := 0, slots := 0, locals := 69 }
def wp_X1_doSplice (p0 : Int32) (p1 : Int32) (p2 : Int32) (p3 : Int64) (p4 : Int32) (C : cS) (K : Int32 → cS → Prop) : Prop := wp_X1_refusalOfPair (p0) (p2) C (fun r1 C2 => ((r1 = 0 → (vp_in (p0) 8 ∧ ((((C2).sp (p0).toNatClampNeg) = none → (vp_in (p2) 8 ∧ ((((C2).sp (p2).toNatClampNeg) = none → False) ∧ (∀ y8, ((C2).sp (p2).toNatClampNeg) = some y8 → False)))) ∧ (∀ y5, ((C2).sp (p0).toNatClampNeg) = some y5 → (vp_in (p2) 8 ∧ ((((C2).sp (p2).toNatClampNeg) = none → ((C2).ld (y5) ∧ ∃ b13, (C2).fr (y5) = some b13 ∧ ((C2).aw (b13) ∧ False))) ∧ (∀ y11, ((C2).sp (p2).toNatClampNeg) = some y11 → ((C2).ld (y5) ∧ ∃ b15, (C2).fr (y5) = some b15 ∧ ((C2).aw (b15) ∧ ((C2).ld (y11) ∧ ∃ b17, (C2).fr (y11) = some b17 ∧ ((C2).aw (b17) ∧ wp_X1_wayOut (p1) (p3) (p4) ((nI ((C2).ln (b15)))) ((nI ((C2).ln (b17)))) (fun r19 => ((r19 = 0 → ((C2).ld (y5) ∧ ∃ b21, (C2).fr (y5) = some b21 ∧ ((C2).ld (y11) ∧ wp_X1_borneAhead (b21) (p1) (p4) (((C2).so (y11))) C2 (fun r23 C24 => ((r23 ≤ 0 → ((p4 ≤ r23 → wp_X1_settle ((0 : Int32)) ((0 : Int32)) ((0 : Int32)) (C24.si 11 (((C24.fi 11) + (1 : Int32)))) (fun r27 C28 => K (r27) C28)) ∧ (¬ p4 ≤ r23 → wp_X1_settle ((5 : Int32)) ((0 : Int32)) (r23) C24 (fun r29 C30 => K (r29) C30)))) ∧ (¬ r23 ≤ 0 → wp_X1_fillBin (y11) ((p3).toInt32) (r23) C24 (fun C32 => ((C32).ld (y5) ∧ ∃ b33, (C32).fr (y5) = some b33 ∧ ((C32).ld (y11) ∧ ∃ b35, (C32).fr (y11) = some b35 ∧ ((C32).aw (b33) ∧ (C32).aw (b35) ∧ ¬ p1 < 0 ∧ ¬ (p3).toInt32 < 0 ∧ ¬ r23 < 0 ∧ (p1).toNatClampNeg + (r23).toNatClampNeg ≤ ((C32).ln (b33)) ∧ ((p3).toInt32).toNatClampNeg + (r23).toNatClampNeg ≤ ((C32).ln (b35)) ∧ ((p4 ≤ r23 → wp_X1_settle ((0 : Int32)) ((0 : Int32)) ((0 : Int32)) (((C32.cpp (b33) (b35) (p1).toNatClampNeg ((p3).toInt32).toNatClampNeg (r23).toNatClampNeg).si 12 (((C32.fi 12) + r23))).si 11 (((C32.fi 11) + (1 : Int32)))) (fun r38 C39 => K (r38) C39)) ∧ (¬ p4 ≤ r23 → wp_X1_settle ((5 : Int32)) ((0 : Int32)) (r23) ((C32.cpp (b33) (b35) (p1).toNatClampNeg ((p3).toInt32).toNatClampNeg (r23).toNatClampNeg).si 12 (((C32.fi 12) + r23))) (fun r40 C41 => K (r40) C41))))))))))))) ∧ (¬ r19 = 0 → wp_X1_settle ((4 : Int32)) (r19) ((0 : Int32)) C2 (fun r42 C43 => K (r42) C43))))))))))))))) ∧ (¬ r1 = 0 → wp_X1_settle (r1) ((0 : Int32)) ((0 : Int32)) C2 (fun r44 C45 => K (r44) C45))))
set_option maxHeartbeats 4000000 in
set_option maxRecDepth 100000 in
theorem c_X1_doSplice {l : Launch} {D : va_G} {cI cJ cO : ClassId} {h : Nat → Nat} (p0 : Int32) (p1 : Int32) (p2 : Int32) (p3 : Int64) (p4 : Int32) (C : cS) (K : Int32 → cS → Prop) (hw : wp_X1_doSplice p0 p1 p2 p3 p4 C K) : cMi l D cI cJ cO h yX1_doSplice wsX1_doSplice rm_X1_doSplice 0 0 [.ref (h 0), .int (p0), .int (p1), .int (p2), .long (p3), .int (p4)] K C := by
  refine c_starti (rt := some .int) (R0 := RX1) (by decide) rfl rfl (Nat.le_of_ble_eq_true rfl) ?_
  intro p e s m below meth c A ls F hr hlk I hl hini
  have hin : ∀ w ∈ u_ws RX1 TX1 14, w ∈ wsX1_doSplice := by decide +kernel
  have hin0 : ∀ w ∈ u_ws RX0 TX0 3, w ∈ wsX1_doSplice := by decide +kernel
  obtain ⟨hx, hb, hml, hown, hts⟩ := id F
  have hl : lv_has ls 12 [(0, .ref (h 0)), (1, .int (p0)), (2, .int (p1)), (3, .int (p2)), (4, .long (p3)), (6, .int (p4))] := hl
  unfold wp_X1_doSplice at hw
  refine lv_aload_n hx hb dX1_doSplice_0 rfl (lv_at hl 0 rfl) ?_
  refine lv_iload_n hx hb dX1_doSplice_1 rfl (lv_at hl 1 rfl) ?_
  refine lv_iload_n hx hb dX1_doSplice_2 rfl (lv_at hl 3 rfl) ?_
  refine c_calli (rest := []) F I (c_X1_refusalOfPair (p0) (p2) _ _ hw) (cwV 2 hts gX1_doSplice_X1_refusalOfPair rfl rfl rfl (by decide +kernel) ⟨Nat.le_of_ble_eq_true rfl, Nat.le_of_ble_eq_true rfl⟩) rfl hl.1 rfl (Nat.le_of_ble_eq_true rfl) dX1_doSplice_3 ⟨Nat.zero_le _, Nat.zero_le _⟩ (fun r1 C2 H locs hw I => ?_)
  refine lv_istore (lv' := [(7, .int (r1)), (0, .ref (h 0)), (1, .int (p0)), (2, .int (p1)), (3, .int (p2)), (4, .long (p3)), (6, .int (p4))]) hx hb dX1_doSplice_6 hl (by decide) rfl (fun ls hl => ?_)
  refine lv_iload hx hb dX1_doSplice_8 (lv_at hl 0 rfl) ?_
  refine lv_if_eq (tgt := 22) hx hb dX1_doSplice_10 (by decide) (fun c_3 => ?_) (fun c_3 => ?_)
  · have hw := hw.1 c_3
    refine lv_aload_n hx hb dX1_doSplice_22 rfl (lv_at hl 1 rfl) ?_
    refine c_get F hin I 0 (by decide) (v := .ref (h 1)) rfl (hts (.fieldLink RX1 11 "CuttingTable" "spindles" "[LCuttingTable$Load;") (by decide +kernel)) dX1_doSplice_23 ?_
    refine lv_iload_n hx hb dX1_doSplice_26 rfl (lv_at hl 2 rfl) ?_
    obtain ⟨hi4, hw⟩ := hw
    refine c_aald F I hi4 dX1_doSplice_27 ?_
    rcases e6 : ((C2).sp (p0).toNatClampNeg) with _ | y5
    · have hw := hw.1 e6
      refine lv_astoreN (lv' := [(8, .null), (7, .int (r1)), (0, .ref (h 0)), (1, .int (p0)), (2, .int (p1)), (3, .int (p2)), (4, .long (p3)), (6, .int (p4))]) hx hb dX1_doSplice_28 hl (by decide) rfl (fun ls hl => ?_)
      refine lv_aload_n hx hb dX1_doSplice_30 rfl (lv_at hl 2 rfl) ?_
      refine c_get F hin I 0 (by decide) (v := .ref (h 1)) rfl (hts (.fieldLink RX1 11 "CuttingTable" "spindles" "[LCuttingTable$Load;") (by decide +kernel)) dX1_doSplice_31 ?_
      refine lv_iload_n hx hb dX1_doSplice_34 rfl (lv_at hl 5 rfl) ?_
      obtain ⟨hi7, hw⟩ := hw
      refine c_aald F I hi7 dX1_doSplice_35 ?_
      rcases e9 : ((C2).sp (p2).toNatClampNeg) with _ | y8
      · have hw := hw.1 e9
        refine lv_astoreN (lv' := [(9, .null), (8, .null), (7, .int (r1)), (0, .ref (h 0)), (1, .int (p0)), (2, .int (p1)), (3, .int (p2)), (4, .long (p3)), (6, .int (p4))]) hx hb dX1_doSplice_36 hl (by decide) rfl (fun ls hl => ?_)
        refine lv_iload_n hx hb dX1_doSplice_38 rfl (lv_at hl 5 rfl) ?_
        refine lv_lload hx hb dX1_doSplice_39 (lv_at hl 7 rfl) ?_
        refine lv_iload hx hb dX1_doSplice_41 (lv_at hl 8 rfl) ?_
        refine lv_aloadN hx hb dX1_doSplice_43 (lv_at hl 1 rfl) ?_
        exact hw.elim
      · have hw := hw.2 y8 e9
        refine lv_astore (lv' := [(9, .ref (y8)), (8, .null), (7, .int (r1)), (0, .ref (h 0)), (1, .int (p0)), (2, .int (p1)), (3, .int (p2)), (4, .long (p3)), (6, .int (p4))]) hx hb dX1_doSplice_36 hl (by decide) rfl (fun ls hl => ?_)
        refine lv_iload_n hx hb dX1_doSplice_38 rfl (lv_at hl 5 rfl) ?_
        refine lv_lload hx hb dX1_doSplice_39 (lv_at hl 7 rfl) ?_
        refine lv_iload hx hb dX1_doSplice_41 (lv_at hl 8 rfl) ?_
        refine lv_aloadN hx hb dX1_doSplice_43 (lv_at hl 1 rfl) ?_
        exact hw.elim
    · have hw := hw.2 y5 e6
      refine lv_astore (lv' := [(8, .ref (y5)), (7, .int (r1)), (0, .ref (h 0)), (1, .int (p0)), (2, .int (p1)), (3, .int (p2)), (4, .long (p3)), (6, .int (p4))]) hx hb dX1_doSplice_28 hl (by decide) rfl (fun ls hl => ?_)
      refine lv_aload_n hx hb dX1_doSplice_30 rfl (lv_at hl 2 rfl) ?_
      refine c_get F hin I 0 (by decide) (v := .ref (h 1)) rfl (hts (.fieldLink RX1 11 "CuttingTable" "spindles" "[LCuttingTable$Load;") (by decide +kernel)) dX1_doSplice_31 ?_
      refine lv_iload_n hx hb dX1_doSplice_34 rfl (lv_at hl 5 rfl) ?_
      obtain ⟨hi10, hw⟩ := hw
      refine c_aald F I hi10 dX1_doSplice_35 ?_
      rcases e12 : ((C2).sp (p2).toNatClampNeg) with _ | y11
      · have hw := hw.1 e12
        refine lv_astoreN (lv' := [(9, .null), (8, .ref (y5)), (7, .int (r1)), (0, .ref (h 0)), (1, .int (p0)), (2, .int (p1)), (3, .int (p2)), (4, .long (p3)), (6, .int (p4))]) hx hb dX1_doSplice_36 hl (by decide) rfl (fun ls hl => ?_)
        refine lv_iload_n hx hb dX1_doSplice_38 rfl (lv_at hl 5 rfl) ?_
        refine lv_lload hx hb dX1_doSplice_39 (lv_at hl 7 rfl) ?_
        refine lv_iload hx hb dX1_doSplice_41 (lv_at hl 8 rfl) ?_
        refine lv_aload hx hb dX1_doSplice_43 (lv_at hl 1 rfl) ?_
        obtain ⟨hld, b13, e14, hw⟩ := hw
        refine c_lget F hin0 I hld 2 (by decide) (v := .ref b13) (by rw [← show va_rf ((C2).fr (y5)) = .ref b13 from by rw [e14]; rfl]; rfl) (hts (.fieldLink RX1 48 "CuttingTable$Load" "frames" "[J") (by decide +kernel)) dX1_doSplice_45 ?_
        obtain ⟨haw, hw⟩ := hw
        refine c_alen F I haw dX1_doSplice_48 ?_
        refine lv_aloadN hx hb dX1_doSplice_49 (lv_at hl 0 rfl) ?_
        exact hw.elim
      · have hw := hw.2 y11 e12
        refine lv_astore (lv' := [(9, .ref (y11)), (8, .ref (y5)), (7, .int (r1)), (0, .ref (h 0)), (1, .int (p0)), (2, .int (p1)), (3, .int (p2)), (4, .long (p3)), (6, .int (p4))]) hx hb dX1_doSplice_36 hl (by decide) rfl (fun ls hl => ?_)
        refine lv_iload_n hx hb dX1_doSplice_38 rfl (lv_at hl 5 rfl) ?_
        refine lv_lload hx hb dX1_doSplice_39 (lv_at hl 7 rfl) ?_
        refine lv_iload hx hb dX1_doSplice_41 (lv_at hl 8 rfl) ?_
        refine lv_aload hx hb dX1_doSplice_43 (lv_at hl 1 rfl) ?_
        obtain ⟨hld, b15, e16, hw⟩ := hw
        refine c_lget F hin0 I hld 2 (by decide) (v := .ref b15) (by rw [← show va_rf ((C2).fr (y5)) = .ref b15 from by rw [e16]; rfl]; rfl) (hts (.fieldLink RX1 48 "CuttingTable$Load" "frames" "[J") (by decide +kernel)) dX1_doSplice_45 ?_
        obtain ⟨haw, hw⟩ := hw
        refine c_alen F I haw dX1_doSplice_48 ?_
        refine lv_aload hx hb dX1_doSplice_49 (lv_at hl 0 rfl) ?_
        obtain ⟨hld, b17, e18, hw⟩ := hw
        refine c_lget F hin0 I hld 2 (by decide) (v := .ref b17) (by rw [← show va_rf ((C2).fr (y11)) = .ref b17 from by rw [e18]; rfl]; rfl) (hts (.fieldLink RX1 48 "CuttingTable$Load" "frames" "[J") (by decide +kernel)) dX1_doSplice_51 ?_
        obtain ⟨haw, hw⟩ := hw
        refine c_alen F I haw dX1_doSplice_54 ?_
        refine s_calli (rest := []) F (c_X1_wayOut (p1) (p3) (p4) ((nI ((C2).ln (b15)))) ((nI ((C2).ln (b17)))) _ hw) (va_cwS 5 hts gX1_doSplice_X1_wayOut rfl rfl rfl (by decide +kernel) ⟨Nat.le_of_ble_eq_true rfl, Nat.le_of_ble_eq_true rfl⟩) rfl hl.1 rfl (Nat.le_of_ble_eq_true rfl) dX1_doSplice_55 ⟨Nat.zero_le _, Nat.zero_le _⟩ (fun r19 hw => ?_)
        refine lv_istore (lv' := [(10, .int (r19)), (9, .ref (y11)), (8, .ref (y5)), (7, .int (r1)), (0, .ref (h 0)), (1, .int (p0)), (2, .int (p1)), (3, .int (p2)), (4, .long (p3)), (6, .int (p4))]) hx hb dX1_doSplice_58 hl (by decide) rfl (fun ls hl => ?_)
        refine lv_iload hx hb dX1_doSplice_60 (lv_at hl 0 rfl) ?_
        refine lv_if_eq (tgt := 74) hx hb dX1_doSplice_62 (by decide) (fun c_20 => ?_) (fun c_20 => ?_)
        · have hw := hw.1 c_20
          refine lv_aload hx hb dX1_doSplice_74 (lv_at hl 2 rfl) ?_
          obtain ⟨hld, b21, e22, hw⟩ := hw
          refine c_lget F hin0 I hld 2 (by decide) (v := .ref b21) (by rw [← show va_rf ((C2).fr (y5)) = .ref b21 from by rw [e22]; rfl]; rfl) (hts (.fieldLink RX1 48 "CuttingTable$Load" "frames" "[J") (by decide +kernel)) dX1_doSplice_76 ?_
          refine lv_iload_n hx hb dX1_doSplice_79 rfl (lv_at hl 6 rfl) ?_
          refine lv_iload hx hb dX1_doSplice_80 (lv_at hl 9 rfl) ?_
          refine lv_aload hx hb dX1_doSplice_82 (lv_at hl 1 rfl) ?_
          obtain ⟨hld, hw⟩ := hw
          refine c_lget F hin0 I hld 0 (by decide) (v := .int (((C2).so (y11)))) rfl (hts (.fieldLink RX1 42 "CuttingTable$Load" "sort" "I") (by decide +kernel)) dX1_doSplice_84 ?_
          refine c_callSi (rest := []) F I (c_X1_borneAhead (b21) (p1) (p4) (((C2).so (y11))) _ _ hw) (va_cwS 4 hts gX1_doSplice_X1_borneAhead rfl rfl rfl (by decide +kernel) ⟨Nat.le_of_ble_eq_true rfl, Nat.le_of_ble_eq_true rfl⟩) rfl hl.1 rfl (Nat.le_of_ble_eq_true rfl) dX1_doSplice_87 ⟨Nat.zero_le _, Nat.zero_le _⟩ (fun r23 C24 H locs hw I => ?_)
          refine lv_istore (lv' := [(11, .int (r23)), (10, .int (r19)), (9, .ref (y11)), (8, .ref (y5)), (7, .int (r1)), (0, .ref (h 0)), (1, .int (p0)), (2, .int (p1)), (3, .int (p2)), (4, .long (p3)), (6, .int (p4))]) hx hb dX1_doSplice_90 hl (by decide) rfl (fun ls hl => ?_)
          refine lv_iload hx hb dX1_doSplice_92 (lv_at hl 0 rfl) ?_
          refine lv_if_le (tgt := 138) hx hb dX1_doSplice_94 (by decide) (fun c_25 => ?_) (fun c_25 => ?_)
          · have hw := hw.1 c_25
            refine lv_iload hx hb dX1_doSplice_138 (lv_at hl 0 rfl) ?_
            refine lv_iload hx hb dX1_doSplice_140 (lv_at hl 10 rfl) ?_
            refine lv_icmp_ge (tgt := 154) hx hb dX1_doSplice_142 (by decide) (fun c_26 => ?_) (fun c_26 => ?_)
            · have hw := hw.1 c_26
              refine lv_aload_n hx hb dX1_doSplice_154 rfl (lv_at hl 5 rfl) ?_
              refine lv_dup hx hb dX1_doSplice_155 rfl ?_
              refine c_get F hin I 11 (by decide) (v := .int ((C24.fi 11))) rfl (hts (.fieldLink RX1 155 "CuttingTable" "splicesDone" "I") (by decide +kernel)) dX1_doSplice_156 ?_
              refine lv_iconst (v := (1 : Int32)) hx hb dX1_doSplice_159 (by decide) ?_
              refine lv_iadd hx hb dX1_doSplice_160 ?_
              refine c_put F hin I 11 (by decide) (hts (.fieldLink RX1 155 "CuttingTable" "splicesDone" "I") (by decide +kernel)) dX1_doSplice_161 (fun H locs I => ?_)
              refine lv_aload_n hx hb dX1_doSplice_164 rfl (lv_at hl 5 rfl) ?_
              refine lv_iconst (v := (0 : Int32)) hx hb dX1_doSplice_165 (by decide) ?_
              refine lv_iconst (v := (0 : Int32)) hx hb dX1_doSplice_166 (by decide) ?_
              refine lv_iconst (v := (0 : Int32)) hx hb dX1_doSplice_167 (by decide) ?_
              refine c_calli (rest := []) F I (c_X1_settle ((0 : Int32)) ((0 : Int32)) ((0 : Int32)) _ _ hw) (cwV 3 hts gX1_doSplice_X1_settle rfl rfl rfl (by decide +kernel) ⟨Nat.le_of_ble_eq_true rfl, Nat.le_of_ble_eq_true rfl⟩) rfl hl.1 rfl (Nat.le_of_ble_eq_true rfl) dX1_doSplice_168 ⟨Nat.zero_le _, Nat.zero_le _⟩ (fun r27 C28 H locs hw I => ?_)
              exact c_reti F hr hlk I dX1_doSplice_171 hw
            · have hw := hw.2 c_26
              refine lv_aload_n hx hb dX1_doSplice_145 rfl (lv_at hl 5 rfl) ?_
              refine lv_iconst (v := (5 : Int32)) hx hb dX1_doSplice_146 (by decide) ?_
              refine lv_iconst (v := (0 : Int32)) hx hb dX1_doSplice_147 (by decide) ?_
              refine lv_iload hx hb dX1_doSplice_148 (lv_at hl 0 rfl) ?_
              refine c_calli (rest := []) F I (c_X1_settle ((5 : Int32)) ((0 : Int32)) (r23) _ _ hw) (cwV 3 hts gX1_doSplice_X1_settle rfl rfl rfl (by decide +kernel) ⟨Nat.le_of_ble_eq_true rfl, Nat.le_of_ble_eq_true rfl⟩) rfl hl.1 rfl (Nat.le_of_ble_eq_true rfl) dX1_doSplice_150 ⟨Nat.zero_le _, Nat.zero_le _⟩ (fun r29 C30 H locs hw I => ?_)
              exact c_reti F hr hlk I dX1_doSplice_153 hw
          · have hw := hw.2 c_25
            refine lv_aload_n hx hb dX1_doSplice_97 rfl (lv_at hl 5 rfl) ?_
            refine lv_aload hx hb dX1_doSplice_98 (lv_at hl 2 rfl) ?_
            refine lv_lload hx hb dX1_doSplice_100 (lv_at hl 9 rfl) ?_
            refine lv_l2i hx hb dX1_doSplice_102 rfl ?_
            refine lv_iload hx hb dX1_doSplice_103 (lv_at hl 0 rfl) ?_
            refine c_callv (rest := []) F I (c_X1_fillBin (y11) ((p3).toInt32) (r23) _ _ hw) (cwV 3 hts gX1_doSplice_X1_fillBin rfl rfl rfl (by decide +kernel) ⟨Nat.le_of_ble_eq_true rfl, Nat.le_of_ble_eq_true rfl⟩) rfl hl.1 rfl (Nat.le_of_ble_eq_true rfl) dX1_doSplice_105 ⟨Nat.zero_le _, Nat.zero_le _⟩ (fun C32 H locs hw I => ?_)
            refine lv_aload hx hb dX1_doSplice_108 (lv_at hl 3 rfl) ?_
            obtain ⟨hld, b33, e34, hw⟩ := hw
            refine c_lget F hin0 I hld 2 (by decide) (v := .ref b33) (by rw [← show va_rf ((C32).fr (y5)) = .ref b33 from by rw [e34]; rfl]; rfl) (hts (.fieldLink RX1 48 "CuttingTable$Load" "frames" "[J") (by decide +kernel)) dX1_doSplice_110 ?_
            refine lv_iload_n hx hb dX1_doSplice_113 rfl (lv_at hl 7 rfl) ?_
            refine lv_aload hx hb dX1_doSplice_114 (lv_at hl 2 rfl) ?_
            obtain ⟨hld, b35, e36, hw⟩ := hw
            refine c_lget F hin0 I hld 2 (by decide) (v := .ref b35) (by rw [← show va_rf ((C32).fr (y11)) = .ref b35 from by rw [e36]; rfl]; rfl) (hts (.fieldLink RX1 48 "CuttingTable$Load" "frames" "[J") (by decide +kernel)) dX1_doSplice_116 ?_
            refine lv_lload hx hb dX1_doSplice_119 (lv_at hl 9 rfl) ?_
            refine lv_l2i hx hb dX1_doSplice_121 rfl ?_
            refine lv_iload hx hb dX1_doSplice_122 (lv_at hl 0 rfl) ?_
            obtain ⟨ha0, ha1, hn1, hn2, hn3, hn4, hn5, hw⟩ := hw
            refine c_cpyp (rest := []) F hl.1 I (hts (.methodLink RX1 82 arraycopyName) (by decide +kernel)) (hts (.native arraycopyName) (by decide +kernel)) (hts (.static arraycopyName) (by decide +kernel)) (hts (.initialized "java/lang/System") (by decide +kernel)) ha0 ha1 hn1 hn2 hn3 hn4 hn5 (Nat.le_of_ble_eq_true rfl) (Nat.le_of_ble_eq_true rfl) dX1_doSplice_124 (fun H locs I => ?_)
            refine lv_aload_n hx hb dX1_doSplice_127 rfl (lv_at hl 5 rfl) ?_
            refine lv_dup hx hb dX1_doSplice_128 rfl ?_
            refine c_get F hin I 12 (by decide) (v := .int ((C32.fi 12))) rfl (hts (.fieldLink RX1 158 "CuttingTable" "framesGone" "I") (by decide +kernel)) dX1_doSplice_129 ?_
            refine lv_iload hx hb dX1_doSplice_132 (lv_at hl 0 rfl) ?_
            refine lv_iadd hx hb dX1_doSplice_134 ?_
            refine c_put F hin I 12 (by decide) (hts (.fieldLink RX1 158 "CuttingTable" "framesGone" "I") (by decide +kernel)) dX1_doSplice_135 (fun H locs I => ?_)
            refine lv_iload hx hb dX1_doSplice_138 (lv_at hl 0 rfl) ?_
            refine lv_iload hx hb dX1_doSplice_140 (lv_at hl 10 rfl) ?_
            refine lv_icmp_ge (tgt := 154) hx hb dX1_doSplice_142 (by decide) (fun c_37 => ?_) (fun c_37 => ?_)
            · have hw := hw.1 c_37
              refine lv_aload_n hx hb dX1_doSplice_154 rfl (lv_at hl 5 rfl) ?_
              refine lv_dup hx hb dX1_doSplice_155 rfl ?_
              refine c_get F hin I 11 (by decide) (v := .int ((C32.fi 11))) rfl (hts (.fieldLink RX1 155 "CuttingTable" "splicesDone" "I") (by decide +kernel)) dX1_doSplice_156 ?_
              refine lv_iconst (v := (1 : Int32)) hx hb dX1_doSplice_159 (by decide) ?_
              refine lv_iadd hx hb dX1_doSplice_160 ?_
              refine c_put F hin I 11 (by decide) (hts (.fieldLink RX1 155 "CuttingTable" "splicesDone" "I") (by decide +kernel)) dX1_doSplice_161 (fun H locs I => ?_)
              refine lv_aload_n hx hb dX1_doSplice_164 rfl (lv_at hl 5 rfl) ?_
              refine lv_iconst (v := (0 : Int32)) hx hb dX1_doSplice_165 (by decide) ?_
              refine lv_iconst (v := (0 : Int32)) hx hb dX1_doSplice_166 (by decide) ?_
              refine lv_iconst (v := (0 : Int32)) hx hb dX1_doSplice_167 (by decide) ?_
              refine c_calli (rest := []) F I (c_X1_settle ((0 : Int32)) ((0 : Int32)) ((0 : Int32)) _ _ hw) (cwV 3 hts gX1_doSplice_X1_settle rfl rfl rfl (by decide +kernel) ⟨Nat.le_of_ble_eq_true rfl, Nat.le_of_ble_eq_true rfl⟩) rfl hl.1 rfl (Nat.le_of_ble_eq_true rfl) dX1_doSplice_168 ⟨Nat.zero_le _, Nat.zero_le _⟩ (fun r38 C39 H locs hw I => ?_)
              exact c_reti F hr hlk I dX1_doSplice_171 hw
            · have hw := hw.2 c_37
              refine lv_aload_n hx hb dX1_doSplice_145 rfl (lv_at hl 5 rfl) ?_
              refine lv_iconst (v := (5 : Int32)) hx hb dX1_doSplice_146 (by decide) ?_
              refine lv_iconst (v := (0 : Int32)) hx hb dX1_doSplice_147 (by decide) ?_
              refine lv_iload hx hb dX1_doSplice_148 (lv_at hl 0 rfl) ?_
              refine c_calli (rest := []) F I (c_X1_settle ((5 : Int32)) ((0 : Int32)) (r23) _ _ hw) (cwV 3 hts gX1_doSplice_X1_settle rfl rfl rfl (by decide +kernel) ⟨Nat.le_of_ble_eq_true rfl, Nat.le_of_ble_eq_true rfl⟩) rfl hl.1 rfl (Nat.le_of_ble_eq_true rfl) dX1_doSplice_150 ⟨Nat.zero_le _, Nat.zero_le _⟩ (fun r40 C41 H locs hw I => ?_)
              exact c_reti F hr hlk I dX1_doSplice_153 hw
        · have hw := hw.2 c_20
          refine lv_aload_n hx hb dX1_doSplice_65 rfl (lv_at hl 4 rfl) ?_
          refine lv_iconst (v := (4 : Int32)) hx hb dX1_doSplice_66 (by decide) ?_
          refine lv_iload hx hb dX1_doSplice_67 (lv_at hl 0 rfl) ?_
          refine lv_iconst (v := (0 : Int32)) hx hb dX1_doSplice_69 (by decide) ?_
          refine c_calli (rest := []) F I (c_X1_settle ((4 : Int32)) (r19) ((0 : Int32)) _ _ hw) (cwV 3 hts gX1_doSplice_X1_settle rfl rfl rfl (by decide +kernel) ⟨Nat.le_of_ble_eq_true rfl, Nat.le_of_ble_eq_true rfl⟩) rfl hl.1 rfl (Nat.le_of_ble_eq_true rfl) dX1_doSplice_70 ⟨Nat.zero_le _, Nat.zero_le _⟩ (fun r42 C43 H locs hw I => ?_)
          exact c_reti F hr hlk I dX1_doSplice_73 hw
  · have hw := hw.2 c_3
    refine lv_aload_n hx hb dX1_doSplice_13 rfl (lv_at hl 1 rfl) ?_
    refine lv_iload hx hb dX1_doSplice_14 (lv_at hl 0 rfl) ?_
    refine lv_iconst (v := (0 : Int32)) hx hb dX1_doSplice_16 (by decide) ?_
    refine lv_iconst (v := (0 : Int32)) hx hb dX1_doSplice_17 (by decide) ?_
    refine c_calli (rest := []) F I (c_X1_settle (r1) ((0 : Int32)) ((0 : Int32)) _ _ hw) (cwV 3 hts gX1_doSplice_X1_settle rfl rfl rfl (by decide +kernel) ⟨Nat.le_of_ble_eq_true rfl, Nat.le_of_ble_eq_true rfl⟩) rfl hl.1 rfl (Nat.le_of_ble_eq_true rfl) dX1_doSplice_18 ⟨Nat.zero_le _, Nat.zero_le _⟩ (fun r44 C45 H locs hw I => ?_)
    exact c_reti F hr hlk I dX1_doSplice_21 hw
abbrev rm_X1_playCut : Room := { frames := 4, cells := 0, slots := 0, locals := 100 }
def wp_X1_playCut (p0 : Int32) (C : cS) (K : Int32 → cS → Prop) : Prop := (vp_in ((p0 * (5 : Int32))) 80 ∧ (vp_in (((p0 * (5 : Int32)) + (1 : Int32))) 80 ∧ (vp_in (((p0 * (5 : Int32)) + (2 : Int32))) 80 ∧ (vp_in (((p0 * (5 : Int32)) + (3 : Int32))) 80 ∧ (vp_in (((p0 * (5 : Int32)) + (4 : Int32))) 80 ∧ wp_X1_doSplice (((C).cu ((p0 * (5 : Int32))).toNatClampNeg)) (((C).cu (((p0 * (5 : Int32)) + (1 : Int32))).toNatClampNeg)) (((C).cu (((p0 * (5 : Int32)) + (2 : Int32))).toNatClampNeg)) ((((C).cu (((p0 * (5 : Int32)) + (3 : Int32))).toNatClampNeg)).toInt64) (((C).cu (((p0 * (5 : Int32)) + (4 : Int32))).toNatClampNeg)) C (fun r6 C7 => K (r6) C7))))))
set_option maxHeartbeats 4000000 in
set_option maxRecDepth 100000 in
theorem c_X1_playCut {l : Launch} {D : va_G} {cI cJ cO : ClassId} {h : Nat → Nat} (p0 : Int32) (C : cS) (K : Int32 → cS → Prop) (hw : wp_X1_playCut p0 C K) : cMi l D cI cJ cO h yX1_playCut wsX1_playCut rm_X1_playCut 0 0 [.ref (h 0), .int (p0)] K C := by
  refine c_starti (rt := some .int) (R0 := RX1) (by decide) rfl rfl (Nat.le_of_ble_eq_true rfl) ?_
  intro p e s m below meth c A ls F hr hlk I hl hini
  have hin : ∀ w ∈ u_ws RX1 TX1 14, w ∈ wsX1_playCut := by decide +kernel
  have hin0 : ∀ w ∈ u_ws RX0 TX0 3, w ∈ wsX1_playCut := by decide +kernel
  obtain ⟨hx, hb, hml, hown, hts⟩ := id F
  have hl : lv_has ls 3 [(0, .ref (h 0)), (1, .int (p0))] := hl
  unfold wp_X1_playCut at hw
  refine lv_iload_n hx hb dX1_playCut_0 rfl (lv_at hl 1 rfl) ?_
  refine lv_iconst (v := (5 : Int32)) hx hb dX1_playCut_1 (by decide) ?_
  refine lv_imul hx hb dX1_playCut_2 ?_
  refine lv_istore_n (lv' := [(2, .int ((p0 * (5 : Int32)))), (0, .ref (h 0)), (1, .int (p0))]) hx hb dX1_playCut_3 rfl hl (by decide) rfl (fun ls hl => ?_)
  refine lv_aload_n hx hb dX1_playCut_4 rfl (lv_at hl 1 rfl) ?_
  refine lv_aload_n hx hb dX1_playCut_5 rfl (lv_at hl 1 rfl) ?_
  refine c_get F hin I 1 (by decide) (v := .ref (h 2)) rfl (hts (.fieldLink RX1 15 "CuttingTable" "cuts" "[I") (by decide +kernel)) dX1_playCut_6 ?_
  refine lv_iload_n hx hb dX1_playCut_9 rfl (lv_at hl 0 rfl) ?_
  obtain ⟨hi1, hw⟩ := hw
  refine c_iald F I hi1 dX1_playCut_10 ?_
  refine lv_aload_n hx hb dX1_playCut_11 rfl (lv_at hl 1 rfl) ?_
  refine c_get F hin I 1 (by decide) (v := .ref (h 2)) rfl (hts (.fieldLink RX1 15 "CuttingTable" "cuts" "[I") (by decide +kernel)) dX1_playCut_12 ?_
  refine lv_iload_n hx hb dX1_playCut_15 rfl (lv_at hl 0 rfl) ?_
  refine lv_iconst (v := (1 : Int32)) hx hb dX1_playCut_16 (by decide) ?_
  refine lv_iadd hx hb dX1_playCut_17 ?_
  obtain ⟨hi2, hw⟩ := hw
  refine c_iald F I hi2 dX1_playCut_18 ?_
  refine lv_aload_n hx hb dX1_playCut_19 rfl (lv_at hl 1 rfl) ?_
  refine c_get F hin I 1 (by decide) (v := .ref (h 2)) rfl (hts (.fieldLink RX1 15 "CuttingTable" "cuts" "[I") (by decide +kernel)) dX1_playCut_20 ?_
  refine lv_iload_n hx hb dX1_playCut_23 rfl (lv_at hl 0 rfl) ?_
  refine lv_iconst (v := (2 : Int32)) hx hb dX1_playCut_24 (by decide) ?_
  refine lv_iadd hx hb dX1_playCut_25 ?_
  obtain ⟨hi3, hw⟩ := hw
  refine c_iald F I hi3 dX1_playCut_26 ?_
  refine lv_aload_n hx hb dX1_playCut_27 rfl (lv_at hl 1 rfl) ?_
  refine c_get F hin I 1 (by decide) (v := .ref (h 2)) rfl (hts (.fieldLink RX1 15 "CuttingTable" "cuts" "[I") (by decide +kernel)) dX1_playCut_28 ?_
  refine lv_iload_n hx hb dX1_playCut_31 rfl (lv_at hl 0 rfl) ?_
  refine lv_iconst (v := (3 : Int32)) hx hb dX1_playCut_32 (by decide) ?_
  refine lv_iadd hx hb dX1_playCut_33 ?_
  obtain ⟨hi4, hw⟩ := hw
  refine c_iald F I hi4 dX1_playCut_34 ?_
  refine lv_i2l hx hb dX1_playCut_35 rfl ?_
  refine lv_aload_n hx hb dX1_playCut_36 rfl (lv_at hl 1 rfl) ?_
  refine c_get F hin I 1 (by decide) (v := .ref (h 2)) rfl (hts (.fieldLink RX1 15 "CuttingTable" "cuts" "[I") (by decide +kernel)) dX1_playCut_37 ?_
  refine lv_iload_n hx hb dX1_playCut_40 rfl (lv_at hl 0 rfl) ?_
  refine lv_iconst (v := (4 : Int32)) hx hb dX1_playCut_41 (by decide) ?_
  refine lv_iadd hx hb dX1_playCut_42 ?_
  obtain ⟨hi5, hw⟩ := hw
  refine c_iald F I hi5 dX1_playCut_43 ?_
  refine c_calli (rest := []) F I (c_X1_doSplice (((C).cu ((p0 * (5 : Int32))).toNatClampNeg)) (((C).cu (((p0 * (5 : Int32)) + (1 : Int32))).toNatClampNeg)) (((C).cu (((p0 * (5 : Int32)) + (2 : Int32))).toNatClampNeg)) ((((C).cu (((p0 * (5 : Int32)) + (3 : Int32))).toNatClampNeg)).toInt64) (((C).cu (((p0 * (5 : Int32)) + (4 : Int32))).toNatClampNeg)) _ _ hw) (cwV 5 hts gX1_playCut_X1_doSplice rfl rfl rfl (by decide +kernel) ⟨Nat.le_of_ble_eq_true rfl, Nat.le_of_ble_eq_true rfl⟩) rfl hl.1 rfl (Nat.le_of_ble_eq_true rfl) dX1_playCut_44 ⟨Nat.zero_le _, Nat.zero_le _⟩ (fun r6 C7 H locs hw I => ?_)
  exact c_reti F hr hlk I dX1_playCut_47 hw
abbrev rm_X1_thread : Room := { frames := 2, cells := 2, slots := 27, locals := 35 }
def wp_X1_thread (p0 : Int32) (p1 : Int32) (p2 : Int32) (C : cS) (K : Int32 → cS → Prop) : Prop := wp_X1_isSpindle (p0) (fun r1 => ((r1 = 0 → wp_X1_settle ((6 : Int32)) ((0 : Int32)) ((0 : Int32)) C (fun r3 C4 => K (r3) C4)) ∧ (¬ r1 = 0 → ((p1 < 0 → wp_X1_settle ((6 : Int32)) ((0 : Int32)) ((0 : Int32)) C (fun r6 C7 => K (r6) C7)) ∧ (¬ p1 < 0 → (((7 : Int32) < p1 → wp_X1_settle ((6 : Int32)) ((0 : Int32)) ((0 : Int32)) C (fun r9 C10 => K (r9) C10)) ∧ (¬ (7 : Int32) < p1 → ((p2 < 0 → wp_X1_settle ((6 : Int32)) ((0 : Int32)) ((0 : Int32)) C (fun r12 C13 => K (r12) C13)) ∧ (¬ p2 < 0 → ((p2 ≤ (24 : Int32) → (∀ q15, q15 ∉ (C).L → (¬ p2 < 0 ∧ (p2).toNatClampNeg ≤ 24 ∧ ∀ q16, q16 ∉ ((C.nl q15)).L → wp_X0_init (q15) (p1) (p2) (q16) ((C.nl q15).na q16 (p2).toNatClampNeg (fun _ => 0)) (fun C18 => ((C18).ld (q15) ∧ vp_in (p0) 8 ∧ wp_X1_settle ((0 : Int32)) ((0 : Int32)) ((0 : Int32)) ((C18.ssp (p0).toNatClampNeg (some (q15))).si 10 (((C18.fi 10) + (1 : Int32)))) (fun r20 C21 => K (r20) C21)))))) ∧ (¬ p2 ≤ (24 : Int32) → wp_X1_settle ((6 : Int32)) ((0 : Int32)) ((0 : Int32)) C (fun r22 C23 => K (r22) C23))))))))))))
set_option maxHeartbeats 4000000 in
set_option maxRecDepth 100000 in
theorem c_X1_thread {l : Launch} {D : va_G} {cI cJ cO : ClassId} {h : Nat → Nat} (p0 : Int32) (p1 : Int32) (p2 : Int32) (C : cS) (K : Int32 → cS → Prop) (hw : wp_X1_thread p0 p1 p2 C K) : cMi l D cI cJ cO h yX1_thread wsX1_thread rm_X1_thread 2 27 [.ref (h 0), .int (p0), .int (p1), .int (p2)] K C := by
  refine c_starti (rt := some .int) (R0 := RX1) (by decide) rfl rfl (Nat.le_of_ble_eq_true rfl) ?_
  intro p e s m below meth c A ls F hr hlk I hl hini
  have hin : ∀ w ∈ u_ws RX1 TX1 14, w ∈ wsX1_thread := by decide +kernel
  have hin0 : ∀ w ∈ u_ws RX0 TX0 3, w ∈ wsX1_thread := by decide +kernel
  obtain ⟨hx, hb, hml, hown, hts⟩ := id F
  have hl : lv_has ls 4 [(0, .ref (h 0)), (1, .int (p0)), (2, .int (p1)), (3, .int (p2))] := hl
  unfold wp_X1_thread at hw
  refine lv_iload_n hx hb dX1_thread_0 rfl (lv_at hl 1 rfl) ?_
  refine s_calli (rest := []) F (c_X1_isSpindle (p0) _ hw) (va_cwS 1 hts gX1_thread_X1_isSpindle rfl rfl rfl (by decide +kernel) ⟨Nat.le_of_ble_eq_true rfl, Nat.le_of_ble_eq_true rfl⟩) rfl hl.1 rfl (Nat.le_of_ble_eq_true rfl) dX1_thread_1 ⟨Nat.zero_le _, Nat.zero_le _⟩ (fun r1 hw => ?_)
  refine lv_if_eq (tgt := 27) hx hb dX1_thread_4 (by decide) (fun c_2 => ?_) (fun c_2 => ?_)
  · have hw := hw.1 c_2
    refine lv_aload_n hx hb dX1_thread_27 rfl (lv_at hl 0 rfl) ?_
    refine lv_bipush (v := (6 : Int32)) hx hb dX1_thread_28 (by decide) ?_
    refine lv_iconst (v := (0 : Int32)) hx hb dX1_thread_30 (by decide) ?_
    refine lv_iconst (v := (0 : Int32)) hx hb dX1_thread_31 (by decide) ?_
    refine c_calli (rest := []) F I (c_X1_settle ((6 : Int32)) ((0 : Int32)) ((0 : Int32)) _ _ hw) (cwV 3 hts gX1_thread_X1_settle rfl rfl rfl (by decide +kernel) ⟨Nat.le_of_ble_eq_true rfl, Nat.le_of_ble_eq_true rfl⟩) rfl hl.1 rfl (Nat.le_of_ble_eq_true rfl) dX1_thread_32 ⟨by decide, by decide⟩ (fun r3 C4 H locs hw I => ?_)
    refine W.widen (k := 2) (n := 27) (by omega) (by omega) ?_
    exact c_reti F hr hlk I dX1_thread_35 hw
  · have hw := hw.2 c_2
    refine lv_iload_n hx hb dX1_thread_7 rfl (lv_at hl 2 rfl) ?_
    refine lv_if_lt (tgt := 27) hx hb dX1_thread_8 (by decide) (fun c_5 => ?_) (fun c_5 => ?_)
    · have hw := hw.1 c_5
      refine lv_aload_n hx hb dX1_thread_27 rfl (lv_at hl 0 rfl) ?_
      refine lv_bipush (v := (6 : Int32)) hx hb dX1_thread_28 (by decide) ?_
      refine lv_iconst (v := (0 : Int32)) hx hb dX1_thread_30 (by decide) ?_
      refine lv_iconst (v := (0 : Int32)) hx hb dX1_thread_31 (by decide) ?_
      refine c_calli (rest := []) F I (c_X1_settle ((6 : Int32)) ((0 : Int32)) ((0 : Int32)) _ _ hw) (cwV 3 hts gX1_thread_X1_settle rfl rfl rfl (by decide +kernel) ⟨Nat.le_of_ble_eq_true rfl, Nat.le_of_ble_eq_true rfl⟩) rfl hl.1 rfl (Nat.le_of_ble_eq_true rfl) dX1_thread_32 ⟨by decide, by decide⟩ (fun r6 C7 H locs hw I => ?_)
      refine W.widen (k := 2) (n := 27) (by omega) (by omega) ?_
      exact c_reti F hr hlk I dX1_thread_35 hw
    · have hw := hw.2 c_5
      refine lv_iload_n hx hb dX1_thread_11 rfl (lv_at hl 2 rfl) ?_
      refine lv_bipush (v := (7 : Int32)) hx hb dX1_thread_12 (by decide) ?_
      refine lv_icmp_gt (tgt := 27) hx hb dX1_thread_14 (by decide) (fun c_8 => ?_) (fun c_8 => ?_)
      · have hw := hw.1 c_8
        refine lv_aload_n hx hb dX1_thread_27 rfl (lv_at hl 0 rfl) ?_
        refine lv_bipush (v := (6 : Int32)) hx hb dX1_thread_28 (by decide) ?_
        refine lv_iconst (v := (0 : Int32)) hx hb dX1_thread_30 (by decide) ?_
        refine lv_iconst (v := (0 : Int32)) hx hb dX1_thread_31 (by decide) ?_
        refine c_calli (rest := []) F I (c_X1_settle ((6 : Int32)) ((0 : Int32)) ((0 : Int32)) _ _ hw) (cwV 3 hts gX1_thread_X1_settle rfl rfl rfl (by decide +kernel) ⟨Nat.le_of_ble_eq_true rfl, Nat.le_of_ble_eq_true rfl⟩) rfl hl.1 rfl (Nat.le_of_ble_eq_true rfl) dX1_thread_32 ⟨by decide, by decide⟩ (fun r9 C10 H locs hw I => ?_)
        refine W.widen (k := 2) (n := 27) (by omega) (by omega) ?_
        exact c_reti F hr hlk I dX1_thread_35 hw
      · have hw := hw.2 c_8
        refine lv_iload_n hx hb dX1_thread_17 rfl (lv_at hl 3 rfl) ?_
        refine lv_if_lt (tgt := 27) hx hb dX1_thread_18 (by decide) (fun c_11 => ?_) (fun c_11 => ?_)
        · have hw := hw.1 c_11
          refine lv_aload_n hx hb dX1_thread_27 rfl (lv_at hl 0 rfl) ?_
          refine lv_bipush (v := (6 : Int32)) hx hb dX1_thread_28 (by decide) ?_
          refine lv_iconst (v := (0 : Int32)) hx hb dX1_thread_30 (by decide) ?_
          refine lv_iconst (v := (0 : Int32)) hx hb dX1_thread_31 (by decide) ?_
          refine c_calli (rest := []) F I (c_X1_settle ((6 : Int32)) ((0 : Int32)) ((0 : Int32)) _ _ hw) (cwV 3 hts gX1_thread_X1_settle rfl rfl rfl (by decide +kernel) ⟨Nat.le_of_ble_eq_true rfl, Nat.le_of_ble_eq_true rfl⟩) rfl hl.1 rfl (Nat.le_of_ble_eq_true rfl) dX1_thread_32 ⟨by decide, by decide⟩ (fun r12 C13 H locs hw I => ?_)
          refine W.widen (k := 2) (n := 27) (by omega) (by omega) ?_
          exact c_reti F hr hlk I dX1_thread_35 hw
        · have hw := hw.2 c_11
          refine lv_iload_n hx hb dX1_thread_21 rfl (lv_at hl 3 rfl) ?_
          refine lv_bipush (v := (24 : Int32)) hx hb dX1_thread_22 (by decide) ?_
          refine lv_icmp_le (tgt := 36) hx hb dX1_thread_24 (by decide) (fun c_14 => ?_) (fun c_14 => ?_)
          · have hw := hw.1 c_14
            refine lv_aload_n hx hb dX1_thread_36 rfl (lv_at hl 0 rfl) ?_
            refine c_get F hin I 0 (by decide) (v := .ref (h 1)) rfl (hts (.fieldLink RX1 11 "CuttingTable" "spindles" "[LCuttingTable$Load;") (by decide +kernel)) dX1_thread_37 ?_
            refine lv_iload_n hx hb dX1_thread_40 rfl (lv_at hl 1 rfl) ?_
            refine c_new F hin0 I (hts (.classLink RX1 9 RX0) (by decide +kernel)) (hts (.instantiable RX0 3) (by decide +kernel)) (hts (.initialized RX0) (by decide +kernel)) (by decide) (by decide) dX1_thread_41 (fun q15 H hq I => ?_)
            have hw := hw q15 hq
            refine lv_dup hx hb dX1_thread_44 rfl ?_
            refine lv_iload_n hx hb dX1_thread_45 rfl (lv_at hl 2 rfl) ?_
            refine lv_iload_n hx hb dX1_thread_46 rfl (lv_at hl 3 rfl) ?_
            refine lv_iload_n hx hb dX1_thread_47 rfl (lv_at hl 3 rfl) ?_
            obtain ⟨hn0, hn1, hw⟩ := hw
            refine c_newa F I (hts (.arrayClass .long) (by decide +kernel)) hn0 (by omega) (by decide) (by show 3 + _ ≤ 27; omega) dX1_thread_48 (fun q16 H hq I => ?_)
            have hw := hw q16 hq
            refine W.widen (k := 2) (n := 27) (by omega) (by omega) ?_
            refine c_callI (rest := [.ref (q15), .int (p0), .ref (h 1)]) F I (c_X0_init (q15) (p1) (p2) (q16) _ _ hw) (cwI 3 hts gX1_thread_X0_init rfl rfl rfl (hts (.initialized RX0) (by decide +kernel)) (hts (.methodLink RX1 31 yX0_init) (by decide +kernel)) (hts (.instanceMethod yX0_init) (by decide +kernel)) rfl (by decide +kernel) ⟨Nat.le_of_ble_eq_true rfl, Nat.le_of_ble_eq_true rfl⟩) rfl hl.1 rfl (Nat.le_of_ble_eq_true rfl) dX1_thread_50 ⟨by decide, by decide⟩ (fun C18 H locs hw I => ?_)
            obtain ⟨hld, hi19, hw⟩ := hw
            refine c_aast F I hld hi19 dX1_thread_53 (fun H locs I => ?_)
            refine lv_aload_n hx hb dX1_thread_54 rfl (lv_at hl 0 rfl) ?_
            refine lv_dup hx hb dX1_thread_55 rfl ?_
            refine c_get F hin I 10 (by decide) (v := .int ((C18.fi 10))) rfl (hts (.fieldLink RX1 34 "CuttingTable" "reelsMade" "I") (by decide +kernel)) dX1_thread_56 ?_
            refine lv_iconst (v := (1 : Int32)) hx hb dX1_thread_59 (by decide) ?_
            refine lv_iadd hx hb dX1_thread_60 ?_
            refine c_put F hin I 10 (by decide) (hts (.fieldLink RX1 34 "CuttingTable" "reelsMade" "I") (by decide +kernel)) dX1_thread_61 (fun H locs I => ?_)
            refine lv_aload_n hx hb dX1_thread_64 rfl (lv_at hl 0 rfl) ?_
            refine lv_iconst (v := (0 : Int32)) hx hb dX1_thread_65 (by decide) ?_
            refine lv_iconst (v := (0 : Int32)) hx hb dX1_thread_66 (by decide) ?_
            refine lv_iconst (v := (0 : Int32)) hx hb dX1_thread_67 (by decide) ?_
            refine c_calli (rest := []) F I (c_X1_settle ((0 : Int32)) ((0 : Int32)) ((0 : Int32)) _ _ hw) (cwV 3 hts gX1_thread_X1_settle rfl rfl rfl (by decide +kernel) ⟨Nat.le_of_ble_eq_true rfl, Nat.le_of_ble_eq_true rfl⟩) rfl hl.1 rfl (Nat.le_of_ble_eq_true rfl) dX1_thread_68 ⟨by decide, by decide⟩ (fun r20 C21 H locs hw I => ?_)
            refine W.widen (k := 2) (n := 27) (by omega) (by omega) ?_
            exact c_reti F hr hlk I dX1_thread_71 hw
          · have hw := hw.2 c_14
            refine lv_aload_n hx hb dX1_thread_27 rfl (lv_at hl 0 rfl) ?_
            refine lv_bipush (v := (6 : Int32)) hx hb dX1_thread_28 (by decide) ?_
            refine lv_iconst (v := (0 : Int32)) hx hb dX1_thread_30 (by decide) ?_
            refine lv_iconst (v := (0 : Int32)) hx hb dX1_thread_31 (by decide) ?_
            refine c_calli (rest := []) F I (c_X1_settle ((6 : Int32)) ((0 : Int32)) ((0 : Int32)) _ _ hw) (cwV 3 hts gX1_thread_X1_settle rfl rfl rfl (by decide +kernel) ⟨Nat.le_of_ble_eq_true rfl, Nat.le_of_ble_eq_true rfl⟩) rfl hl.1 rfl (Nat.le_of_ble_eq_true rfl) dX1_thread_32 ⟨by decide, by decide⟩ (fun r22 C23 H locs hw I => ?_)
            refine W.widen (k := 2) (n := 27) (by omega) (by omega) ?_
            exact c_reti F hr hlk I dX1_thread_35 hw
abbrev rm_X1_tag : Room := { frames := 2, cells := 2, slots := 27, locals := 35 }
def wp_X1_tag (p0 : Int32) (p1 : Int32) (C : cS) (K : Int32 → cS → Prop) : Prop := wp_X1_isSpindle (p0) (fun r1 => ((¬ r1 = 0 → (∀ q3, q3 ∉ (C).L → (¬ (0 : Int32) < 0 ∧ ((0 : Int32)).toNatClampNeg ≤ 24 ∧ ∀ q4, q4 ∉ ((C.nl q3)).L → wp_X0_init (q3) ((8 : Int32)) (p1) (q4) ((C.nl q3).na q4 ((0 : Int32)).toNatClampNeg (fun _ => 0)) (fun C6 => ((C6).ld (q3) ∧ vp_in (p0) 8 ∧ wp_X1_settle ((0 : Int32)) ((0 : Int32)) ((0 : Int32)) (C6.ssp (p0).toNatClampNeg (some (q3))) (fun r8 C9 => K (r8) C9)))))) ∧ (r1 = 0 → wp_X1_settle ((6 : Int32)) ((0 : Int32)) ((0 : Int32)) C (fun r10 C11 => K (r10) C11))))
set_option maxHeartbeats 4000000 in
set_option maxRecDepth 100000 in
theorem c_X1_tag {l : Launch} {D : va_G} {cI cJ cO : ClassId} {h : Nat → Nat} (p0 : Int32) (p1 : Int32) (C : cS) (K : Int32 → cS → Prop) (hw : wp_X1_tag p0 p1 C K) : cMi l D cI cJ cO h yX1_tag wsX1_tag rm_X1_tag 2 27 [.ref (h 0), .int (p0), .int (p1)] K C := by
  refine c_starti (rt := some .int) (R0 := RX1) (by decide) rfl rfl (Nat.le_of_ble_eq_true rfl) ?_
  intro p e s m below meth c A ls F hr hlk I hl hini
  have hin : ∀ w ∈ u_ws RX1 TX1 14, w ∈ wsX1_tag := by decide +kernel
  have hin0 : ∀ w ∈ u_ws RX0 TX0 3, w ∈ wsX1_tag := by decide +kernel
  obtain ⟨hx, hb, hml, hown, hts⟩ := id F
  have hl : lv_has ls 3 [(0, .ref (h 0)), (1, .int (p0)), (2, .int (p1))] := hl
  unfold wp_X1_tag at hw
  refine lv_iload_n hx hb dX1_tag_0 rfl (lv_at hl 1 rfl) ?_
  refine s_calli (rest := []) F (c_X1_isSpindle (p0) _ hw) (va_cwS 1 hts gX1_tag_X1_isSpindle rfl rfl rfl (by decide +kernel) ⟨Nat.le_of_ble_eq_true rfl, Nat.le_of_ble_eq_true rfl⟩) rfl hl.1 rfl (Nat.le_of_ble_eq_true rfl) dX1_tag_1 ⟨Nat.zero_le _, Nat.zero_le _⟩ (fun r1 hw => ?_)
  refine lv_if_ne (tgt := 16) hx hb dX1_tag_4 (by decide) (fun c_2 => ?_) (fun c_2 => ?_)
  · have hw := hw.1 c_2
    refine lv_aload_n hx hb dX1_tag_16 rfl (lv_at hl 0 rfl) ?_
    refine c_get F hin I 0 (by decide) (v := .ref (h 1)) rfl (hts (.fieldLink RX1 11 "CuttingTable" "spindles" "[LCuttingTable$Load;") (by decide +kernel)) dX1_tag_17 ?_
    refine lv_iload_n hx hb dX1_tag_20 rfl (lv_at hl 1 rfl) ?_
    refine c_new F hin0 I (hts (.classLink RX1 9 RX0) (by decide +kernel)) (hts (.instantiable RX0 3) (by decide +kernel)) (hts (.initialized RX0) (by decide +kernel)) (by decide) (by decide) dX1_tag_21 (fun q3 H hq I => ?_)
    have hw := hw q3 hq
    refine lv_dup hx hb dX1_tag_24 rfl ?_
    refine lv_bipush (v := (8 : Int32)) hx hb dX1_tag_25 (by decide) ?_
    refine lv_iload_n hx hb dX1_tag_27 rfl (lv_at hl 2 rfl) ?_
    refine lv_iconst (v := (0 : Int32)) hx hb dX1_tag_28 (by decide) ?_
    obtain ⟨hn0, hn1, hw⟩ := hw
    refine c_newa F I (hts (.arrayClass .long) (by decide +kernel)) hn0 (by omega) (by decide) (by show 3 + _ ≤ 27; omega) dX1_tag_29 (fun q4 H hq I => ?_)
    have hw := hw q4 hq
    refine W.widen (k := 2) (n := 27) (by omega) (by omega) ?_
    refine c_callI (rest := [.ref (q3), .int (p0), .ref (h 1)]) F I (c_X0_init (q3) ((8 : Int32)) (p1) (q4) _ _ hw) (cwI 3 hts gX1_tag_X0_init rfl rfl rfl (hts (.initialized RX0) (by decide +kernel)) (hts (.methodLink RX1 31 yX0_init) (by decide +kernel)) (hts (.instanceMethod yX0_init) (by decide +kernel)) rfl (by decide +kernel) ⟨Nat.le_of_ble_eq_true rfl, Nat.le_of_ble_eq_true rfl⟩) rfl hl.1 rfl (Nat.le_of_ble_eq_true rfl) dX1_tag_31 ⟨by decide, by decide⟩ (fun C6 H locs hw I => ?_)
    obtain ⟨hld, hi7, hw⟩ := hw
    refine c_aast F I hld hi7 dX1_tag_34 (fun H locs I => ?_)
    refine lv_aload_n hx hb dX1_tag_35 rfl (lv_at hl 0 rfl) ?_
    refine lv_iconst (v := (0 : Int32)) hx hb dX1_tag_36 (by decide) ?_
    refine lv_iconst (v := (0 : Int32)) hx hb dX1_tag_37 (by decide) ?_
    refine lv_iconst (v := (0 : Int32)) hx hb dX1_tag_38 (by decide) ?_
    refine c_calli (rest := []) F I (c_X1_settle ((0 : Int32)) ((0 : Int32)) ((0 : Int32)) _ _ hw) (cwV 3 hts gX1_tag_X1_settle rfl rfl rfl (by decide +kernel) ⟨Nat.le_of_ble_eq_true rfl, Nat.le_of_ble_eq_true rfl⟩) rfl hl.1 rfl (Nat.le_of_ble_eq_true rfl) dX1_tag_39 ⟨by decide, by decide⟩ (fun r8 C9 H locs hw I => ?_)
    refine W.widen (k := 2) (n := 27) (by omega) (by omega) ?_
    exact c_reti F hr hlk I dX1_tag_42 hw
  · have hw := hw.2 c_2
    refine lv_aload_n hx hb dX1_tag_7 rfl (lv_at hl 0 rfl) ?_
    refine lv_bipush (v := (6 : Int32)) hx hb dX1_tag_8 (by decide) ?_
    refine lv_iconst (v := (0 : Int32)) hx hb dX1_tag_10 (by decide) ?_
    refine lv_iconst (v := (0 : Int32)) hx hb dX1_tag_11 (by decide) ?_
    refine c_calli (rest := []) F I (c_X1_settle ((6 : Int32)) ((0 : Int32)) ((0 : Int32)) _ _ hw) (cwV 3 hts gX1_tag_X1_settle rfl rfl rfl (by decide +kernel) ⟨Nat.le_of_ble_eq_true rfl, Nat.le_of_ble_eq_true rfl⟩) rfl hl.1 rfl (Nat.le_of_ble_eq_true rfl) dX1_tag_12 ⟨by decide, by decide⟩ (fun r10 C11 H locs hw I => ?_)
    refine W.widen (k := 2) (n := 27) (by omega) (by omega) ?_
    exact c_reti F hr hlk I dX1_tag_15 hw
abbrev rm_X1_share : Room := { frames := 1, cells := 0, slots := 0, locals := 23 }
def wp_X1_share (p0 : Int32) (p1 : Int32) (C : cS) (K : Int32 → cS → Prop) : Prop := wp_X1_isSpindle (p0) (fun r1 => ((r1 = 0 → wp_X1_settle ((6 : Int32)) ((0 : Int32)) ((0 : Int32)) C (fun r3 C4 => K (r3) C4)) ∧ (¬ r1 = 0 → wp_X1_isSpindle (p1) (fun r5 => ((¬ r5 = 0 → (vp_in (p0) 8 ∧ ((((C).sp (p0).toNatClampNeg) = none → (vp_in (p1) 8 ∧ wp_X1_settle ((0 : Int32)) ((0 : Int32)) ((0 : Int32)) (C.ssp (p1).toNatClampNeg none) (fun r11 C12 => K (r11) C12))) ∧ (∀ y8, ((C).sp (p0).toNatClampNeg) = some y8 → ((C).ld (y8) ∧ vp_in (p1) 8 ∧ wp_X1_settle ((0 : Int32)) ((0 : Int32)) ((0 : Int32)) (C.ssp (p1).toNatClampNeg (some (y8))) (fun r14 C15 => K (r14) C15)))))) ∧ (r5 = 0 → wp_X1_settle ((6 : Int32)) ((0 : Int32)) ((0 : Int32)) C (fun r16 C17 => K (r16) C17)))))))
set_option maxHeartbeats 4000000 in
set_option maxRecDepth 100000 in
theorem c_X1_share {l : Launch} {D : va_G} {cI cJ cO : ClassId} {h : Nat → Nat} (p0 : Int32) (p1 : Int32) (C : cS) (K : Int32 → cS → Prop) (hw : wp_X1_share p0 p1 C K) : cMi l D cI cJ cO h yX1_share wsX1_share rm_X1_share 0 0 [.ref (h 0), .int (p0), .int (p1)] K C := by
  refine c_starti (rt := some .int) (R0 := RX1) (by decide) rfl rfl (Nat.le_of_ble_eq_true rfl) ?_
  intro p e s m below meth c A ls F hr hlk I hl hini
  have hin : ∀ w ∈ u_ws RX1 TX1 14, w ∈ wsX1_share := by decide +kernel
  have hin0 : True := trivial
  obtain ⟨hx, hb, hml, hown, hts⟩ := id F
  have hl : lv_has ls 3 [(0, .ref (h 0)), (1, .int (p0)), (2, .int (p1))] := hl
  unfold wp_X1_share at hw
  refine lv_iload_n hx hb dX1_share_0 rfl (lv_at hl 1 rfl) ?_
  refine s_calli (rest := []) F (c_X1_isSpindle (p0) _ hw) (va_cwS 1 hts gX1_share_X1_isSpindle rfl rfl rfl (by decide +kernel) ⟨Nat.le_of_ble_eq_true rfl, Nat.le_of_ble_eq_true rfl⟩) rfl hl.1 rfl (Nat.le_of_ble_eq_true rfl) dX1_share_1 ⟨Nat.zero_le _, Nat.zero_le _⟩ (fun r1 hw => ?_)
  refine lv_if_eq (tgt := 14) hx hb dX1_share_4 (by decide) (fun c_2 => ?_) (fun c_2 => ?_)
  · have hw := hw.1 c_2
    refine lv_aload_n hx hb dX1_share_14 rfl (lv_at hl 0 rfl) ?_
    refine lv_bipush (v := (6 : Int32)) hx hb dX1_share_15 (by decide) ?_
    refine lv_iconst (v := (0 : Int32)) hx hb dX1_share_17 (by decide) ?_
    refine lv_iconst (v := (0 : Int32)) hx hb dX1_share_18 (by decide) ?_
    refine c_calli (rest := []) F I (c_X1_settle ((6 : Int32)) ((0 : Int32)) ((0 : Int32)) _ _ hw) (cwV 3 hts gX1_share_X1_settle rfl rfl rfl (by decide +kernel) ⟨Nat.le_of_ble_eq_true rfl, Nat.le_of_ble_eq_true rfl⟩) rfl hl.1 rfl (Nat.le_of_ble_eq_true rfl) dX1_share_19 ⟨Nat.zero_le _, Nat.zero_le _⟩ (fun r3 C4 H locs hw I => ?_)
    exact c_reti F hr hlk I dX1_share_22 hw
  · have hw := hw.2 c_2
    refine lv_iload_n hx hb dX1_share_7 rfl (lv_at hl 2 rfl) ?_
    refine s_calli (rest := []) F (c_X1_isSpindle (p1) _ hw) (va_cwS 1 hts gX1_share_X1_isSpindle rfl rfl rfl (by decide +kernel) ⟨Nat.le_of_ble_eq_true rfl, Nat.le_of_ble_eq_true rfl⟩) rfl hl.1 rfl (Nat.le_of_ble_eq_true rfl) dX1_share_8 ⟨Nat.zero_le _, Nat.zero_le _⟩ (fun r5 hw => ?_)
    refine lv_if_ne (tgt := 23) hx hb dX1_share_11 (by decide) (fun c_6 => ?_) (fun c_6 => ?_)
    · have hw := hw.1 c_6
      refine lv_aload_n hx hb dX1_share_23 rfl (lv_at hl 0 rfl) ?_
      refine c_get F hin I 0 (by decide) (v := .ref (h 1)) rfl (hts (.fieldLink RX1 11 "CuttingTable" "spindles" "[LCuttingTable$Load;") (by decide +kernel)) dX1_share_24 ?_
      refine lv_iload_n hx hb dX1_share_27 rfl (lv_at hl 2 rfl) ?_
      refine lv_aload_n hx hb dX1_share_28 rfl (lv_at hl 0 rfl) ?_
      refine c_get F hin I 0 (by decide) (v := .ref (h 1)) rfl (hts (.fieldLink RX1 11 "CuttingTable" "spindles" "[LCuttingTable$Load;") (by decide +kernel)) dX1_share_29 ?_
      refine lv_iload_n hx hb dX1_share_32 rfl (lv_at hl 1 rfl) ?_
      obtain ⟨hi7, hw⟩ := hw
      refine c_aald F I hi7 dX1_share_33 ?_
      rcases e9 : ((C).sp (p0).toNatClampNeg) with _ | y8
      · have hw := hw.1 e9
        obtain ⟨hi10, hw⟩ := hw
        refine c_aastN F I hi10 dX1_share_34 (fun H locs I => ?_)
        refine lv_aload_n hx hb dX1_share_35 rfl (lv_at hl 0 rfl) ?_
        refine lv_iconst (v := (0 : Int32)) hx hb dX1_share_36 (by decide) ?_
        refine lv_iconst (v := (0 : Int32)) hx hb dX1_share_37 (by decide) ?_
        refine lv_iconst (v := (0 : Int32)) hx hb dX1_share_38 (by decide) ?_
        refine c_calli (rest := []) F I (c_X1_settle ((0 : Int32)) ((0 : Int32)) ((0 : Int32)) _ _ hw) (cwV 3 hts gX1_share_X1_settle rfl rfl rfl (by decide +kernel) ⟨Nat.le_of_ble_eq_true rfl, Nat.le_of_ble_eq_true rfl⟩) rfl hl.1 rfl (Nat.le_of_ble_eq_true rfl) dX1_share_39 ⟨Nat.zero_le _, Nat.zero_le _⟩ (fun r11 C12 H locs hw I => ?_)
        exact c_reti F hr hlk I dX1_share_42 hw
      · have hw := hw.2 y8 e9
        obtain ⟨hld, hi13, hw⟩ := hw
        refine c_aast F I hld hi13 dX1_share_34 (fun H locs I => ?_)
        refine lv_aload_n hx hb dX1_share_35 rfl (lv_at hl 0 rfl) ?_
        refine lv_iconst (v := (0 : Int32)) hx hb dX1_share_36 (by decide) ?_
        refine lv_iconst (v := (0 : Int32)) hx hb dX1_share_37 (by decide) ?_
        refine lv_iconst (v := (0 : Int32)) hx hb dX1_share_38 (by decide) ?_
        refine c_calli (rest := []) F I (c_X1_settle ((0 : Int32)) ((0 : Int32)) ((0 : Int32)) _ _ hw) (cwV 3 hts gX1_share_X1_settle rfl rfl rfl (by decide +kernel) ⟨Nat.le_of_ble_eq_true rfl, Nat.le_of_ble_eq_true rfl⟩) rfl hl.1 rfl (Nat.le_of_ble_eq_true rfl) dX1_share_39 ⟨Nat.zero_le _, Nat.zero_le _⟩ (fun r14 C15 H locs hw I => ?_)
        exact c_reti F hr hlk I dX1_share_42 hw
    · have hw := hw.2 c_6
      refine lv_aload_n hx hb dX1_share_14 rfl (lv_at hl 0 rfl) ?_
      refine lv_bipush (v := (6 : Int32)) hx hb dX1_share_15 (by decide) ?_
      refine lv_iconst (v := (0 : Int32)) hx hb dX1_share_17 (by decide) ?_
      refine lv_iconst (v := (0 : Int32)) hx hb dX1_share_18 (by decide) ?_
      refine c_calli (rest := []) F I (c_X1_settle ((6 : Int32)) ((0 : Int32)) ((0 : Int32)) _ _ hw) (cwV 3 hts gX1_share_X1_settle rfl rfl rfl (by decide +kernel) ⟨Nat.le_of_ble_eq_true rfl, Nat.le_of_ble_eq_true rfl⟩) rfl hl.1 rfl (Nat.le_of_ble_eq_true rfl) dX1_share_19 ⟨Nat.zero_le _, Nat.zero_le _⟩ (fun r16 C17 H locs hw I => ?_)
      exact c_reti F hr hlk I dX1_share_22 hw
abbrev rm_X1_copy : Room := { frames := 2, cells := 2, slots := 27, locals := 42 }
def wp_X1_copy (p0 : Int32) (p1 : Int32) (C : cS) (K : Int32 → cS → Prop) : Prop := wp_X1_isSpindle (p1) (fun r1 => ((r1 = 0 → wp_X1_settle ((6 : Int32)) ((0 : Int32)) ((0 : Int32)) C (fun r4 C5 => K (r4) C5)) ∧ (¬ r1 = 0 → wp_X1_refusalOfReel (p0) C (fun r6 C7 => ((r6 = 0 → (vp_in (p0) 8 ∧ ((((C7).sp (p0).toNatClampNeg) = none → (∀ q12, q12 ∉ (C7).L → False)) ∧ (∀ y10, ((C7).sp (p0).toNatClampNeg) = some y10 → (∀ q13, q13 ∉ (C7).L → (((C7.nl q13)).ld (y10) ∧ (((C7.nl q13)).ld (y10) ∧ (((C7.nl q13)).ld (y10) ∧ ∃ b14, ((C7.nl q13)).fr (y10) = some b14 ∧ (((C7.nl q13)).aw (b14) ∧ ((C7.nl q13)).ln (b14) ≤ 24 ∧ ∀ q16, q16 ∉ ((C7.nl q13)).L → wp_X0_init (q13) ((((C7.nl q13)).so (y10))) ((((C7.nl q13)).nu (y10))) (q16) ((C7.nl q13).na q16 (((C7.nl q13)).ln (b14)) (((C7.nl q13)).ar (b14))) (fun C18 => ((C18).ld (q13) ∧ vp_in (p1) 8 ∧ wp_X1_settle ((0 : Int32)) ((0 : Int32)) ((0 : Int32)) ((C18.ssp (p1).toNatClampNeg (some (q13))).si 10 (((C18.fi 10) + (1 : Int32)))) (fun r20 C21 => K (r20) C21)))))))))))) ∧ (¬ r6 = 0 → wp_X1_settle (r6) ((0 : Int32)) ((0 : Int32)) C7 (fun r22 C23 => K (r22) C23)))))))
set_option maxHeartbeats 4000000 in
set_option maxRecDepth 100000 in
theorem c_X1_copy {l : Launch} {D : va_G} {cI cJ cO : ClassId} {h : Nat → Nat} (p0 : Int32) (p1 : Int32) (C : cS) (K : Int32 → cS → Prop) (hw : wp_X1_copy p0 p1 C K) : cMi l D cI cJ cO h yX1_copy wsX1_copy rm_X1_copy 2 27 [.ref (h 0), .int (p0), .int (p1)] K C := by
  refine c_starti (rt := some .int) (R0 := RX1) (by decide) rfl rfl (Nat.le_of_ble_eq_true rfl) ?_
  intro p e s m below meth c A ls F hr hlk I hl hini
  have hin : ∀ w ∈ u_ws RX1 TX1 14, w ∈ wsX1_copy := by decide +kernel
  have hin0 : ∀ w ∈ u_ws RX0 TX0 3, w ∈ wsX1_copy := by decide +kernel
  obtain ⟨hx, hb, hml, hown, hts⟩ := id F
  have hl : lv_has ls 5 [(0, .ref (h 0)), (1, .int (p0)), (2, .int (p1))] := hl
  unfold wp_X1_copy at hw
  refine lv_iload_n hx hb dX1_copy_0 rfl (lv_at hl 2 rfl) ?_
  refine s_calli (rest := []) F (c_X1_isSpindle (p1) _ hw) (va_cwS 1 hts gX1_copy_X1_isSpindle rfl rfl rfl (by decide +kernel) ⟨Nat.le_of_ble_eq_true rfl, Nat.le_of_ble_eq_true rfl⟩) rfl hl.1 rfl (Nat.le_of_ble_eq_true rfl) dX1_copy_1 ⟨Nat.zero_le _, Nat.zero_le _⟩ (fun r1 hw => ?_)
  refine lv_if_eq (tgt := 15) hx hb dX1_copy_4 (by decide) (fun c_2 => ?_) (fun c_2 => ?_)
  · have hw := hw.1 c_2
    refine lv_bipush (v := (6 : Int32)) hx hb dX1_copy_15 (by decide) ?_
    refine lv_istore_n (lv' := [(3, .int ((6 : Int32))), (0, .ref (h 0)), (1, .int (p0)), (2, .int (p1))]) hx hb dX1_copy_17 rfl hl (by decide) rfl (fun ls hl => ?_)
    refine lv_iload_n hx hb dX1_copy_18 rfl (lv_at hl 0 rfl) ?_
    refine lv_if_eq (tgt := 30) hx hb dX1_copy_19 (by decide) (fun c_3 => ?_) (fun c_3 => ?_)
    · exact absurd c_3 (by decide)
    · refine lv_aload_n hx hb dX1_copy_22 rfl (lv_at hl 1 rfl) ?_
      refine lv_iload_n hx hb dX1_copy_23 rfl (lv_at hl 0 rfl) ?_
      refine lv_iconst (v := (0 : Int32)) hx hb dX1_copy_24 (by decide) ?_
      refine lv_iconst (v := (0 : Int32)) hx hb dX1_copy_25 (by decide) ?_
      refine c_calli (rest := []) F I (c_X1_settle ((6 : Int32)) ((0 : Int32)) ((0 : Int32)) _ _ hw) (cwV 3 hts gX1_copy_X1_settle rfl rfl rfl (by decide +kernel) ⟨Nat.le_of_ble_eq_true rfl, Nat.le_of_ble_eq_true rfl⟩) rfl hl.1 rfl (Nat.le_of_ble_eq_true rfl) dX1_copy_26 ⟨by decide, by decide⟩ (fun r4 C5 H locs hw I => ?_)
      refine W.widen (k := 2) (n := 27) (by omega) (by omega) ?_
      exact c_reti F hr hlk I dX1_copy_29 hw
  · have hw := hw.2 c_2
    refine lv_aload_n hx hb dX1_copy_7 rfl (lv_at hl 0 rfl) ?_
    refine lv_iload_n hx hb dX1_copy_8 rfl (lv_at hl 1 rfl) ?_
    refine c_calli (rest := []) F I (c_X1_refusalOfReel (p0) _ _ hw) (cwV 1 hts gX1_copy_X1_refusalOfReel rfl rfl rfl (by decide +kernel) ⟨Nat.le_of_ble_eq_true rfl, Nat.le_of_ble_eq_true rfl⟩) rfl hl.1 rfl (Nat.le_of_ble_eq_true rfl) dX1_copy_9 ⟨by decide, by decide⟩ (fun r6 C7 H locs hw I => ?_)
    refine lv_goto (tgt := 17) hx hb dX1_copy_12 (by decide) ?_
    refine lv_istore_n (lv' := [(3, .int (r6)), (0, .ref (h 0)), (1, .int (p0)), (2, .int (p1))]) hx hb dX1_copy_17 rfl hl (by decide) rfl (fun ls hl => ?_)
    refine lv_iload_n hx hb dX1_copy_18 rfl (lv_at hl 0 rfl) ?_
    refine lv_if_eq (tgt := 30) hx hb dX1_copy_19 (by decide) (fun c_8 => ?_) (fun c_8 => ?_)
    · have hw := hw.1 c_8
      refine lv_aload_n hx hb dX1_copy_30 rfl (lv_at hl 1 rfl) ?_
      refine c_get F hin I 0 (by decide) (v := .ref (h 1)) rfl (hts (.fieldLink RX1 11 "CuttingTable" "spindles" "[LCuttingTable$Load;") (by decide +kernel)) dX1_copy_31 ?_
      refine lv_iload_n hx hb dX1_copy_34 rfl (lv_at hl 2 rfl) ?_
      obtain ⟨hi9, hw⟩ := hw
      refine c_aald F I hi9 dX1_copy_35 ?_
      rcases e11 : ((C7).sp (p0).toNatClampNeg) with _ | y10
      · have hw := hw.1 e11
        refine lv_astoreN (lv' := [(4, .null), (3, .int (r6)), (0, .ref (h 0)), (1, .int (p0)), (2, .int (p1))]) hx hb dX1_copy_36 hl (by decide) rfl (fun ls hl => ?_)
        refine lv_aload_n hx hb dX1_copy_38 rfl (lv_at hl 2 rfl) ?_
        refine c_get F hin I 0 (by decide) (v := .ref (h 1)) rfl (hts (.fieldLink RX1 11 "CuttingTable" "spindles" "[LCuttingTable$Load;") (by decide +kernel)) dX1_copy_39 ?_
        refine lv_iload_n hx hb dX1_copy_42 rfl (lv_at hl 4 rfl) ?_
        refine c_new F hin0 I (hts (.classLink RX1 9 RX0) (by decide +kernel)) (hts (.instantiable RX0 3) (by decide +kernel)) (hts (.initialized RX0) (by decide +kernel)) (by decide) (by decide) dX1_copy_43 (fun q12 H hq I => ?_)
        have hw := hw q12 hq
        refine lv_dup hx hb dX1_copy_46 rfl ?_
        refine lv_aloadN hx hb dX1_copy_47 (lv_at hl 0 rfl) ?_
        exact hw.elim
      · have hw := hw.2 y10 e11
        refine lv_astore (lv' := [(4, .ref (y10)), (3, .int (r6)), (0, .ref (h 0)), (1, .int (p0)), (2, .int (p1))]) hx hb dX1_copy_36 hl (by decide) rfl (fun ls hl => ?_)
        refine lv_aload_n hx hb dX1_copy_38 rfl (lv_at hl 2 rfl) ?_
        refine c_get F hin I 0 (by decide) (v := .ref (h 1)) rfl (hts (.fieldLink RX1 11 "CuttingTable" "spindles" "[LCuttingTable$Load;") (by decide +kernel)) dX1_copy_39 ?_
        refine lv_iload_n hx hb dX1_copy_42 rfl (lv_at hl 4 rfl) ?_
        refine c_new F hin0 I (hts (.classLink RX1 9 RX0) (by decide +kernel)) (hts (.instantiable RX0 3) (by decide +kernel)) (hts (.initialized RX0) (by decide +kernel)) (by decide) (by decide) dX1_copy_43 (fun q13 H hq I => ?_)
        have hw := hw q13 hq
        refine lv_dup hx hb dX1_copy_46 rfl ?_
        refine lv_aload hx hb dX1_copy_47 (lv_at hl 0 rfl) ?_
        obtain ⟨hld, hw⟩ := hw
        refine c_lget F hin0 I hld 0 (by decide) (v := .int ((((C7.nl q13)).so (y10)))) rfl (hts (.fieldLink RX1 42 "CuttingTable$Load" "sort" "I") (by decide +kernel)) dX1_copy_49 ?_
        refine lv_aload hx hb dX1_copy_52 (lv_at hl 0 rfl) ?_
        obtain ⟨hld, hw⟩ := hw
        refine c_lget F hin0 I hld 1 (by decide) (v := .int ((((C7.nl q13)).nu (y10)))) rfl (hts (.fieldLink RX1 45 "CuttingTable$Load" "number" "I") (by decide +kernel)) dX1_copy_54 ?_
        refine lv_aload hx hb dX1_copy_57 (lv_at hl 0 rfl) ?_
        obtain ⟨hld, b14, e15, hw⟩ := hw
        refine c_lget F hin0 I hld 2 (by decide) (v := .ref b14) (by rw [← show va_rf (((C7.nl q13)).fr (y10)) = .ref b14 from by rw [e15]; rfl]; rfl) (hts (.fieldLink RX1 48 "CuttingTable$Load" "frames" "[J") (by decide +kernel)) dX1_copy_59 ?_
        obtain ⟨haw, hn1, hw⟩ := hw
        refine c_clone (rest := [.int ((((C7.nl q13)).nu (y10))), .int ((((C7.nl q13)).so (y10))), .ref (q13), .ref (q13), .int (p1), .ref (h 1)]) F hl.1 I (hts (.methodLink RX1 51 ⟨"[J", "clone", "()Ljava/lang/Object;"⟩) (by decide +kernel)) (hts (.sameMethod "[J" "java/lang/Object" "clone" "()Ljava/lang/Object;") (by decide +kernel)) (hts (.native ⟨"java/lang/Object", "clone", "()Ljava/lang/Object;"⟩) (by decide +kernel)) (hts (.instanceMethod ⟨"java/lang/Object", "clone", "()Ljava/lang/Object;"⟩) (by decide +kernel)) (hts (.selects "[J" ⟨"[J", "clone", "()Ljava/lang/Object;"⟩ ⟨"java/lang/Object", "clone", "()Ljava/lang/Object;"⟩) (by decide +kernel)) haw (Nat.le_of_ble_eq_true rfl) (Nat.le_of_ble_eq_true rfl) (by decide) (by show 3 + _ ≤ 27; omega) dX1_copy_62 (fun q16 H hq I => ?_)
        have hw := hw q16 hq
        refine W.widen (k := 2) (n := 27) (by omega) (by omega) ?_
        refine c_castA F I (c_aw_na _ _ _ _) (hts (.classLink RX1 52 "[J") (by decide +kernel)) dX1_copy_65 ?_
        refine c_callI (rest := [.ref (q13), .int (p1), .ref (h 1)]) F I (c_X0_init (q13) ((((C7.nl q13)).so (y10))) ((((C7.nl q13)).nu (y10))) (q16) _ _ hw) (cwI 3 hts gX1_copy_X0_init rfl rfl rfl (hts (.initialized RX0) (by decide +kernel)) (hts (.methodLink RX1 31 yX0_init) (by decide +kernel)) (hts (.instanceMethod yX0_init) (by decide +kernel)) rfl (by decide +kernel) ⟨Nat.le_of_ble_eq_true rfl, Nat.le_of_ble_eq_true rfl⟩) rfl hl.1 rfl (Nat.le_of_ble_eq_true rfl) dX1_copy_68 ⟨by decide, by decide⟩ (fun C18 H locs hw I => ?_)
        obtain ⟨hld, hi19, hw⟩ := hw
        refine c_aast F I hld hi19 dX1_copy_71 (fun H locs I => ?_)
        refine lv_aload_n hx hb dX1_copy_72 rfl (lv_at hl 2 rfl) ?_
        refine lv_dup hx hb dX1_copy_73 rfl ?_
        refine c_get F hin I 10 (by decide) (v := .int ((C18.fi 10))) rfl (hts (.fieldLink RX1 34 "CuttingTable" "reelsMade" "I") (by decide +kernel)) dX1_copy_74 ?_
        refine lv_iconst (v := (1 : Int32)) hx hb dX1_copy_77 (by decide) ?_
        refine lv_iadd hx hb dX1_copy_78 ?_
        refine c_put F hin I 10 (by decide) (hts (.fieldLink RX1 34 "CuttingTable" "reelsMade" "I") (by decide +kernel)) dX1_copy_79 (fun H locs I => ?_)
        refine lv_aload_n hx hb dX1_copy_82 rfl (lv_at hl 2 rfl) ?_
        refine lv_iconst (v := (0 : Int32)) hx hb dX1_copy_83 (by decide) ?_
        refine lv_iconst (v := (0 : Int32)) hx hb dX1_copy_84 (by decide) ?_
        refine lv_iconst (v := (0 : Int32)) hx hb dX1_copy_85 (by decide) ?_
        refine c_calli (rest := []) F I (c_X1_settle ((0 : Int32)) ((0 : Int32)) ((0 : Int32)) _ _ hw) (cwV 3 hts gX1_copy_X1_settle rfl rfl rfl (by decide +kernel) ⟨Nat.le_of_ble_eq_true rfl, Nat.le_of_ble_eq_true rfl⟩) rfl hl.1 rfl (Nat.le_of_ble_eq_true rfl) dX1_copy_86 ⟨by decide, by decide⟩ (fun r20 C21 H locs hw I => ?_)
        refine W.widen (k := 2) (n := 27) (by omega) (by omega) ?_
        exact c_reti F hr hlk I dX1_copy_89 hw
    · have hw := hw.2 c_8
      refine lv_aload_n hx hb dX1_copy_22 rfl (lv_at hl 1 rfl) ?_
      refine lv_iload_n hx hb dX1_copy_23 rfl (lv_at hl 0 rfl) ?_
      refine lv_iconst (v := (0 : Int32)) hx hb dX1_copy_24 (by decide) ?_
      refine lv_iconst (v := (0 : Int32)) hx hb dX1_copy_25 (by decide) ?_
      refine c_calli (rest := []) F I (c_X1_settle (r6) ((0 : Int32)) ((0 : Int32)) _ _ hw) (cwV 3 hts gX1_copy_X1_settle rfl rfl rfl (by decide +kernel) ⟨Nat.le_of_ble_eq_true rfl, Nat.le_of_ble_eq_true rfl⟩) rfl hl.1 rfl (Nat.le_of_ble_eq_true rfl) dX1_copy_26 ⟨by decide, by decide⟩ (fun r22 C23 H locs hw I => ?_)
      refine W.widen (k := 2) (n := 27) (by omega) (by omega) ?_
      exact c_reti F hr hlk I dX1_copy_29 hw
abbrev rm_X1_clear : Room := { frames := 1, cells := 0, slots := 0, locals := 23 }
def wp_X1_clear (p0 : Int32) (C : cS) (K : Int32 → cS → Prop) : Prop := wp_X1_isSpindle (p0) (fun r1 => ((¬ r1 = 0 → (vp_in (p0) 8 ∧ wp_X1_settle ((0 : Int32)) ((0 : Int32)) ((0 : Int32)) (C.ssp (p0).toNatClampNeg none) (fun r4 C5 => K (r4) C5))) ∧ (r1 = 0 → wp_X1_settle ((6 : Int32)) ((0 : Int32)) ((0 : Int32)) C (fun r6 C7 => K (r6) C7))))
set_option maxHeartbeats 4000000 in
set_option maxRecDepth 100000 in
theorem c_X1_clear {l : Launch} {D : va_G} {cI cJ cO : ClassId} {h : Nat → Nat} (p0 : Int32) (C : cS) (K : Int32 → cS → Prop) (hw : wp_X1_clear p0 C K) : cMi l D cI cJ cO h yX1_clear wsX1_clear rm_X1_clear 0 0 [.ref (h 0), .int (p0)] K C := by
  refine c_starti (rt := some .int) (R0 := RX1) (by decide) rfl rfl (Nat.le_of_ble_eq_true rfl) ?_
  intro p e s m below meth c A ls F hr hlk I hl hini
  have hin : ∀ w ∈ u_ws RX1 TX1 14, w ∈ wsX1_clear := by decide +kernel
  have hin0 : True := trivial
  obtain ⟨hx, hb, hml, hown, hts⟩ := id F
  have hl : lv_has ls 2 [(0, .ref (h 0)), (1, .int (p0))] := hl
  unfold wp_X1_clear at hw
  refine lv_iload_n hx hb dX1_clear_0 rfl (lv_at hl 1 rfl) ?_
  refine s_calli (rest := []) F (c_X1_isSpindle (p0) _ hw) (va_cwS 1 hts gX1_clear_X1_isSpindle rfl rfl rfl (by decide +kernel) ⟨Nat.le_of_ble_eq_true rfl, Nat.le_of_ble_eq_true rfl⟩) rfl hl.1 rfl (Nat.le_of_ble_eq_true rfl) dX1_clear_1 ⟨Nat.zero_le _, Nat.zero_le _⟩ (fun r1 hw => ?_)
  refine lv_if_ne (tgt := 16) hx hb dX1_clear_4 (by decide) (fun c_2 => ?_) (fun c_2 => ?_)
  · have hw := hw.1 c_2
    refine lv_aload_n hx hb dX1_clear_16 rfl (lv_at hl 0 rfl) ?_
    refine c_get F hin I 0 (by decide) (v := .ref (h 1)) rfl (hts (.fieldLink RX1 11 "CuttingTable" "spindles" "[LCuttingTable$Load;") (by decide +kernel)) dX1_clear_17 ?_
    refine lv_iload_n hx hb dX1_clear_20 rfl (lv_at hl 1 rfl) ?_
    refine lv_null hx hb dX1_clear_21 ?_
    obtain ⟨hi3, hw⟩ := hw
    refine c_aastN F I hi3 dX1_clear_22 (fun H locs I => ?_)
    refine lv_aload_n hx hb dX1_clear_23 rfl (lv_at hl 0 rfl) ?_
    refine lv_iconst (v := (0 : Int32)) hx hb dX1_clear_24 (by decide) ?_
    refine lv_iconst (v := (0 : Int32)) hx hb dX1_clear_25 (by decide) ?_
    refine lv_iconst (v := (0 : Int32)) hx hb dX1_clear_26 (by decide) ?_
    refine c_calli (rest := []) F I (c_X1_settle ((0 : Int32)) ((0 : Int32)) ((0 : Int32)) _ _ hw) (cwV 3 hts gX1_clear_X1_settle rfl rfl rfl (by decide +kernel) ⟨Nat.le_of_ble_eq_true rfl, Nat.le_of_ble_eq_true rfl⟩) rfl hl.1 rfl (Nat.le_of_ble_eq_true rfl) dX1_clear_27 ⟨Nat.zero_le _, Nat.zero_le _⟩ (fun r4 C5 H locs hw I => ?_)
    exact c_reti F hr hlk I dX1_clear_30 hw
  · have hw := hw.2 c_2
    refine lv_aload_n hx hb dX1_clear_7 rfl (lv_at hl 0 rfl) ?_
    refine lv_bipush (v := (6 : Int32)) hx hb dX1_clear_8 (by decide) ?_
    refine lv_iconst (v := (0 : Int32)) hx hb dX1_clear_10 (by decide) ?_
    refine lv_iconst (v := (0 : Int32)) hx hb dX1_clear_11 (by decide) ?_
    refine c_calli (rest := []) F I (c_X1_settle ((6 : Int32)) ((0 : Int32)) ((0 : Int32)) _ _ hw) (cwV 3 hts gX1_clear_X1_settle rfl rfl rfl (by decide +kernel) ⟨Nat.le_of_ble_eq_true rfl, Nat.le_of_ble_eq_true rfl⟩) rfl hl.1 rfl (Nat.le_of_ble_eq_true rfl) dX1_clear_12 ⟨Nat.zero_le _, Nat.zero_le _⟩ (fun r6 C7 H locs hw I => ?_)
    exact c_reti F hr hlk I dX1_clear_15 hw
abbrev rm_X1_put : Room := { frames := 3, cells := 0, slots := 0, locals := 67 }
def wp_X1_put (p0 : Int32) (p1 : Int32) (p2 : Int64) (C : cS) (K : Int32 → cS → Prop) : Prop := wp_X1_refusalOfFrame (p0) ((1 : Int32)) (p1) C (fun r1 C2 => ((r1 = 0 → (vp_in (p0) 8 ∧ ((((C2).sp (p0).toNatClampNeg) = none → False) ∧ (∀ y5, ((C2).sp (p0).toNatClampNeg) = some y5 → ((C2).ld (y5) ∧ ∃ b7, (C2).fr (y5) = some b7 ∧ ((C2).ld (y5) ∧ wp_X1_fitted (((C2).so (y5))) (p2) (fun r9 => ((C2).aw (b7) ∧ vp_in (p1) ((C2).ln (b7)) ∧ wp_X1_emptyBin  (C2.sal (b7) (p1).toNatClampNeg (r9)) (fun C12 => wp_X1_settle ((0 : Int32)) ((0 : Int32)) ((0 : Int32)) C12 (fun r13 C14 => K (r13) C14)))))))))) ∧ (¬ r1 = 0 → wp_X1_settle (r1) ((0 : Int32)) ((0 : Int32)) C2 (fun r15 C16 => K (r15) C16))))
set_option maxHeartbeats 4000000 in
set_option maxRecDepth 100000 in
theorem c_X1_put {l : Launch} {D : va_G} {cI cJ cO : ClassId} {h : Nat → Nat} (p0 : Int32) (p1 : Int32) (p2 : Int64) (C : cS) (K : Int32 → cS → Prop) (hw : wp_X1_put p0 p1 p2 C K) : cMi l D cI cJ cO h yX1_put wsX1_put rm_X1_put 0 0 [.ref (h 0), .int (p0), .int (p1), .long (p2)] K C := by
  refine c_starti (rt := some .int) (R0 := RX1) (by decide) rfl rfl (Nat.le_of_ble_eq_true rfl) ?_
  intro p e s m below meth c A ls F hr hlk I hl hini
  have hin : ∀ w ∈ u_ws RX1 TX1 14, w ∈ wsX1_put := by decide +kernel
  have hin0 : ∀ w ∈ u_ws RX0 TX0 3, w ∈ wsX1_put := by decide +kernel
  obtain ⟨hx, hb, hml, hown, hts⟩ := id F
  have hl : lv_has ls 7 [(0, .ref (h 0)), (1, .int (p0)), (2, .int (p1)), (3, .long (p2))] := hl
  unfold wp_X1_put at hw
  refine lv_aload_n hx hb dX1_put_0 rfl (lv_at hl 0 rfl) ?_
  refine lv_iload_n hx hb dX1_put_1 rfl (lv_at hl 1 rfl) ?_
  refine lv_iconst (v := (1 : Int32)) hx hb dX1_put_2 (by decide) ?_
  refine lv_iload_n hx hb dX1_put_3 rfl (lv_at hl 2 rfl) ?_
  refine c_calli (rest := []) F I (c_X1_refusalOfFrame (p0) ((1 : Int32)) (p1) _ _ hw) (cwV 3 hts gX1_put_X1_refusalOfFrame rfl rfl rfl (by decide +kernel) ⟨Nat.le_of_ble_eq_true rfl, Nat.le_of_ble_eq_true rfl⟩) rfl hl.1 rfl (Nat.le_of_ble_eq_true rfl) dX1_put_4 ⟨Nat.zero_le _, Nat.zero_le _⟩ (fun r1 C2 H locs hw I => ?_)
  refine lv_istore (lv' := [(5, .int (r1)), (0, .ref (h 0)), (1, .int (p0)), (2, .int (p1)), (3, .long (p2))]) hx hb dX1_put_7 hl (by decide) rfl (fun ls hl => ?_)
  refine lv_iload hx hb dX1_put_9 (lv_at hl 0 rfl) ?_
  refine lv_if_eq (tgt := 23) hx hb dX1_put_11 (by decide) (fun c_3 => ?_) (fun c_3 => ?_)
  · have hw := hw.1 c_3
    refine lv_aload_n hx hb dX1_put_23 rfl (lv_at hl 1 rfl) ?_
    refine c_get F hin I 0 (by decide) (v := .ref (h 1)) rfl (hts (.fieldLink RX1 11 "CuttingTable" "spindles" "[LCuttingTable$Load;") (by decide +kernel)) dX1_put_24 ?_
    refine lv_iload_n hx hb dX1_put_27 rfl (lv_at hl 2 rfl) ?_
    obtain ⟨hi4, hw⟩ := hw
    refine c_aald F I hi4 dX1_put_28 ?_
    rcases e6 : ((C2).sp (p0).toNatClampNeg) with _ | y5
    · have hw := hw.1 e6
      refine lv_astoreN (lv' := [(6, .null), (5, .int (r1)), (0, .ref (h 0)), (1, .int (p0)), (2, .int (p1)), (3, .long (p2))]) hx hb dX1_put_29 hl (by decide) rfl (fun ls hl => ?_)
      refine lv_aloadN hx hb dX1_put_31 (lv_at hl 0 rfl) ?_
      exact hw.elim
    · have hw := hw.2 y5 e6
      refine lv_astore (lv' := [(6, .ref (y5)), (5, .int (r1)), (0, .ref (h 0)), (1, .int (p0)), (2, .int (p1)), (3, .long (p2))]) hx hb dX1_put_29 hl (by decide) rfl (fun ls hl => ?_)
      refine lv_aload hx hb dX1_put_31 (lv_at hl 0 rfl) ?_
      obtain ⟨hld, b7, e8, hw⟩ := hw
      refine c_lget F hin0 I hld 2 (by decide) (v := .ref b7) (by rw [← show va_rf ((C2).fr (y5)) = .ref b7 from by rw [e8]; rfl]; rfl) (hts (.fieldLink RX1 48 "CuttingTable$Load" "frames" "[J") (by decide +kernel)) dX1_put_33 ?_
      refine lv_iload_n hx hb dX1_put_36 rfl (lv_at hl 4 rfl) ?_
      refine lv_aload hx hb dX1_put_37 (lv_at hl 0 rfl) ?_
      obtain ⟨hld, hw⟩ := hw
      refine c_lget F hin0 I hld 0 (by decide) (v := .int (((C2).so (y5)))) rfl (hts (.fieldLink RX1 42 "CuttingTable$Load" "sort" "I") (by decide +kernel)) dX1_put_39 ?_
      refine lv_lload_n hx hb dX1_put_42 rfl (lv_at hl 5 rfl) ?_
      refine s_calll (rest := [.int (p1), .ref (b7)]) F (c_X1_fitted (((C2).so (y5))) (p2) _ hw) (va_cwS 2 hts gX1_put_X1_fitted rfl rfl rfl (by decide +kernel) ⟨Nat.le_of_ble_eq_true rfl, Nat.le_of_ble_eq_true rfl⟩) rfl hl.1 rfl (Nat.le_of_ble_eq_true rfl) dX1_put_43 ⟨Nat.zero_le _, Nat.zero_le _⟩ (fun r9 hw => ?_)
      obtain ⟨haw, hi10, hw⟩ := hw
      refine c_last F I haw hi10 dX1_put_46 (fun H locs I => ?_)
      refine lv_aload_n hx hb dX1_put_47 rfl (lv_at hl 2 rfl) ?_
      refine c_callv (rest := []) F I (c_X1_emptyBin  _ _ hw) (cwV 0 hts gX1_put_X1_emptyBin rfl rfl rfl (by decide +kernel) ⟨Nat.le_of_ble_eq_true rfl, Nat.le_of_ble_eq_true rfl⟩) rfl hl.1 rfl (Nat.le_of_ble_eq_true rfl) dX1_put_48 ⟨Nat.zero_le _, Nat.zero_le _⟩ (fun C12 H locs hw I => ?_)
      refine lv_aload_n hx hb dX1_put_51 rfl (lv_at hl 2 rfl) ?_
      refine lv_iconst (v := (0 : Int32)) hx hb dX1_put_52 (by decide) ?_
      refine lv_iconst (v := (0 : Int32)) hx hb dX1_put_53 (by decide) ?_
      refine lv_iconst (v := (0 : Int32)) hx hb dX1_put_54 (by decide) ?_
      refine c_calli (rest := []) F I (c_X1_settle ((0 : Int32)) ((0 : Int32)) ((0 : Int32)) _ _ hw) (cwV 3 hts gX1_put_X1_settle rfl rfl rfl (by decide +kernel) ⟨Nat.le_of_ble_eq_true rfl, Nat.le_of_ble_eq_true rfl⟩) rfl hl.1 rfl (Nat.le_of_ble_eq_true rfl) dX1_put_55 ⟨Nat.zero_le _, Nat.zero_le _⟩ (fun r13 C14 H locs hw I => ?_)
      exact c_reti F hr hlk I dX1_put_58 hw
  · have hw := hw.2 c_3
    refine lv_aload_n hx hb dX1_put_14 rfl (lv_at hl 1 rfl) ?_
    refine lv_iload hx hb dX1_put_15 (lv_at hl 0 rfl) ?_
    refine lv_iconst (v := (0 : Int32)) hx hb dX1_put_17 (by decide) ?_
    refine lv_iconst (v := (0 : Int32)) hx hb dX1_put_18 (by decide) ?_
    refine c_calli (rest := []) F I (c_X1_settle (r1) ((0 : Int32)) ((0 : Int32)) _ _ hw) (cwV 3 hts gX1_put_X1_settle rfl rfl rfl (by decide +kernel) ⟨Nat.le_of_ble_eq_true rfl, Nat.le_of_ble_eq_true rfl⟩) rfl hl.1 rfl (Nat.le_of_ble_eq_true rfl) dX1_put_19 ⟨Nat.zero_le _, Nat.zero_le _⟩ (fun r15 C16 H locs hw I => ?_)
    exact c_reti F hr hlk I dX1_put_22 hw
abbrev rm_X1_shoot : Room := { frames := 3, cells := 0, slots := 0, locals := 67 }
def wp_X1_shoot (p0 : Int32) (p1 : Int32) (p2 : Int32) (p3 : Int32) (C : cS) (K : Int32 → cS → Prop) : Prop := ((p2 < 0 → wp_X1_settle ((6 : Int32)) ((0 : Int32)) ((0 : Int32)) C (fun r2 C3 => K (r2) C3)) ∧ (¬ p2 < 0 → ((p2 ≤ (3 : Int32) → wp_X1_refusalOfFrame (p0) ((0 : Int32)) (p1) C (fun r5 C6 => ((r5 = 0 → ((¬ p2 = (3 : Int32) → wp_X1_newShot (p2) (p3) C6 (fun r9 C10 => ((¬ r5 = (4 : Int32) → (vp_in (p0) 8 ∧ ((((C10).sp (p0).toNatClampNeg) = none → False) ∧ (∀ y13, ((C10).sp (p0).toNatClampNeg) = some y13 → ((C10).ld (y13) ∧ wp_X1_bears (((C10).so (y13))) (r9) (fun r15 => ((¬ r15 = 0 → ((C10).ld (y13) ∧ ∃ b17, (C10).fr (y13) = some b17 ∧ ((C10).aw (b17) ∧ vp_in (p1) ((C10).ln (b17)) ∧ wp_X1_emptyBin  (C10.sal (b17) (p1).toNatClampNeg (r9)) (fun C21 => wp_X1_settle ((0 : Int32)) ((0 : Int32)) ((0 : Int32)) C21 (fun r22 C23 => K (r22) C23))))) ∧ (r15 = 0 → wp_X1_settle ((5 : Int32)) ((0 : Int32)) ((0 : Int32)) C10 (fun r24 C25 => K (r24) C25))))))))) ∧ (r5 = (4 : Int32) → wp_X1_settle ((4 : Int32)) ((0 : Int32)) ((0 : Int32)) C10 (fun r26 C27 => K (r26) C27))))) ∧ (p2 = (3 : Int32) → ((¬ r5 = (4 : Int32) → (vp_in (p0) 8 ∧ ((((C6).sp (p0).toNatClampNeg) = none → False) ∧ (∀ y30, ((C6).sp (p0).toNatClampNeg) = some y30 → ((C6).ld (y30) ∧ wp_X1_bears (((C6).so (y30))) ((0 : Int64)) (fun r32 => ((¬ r32 = 0 → ((C6).ld (y30) ∧ ∃ b34, (C6).fr (y30) = some b34 ∧ ((C6).aw (b34) ∧ vp_in (p1) ((C6).ln (b34)) ∧ wp_X1_emptyBin  (C6.sal (b34) (p1).toNatClampNeg ((0 : Int64))) (fun C38 => wp_X1_settle ((0 : Int32)) ((0 : Int32)) ((0 : Int32)) C38 (fun r39 C40 => K (r39) C40))))) ∧ (r32 = 0 → wp_X1_settle ((5 : Int32)) ((0 : Int32)) ((0 : Int32)) C6 (fun r41 C42 => K (r41) C42))))))))) ∧ (r5 = (4 : Int32) → wp_X1_settle ((4 : Int32)) ((0 : Int32)) ((0 : Int32)) C6 (fun r43 C44 => K (r43) C44)))))) ∧ (¬ r5 = 0 → ((r5 = (4 : Int32) → ((¬ p2 = (3 : Int32) → wp_X1_newShot (p2) (p3) C6 (fun r47 C48 => ((¬ r5 = (4 : Int32) → (vp_in (p0) 8 ∧ ((((C48).sp (p0).toNatClampNeg) = none → False) ∧ (∀ y51, ((C48).sp (p0).toNatClampNeg) = some y51 → ((C48).ld (y51) ∧ wp_X1_bears (((C48).so (y51))) (r47) (fun r53 => ((¬ r53 = 0 → ((C48).ld (y51) ∧ ∃ b55, (C48).fr (y51) = some b55 ∧ ((C48).aw (b55) ∧ vp_in (p1) ((C48).ln (b55)) ∧ wp_X1_emptyBin  (C48.sal (b55) (p1).toNatClampNeg (r47)) (fun C59 => wp_X1_settle ((0 : Int32)) ((0 : Int32)) ((0 : Int32)) C59 (fun r60 C61 => K (r60) C61))))) ∧ (r53 = 0 → wp_X1_settle ((5 : Int32)) ((0 : Int32)) ((0 : Int32)) C48 (fun r62 C63 => K (r62) C63))))))))) ∧ (r5 = (4 : Int32) → wp_X1_settle ((4 : Int32)) ((0 : Int32)) ((0 : Int32)) C48 (fun r64 C65 => K (r64) C65))))) ∧ (p2 = (3 : Int32) → ((¬ r5 = (4 : Int32) → (vp_in (p0) 8 ∧ ((((C6).sp (p0).toNatClampNeg) = none → False) ∧ (∀ y68, ((C6).sp (p0).toNatClampNeg) = some y68 → ((C6).ld (y68) ∧ wp_X1_bears (((C6).so (y68))) ((0 : Int64)) (fun r70 => ((¬ r70 = 0 → ((C6).ld (y68) ∧ ∃ b72, (C6).fr (y68) = some b72 ∧ ((C6).aw (b72) ∧ vp_in (p1) ((C6).ln (b72)) ∧ wp_X1_emptyBin  (C6.sal (b72) (p1).toNatClampNeg ((0 : Int64))) (fun C76 => wp_X1_settle ((0 : Int32)) ((0 : Int32)) ((0 : Int32)) C76 (fun r77 C78 => K (r77) C78))))) ∧ (r70 = 0 → wp_X1_settle ((5 : Int32)) ((0 : Int32)) ((0 : Int32)) C6 (fun r79 C80 => K (r79) C80))))))))) ∧ (r5 = (4 : Int32) → wp_X1_settle ((4 : Int32)) ((0 : Int32)) ((0 : Int32)) C6 (fun r81 C82 => K (r81) C82)))))) ∧ (¬ r5 = (4 : Int32) → wp_X1_settle (r5) ((0 : Int32)) ((0 : Int32)) C6 (fun r83 C84 => K (r83) C84))))))) ∧ (¬ p2 ≤ (3 : Int32) → wp_X1_settle ((6 : Int32)) ((0 : Int32)) ((0 : Int32)) C (fun r85 C86 => K (r85) C86)))))
set_option maxHeartbeats 4000000 in
set_option maxRecDepth 100000 in
theorem c_X1_shoot {l : Launch} {D : va_G} {cI cJ cO : ClassId} {h : Nat → Nat} (p0 : Int32) (p1 : Int32) (p2 : Int32) (p3 : Int32) (C : cS) (K : Int32 → cS → Prop) (hw : wp_X1_shoot p0 p1 p2 p3 C K) : cMi l D cI cJ cO h yX1_shoot wsX1_shoot rm_X1_shoot 0 0 [.ref (h 0), .int (p0), .int (p1), .int (p2), .int (p3)] K C := by
  refine c_starti (rt := some .int) (R0 := RX1) (by decide) rfl rfl (Nat.le_of_ble_eq_true rfl) ?_
  intro p e s m below meth c A ls F hr hlk I hl hini
  have hin : ∀ w ∈ u_ws RX1 TX1 14, w ∈ wsX1_shoot := by decide +kernel
  have hin0 : ∀ w ∈ u_ws RX0 TX0 3, w ∈ wsX1_shoot := by decide +kernel
  obtain ⟨hx, hb, hml, hown, hts⟩ := id F
  have hl : lv_has ls 9 [(0, .ref (h 0)), (1, .int (p0)), (2, .int (p1)), (3, .int (p2)), (4, .int (p3))] := hl
  unfold wp_X1_shoot at hw
  refine lv_iload_n hx hb dX1_shoot_0 rfl (lv_at hl 3 rfl) ?_
  refine lv_if_lt (tgt := 9) hx hb dX1_shoot_1 (by decide) (fun c_1 => ?_) (fun c_1 => ?_)
  · have hw := hw.1 c_1
    refine lv_aload_n hx hb dX1_shoot_9 rfl (lv_at hl 0 rfl) ?_
    refine lv_bipush (v := (6 : Int32)) hx hb dX1_shoot_10 (by decide) ?_
    refine lv_iconst (v := (0 : Int32)) hx hb dX1_shoot_12 (by decide) ?_
    refine lv_iconst (v := (0 : Int32)) hx hb dX1_shoot_13 (by decide) ?_
    refine c_calli (rest := []) F I (c_X1_settle ((6 : Int32)) ((0 : Int32)) ((0 : Int32)) _ _ hw) (cwV 3 hts gX1_shoot_X1_settle rfl rfl rfl (by decide +kernel) ⟨Nat.le_of_ble_eq_true rfl, Nat.le_of_ble_eq_true rfl⟩) rfl hl.1 rfl (Nat.le_of_ble_eq_true rfl) dX1_shoot_14 ⟨Nat.zero_le _, Nat.zero_le _⟩ (fun r2 C3 H locs hw I => ?_)
    exact c_reti F hr hlk I dX1_shoot_17 hw
  · have hw := hw.2 c_1
    refine lv_iload_n hx hb dX1_shoot_4 rfl (lv_at hl 3 rfl) ?_
    refine lv_iconst (v := (3 : Int32)) hx hb dX1_shoot_5 (by decide) ?_
    refine lv_icmp_le (tgt := 18) hx hb dX1_shoot_6 (by decide) (fun c_4 => ?_) (fun c_4 => ?_)
    · have hw := hw.1 c_4
      refine lv_aload_n hx hb dX1_shoot_18 rfl (lv_at hl 0 rfl) ?_
      refine lv_iload_n hx hb dX1_shoot_19 rfl (lv_at hl 1 rfl) ?_
      refine lv_iconst (v := (0 : Int32)) hx hb dX1_shoot_20 (by decide) ?_
      refine lv_iload_n hx hb dX1_shoot_21 rfl (lv_at hl 2 rfl) ?_
      refine c_calli (rest := []) F I (c_X1_refusalOfFrame (p0) ((0 : Int32)) (p1) _ _ hw) (cwV 3 hts gX1_shoot_X1_refusalOfFrame rfl rfl rfl (by decide +kernel) ⟨Nat.le_of_ble_eq_true rfl, Nat.le_of_ble_eq_true rfl⟩) rfl hl.1 rfl (Nat.le_of_ble_eq_true rfl) dX1_shoot_22 ⟨Nat.zero_le _, Nat.zero_le _⟩ (fun r5 C6 H locs hw I => ?_)
      refine lv_istore (lv' := [(5, .int (r5)), (0, .ref (h 0)), (1, .int (p0)), (2, .int (p1)), (3, .int (p2)), (4, .int (p3))]) hx hb dX1_shoot_25 hl (by decide) rfl (fun ls hl => ?_)
      refine lv_iload hx hb dX1_shoot_27 (lv_at hl 0 rfl) ?_
      refine lv_if_eq (tgt := 47) hx hb dX1_shoot_29 (by decide) (fun c_7 => ?_) (fun c_7 => ?_)
      · have hw := hw.1 c_7
        refine lv_iload_n hx hb dX1_shoot_47 rfl (lv_at hl 4 rfl) ?_
        refine lv_iconst (v := (3 : Int32)) hx hb dX1_shoot_48 (by decide) ?_
        refine lv_icmp_ne (tgt := 56) hx hb dX1_shoot_49 (by decide) (fun c_8 => ?_) (fun c_8 => ?_)
        · have hw := hw.1 c_8
          refine lv_aload_n hx hb dX1_shoot_56 rfl (lv_at hl 1 rfl) ?_
          refine lv_iload_n hx hb dX1_shoot_57 rfl (lv_at hl 4 rfl) ?_
          refine lv_iload hx hb dX1_shoot_58 (lv_at hl 5 rfl) ?_
          refine c_calll (rest := []) F I (c_X1_newShot (p2) (p3) _ _ hw) (cwV 2 hts gX1_shoot_X1_newShot rfl rfl rfl (by decide +kernel) ⟨Nat.le_of_ble_eq_true rfl, Nat.le_of_ble_eq_true rfl⟩) rfl hl.1 rfl (Nat.le_of_ble_eq_true rfl) dX1_shoot_60 ⟨Nat.zero_le _, Nat.zero_le _⟩ (fun r9 C10 H locs hw I => ?_)
          refine lv_lstore (lv' := [(6, .long (r9)), (5, .int (r5)), (0, .ref (h 0)), (1, .int (p0)), (2, .int (p1)), (3, .int (p2)), (4, .int (p3))]) hx hb dX1_shoot_63 hl (by decide) rfl (fun ls hl => ?_)
          refine lv_iload hx hb dX1_shoot_65 (lv_at hl 1 rfl) ?_
          refine lv_iconst (v := (4 : Int32)) hx hb dX1_shoot_67 (by decide) ?_
          refine lv_icmp_ne (tgt := 79) hx hb dX1_shoot_68 (by decide) (fun c_11 => ?_) (fun c_11 => ?_)
          · have hw := hw.1 c_11
            refine lv_aload_n hx hb dX1_shoot_79 rfl (lv_at hl 2 rfl) ?_
            refine c_get F hin I 0 (by decide) (v := .ref (h 1)) rfl (hts (.fieldLink RX1 11 "CuttingTable" "spindles" "[LCuttingTable$Load;") (by decide +kernel)) dX1_shoot_80 ?_
            refine lv_iload_n hx hb dX1_shoot_83 rfl (lv_at hl 3 rfl) ?_
            obtain ⟨hi12, hw⟩ := hw
            refine c_aald F I hi12 dX1_shoot_84 ?_
            rcases e14 : ((C10).sp (p0).toNatClampNeg) with _ | y13
            · have hw := hw.1 e14
              refine lv_astoreN (lv' := [(8, .null), (6, .long (r9)), (5, .int (r5)), (0, .ref (h 0)), (1, .int (p0)), (2, .int (p1)), (3, .int (p2)), (4, .int (p3))]) hx hb dX1_shoot_85 hl (by decide) rfl (fun ls hl => ?_)
              refine lv_aloadN hx hb dX1_shoot_87 (lv_at hl 0 rfl) ?_
              exact hw.elim
            · have hw := hw.2 y13 e14
              refine lv_astore (lv' := [(8, .ref (y13)), (6, .long (r9)), (5, .int (r5)), (0, .ref (h 0)), (1, .int (p0)), (2, .int (p1)), (3, .int (p2)), (4, .int (p3))]) hx hb dX1_shoot_85 hl (by decide) rfl (fun ls hl => ?_)
              refine lv_aload hx hb dX1_shoot_87 (lv_at hl 0 rfl) ?_
              obtain ⟨hld, hw⟩ := hw
              refine c_lget F hin0 I hld 0 (by decide) (v := .int (((C10).so (y13)))) rfl (hts (.fieldLink RX1 42 "CuttingTable$Load" "sort" "I") (by decide +kernel)) dX1_shoot_89 ?_
              refine lv_lload hx hb dX1_shoot_92 (lv_at hl 1 rfl) ?_
              refine s_calli (rest := []) F (c_X1_bears (((C10).so (y13))) (r9) _ hw) (va_cwS 2 hts gX1_shoot_X1_bears rfl rfl rfl (by decide +kernel) ⟨Nat.le_of_ble_eq_true rfl, Nat.le_of_ble_eq_true rfl⟩) rfl hl.1 rfl (Nat.le_of_ble_eq_true rfl) dX1_shoot_94 ⟨Nat.zero_le _, Nat.zero_le _⟩ (fun r15 hw => ?_)
              refine lv_if_ne (tgt := 108) hx hb dX1_shoot_97 (by decide) (fun c_16 => ?_) (fun c_16 => ?_)
              · have hw := hw.1 c_16
                refine lv_aload hx hb dX1_shoot_108 (lv_at hl 0 rfl) ?_
                obtain ⟨hld, b17, e18, hw⟩ := hw
                refine c_lget F hin0 I hld 2 (by decide) (v := .ref b17) (by rw [← show va_rf ((C10).fr (y13)) = .ref b17 from by rw [e18]; rfl]; rfl) (hts (.fieldLink RX1 48 "CuttingTable$Load" "frames" "[J") (by decide +kernel)) dX1_shoot_110 ?_
                refine lv_iload_n hx hb dX1_shoot_113 rfl (lv_at hl 5 rfl) ?_
                refine lv_lload hx hb dX1_shoot_114 (lv_at hl 1 rfl) ?_
                obtain ⟨haw, hi19, hw⟩ := hw
                refine c_last F I haw hi19 dX1_shoot_116 (fun H locs I => ?_)
                refine lv_aload_n hx hb dX1_shoot_117 rfl (lv_at hl 3 rfl) ?_
                refine c_callv (rest := []) F I (c_X1_emptyBin  _ _ hw) (cwV 0 hts gX1_shoot_X1_emptyBin rfl rfl rfl (by decide +kernel) ⟨Nat.le_of_ble_eq_true rfl, Nat.le_of_ble_eq_true rfl⟩) rfl hl.1 rfl (Nat.le_of_ble_eq_true rfl) dX1_shoot_118 ⟨Nat.zero_le _, Nat.zero_le _⟩ (fun C21 H locs hw I => ?_)
                refine lv_aload_n hx hb dX1_shoot_121 rfl (lv_at hl 3 rfl) ?_
                refine lv_iconst (v := (0 : Int32)) hx hb dX1_shoot_122 (by decide) ?_
                refine lv_iconst (v := (0 : Int32)) hx hb dX1_shoot_123 (by decide) ?_
                refine lv_iconst (v := (0 : Int32)) hx hb dX1_shoot_124 (by decide) ?_
                refine c_calli (rest := []) F I (c_X1_settle ((0 : Int32)) ((0 : Int32)) ((0 : Int32)) _ _ hw) (cwV 3 hts gX1_shoot_X1_settle rfl rfl rfl (by decide +kernel) ⟨Nat.le_of_ble_eq_true rfl, Nat.le_of_ble_eq_true rfl⟩) rfl hl.1 rfl (Nat.le_of_ble_eq_true rfl) dX1_shoot_125 ⟨Nat.zero_le _, Nat.zero_le _⟩ (fun r22 C23 H locs hw I => ?_)
                exact c_reti F hr hlk I dX1_shoot_128 hw
              · have hw := hw.2 c_16
                refine lv_aload_n hx hb dX1_shoot_100 rfl (lv_at hl 3 rfl) ?_
                refine lv_iconst (v := (5 : Int32)) hx hb dX1_shoot_101 (by decide) ?_
                refine lv_iconst (v := (0 : Int32)) hx hb dX1_shoot_102 (by decide) ?_
                refine lv_iconst (v := (0 : Int32)) hx hb dX1_shoot_103 (by decide) ?_
                refine c_calli (rest := []) F I (c_X1_settle ((5 : Int32)) ((0 : Int32)) ((0 : Int32)) _ _ hw) (cwV 3 hts gX1_shoot_X1_settle rfl rfl rfl (by decide +kernel) ⟨Nat.le_of_ble_eq_true rfl, Nat.le_of_ble_eq_true rfl⟩) rfl hl.1 rfl (Nat.le_of_ble_eq_true rfl) dX1_shoot_104 ⟨Nat.zero_le _, Nat.zero_le _⟩ (fun r24 C25 H locs hw I => ?_)
                exact c_reti F hr hlk I dX1_shoot_107 hw
          · have hw := hw.2 c_11
            refine lv_aload_n hx hb dX1_shoot_71 rfl (lv_at hl 2 rfl) ?_
            refine lv_iconst (v := (4 : Int32)) hx hb dX1_shoot_72 (by decide) ?_
            refine lv_iconst (v := (0 : Int32)) hx hb dX1_shoot_73 (by decide) ?_
            refine lv_iconst (v := (0 : Int32)) hx hb dX1_shoot_74 (by decide) ?_
            refine c_calli (rest := []) F I (c_X1_settle ((4 : Int32)) ((0 : Int32)) ((0 : Int32)) _ _ hw) (cwV 3 hts gX1_shoot_X1_settle rfl rfl rfl (by decide +kernel) ⟨Nat.le_of_ble_eq_true rfl, Nat.le_of_ble_eq_true rfl⟩) rfl hl.1 rfl (Nat.le_of_ble_eq_true rfl) dX1_shoot_75 ⟨Nat.zero_le _, Nat.zero_le _⟩ (fun r26 C27 H locs hw I => ?_)
            exact c_reti F hr hlk I dX1_shoot_78 hw
        · have hw := hw.2 c_8
          refine lv_lconst (v := (0 : Int64)) hx hb dX1_shoot_52 (by decide) ?_
          refine lv_goto (tgt := 63) hx hb dX1_shoot_53 (by decide) ?_
          refine lv_lstore (lv' := [(6, .long ((0 : Int64))), (5, .int (r5)), (0, .ref (h 0)), (1, .int (p0)), (2, .int (p1)), (3, .int (p2)), (4, .int (p3))]) hx hb dX1_shoot_63 hl (by decide) rfl (fun ls hl => ?_)
          refine lv_iload hx hb dX1_shoot_65 (lv_at hl 1 rfl) ?_
          refine lv_iconst (v := (4 : Int32)) hx hb dX1_shoot_67 (by decide) ?_
          refine lv_icmp_ne (tgt := 79) hx hb dX1_shoot_68 (by decide) (fun c_28 => ?_) (fun c_28 => ?_)
          · have hw := hw.1 c_28
            refine lv_aload_n hx hb dX1_shoot_79 rfl (lv_at hl 2 rfl) ?_
            refine c_get F hin I 0 (by decide) (v := .ref (h 1)) rfl (hts (.fieldLink RX1 11 "CuttingTable" "spindles" "[LCuttingTable$Load;") (by decide +kernel)) dX1_shoot_80 ?_
            refine lv_iload_n hx hb dX1_shoot_83 rfl (lv_at hl 3 rfl) ?_
            obtain ⟨hi29, hw⟩ := hw
            refine c_aald F I hi29 dX1_shoot_84 ?_
            rcases e31 : ((C6).sp (p0).toNatClampNeg) with _ | y30
            · have hw := hw.1 e31
              refine lv_astoreN (lv' := [(8, .null), (6, .long ((0 : Int64))), (5, .int (r5)), (0, .ref (h 0)), (1, .int (p0)), (2, .int (p1)), (3, .int (p2)), (4, .int (p3))]) hx hb dX1_shoot_85 hl (by decide) rfl (fun ls hl => ?_)
              refine lv_aloadN hx hb dX1_shoot_87 (lv_at hl 0 rfl) ?_
              exact hw.elim
            · have hw := hw.2 y30 e31
              refine lv_astore (lv' := [(8, .ref (y30)), (6, .long ((0 : Int64))), (5, .int (r5)), (0, .ref (h 0)), (1, .int (p0)), (2, .int (p1)), (3, .int (p2)), (4, .int (p3))]) hx hb dX1_shoot_85 hl (by decide) rfl (fun ls hl => ?_)
              refine lv_aload hx hb dX1_shoot_87 (lv_at hl 0 rfl) ?_
              obtain ⟨hld, hw⟩ := hw
              refine c_lget F hin0 I hld 0 (by decide) (v := .int (((C6).so (y30)))) rfl (hts (.fieldLink RX1 42 "CuttingTable$Load" "sort" "I") (by decide +kernel)) dX1_shoot_89 ?_
              refine lv_lload hx hb dX1_shoot_92 (lv_at hl 1 rfl) ?_
              refine s_calli (rest := []) F (c_X1_bears (((C6).so (y30))) ((0 : Int64)) _ hw) (va_cwS 2 hts gX1_shoot_X1_bears rfl rfl rfl (by decide +kernel) ⟨Nat.le_of_ble_eq_true rfl, Nat.le_of_ble_eq_true rfl⟩) rfl hl.1 rfl (Nat.le_of_ble_eq_true rfl) dX1_shoot_94 ⟨Nat.zero_le _, Nat.zero_le _⟩ (fun r32 hw => ?_)
              refine lv_if_ne (tgt := 108) hx hb dX1_shoot_97 (by decide) (fun c_33 => ?_) (fun c_33 => ?_)
              · have hw := hw.1 c_33
                refine lv_aload hx hb dX1_shoot_108 (lv_at hl 0 rfl) ?_
                obtain ⟨hld, b34, e35, hw⟩ := hw
                refine c_lget F hin0 I hld 2 (by decide) (v := .ref b34) (by rw [← show va_rf ((C6).fr (y30)) = .ref b34 from by rw [e35]; rfl]; rfl) (hts (.fieldLink RX1 48 "CuttingTable$Load" "frames" "[J") (by decide +kernel)) dX1_shoot_110 ?_
                refine lv_iload_n hx hb dX1_shoot_113 rfl (lv_at hl 5 rfl) ?_
                refine lv_lload hx hb dX1_shoot_114 (lv_at hl 1 rfl) ?_
                obtain ⟨haw, hi36, hw⟩ := hw
                refine c_last F I haw hi36 dX1_shoot_116 (fun H locs I => ?_)
                refine lv_aload_n hx hb dX1_shoot_117 rfl (lv_at hl 3 rfl) ?_
                refine c_callv (rest := []) F I (c_X1_emptyBin  _ _ hw) (cwV 0 hts gX1_shoot_X1_emptyBin rfl rfl rfl (by decide +kernel) ⟨Nat.le_of_ble_eq_true rfl, Nat.le_of_ble_eq_true rfl⟩) rfl hl.1 rfl (Nat.le_of_ble_eq_true rfl) dX1_shoot_118 ⟨Nat.zero_le _, Nat.zero_le _⟩ (fun C38 H locs hw I => ?_)
                refine lv_aload_n hx hb dX1_shoot_121 rfl (lv_at hl 3 rfl) ?_
                refine lv_iconst (v := (0 : Int32)) hx hb dX1_shoot_122 (by decide) ?_
                refine lv_iconst (v := (0 : Int32)) hx hb dX1_shoot_123 (by decide) ?_
                refine lv_iconst (v := (0 : Int32)) hx hb dX1_shoot_124 (by decide) ?_
                refine c_calli (rest := []) F I (c_X1_settle ((0 : Int32)) ((0 : Int32)) ((0 : Int32)) _ _ hw) (cwV 3 hts gX1_shoot_X1_settle rfl rfl rfl (by decide +kernel) ⟨Nat.le_of_ble_eq_true rfl, Nat.le_of_ble_eq_true rfl⟩) rfl hl.1 rfl (Nat.le_of_ble_eq_true rfl) dX1_shoot_125 ⟨Nat.zero_le _, Nat.zero_le _⟩ (fun r39 C40 H locs hw I => ?_)
                exact c_reti F hr hlk I dX1_shoot_128 hw
              · have hw := hw.2 c_33
                refine lv_aload_n hx hb dX1_shoot_100 rfl (lv_at hl 3 rfl) ?_
                refine lv_iconst (v := (5 : Int32)) hx hb dX1_shoot_101 (by decide) ?_
                refine lv_iconst (v := (0 : Int32)) hx hb dX1_shoot_102 (by decide) ?_
                refine lv_iconst (v := (0 : Int32)) hx hb dX1_shoot_103 (by decide) ?_
                refine c_calli (rest := []) F I (c_X1_settle ((5 : Int32)) ((0 : Int32)) ((0 : Int32)) _ _ hw) (cwV 3 hts gX1_shoot_X1_settle rfl rfl rfl (by decide +kernel) ⟨Nat.le_of_ble_eq_true rfl, Nat.le_of_ble_eq_true rfl⟩) rfl hl.1 rfl (Nat.le_of_ble_eq_true rfl) dX1_shoot_104 ⟨Nat.zero_le _, Nat.zero_le _⟩ (fun r41 C42 H locs hw I => ?_)
                exact c_reti F hr hlk I dX1_shoot_107 hw
          · have hw := hw.2 c_28
            refine lv_aload_n hx hb dX1_shoot_71 rfl (lv_at hl 2 rfl) ?_
            refine lv_iconst (v := (4 : Int32)) hx hb dX1_shoot_72 (by decide) ?_
            refine lv_iconst (v := (0 : Int32)) hx hb dX1_shoot_73 (by decide) ?_
            refine lv_iconst (v := (0 : Int32)) hx hb dX1_shoot_74 (by decide) ?_
            refine c_calli (rest := []) F I (c_X1_settle ((4 : Int32)) ((0 : Int32)) ((0 : Int32)) _ _ hw) (cwV 3 hts gX1_shoot_X1_settle rfl rfl rfl (by decide +kernel) ⟨Nat.le_of_ble_eq_true rfl, Nat.le_of_ble_eq_true rfl⟩) rfl hl.1 rfl (Nat.le_of_ble_eq_true rfl) dX1_shoot_75 ⟨Nat.zero_le _, Nat.zero_le _⟩ (fun r43 C44 H locs hw I => ?_)
            exact c_reti F hr hlk I dX1_shoot_78 hw
      · have hw := hw.2 c_7
        refine lv_iload hx hb dX1_shoot_32 (lv_at hl 0 rfl) ?_
        refine lv_iconst (v := (4 : Int32)) hx hb dX1_shoot_34 (by decide) ?_
        refine lv_icmp_eq (tgt := 47) hx hb dX1_shoot_35 (by decide) (fun c_45 => ?_) (fun c_45 => ?_)
        · have hw := hw.1 c_45
          refine lv_iload_n hx hb dX1_shoot_47 rfl (lv_at hl 4 rfl) ?_
          refine lv_iconst (v := (3 : Int32)) hx hb dX1_shoot_48 (by decide) ?_
          refine lv_icmp_ne (tgt := 56) hx hb dX1_shoot_49 (by decide) (fun c_46 => ?_) (fun c_46 => ?_)
          · have hw := hw.1 c_46
            refine lv_aload_n hx hb dX1_shoot_56 rfl (lv_at hl 1 rfl) ?_
            refine lv_iload_n hx hb dX1_shoot_57 rfl (lv_at hl 4 rfl) ?_
            refine lv_iload hx hb dX1_shoot_58 (lv_at hl 5 rfl) ?_
            refine c_calll (rest := []) F I (c_X1_newShot (p2) (p3) _ _ hw) (cwV 2 hts gX1_shoot_X1_newShot rfl rfl rfl (by decide +kernel) ⟨Nat.le_of_ble_eq_true rfl, Nat.le_of_ble_eq_true rfl⟩) rfl hl.1 rfl (Nat.le_of_ble_eq_true rfl) dX1_shoot_60 ⟨Nat.zero_le _, Nat.zero_le _⟩ (fun r47 C48 H locs hw I => ?_)
            refine lv_lstore (lv' := [(6, .long (r47)), (5, .int (r5)), (0, .ref (h 0)), (1, .int (p0)), (2, .int (p1)), (3, .int (p2)), (4, .int (p3))]) hx hb dX1_shoot_63 hl (by decide) rfl (fun ls hl => ?_)
            refine lv_iload hx hb dX1_shoot_65 (lv_at hl 1 rfl) ?_
            refine lv_iconst (v := (4 : Int32)) hx hb dX1_shoot_67 (by decide) ?_
            refine lv_icmp_ne (tgt := 79) hx hb dX1_shoot_68 (by decide) (fun c_49 => ?_) (fun c_49 => ?_)
            · have hw := hw.1 c_49
              refine lv_aload_n hx hb dX1_shoot_79 rfl (lv_at hl 2 rfl) ?_
              refine c_get F hin I 0 (by decide) (v := .ref (h 1)) rfl (hts (.fieldLink RX1 11 "CuttingTable" "spindles" "[LCuttingTable$Load;") (by decide +kernel)) dX1_shoot_80 ?_
              refine lv_iload_n hx hb dX1_shoot_83 rfl (lv_at hl 3 rfl) ?_
              obtain ⟨hi50, hw⟩ := hw
              refine c_aald F I hi50 dX1_shoot_84 ?_
              rcases e52 : ((C48).sp (p0).toNatClampNeg) with _ | y51
              · have hw := hw.1 e52
                refine lv_astoreN (lv' := [(8, .null), (6, .long (r47)), (5, .int (r5)), (0, .ref (h 0)), (1, .int (p0)), (2, .int (p1)), (3, .int (p2)), (4, .int (p3))]) hx hb dX1_shoot_85 hl (by decide) rfl (fun ls hl => ?_)
                refine lv_aloadN hx hb dX1_shoot_87 (lv_at hl 0 rfl) ?_
                exact hw.elim
              · have hw := hw.2 y51 e52
                refine lv_astore (lv' := [(8, .ref (y51)), (6, .long (r47)), (5, .int (r5)), (0, .ref (h 0)), (1, .int (p0)), (2, .int (p1)), (3, .int (p2)), (4, .int (p3))]) hx hb dX1_shoot_85 hl (by decide) rfl (fun ls hl => ?_)
                refine lv_aload hx hb dX1_shoot_87 (lv_at hl 0 rfl) ?_
                obtain ⟨hld, hw⟩ := hw
                refine c_lget F hin0 I hld 0 (by decide) (v := .int (((C48).so (y51)))) rfl (hts (.fieldLink RX1 42 "CuttingTable$Load" "sort" "I") (by decide +kernel)) dX1_shoot_89 ?_
                refine lv_lload hx hb dX1_shoot_92 (lv_at hl 1 rfl) ?_
                refine s_calli (rest := []) F (c_X1_bears (((C48).so (y51))) (r47) _ hw) (va_cwS 2 hts gX1_shoot_X1_bears rfl rfl rfl (by decide +kernel) ⟨Nat.le_of_ble_eq_true rfl, Nat.le_of_ble_eq_true rfl⟩) rfl hl.1 rfl (Nat.le_of_ble_eq_true rfl) dX1_shoot_94 ⟨Nat.zero_le _, Nat.zero_le _⟩ (fun r53 hw => ?_)
                refine lv_if_ne (tgt := 108) hx hb dX1_shoot_97 (by decide) (fun c_54 => ?_) (fun c_54 => ?_)
                · have hw := hw.1 c_54
                  refine lv_aload hx hb dX1_shoot_108 (lv_at hl 0 rfl) ?_
                  obtain ⟨hld, b55, e56, hw⟩ := hw
                  refine c_lget F hin0 I hld 2 (by decide) (v := .ref b55) (by rw [← show va_rf ((C48).fr (y51)) = .ref b55 from by rw [e56]; rfl]; rfl) (hts (.fieldLink RX1 48 "CuttingTable$Load" "frames" "[J") (by decide +kernel)) dX1_shoot_110 ?_
                  refine lv_iload_n hx hb dX1_shoot_113 rfl (lv_at hl 5 rfl) ?_
                  refine lv_lload hx hb dX1_shoot_114 (lv_at hl 1 rfl) ?_
                  obtain ⟨haw, hi57, hw⟩ := hw
                  refine c_last F I haw hi57 dX1_shoot_116 (fun H locs I => ?_)
                  refine lv_aload_n hx hb dX1_shoot_117 rfl (lv_at hl 3 rfl) ?_
                  refine c_callv (rest := []) F I (c_X1_emptyBin  _ _ hw) (cwV 0 hts gX1_shoot_X1_emptyBin rfl rfl rfl (by decide +kernel) ⟨Nat.le_of_ble_eq_true rfl, Nat.le_of_ble_eq_true rfl⟩) rfl hl.1 rfl (Nat.le_of_ble_eq_true rfl) dX1_shoot_118 ⟨Nat.zero_le _, Nat.zero_le _⟩ (fun C59 H locs hw I => ?_)
                  refine lv_aload_n hx hb dX1_shoot_121 rfl (lv_at hl 3 rfl) ?_
                  refine lv_iconst (v := (0 : Int32)) hx hb dX1_shoot_122 (by decide) ?_
                  refine lv_iconst (v := (0 : Int32)) hx hb dX1_shoot_123 (by decide) ?_
                  refine lv_iconst (v := (0 : Int32)) hx hb dX1_shoot_124 (by decide) ?_
                  refine c_calli (rest := []) F I (c_X1_settle ((0 : Int32)) ((0 : Int32)) ((0 : Int32)) _ _ hw) (cwV 3 hts gX1_shoot_X1_settle rfl rfl rfl (by decide +kernel) ⟨Nat.le_of_ble_eq_true rfl, Nat.le_of_ble_eq_true rfl⟩) rfl hl.1 rfl (Nat.le_of_ble_eq_true rfl) dX1_shoot_125 ⟨Nat.zero_le _, Nat.zero_le _⟩ (fun r60 C61 H locs hw I => ?_)
                  exact c_reti F hr hlk I dX1_shoot_128 hw
                · have hw := hw.2 c_54
                  refine lv_aload_n hx hb dX1_shoot_100 rfl (lv_at hl 3 rfl) ?_
                  refine lv_iconst (v := (5 : Int32)) hx hb dX1_shoot_101 (by decide) ?_
                  refine lv_iconst (v := (0 : Int32)) hx hb dX1_shoot_102 (by decide) ?_
                  refine lv_iconst (v := (0 : Int32)) hx hb dX1_shoot_103 (by decide) ?_
                  refine c_calli (rest := []) F I (c_X1_settle ((5 : Int32)) ((0 : Int32)) ((0 : Int32)) _ _ hw) (cwV 3 hts gX1_shoot_X1_settle rfl rfl rfl (by decide +kernel) ⟨Nat.le_of_ble_eq_true rfl, Nat.le_of_ble_eq_true rfl⟩) rfl hl.1 rfl (Nat.le_of_ble_eq_true rfl) dX1_shoot_104 ⟨Nat.zero_le _, Nat.zero_le _⟩ (fun r62 C63 H locs hw I => ?_)
                  exact c_reti F hr hlk I dX1_shoot_107 hw
            · have hw := hw.2 c_49
              refine lv_aload_n hx hb dX1_shoot_71 rfl (lv_at hl 2 rfl) ?_
              refine lv_iconst (v := (4 : Int32)) hx hb dX1_shoot_72 (by decide) ?_
              refine lv_iconst (v := (0 : Int32)) hx hb dX1_shoot_73 (by decide) ?_
              refine lv_iconst (v := (0 : Int32)) hx hb dX1_shoot_74 (by decide) ?_
              refine c_calli (rest := []) F I (c_X1_settle ((4 : Int32)) ((0 : Int32)) ((0 : Int32)) _ _ hw) (cwV 3 hts gX1_shoot_X1_settle rfl rfl rfl (by decide +kernel) ⟨Nat.le_of_ble_eq_true rfl, Nat.le_of_ble_eq_true rfl⟩) rfl hl.1 rfl (Nat.le_of_ble_eq_true rfl) dX1_shoot_75 ⟨Nat.zero_le _, Nat.zero_le _⟩ (fun r64 C65 H locs hw I => ?_)
              exact c_reti F hr hlk I dX1_shoot_78 hw
          · have hw := hw.2 c_46
            refine lv_lconst (v := (0 : Int64)) hx hb dX1_shoot_52 (by decide) ?_
            refine lv_goto (tgt := 63) hx hb dX1_shoot_53 (by decide) ?_
            refine lv_lstore (lv' := [(6, .long ((0 : Int64))), (5, .int (r5)), (0, .ref (h 0)), (1, .int (p0)), (2, .int (p1)), (3, .int (p2)), (4, .int (p3))]) hx hb dX1_shoot_63 hl (by decide) rfl (fun ls hl => ?_)
            refine lv_iload hx hb dX1_shoot_65 (lv_at hl 1 rfl) ?_
            refine lv_iconst (v := (4 : Int32)) hx hb dX1_shoot_67 (by decide) ?_
            refine lv_icmp_ne (tgt := 79) hx hb dX1_shoot_68 (by decide) (fun c_66 => ?_) (fun c_66 => ?_)
            · have hw := hw.1 c_66
              refine lv_aload_n hx hb dX1_shoot_79 rfl (lv_at hl 2 rfl) ?_
              refine c_get F hin I 0 (by decide) (v := .ref (h 1)) rfl (hts (.fieldLink RX1 11 "CuttingTable" "spindles" "[LCuttingTable$Load;") (by decide +kernel)) dX1_shoot_80 ?_
              refine lv_iload_n hx hb dX1_shoot_83 rfl (lv_at hl 3 rfl) ?_
              obtain ⟨hi67, hw⟩ := hw
              refine c_aald F I hi67 dX1_shoot_84 ?_
              rcases e69 : ((C6).sp (p0).toNatClampNeg) with _ | y68
              · have hw := hw.1 e69
                refine lv_astoreN (lv' := [(8, .null), (6, .long ((0 : Int64))), (5, .int (r5)), (0, .ref (h 0)), (1, .int (p0)), (2, .int (p1)), (3, .int (p2)), (4, .int (p3))]) hx hb dX1_shoot_85 hl (by decide) rfl (fun ls hl => ?_)
                refine lv_aloadN hx hb dX1_shoot_87 (lv_at hl 0 rfl) ?_
                exact hw.elim
              · have hw := hw.2 y68 e69
                refine lv_astore (lv' := [(8, .ref (y68)), (6, .long ((0 : Int64))), (5, .int (r5)), (0, .ref (h 0)), (1, .int (p0)), (2, .int (p1)), (3, .int (p2)), (4, .int (p3))]) hx hb dX1_shoot_85 hl (by decide) rfl (fun ls hl => ?_)
                refine lv_aload hx hb dX1_shoot_87 (lv_at hl 0 rfl) ?_
                obtain ⟨hld, hw⟩ := hw
                refine c_lget F hin0 I hld 0 (by decide) (v := .int (((C6).so (y68)))) rfl (hts (.fieldLink RX1 42 "CuttingTable$Load" "sort" "I") (by decide +kernel)) dX1_shoot_89 ?_
                refine lv_lload hx hb dX1_shoot_92 (lv_at hl 1 rfl) ?_
                refine s_calli (rest := []) F (c_X1_bears (((C6).so (y68))) ((0 : Int64)) _ hw) (va_cwS 2 hts gX1_shoot_X1_bears rfl rfl rfl (by decide +kernel) ⟨Nat.le_of_ble_eq_true rfl, Nat.le_of_ble_eq_true rfl⟩) rfl hl.1 rfl (Nat.le_of_ble_eq_true rfl) dX1_shoot_94 ⟨Nat.zero_le _, Nat.zero_le _⟩ (fun r70 hw => ?_)
                refine lv_if_ne (tgt := 108) hx hb dX1_shoot_97 (by decide) (fun c_71 => ?_) (fun c_71 => ?_)
                · have hw := hw.1 c_71
                  refine lv_aload hx hb dX1_shoot_108 (lv_at hl 0 rfl) ?_
                  obtain ⟨hld, b72, e73, hw⟩ := hw
                  refine c_lget F hin0 I hld 2 (by decide) (v := .ref b72) (by rw [← show va_rf ((C6).fr (y68)) = .ref b72 from by rw [e73]; rfl]; rfl) (hts (.fieldLink RX1 48 "CuttingTable$Load" "frames" "[J") (by decide +kernel)) dX1_shoot_110 ?_
                  refine lv_iload_n hx hb dX1_shoot_113 rfl (lv_at hl 5 rfl) ?_
                  refine lv_lload hx hb dX1_shoot_114 (lv_at hl 1 rfl) ?_
                  obtain ⟨haw, hi74, hw⟩ := hw
                  refine c_last F I haw hi74 dX1_shoot_116 (fun H locs I => ?_)
                  refine lv_aload_n hx hb dX1_shoot_117 rfl (lv_at hl 3 rfl) ?_
                  refine c_callv (rest := []) F I (c_X1_emptyBin  _ _ hw) (cwV 0 hts gX1_shoot_X1_emptyBin rfl rfl rfl (by decide +kernel) ⟨Nat.le_of_ble_eq_true rfl, Nat.le_of_ble_eq_true rfl⟩) rfl hl.1 rfl (Nat.le_of_ble_eq_true rfl) dX1_shoot_118 ⟨Nat.zero_le _, Nat.zero_le _⟩ (fun C76 H locs hw I => ?_)
                  refine lv_aload_n hx hb dX1_shoot_121 rfl (lv_at hl 3 rfl) ?_
                  refine lv_iconst (v := (0 : Int32)) hx hb dX1_shoot_122 (by decide) ?_
                  refine lv_iconst (v := (0 : Int32)) hx hb dX1_shoot_123 (by decide) ?_
                  refine lv_iconst (v := (0 : Int32)) hx hb dX1_shoot_124 (by decide) ?_
                  refine c_calli (rest := []) F I (c_X1_settle ((0 : Int32)) ((0 : Int32)) ((0 : Int32)) _ _ hw) (cwV 3 hts gX1_shoot_X1_settle rfl rfl rfl (by decide +kernel) ⟨Nat.le_of_ble_eq_true rfl, Nat.le_of_ble_eq_true rfl⟩) rfl hl.1 rfl (Nat.le_of_ble_eq_true rfl) dX1_shoot_125 ⟨Nat.zero_le _, Nat.zero_le _⟩ (fun r77 C78 H locs hw I => ?_)
                  exact c_reti F hr hlk I dX1_shoot_128 hw
                · have hw := hw.2 c_71
                  refine lv_aload_n hx hb dX1_shoot_100 rfl (lv_at hl 3 rfl) ?_
                  refine lv_iconst (v := (5 : Int32)) hx hb dX1_shoot_101 (by decide) ?_
                  refine lv_iconst (v := (0 : Int32)) hx hb dX1_shoot_102 (by decide) ?_
                  refine lv_iconst (v := (0 : Int32)) hx hb dX1_shoot_103 (by decide) ?_
                  refine c_calli (rest := []) F I (c_X1_settle ((5 : Int32)) ((0 : Int32)) ((0 : Int32)) _ _ hw) (cwV 3 hts gX1_shoot_X1_settle rfl rfl rfl (by decide +kernel) ⟨Nat.le_of_ble_eq_true rfl, Nat.le_of_ble_eq_true rfl⟩) rfl hl.1 rfl (Nat.le_of_ble_eq_true rfl) dX1_shoot_104 ⟨Nat.zero_le _, Nat.zero_le _⟩ (fun r79 C80 H locs hw I => ?_)
                  exact c_reti F hr hlk I dX1_shoot_107 hw
            · have hw := hw.2 c_66
              refine lv_aload_n hx hb dX1_shoot_71 rfl (lv_at hl 2 rfl) ?_
              refine lv_iconst (v := (4 : Int32)) hx hb dX1_shoot_72 (by decide) ?_
              refine lv_iconst (v := (0 : Int32)) hx hb dX1_shoot_73 (by decide) ?_
              refine lv_iconst (v := (0 : Int32)) hx hb dX1_shoot_74 (by decide) ?_
              refine c_calli (rest := []) F I (c_X1_settle ((4 : Int32)) ((0 : Int32)) ((0 : Int32)) _ _ hw) (cwV 3 hts gX1_shoot_X1_settle rfl rfl rfl (by decide +kernel) ⟨Nat.le_of_ble_eq_true rfl, Nat.le_of_ble_eq_true rfl⟩) rfl hl.1 rfl (Nat.le_of_ble_eq_true rfl) dX1_shoot_75 ⟨Nat.zero_le _, Nat.zero_le _⟩ (fun r81 C82 H locs hw I => ?_)
              exact c_reti F hr hlk I dX1_shoot_78 hw
        · have hw := hw.2 c_45
          refine lv_aload_n hx hb dX1_shoot_38 rfl (lv_at hl 1 rfl) ?_
          refine lv_iload hx hb dX1_shoot_39 (lv_at hl 0 rfl) ?_
          refine lv_iconst (v := (0 : Int32)) hx hb dX1_shoot_41 (by decide) ?_
          refine lv_iconst (v := (0 : Int32)) hx hb dX1_shoot_42 (by decide) ?_
          refine c_calli (rest := []) F I (c_X1_settle (r5) ((0 : Int32)) ((0 : Int32)) _ _ hw) (cwV 3 hts gX1_shoot_X1_settle rfl rfl rfl (by decide +kernel) ⟨Nat.le_of_ble_eq_true rfl, Nat.le_of_ble_eq_true rfl⟩) rfl hl.1 rfl (Nat.le_of_ble_eq_true rfl) dX1_shoot_43 ⟨Nat.zero_le _, Nat.zero_le _⟩ (fun r83 C84 H locs hw I => ?_)
          exact c_reti F hr hlk I dX1_shoot_46 hw
    · have hw := hw.2 c_4
      refine lv_aload_n hx hb dX1_shoot_9 rfl (lv_at hl 0 rfl) ?_
      refine lv_bipush (v := (6 : Int32)) hx hb dX1_shoot_10 (by decide) ?_
      refine lv_iconst (v := (0 : Int32)) hx hb dX1_shoot_12 (by decide) ?_
      refine lv_iconst (v := (0 : Int32)) hx hb dX1_shoot_13 (by decide) ?_
      refine c_calli (rest := []) F I (c_X1_settle ((6 : Int32)) ((0 : Int32)) ((0 : Int32)) _ _ hw) (cwV 3 hts gX1_shoot_X1_settle rfl rfl rfl (by decide +kernel) ⟨Nat.le_of_ble_eq_true rfl, Nat.le_of_ble_eq_true rfl⟩) rfl hl.1 rfl (Nat.le_of_ble_eq_true rfl) dX1_shoot_14 ⟨Nat.zero_le _, Nat.zero_le _⟩ (fun r85 C86 H locs hw I => ?_)
      exact c_reti F hr hlk I dX1_shoot_17 hw
abbrev rm_X1_splice : Room := { frames := 4, cells := 0, slots := 0, locals := 100 }
def wp_X1_splice (p0 : Int32) (p1 : Int32) (p2 : Int32) (p3 : Int32) (p4 : Int32) (C : cS) (K : Int32 → cS → Prop) : Prop := wp_X1_doSplice (p0) (p1) (p2) ((p3).toInt64) (p4) C (fun r1 C2 => ((¬ r1 = 0 → K ((-r1)) C2) ∧ (r1 = 0 → K (p4) C2)))
set_option maxHeartbeats 4000000 in
set_option maxRecDepth 100000 in
theorem c_X1_splice {l : Launch} {D : va_G} {cI cJ cO : ClassId} {h : Nat → Nat} (p0 : Int32) (p1 : Int32) (p2 : Int32) (p3 : Int32) (p4 : Int32) (C : cS) (K : Int32 → cS → Prop) (hw : wp_X1_splice p0 p1 p2 p3 p4 C K) : cMi l D cI cJ cO h yX1_splice wsX1_splice rm_X1_splice 0 0 [.ref (h 0), .int (p0), .int (p1), .int (p2), .int (p3), .int (p4)] K C := by
  refine c_starti (rt := some .int) (R0 := RX1) (by decide) rfl rfl (Nat.le_of_ble_eq_true rfl) ?_
  intro p e s m below meth c A ls F hr hlk I hl hini
  have hin : ∀ w ∈ u_ws RX1 TX1 14, w ∈ wsX1_splice := by decide +kernel
  have hin0 : ∀ w ∈ u_ws RX0 TX0 3, w ∈ wsX1_splice := by decide +kernel
  obtain ⟨hx, hb, hml, hown, hts⟩ := id F
  have hl : lv_has ls 7 [(0, .ref (h 0)), (1, .int (p0)), (2, .int (p1)), (3, .int (p2)), (4, .int (p3)), (5, .int (p4))] := hl
  unfold wp_X1_splice at hw
  refine lv_aload_n hx hb dX1_splice_0 rfl (lv_at hl 0 rfl) ?_
  refine lv_iload_n hx hb dX1_splice_1 rfl (lv_at hl 1 rfl) ?_
  refine lv_iload_n hx hb dX1_splice_2 rfl (lv_at hl 2 rfl) ?_
  refine lv_iload_n hx hb dX1_splice_3 rfl (lv_at hl 3 rfl) ?_
  refine lv_iload hx hb dX1_splice_4 (lv_at hl 4 rfl) ?_
  refine lv_i2l hx hb dX1_splice_6 rfl ?_
  refine lv_iload hx hb dX1_splice_7 (lv_at hl 5 rfl) ?_
  refine c_calli (rest := []) F I (c_X1_doSplice (p0) (p1) (p2) ((p3).toInt64) (p4) _ _ hw) (cwV 5 hts gX1_splice_X1_doSplice rfl rfl rfl (by decide +kernel) ⟨Nat.le_of_ble_eq_true rfl, Nat.le_of_ble_eq_true rfl⟩) rfl hl.1 rfl (Nat.le_of_ble_eq_true rfl) dX1_splice_9 ⟨Nat.zero_le _, Nat.zero_le _⟩ (fun r1 C2 H locs hw I => ?_)
  refine lv_istore (lv' := [(6, .int (r1)), (0, .ref (h 0)), (1, .int (p0)), (2, .int (p1)), (3, .int (p2)), (4, .int (p3)), (5, .int (p4))]) hx hb dX1_splice_12 hl (by decide) rfl (fun ls hl => ?_)
  refine lv_iload hx hb dX1_splice_14 (lv_at hl 0 rfl) ?_
  refine lv_if_ne (tgt := 24) hx hb dX1_splice_16 (by decide) (fun c_3 => ?_) (fun c_3 => ?_)
  · have hw := hw.1 c_3
    refine lv_iload hx hb dX1_splice_24 (lv_at hl 0 rfl) ?_
    refine lv_ineg hx hb dX1_splice_26 ?_
    exact c_reti F hr hlk I dX1_splice_27 hw
  · have hw := hw.2 c_3
    refine lv_iload hx hb dX1_splice_19 (lv_at hl 6 rfl) ?_
    refine lv_goto (tgt := 27) hx hb dX1_splice_21 (by decide) ?_
    exact c_reti F hr hlk I dX1_splice_27 hw
abbrev rm_X1_open : Room := { frames := 3, cells := 0, slots := 0, locals := 68 }
def wp_X1_open (p0 : Int32) (p1 : Int32) (p2 : Int32) (C : cS) (K : Int32 → cS → Prop) : Prop := wp_X1_refusalOfGap (p0) (p1) (p2) C (fun r1 C2 => ((r1 = 0 → (vp_in (p0) 8 ∧ ((((C2).sp (p0).toNatClampNeg) = none → False) ∧ (∀ y5, ((C2).sp (p0).toNatClampNeg) = some y5 → ((C2).ld (y5) ∧ ∃ b7, (C2).fr (y5) = some b7 ∧ ((C2).aw (b7) ∧ ((C2).aw (b7) ∧ (C2).aw (b7) ∧ ¬ p1 < 0 ∧ ¬ (p1 + p2) < 0 ∧ ¬ (((nI ((C2).ln (b7))) - p1) - p2) < 0 ∧ (p1).toNatClampNeg + ((((nI ((C2).ln (b7))) - p1) - p2)).toNatClampNeg ≤ ((C2).ln (b7)) ∧ ((p1 + p2)).toNatClampNeg + ((((nI ((C2).ln (b7))) - p1) - p2)).toNatClampNeg ≤ ((C2).ln (b7)) ∧ wp_X1_blankFrames (b7) (p1) ((p1 + p2)) (C2.cpp (b7) (b7) (p1).toNatClampNeg ((p1 + p2)).toNatClampNeg ((((nI ((C2).ln (b7))) - p1) - p2)).toNatClampNeg) (fun C10 => wp_X1_emptyBin  C10 (fun C12 => K ((((nI ((C2).ln (b7))) - p1) - p2)) C12))))))))) ∧ (¬ r1 = 0 → K ((-r1)) C2)))
set_option maxHeartbeats 4000000 in
set_option maxRecDepth 100000 in
theorem c_X1_open {l : Launch} {D : va_G} {cI cJ cO : ClassId} {h : Nat → Nat} (p0 : Int32) (p1 : Int32) (p2 : Int32) (C : cS) (K : Int32 → cS → Prop) (hw : wp_X1_open p0 p1 p2 C K) : cMi l D cI cJ cO h yX1_open wsX1_open rm_X1_open 0 0 [.ref (h 0), .int (p0), .int (p1), .int (p2)] K C := by
  refine c_starti (rt := some .int) (R0 := RX1) (by decide) rfl rfl (Nat.le_of_ble_eq_true rfl) ?_
  intro p e s m below meth c A ls F hr hlk I hl hini
  have hin : ∀ w ∈ u_ws RX1 TX1 14, w ∈ wsX1_open := by decide +kernel
  have hin0 : ∀ w ∈ u_ws RX0 TX0 3, w ∈ wsX1_open := by decide +kernel
  obtain ⟨hx, hb, hml, hown, hts⟩ := id F
  have hl : lv_has ls 7 [(0, .ref (h 0)), (1, .int (p0)), (2, .int (p1)), (3, .int (p2))] := hl
  unfold wp_X1_open at hw
  refine lv_aload_n hx hb dX1_open_0 rfl (lv_at hl 0 rfl) ?_
  refine lv_iload_n hx hb dX1_open_1 rfl (lv_at hl 1 rfl) ?_
  refine lv_iload_n hx hb dX1_open_2 rfl (lv_at hl 2 rfl) ?_
  refine lv_iload_n hx hb dX1_open_3 rfl (lv_at hl 3 rfl) ?_
  refine c_calli (rest := []) F I (c_X1_refusalOfGap (p0) (p1) (p2) _ _ hw) (cwV 3 hts gX1_open_X1_refusalOfGap rfl rfl rfl (by decide +kernel) ⟨Nat.le_of_ble_eq_true rfl, Nat.le_of_ble_eq_true rfl⟩) rfl hl.1 rfl (Nat.le_of_ble_eq_true rfl) dX1_open_4 ⟨Nat.zero_le _, Nat.zero_le _⟩ (fun r1 C2 H locs hw I => ?_)
  refine lv_istore (lv' := [(4, .int (r1)), (0, .ref (h 0)), (1, .int (p0)), (2, .int (p1)), (3, .int (p2))]) hx hb dX1_open_7 hl (by decide) rfl (fun ls hl => ?_)
  refine lv_iload hx hb dX1_open_9 (lv_at hl 0 rfl) ?_
  refine lv_if_eq (tgt := 18) hx hb dX1_open_11 (by decide) (fun c_3 => ?_) (fun c_3 => ?_)
  · have hw := hw.1 c_3
    refine lv_aload_n hx hb dX1_open_18 rfl (lv_at hl 1 rfl) ?_
    refine c_get F hin I 0 (by decide) (v := .ref (h 1)) rfl (hts (.fieldLink RX1 11 "CuttingTable" "spindles" "[LCuttingTable$Load;") (by decide +kernel)) dX1_open_19 ?_
    refine lv_iload_n hx hb dX1_open_22 rfl (lv_at hl 2 rfl) ?_
    obtain ⟨hi4, hw⟩ := hw
    refine c_aald F I hi4 dX1_open_23 ?_
    rcases e6 : ((C2).sp (p0).toNatClampNeg) with _ | y5
    · have hw := hw.1 e6
      exact hw.elim
    · have hw := hw.2 y5 e6
      obtain ⟨hld, b7, e8, hw⟩ := hw
      refine c_lget F hin0 I hld 2 (by decide) (v := .ref b7) (by rw [← show va_rf ((C2).fr (y5)) = .ref b7 from by rw [e8]; rfl]; rfl) (hts (.fieldLink RX1 48 "CuttingTable$Load" "frames" "[J") (by decide +kernel)) dX1_open_24 ?_
      refine lv_astore (lv' := [(5, .ref (b7)), (4, .int (r1)), (0, .ref (h 0)), (1, .int (p0)), (2, .int (p1)), (3, .int (p2))]) hx hb dX1_open_27 hl (by decide) rfl (fun ls hl => ?_)
      refine lv_aload hx hb dX1_open_29 (lv_at hl 0 rfl) ?_
      obtain ⟨haw, hw⟩ := hw
      refine c_alen F I haw dX1_open_31 ?_
      refine lv_iload_n hx hb dX1_open_32 rfl (lv_at hl 4 rfl) ?_
      refine lv_isub hx hb dX1_open_33 ?_
      refine lv_iload_n hx hb dX1_open_34 rfl (lv_at hl 5 rfl) ?_
      refine lv_isub hx hb dX1_open_35 ?_
      refine lv_istore (lv' := [(6, .int ((((nI ((C2).ln (b7))) - p1) - p2))), (5, .ref (b7)), (4, .int (r1)), (0, .ref (h 0)), (1, .int (p0)), (2, .int (p1)), (3, .int (p2))]) hx hb dX1_open_36 hl (by decide) rfl (fun ls hl => ?_)
      refine lv_aload hx hb dX1_open_38 (lv_at hl 1 rfl) ?_
      refine lv_iload_n hx hb dX1_open_40 rfl (lv_at hl 5 rfl) ?_
      refine lv_aload hx hb dX1_open_41 (lv_at hl 1 rfl) ?_
      refine lv_iload_n hx hb dX1_open_43 rfl (lv_at hl 5 rfl) ?_
      refine lv_iload_n hx hb dX1_open_44 rfl (lv_at hl 6 rfl) ?_
      refine lv_iadd hx hb dX1_open_45 ?_
      refine lv_iload hx hb dX1_open_46 (lv_at hl 0 rfl) ?_
      obtain ⟨ha0, ha1, hn1, hn2, hn3, hn4, hn5, hw⟩ := hw
      refine c_cpyp (rest := []) F hl.1 I (hts (.methodLink RX1 82 arraycopyName) (by decide +kernel)) (hts (.native arraycopyName) (by decide +kernel)) (hts (.static arraycopyName) (by decide +kernel)) (hts (.initialized "java/lang/System") (by decide +kernel)) ha0 ha1 hn1 hn2 hn3 hn4 hn5 (Nat.le_of_ble_eq_true rfl) (Nat.le_of_ble_eq_true rfl) dX1_open_48 (fun H locs I => ?_)
      refine lv_aload hx hb dX1_open_51 (lv_at hl 1 rfl) ?_
      refine lv_iload_n hx hb dX1_open_53 rfl (lv_at hl 5 rfl) ?_
      refine lv_iload_n hx hb dX1_open_54 rfl (lv_at hl 5 rfl) ?_
      refine lv_iload_n hx hb dX1_open_55 rfl (lv_at hl 6 rfl) ?_
      refine lv_iadd hx hb dX1_open_56 ?_
      refine c_callSv (rest := []) F I (c_X1_blankFrames (b7) (p1) ((p1 + p2)) _ _ hw) (va_cwS 3 hts gX1_open_X1_blankFrames rfl rfl rfl (by decide +kernel) ⟨Nat.le_of_ble_eq_true rfl, Nat.le_of_ble_eq_true rfl⟩) rfl hl.1 rfl (Nat.le_of_ble_eq_true rfl) dX1_open_57 ⟨Nat.zero_le _, Nat.zero_le _⟩ (fun C10 H locs hw I => ?_)
      refine lv_aload_n hx hb dX1_open_60 rfl (lv_at hl 3 rfl) ?_
      refine c_callv (rest := []) F I (c_X1_emptyBin  _ _ hw) (cwV 0 hts gX1_open_X1_emptyBin rfl rfl rfl (by decide +kernel) ⟨Nat.le_of_ble_eq_true rfl, Nat.le_of_ble_eq_true rfl⟩) rfl hl.1 rfl (Nat.le_of_ble_eq_true rfl) dX1_open_61 ⟨Nat.zero_le _, Nat.zero_le _⟩ (fun C12 H locs hw I => ?_)
      refine lv_iload hx hb dX1_open_64 (lv_at hl 0 rfl) ?_
      exact c_reti F hr hlk I dX1_open_66 hw
  · have hw := hw.2 c_3
    refine lv_iload hx hb dX1_open_14 (lv_at hl 0 rfl) ?_
    refine lv_ineg hx hb dX1_open_16 ?_
    exact c_reti F hr hlk I dX1_open_17 hw
abbrev rm_X1_close : Room := { frames := 3, cells := 0, slots := 0, locals := 68 }
def wp_X1_close (p0 : Int32) (p1 : Int32) (p2 : Int32) (C : cS) (K : Int32 → cS → Prop) : Prop := wp_X1_refusalOfGap (p0) (p1) (p2) C (fun r1 C2 => ((r1 = 0 → (vp_in (p0) 8 ∧ ((((C2).sp (p0).toNatClampNeg) = none → False) ∧ (∀ y5, ((C2).sp (p0).toNatClampNeg) = some y5 → ((C2).ld (y5) ∧ ∃ b7, (C2).fr (y5) = some b7 ∧ ((C2).aw (b7) ∧ ((C2).aw (b7) ∧ (C2).aw (b7) ∧ ¬ (p1 + p2) < 0 ∧ ¬ p1 < 0 ∧ ¬ (((nI ((C2).ln (b7))) - p1) - p2) < 0 ∧ ((p1 + p2)).toNatClampNeg + ((((nI ((C2).ln (b7))) - p1) - p2)).toNatClampNeg ≤ ((C2).ln (b7)) ∧ (p1).toNatClampNeg + ((((nI ((C2).ln (b7))) - p1) - p2)).toNatClampNeg ≤ ((C2).ln (b7)) ∧ (((C2.cpp (b7) (b7) ((p1 + p2)).toNatClampNeg (p1).toNatClampNeg ((((nI ((C2).ln (b7))) - p1) - p2)).toNatClampNeg)).aw (b7) ∧ wp_X1_blankFrames (b7) ((p1 + (((nI ((C2).ln (b7))) - p1) - p2))) ((nI (((C2.cpp (b7) (b7) ((p1 + p2)).toNatClampNeg (p1).toNatClampNeg ((((nI ((C2).ln (b7))) - p1) - p2)).toNatClampNeg)).ln (b7)))) (C2.cpp (b7) (b7) ((p1 + p2)).toNatClampNeg (p1).toNatClampNeg ((((nI ((C2).ln (b7))) - p1) - p2)).toNatClampNeg) (fun C10 => wp_X1_emptyBin  C10 (fun C12 => K ((((nI ((C2).ln (b7))) - p1) - p2)) C12)))))))))) ∧ (¬ r1 = 0 → K ((-r1)) C2)))
set_option maxHeartbeats 4000000 in
set_option maxRecDepth 100000 in
theorem c_X1_close {l : Launch} {D : va_G} {cI cJ cO : ClassId} {h : Nat → Nat} (p0 : Int32) (p1 : Int32) (p2 : Int32) (C : cS) (K : Int32 → cS → Prop) (hw : wp_X1_close p0 p1 p2 C K) : cMi l D cI cJ cO h yX1_close wsX1_close rm_X1_close 0 0 [.ref (h 0), .int (p0), .int (p1), .int (p2)] K C := by
  refine c_starti (rt := some .int) (R0 := RX1) (by decide) rfl rfl (Nat.le_of_ble_eq_true rfl) ?_
  intro p e s m below meth c A ls F hr hlk I hl hini
  have hin : ∀ w ∈ u_ws RX1 TX1 14, w ∈ wsX1_close := by decide +kernel
  have hin0 : ∀ w ∈ u_ws RX0 TX0 3, w ∈ wsX1_close := by decide +kernel
  obtain ⟨hx, hb, hml, hown, hts⟩ := id F
  have hl : lv_has ls 7 [(0, .ref (h 0)), (1, .int (p0)), (2, .int (p1)), (3, .int (p2))] := hl
  unfold wp_X1_close at hw
  refine lv_aload_n hx hb dX1_close_0 rfl (lv_at hl 0 rfl) ?_
  refine lv_iload_n hx hb dX1_close_1 rfl (lv_at hl 1 rfl) ?_
  refine lv_iload_n hx hb dX1_close_2 rfl (lv_at hl 2 rfl) ?_
  refine lv_iload_n hx hb dX1_close_3 rfl (lv_at hl 3 rfl) ?_
  refine c_calli (rest := []) F I (c_X1_refusalOfGap (p0) (p1) (p2) _ _ hw) (cwV 3 hts gX1_close_X1_refusalOfGap rfl rfl rfl (by decide +kernel) ⟨Nat.le_of_ble_eq_true rfl, Nat.le_of_ble_eq_true rfl⟩) rfl hl.1 rfl (Nat.le_of_ble_eq_true rfl) dX1_close_4 ⟨Nat.zero_le _, Nat.zero_le _⟩ (fun r1 C2 H locs hw I => ?_)
  refine lv_istore (lv' := [(4, .int (r1)), (0, .ref (h 0)), (1, .int (p0)), (2, .int (p1)), (3, .int (p2))]) hx hb dX1_close_7 hl (by decide) rfl (fun ls hl => ?_)
  refine lv_iload hx hb dX1_close_9 (lv_at hl 0 rfl) ?_
  refine lv_if_eq (tgt := 18) hx hb dX1_close_11 (by decide) (fun c_3 => ?_) (fun c_3 => ?_)
  · have hw := hw.1 c_3
    refine lv_aload_n hx hb dX1_close_18 rfl (lv_at hl 1 rfl) ?_
    refine c_get F hin I 0 (by decide) (v := .ref (h 1)) rfl (hts (.fieldLink RX1 11 "CuttingTable" "spindles" "[LCuttingTable$Load;") (by decide +kernel)) dX1_close_19 ?_
    refine lv_iload_n hx hb dX1_close_22 rfl (lv_at hl 2 rfl) ?_
    obtain ⟨hi4, hw⟩ := hw
    refine c_aald F I hi4 dX1_close_23 ?_
    rcases e6 : ((C2).sp (p0).toNatClampNeg) with _ | y5
    · have hw := hw.1 e6
      exact hw.elim
    · have hw := hw.2 y5 e6
      obtain ⟨hld, b7, e8, hw⟩ := hw
      refine c_lget F hin0 I hld 2 (by decide) (v := .ref b7) (by rw [← show va_rf ((C2).fr (y5)) = .ref b7 from by rw [e8]; rfl]; rfl) (hts (.fieldLink RX1 48 "CuttingTable$Load" "frames" "[J") (by decide +kernel)) dX1_close_24 ?_
      refine lv_astore (lv' := [(5, .ref (b7)), (4, .int (r1)), (0, .ref (h 0)), (1, .int (p0)), (2, .int (p1)), (3, .int (p2))]) hx hb dX1_close_27 hl (by decide) rfl (fun ls hl => ?_)
      refine lv_aload hx hb dX1_close_29 (lv_at hl 0 rfl) ?_
      obtain ⟨haw, hw⟩ := hw
      refine c_alen F I haw dX1_close_31 ?_
      refine lv_iload_n hx hb dX1_close_32 rfl (lv_at hl 4 rfl) ?_
      refine lv_isub hx hb dX1_close_33 ?_
      refine lv_iload_n hx hb dX1_close_34 rfl (lv_at hl 5 rfl) ?_
      refine lv_isub hx hb dX1_close_35 ?_
      refine lv_istore (lv' := [(6, .int ((((nI ((C2).ln (b7))) - p1) - p2))), (5, .ref (b7)), (4, .int (r1)), (0, .ref (h 0)), (1, .int (p0)), (2, .int (p1)), (3, .int (p2))]) hx hb dX1_close_36 hl (by decide) rfl (fun ls hl => ?_)
      refine lv_aload hx hb dX1_close_38 (lv_at hl 1 rfl) ?_
      refine lv_iload_n hx hb dX1_close_40 rfl (lv_at hl 5 rfl) ?_
      refine lv_iload_n hx hb dX1_close_41 rfl (lv_at hl 6 rfl) ?_
      refine lv_iadd hx hb dX1_close_42 ?_
      refine lv_aload hx hb dX1_close_43 (lv_at hl 1 rfl) ?_
      refine lv_iload_n hx hb dX1_close_45 rfl (lv_at hl 5 rfl) ?_
      refine lv_iload hx hb dX1_close_46 (lv_at hl 0 rfl) ?_
      obtain ⟨ha0, ha1, hn1, hn2, hn3, hn4, hn5, hw⟩ := hw
      refine c_cpyp (rest := []) F hl.1 I (hts (.methodLink RX1 82 arraycopyName) (by decide +kernel)) (hts (.native arraycopyName) (by decide +kernel)) (hts (.static arraycopyName) (by decide +kernel)) (hts (.initialized "java/lang/System") (by decide +kernel)) ha0 ha1 hn1 hn2 hn3 hn4 hn5 (Nat.le_of_ble_eq_true rfl) (Nat.le_of_ble_eq_true rfl) dX1_close_48 (fun H locs I => ?_)
      refine lv_aload hx hb dX1_close_51 (lv_at hl 1 rfl) ?_
      refine lv_iload_n hx hb dX1_close_53 rfl (lv_at hl 5 rfl) ?_
      refine lv_iload hx hb dX1_close_54 (lv_at hl 0 rfl) ?_
      refine lv_iadd hx hb dX1_close_56 ?_
      refine lv_aload hx hb dX1_close_57 (lv_at hl 1 rfl) ?_
      obtain ⟨haw, hw⟩ := hw
      refine c_alen F I haw dX1_close_59 ?_
      refine c_callSv (rest := []) F I (c_X1_blankFrames (b7) ((p1 + (((nI ((C2).ln (b7))) - p1) - p2))) ((nI (((C2.cpp (b7) (b7) ((p1 + p2)).toNatClampNeg (p1).toNatClampNeg ((((nI ((C2).ln (b7))) - p1) - p2)).toNatClampNeg)).ln (b7)))) _ _ hw) (va_cwS 3 hts gX1_close_X1_blankFrames rfl rfl rfl (by decide +kernel) ⟨Nat.le_of_ble_eq_true rfl, Nat.le_of_ble_eq_true rfl⟩) rfl hl.1 rfl (Nat.le_of_ble_eq_true rfl) dX1_close_60 ⟨Nat.zero_le _, Nat.zero_le _⟩ (fun C10 H locs hw I => ?_)
      refine lv_aload_n hx hb dX1_close_63 rfl (lv_at hl 3 rfl) ?_
      refine c_callv (rest := []) F I (c_X1_emptyBin  _ _ hw) (cwV 0 hts gX1_close_X1_emptyBin rfl rfl rfl (by decide +kernel) ⟨Nat.le_of_ble_eq_true rfl, Nat.le_of_ble_eq_true rfl⟩) rfl hl.1 rfl (Nat.le_of_ble_eq_true rfl) dX1_close_64 ⟨Nat.zero_le _, Nat.zero_le _⟩ (fun C12 H locs hw I => ?_)
      refine lv_iload hx hb dX1_close_67 (lv_at hl 0 rfl) ?_
      exact c_reti F hr hlk I dX1_close_69 hw
  · have hw := hw.2 c_3
    refine lv_iload hx hb dX1_close_14 (lv_at hl 0 rfl) ?_
    refine lv_ineg hx hb dX1_close_16 ?_
    exact c_reti F hr hlk I dX1_close_17 hw
abbrev rm_X1_loop : Room := { frames := 4, cells := 0, slots := 0, locals := 100 }
def wl_X1_loop_40 (K : Int32 → cS → Prop) : Nat → Int32 → Int32 → Int32 → Int32 → Int32 → cS → Prop
  | 0, _, _, _, _, _, _ => False
  | n + 1, v1, v2, v3, v4, v5, C => ((v4 ≤ v5 → K (v5) C) ∧ (¬ v4 ≤ v5 → wp_X1_doSplice (v1) (v2) (v1) (((v2).toInt64 + (((v5).toInt64 + (1 : Int64)) * (v3).toInt64))) (v3) C (fun r12 C13 => ((¬ r12 = 0 → K (v5) C13) ∧ (r12 = 0 → wl_X1_loop_40 K n (v1) (v2) (v3) (v4) ((v5 + (1 : Int32))) C13)))))
def wp_X1_loop (p0 : Int32) (p1 : Int32) (p2 : Int32) (p3 : Int32) (C : cS) (K : Int32 → cS → Prop) : Prop := wp_X1_isSpindle (p0) (fun r1 => ((r1 = 0 → wp_X1_settle ((6 : Int32)) ((0 : Int32)) ((0 : Int32)) C (fun r3 C4 => K ((-r3)) C4)) ∧ (¬ r1 = 0 → ((p3 < 0 → wp_X1_settle ((6 : Int32)) ((0 : Int32)) ((0 : Int32)) C (fun r6 C7 => K ((-r6)) C7)) ∧ (¬ p3 < 0 → ((p3 ≤ (20 : Int32) → wp_X1_settle ((0 : Int32)) ((0 : Int32)) ((0 : Int32)) C (fun r9 C10 => (∃ n40 : Nat, wl_X1_loop_40 K n40 (p0) (p1) (p2) (p3) ((0 : Int32)) C10))) ∧ (¬ p3 ≤ (20 : Int32) → wp_X1_settle ((6 : Int32)) ((0 : Int32)) ((0 : Int32)) C (fun r15 C16 => K ((-r15)) C16))))))))
set_option maxHeartbeats 4000000 in
set_option maxRecDepth 100000 in
theorem lp_X1_loop_40 {p : Program} {l : Launch} {e : Env} {s : State} {m : MethodId} {args : Array Value} {below : List Frame} {meth : Method} {c : Code} {D : va_G} {cI cJ cO : ClassId} {h : Nat → Nat} {A : Nat → Prop} {K : Int32 → cS → Prop} (F : CallFix p m c cX1_loop 6 s args wsX1_loop RX1) (hin : ∀ w ∈ u_ws RX1 TX1 14, w ∈ wsX1_loop) (hin0 : ∀ w ∈ u_ws RX0 TX0 3, w ∈ wsX1_loop) (hr : meth.sig.returnType = some .int) (hlk : meth.locks = false) :
    ∀ (n : Nat) (v1 : Int32) (v2 : Int32) (v3 : Int32) (v4 : Int32) (v5 : Int32) (C : cS) (H : Heap) (locs : List Loc), cG D cI cJ cO h A s s.heap H locs C → ∀ (ls : Array Slot), lv_has ls 6 [(0, .ref (h 0)), (1, .int (v1)), (2, .int (v2)), (3, .int (v3)), (4, .int (v4)), (5, .int (v5))] → wl_X1_loop_40 K n v1 v2 v3 v4 v5 C → W p l e rm_X1_loop s m args below meth c H locs 0 0 (MQ below (va_Qi K (cB D cI cJ cO h A) A) args s 0 0 A) (F0 m 40 ls []) := by
  obtain ⟨hx, hb, hml, hown, hts⟩ := id F
  intro n
  induction n with
  | zero => intro v1 v2 v3 v4 v5 C H locs I ls hl hw; exact hw.elim
  | succ n ih =>
    intro v1 v2 v3 v4 v5 C H locs I ls hl hw
    rw [wl_X1_loop_40] at hw
    refine lv_iload hx hb dX1_loop_40 (lv_at hl 5 rfl) ?_
    refine lv_iload hx hb dX1_loop_42 (lv_at hl 4 rfl) ?_
    refine lv_icmp_ge (tgt := 75) hx hb dX1_loop_44 (by decide) (fun c_11 => ?_) (fun c_11 => ?_)
    · have hw := hw.1 c_11
      refine lv_iload hx hb dX1_loop_75 (lv_at hl 5 rfl) ?_
      exact c_reti F hr hlk I dX1_loop_77 hw
    · have hw := hw.2 c_11
      refine lv_aload_n hx hb dX1_loop_47 rfl (lv_at hl 0 rfl) ?_
      refine lv_iload_n hx hb dX1_loop_48 rfl (lv_at hl 1 rfl) ?_
      refine lv_iload_n hx hb dX1_loop_49 rfl (lv_at hl 2 rfl) ?_
      refine lv_iload_n hx hb dX1_loop_50 rfl (lv_at hl 1 rfl) ?_
      refine lv_iload_n hx hb dX1_loop_51 rfl (lv_at hl 2 rfl) ?_
      refine lv_i2l hx hb dX1_loop_52 rfl ?_
      refine lv_iload hx hb dX1_loop_53 (lv_at hl 5 rfl) ?_
      refine lv_i2l hx hb dX1_loop_55 rfl ?_
      refine lv_lconst (v := (1 : Int64)) hx hb dX1_loop_56 (by decide) ?_
      refine lv_ladd hx hb dX1_loop_57 ?_
      refine lv_iload_n hx hb dX1_loop_58 rfl (lv_at hl 3 rfl) ?_
      refine lv_i2l hx hb dX1_loop_59 rfl ?_
      refine lv_lmul hx hb dX1_loop_60 ?_
      refine lv_ladd hx hb dX1_loop_61 ?_
      refine lv_iload_n hx hb dX1_loop_62 rfl (lv_at hl 3 rfl) ?_
      refine c_calli (rest := []) F I (c_X1_doSplice (v1) (v2) (v1) (((v2).toInt64 + (((v5).toInt64 + (1 : Int64)) * (v3).toInt64))) (v3) _ _ hw) (cwV 5 hts gX1_loop_X1_doSplice rfl rfl rfl (by decide +kernel) ⟨Nat.le_of_ble_eq_true rfl, Nat.le_of_ble_eq_true rfl⟩) rfl hl.1 rfl (Nat.le_of_ble_eq_true rfl) dX1_loop_63 ⟨Nat.zero_le _, Nat.zero_le _⟩ (fun r12 C13 H locs hw I => ?_)
      refine lv_if_ne (tgt := 75) hx hb dX1_loop_66 (by decide) (fun c_14 => ?_) (fun c_14 => ?_)
      · have hw := hw.1 c_14
        refine lv_iload hx hb dX1_loop_75 (lv_at hl 5 rfl) ?_
        exact c_reti F hr hlk I dX1_loop_77 hw
      · have hw := hw.2 c_14
        refine lv_iinc (v := (v5 + (1 : Int32))) (lv' := [(5, .int ((v5 + (1 : Int32)))), (0, .ref (h 0)), (1, .int (v1)), (2, .int (v2)), (3, .int (v3)), (4, .int (v4))]) hx hb dX1_loop_69 hl (k := 5) rfl rfl (by decide) rfl (fun ls hl => ?_)
        refine lv_goto (tgt := 40) hx hb dX1_loop_72 (by decide) ?_
        exact ih (v1) (v2) (v3) (v4) ((v5 + (1 : Int32))) C13 _ _ I ls (lv_sub hl [1, 2, 3, 4, 5, 0] rfl) hw
set_option maxHeartbeats 4000000 in
set_option maxRecDepth 100000 in
theorem c_X1_loop {l : Launch} {D : va_G} {cI cJ cO : ClassId} {h : Nat → Nat} (p0 : Int32) (p1 : Int32) (p2 : Int32) (p3 : Int32) (C : cS) (K : Int32 → cS → Prop) (hw : wp_X1_loop p0 p1 p2 p3 C K) : cMi l D cI cJ cO h yX1_loop wsX1_loop rm_X1_loop 0 0 [.ref (h 0), .int (p0), .int (p1), .int (p2), .int (p3)] K C := by
  refine c_starti (rt := some .int) (R0 := RX1) (by decide) rfl rfl (Nat.le_of_ble_eq_true rfl) ?_
  intro p e s m below meth c A ls F hr hlk I hl hini
  have hin : ∀ w ∈ u_ws RX1 TX1 14, w ∈ wsX1_loop := by decide +kernel
  have hin0 : ∀ w ∈ u_ws RX0 TX0 3, w ∈ wsX1_loop := by decide +kernel
  obtain ⟨hx, hb, hml, hown, hts⟩ := id F
  have hl : lv_has ls 6 [(0, .ref (h 0)), (1, .int (p0)), (2, .int (p1)), (3, .int (p2)), (4, .int (p3))] := hl
  unfold wp_X1_loop at hw
  refine lv_iload_n hx hb dX1_loop_0 rfl (lv_at hl 1 rfl) ?_
  refine s_calli (rest := []) F (c_X1_isSpindle (p0) _ hw) (va_cwS 1 hts gX1_loop_X1_isSpindle rfl rfl rfl (by decide +kernel) ⟨Nat.le_of_ble_eq_true rfl, Nat.le_of_ble_eq_true rfl⟩) rfl hl.1 rfl (Nat.le_of_ble_eq_true rfl) dX1_loop_1 ⟨Nat.zero_le _, Nat.zero_le _⟩ (fun r1 hw => ?_)
  refine lv_if_eq (tgt := 19) hx hb dX1_loop_4 (by decide) (fun c_2 => ?_) (fun c_2 => ?_)
  · have hw := hw.1 c_2
    refine lv_aload_n hx hb dX1_loop_19 rfl (lv_at hl 0 rfl) ?_
    refine lv_bipush (v := (6 : Int32)) hx hb dX1_loop_20 (by decide) ?_
    refine lv_iconst (v := (0 : Int32)) hx hb dX1_loop_22 (by decide) ?_
    refine lv_iconst (v := (0 : Int32)) hx hb dX1_loop_23 (by decide) ?_
    refine c_calli (rest := []) F I (c_X1_settle ((6 : Int32)) ((0 : Int32)) ((0 : Int32)) _ _ hw) (cwV 3 hts gX1_loop_X1_settle rfl rfl rfl (by decide +kernel) ⟨Nat.le_of_ble_eq_true rfl, Nat.le_of_ble_eq_true rfl⟩) rfl hl.1 rfl (Nat.le_of_ble_eq_true rfl) dX1_loop_24 ⟨Nat.zero_le _, Nat.zero_le _⟩ (fun r3 C4 H locs hw I => ?_)
    refine lv_ineg hx hb dX1_loop_27 ?_
    exact c_reti F hr hlk I dX1_loop_28 hw
  · have hw := hw.2 c_2
    refine lv_iload hx hb dX1_loop_7 (lv_at hl 4 rfl) ?_
    refine lv_if_lt (tgt := 19) hx hb dX1_loop_9 (by decide) (fun c_5 => ?_) (fun c_5 => ?_)
    · have hw := hw.1 c_5
      refine lv_aload_n hx hb dX1_loop_19 rfl (lv_at hl 0 rfl) ?_
      refine lv_bipush (v := (6 : Int32)) hx hb dX1_loop_20 (by decide) ?_
      refine lv_iconst (v := (0 : Int32)) hx hb dX1_loop_22 (by decide) ?_
      refine lv_iconst (v := (0 : Int32)) hx hb dX1_loop_23 (by decide) ?_
      refine c_calli (rest := []) F I (c_X1_settle ((6 : Int32)) ((0 : Int32)) ((0 : Int32)) _ _ hw) (cwV 3 hts gX1_loop_X1_settle rfl rfl rfl (by decide +kernel) ⟨Nat.le_of_ble_eq_true rfl, Nat.le_of_ble_eq_true rfl⟩) rfl hl.1 rfl (Nat.le_of_ble_eq_true rfl) dX1_loop_24 ⟨Nat.zero_le _, Nat.zero_le _⟩ (fun r6 C7 H locs hw I => ?_)
      refine lv_ineg hx hb dX1_loop_27 ?_
      exact c_reti F hr hlk I dX1_loop_28 hw
    · have hw := hw.2 c_5
      refine lv_iload hx hb dX1_loop_12 (lv_at hl 4 rfl) ?_
      refine lv_bipush (v := (20 : Int32)) hx hb dX1_loop_14 (by decide) ?_
      refine lv_icmp_le (tgt := 29) hx hb dX1_loop_16 (by decide) (fun c_8 => ?_) (fun c_8 => ?_)
      · have hw := hw.1 c_8
        refine lv_aload_n hx hb dX1_loop_29 rfl (lv_at hl 0 rfl) ?_
        refine lv_iconst (v := (0 : Int32)) hx hb dX1_loop_30 (by decide) ?_
        refine lv_iconst (v := (0 : Int32)) hx hb dX1_loop_31 (by decide) ?_
        refine lv_iconst (v := (0 : Int32)) hx hb dX1_loop_32 (by decide) ?_
        refine c_calli (rest := []) F I (c_X1_settle ((0 : Int32)) ((0 : Int32)) ((0 : Int32)) _ _ hw) (cwV 3 hts gX1_loop_X1_settle rfl rfl rfl (by decide +kernel) ⟨Nat.le_of_ble_eq_true rfl, Nat.le_of_ble_eq_true rfl⟩) rfl hl.1 rfl (Nat.le_of_ble_eq_true rfl) dX1_loop_33 ⟨Nat.zero_le _, Nat.zero_le _⟩ (fun r9 C10 H locs hw I => ?_)
        refine lv_pop hx hb dX1_loop_36 rfl ?_
        refine lv_iconst (v := (0 : Int32)) hx hb dX1_loop_37 (by decide) ?_
        refine lv_istore (lv' := [(5, .int ((0 : Int32))), (0, .ref (h 0)), (1, .int (p0)), (2, .int (p1)), (3, .int (p2)), (4, .int (p3))]) hx hb dX1_loop_38 hl (by decide) rfl (fun ls hl => ?_)
        obtain ⟨n40, hw⟩ := hw
        exact lp_X1_loop_40 F hin hin0 hr hlk n40 (p0) (p1) (p2) (p3) ((0 : Int32)) C10 _ _ I ls (lv_sub hl [1, 2, 3, 4, 5, 0] rfl) hw
      · have hw := hw.2 c_8
        refine lv_aload_n hx hb dX1_loop_19 rfl (lv_at hl 0 rfl) ?_
        refine lv_bipush (v := (6 : Int32)) hx hb dX1_loop_20 (by decide) ?_
        refine lv_iconst (v := (0 : Int32)) hx hb dX1_loop_22 (by decide) ?_
        refine lv_iconst (v := (0 : Int32)) hx hb dX1_loop_23 (by decide) ?_
        refine c_calli (rest := []) F I (c_X1_settle ((6 : Int32)) ((0 : Int32)) ((0 : Int32)) _ _ hw) (cwV 3 hts gX1_loop_X1_settle rfl rfl rfl (by decide +kernel) ⟨Nat.le_of_ble_eq_true rfl, Nat.le_of_ble_eq_true rfl⟩) rfl hl.1 rfl (Nat.le_of_ble_eq_true rfl) dX1_loop_24 ⟨Nat.zero_le _, Nat.zero_le _⟩ (fun r15 C16 H locs hw I => ?_)
        refine lv_ineg hx hb dX1_loop_27 ?_
        exact c_reti F hr hlk I dX1_loop_28 hw
abbrev rm_X1_note : Room := { frames := 0, cells := 0, slots := 0, locals := 0 }
def wp_X1_note (p0 : Int32) (p1 : Int32) (p2 : Int32) (p3 : Int32) (p4 : Int32) (C : cS) (K : Int32 → cS → Prop) : Prop := (((C.fi 2) < (16 : Int32) → (vp_in (((C.fi 2) * (5 : Int32))) 80 ∧ (vp_in ((((C.fi 2) * (5 : Int32)) + (1 : Int32))) 80 ∧ (vp_in ((((C.fi 2) * (5 : Int32)) + (2 : Int32))) 80 ∧ (vp_in ((((C.fi 2) * (5 : Int32)) + (3 : Int32))) 80 ∧ (vp_in ((((C.fi 2) * (5 : Int32)) + (4 : Int32))) 80 ∧ K ((((C.fi 2) + (1 : Int32)))) ((((((C.scu (((C.fi 2) * (5 : Int32))).toNatClampNeg (p0)).scu ((((C.fi 2) * (5 : Int32)) + (1 : Int32))).toNatClampNeg (p1)).scu ((((C.fi 2) * (5 : Int32)) + (2 : Int32))).toNatClampNeg (p2)).scu ((((C.fi 2) * (5 : Int32)) + (3 : Int32))).toNatClampNeg (p3)).scu ((((C.fi 2) * (5 : Int32)) + (4 : Int32))).toNatClampNeg (p4)).si 2 (((C.fi 2) + (1 : Int32)))))))))) ∧ (¬ (C.fi 2) < (16 : Int32) → K ((-1 : Int32)) C))
set_option maxHeartbeats 4000000 in
set_option maxRecDepth 100000 in
theorem c_X1_note {l : Launch} {D : va_G} {cI cJ cO : ClassId} {h : Nat → Nat} (p0 : Int32) (p1 : Int32) (p2 : Int32) (p3 : Int32) (p4 : Int32) (C : cS) (K : Int32 → cS → Prop) (hw : wp_X1_note p0 p1 p2 p3 p4 C K) : cMi l D cI cJ cO h yX1_note wsX1_note rm_X1_note 0 0 [.ref (h 0), .int (p0), .int (p1), .int (p2), .int (p3), .int (p4)] K C := by
  refine c_starti (rt := some .int) (R0 := RX1) (by decide) rfl rfl (Nat.le_of_ble_eq_true rfl) ?_
  intro p e s m below meth c A ls F hr hlk I hl hini
  have hin : ∀ w ∈ u_ws RX1 TX1 14, w ∈ wsX1_note := by decide +kernel
  have hin0 : True := trivial
  obtain ⟨hx, hb, hml, hown, hts⟩ := id F
  have hl : lv_has ls 7 [(0, .ref (h 0)), (1, .int (p0)), (2, .int (p1)), (3, .int (p2)), (4, .int (p3)), (5, .int (p4))] := hl
  unfold wp_X1_note at hw
  refine lv_aload_n hx hb dX1_note_0 rfl (lv_at hl 0 rfl) ?_
  refine c_get F hin I 2 (by decide) (v := .int ((C.fi 2))) rfl (hts (.fieldLink RX1 92 "CuttingTable" "cutCount" "I") (by decide +kernel)) dX1_note_1 ?_
  refine lv_bipush (v := (16 : Int32)) hx hb dX1_note_4 (by decide) ?_
  refine lv_icmp_lt (tgt := 11) hx hb dX1_note_6 (by decide) (fun c_1 => ?_) (fun c_1 => ?_)
  · have hw := hw.1 c_1
    refine lv_aload_n hx hb dX1_note_11 rfl (lv_at hl 0 rfl) ?_
    refine c_get F hin I 2 (by decide) (v := .int ((C.fi 2))) rfl (hts (.fieldLink RX1 92 "CuttingTable" "cutCount" "I") (by decide +kernel)) dX1_note_12 ?_
    refine lv_iconst (v := (5 : Int32)) hx hb dX1_note_15 (by decide) ?_
    refine lv_imul hx hb dX1_note_16 ?_
    refine lv_istore (lv' := [(6, .int (((C.fi 2) * (5 : Int32)))), (0, .ref (h 0)), (1, .int (p0)), (2, .int (p1)), (3, .int (p2)), (4, .int (p3)), (5, .int (p4))]) hx hb dX1_note_17 hl (by decide) rfl (fun ls hl => ?_)
    refine lv_aload_n hx hb dX1_note_19 rfl (lv_at hl 1 rfl) ?_
    refine c_get F hin I 1 (by decide) (v := .ref (h 2)) rfl (hts (.fieldLink RX1 15 "CuttingTable" "cuts" "[I") (by decide +kernel)) dX1_note_20 ?_
    refine lv_iload hx hb dX1_note_23 (lv_at hl 0 rfl) ?_
    refine lv_iload_n hx hb dX1_note_25 rfl (lv_at hl 2 rfl) ?_
    obtain ⟨hi2, hw⟩ := hw
    refine c_iast F I hi2 dX1_note_26 (fun H locs I => ?_)
    refine lv_aload_n hx hb dX1_note_27 rfl (lv_at hl 1 rfl) ?_
    refine c_get F hin I 1 (by decide) (v := .ref (h 2)) rfl (hts (.fieldLink RX1 15 "CuttingTable" "cuts" "[I") (by decide +kernel)) dX1_note_28 ?_
    refine lv_iload hx hb dX1_note_31 (lv_at hl 0 rfl) ?_
    refine lv_iconst (v := (1 : Int32)) hx hb dX1_note_33 (by decide) ?_
    refine lv_iadd hx hb dX1_note_34 ?_
    refine lv_iload_n hx hb dX1_note_35 rfl (lv_at hl 3 rfl) ?_
    obtain ⟨hi3, hw⟩ := hw
    refine c_iast F I hi3 dX1_note_36 (fun H locs I => ?_)
    refine lv_aload_n hx hb dX1_note_37 rfl (lv_at hl 1 rfl) ?_
    refine c_get F hin I 1 (by decide) (v := .ref (h 2)) rfl (hts (.fieldLink RX1 15 "CuttingTable" "cuts" "[I") (by decide +kernel)) dX1_note_38 ?_
    refine lv_iload hx hb dX1_note_41 (lv_at hl 0 rfl) ?_
    refine lv_iconst (v := (2 : Int32)) hx hb dX1_note_43 (by decide) ?_
    refine lv_iadd hx hb dX1_note_44 ?_
    refine lv_iload_n hx hb dX1_note_45 rfl (lv_at hl 4 rfl) ?_
    obtain ⟨hi4, hw⟩ := hw
    refine c_iast F I hi4 dX1_note_46 (fun H locs I => ?_)
    refine lv_aload_n hx hb dX1_note_47 rfl (lv_at hl 1 rfl) ?_
    refine c_get F hin I 1 (by decide) (v := .ref (h 2)) rfl (hts (.fieldLink RX1 15 "CuttingTable" "cuts" "[I") (by decide +kernel)) dX1_note_48 ?_
    refine lv_iload hx hb dX1_note_51 (lv_at hl 0 rfl) ?_
    refine lv_iconst (v := (3 : Int32)) hx hb dX1_note_53 (by decide) ?_
    refine lv_iadd hx hb dX1_note_54 ?_
    refine lv_iload hx hb dX1_note_55 (lv_at hl 5 rfl) ?_
    obtain ⟨hi5, hw⟩ := hw
    refine c_iast F I hi5 dX1_note_57 (fun H locs I => ?_)
    refine lv_aload_n hx hb dX1_note_58 rfl (lv_at hl 1 rfl) ?_
    refine c_get F hin I 1 (by decide) (v := .ref (h 2)) rfl (hts (.fieldLink RX1 15 "CuttingTable" "cuts" "[I") (by decide +kernel)) dX1_note_59 ?_
    refine lv_iload hx hb dX1_note_62 (lv_at hl 0 rfl) ?_
    refine lv_iconst (v := (4 : Int32)) hx hb dX1_note_64 (by decide) ?_
    refine lv_iadd hx hb dX1_note_65 ?_
    refine lv_iload hx hb dX1_note_66 (lv_at hl 6 rfl) ?_
    obtain ⟨hi6, hw⟩ := hw
    refine c_iast F I hi6 dX1_note_68 (fun H locs I => ?_)
    refine lv_aload_n hx hb dX1_note_69 rfl (lv_at hl 1 rfl) ?_
    refine lv_dup hx hb dX1_note_70 rfl ?_
    refine c_get F hin I 2 (by decide) (v := .int ((C.fi 2))) rfl (hts (.fieldLink RX1 92 "CuttingTable" "cutCount" "I") (by decide +kernel)) dX1_note_71 ?_
    refine lv_iconst (v := (1 : Int32)) hx hb dX1_note_74 (by decide) ?_
    refine lv_iadd hx hb dX1_note_75 ?_
    refine c_put F hin I 2 (by decide) (hts (.fieldLink RX1 92 "CuttingTable" "cutCount" "I") (by decide +kernel)) dX1_note_76 (fun H locs I => ?_)
    refine lv_aload_n hx hb dX1_note_79 rfl (lv_at hl 1 rfl) ?_
    refine c_get F hin I 2 (by decide) (v := .int ((((C.fi 2) + (1 : Int32))))) rfl (hts (.fieldLink RX1 92 "CuttingTable" "cutCount" "I") (by decide +kernel)) dX1_note_80 ?_
    exact c_reti F hr hlk I dX1_note_83 hw
  · have hw := hw.2 c_1
    refine lv_iconst (v := (-1 : Int32)) hx hb dX1_note_9 (by decide) ?_
    exact c_reti F hr hlk I dX1_note_10 hw
abbrev rm_X1_play : Room := { frames := 5, cells := 0, slots := 0, locals := 122 }
def wl_X1_play_10 (K : Int32 → cS → Prop) : Nat → Int32 → cS → Prop
  | 0, _, _ => False
  | n + 1, v1, C => (((C.fi 2) ≤ v1 → (¬ (v1 * (5 : Int32)) < 0 ∧ ¬ (0 : Int32) < 0 ∧ ¬ ((((C.fi 2) - v1)) * (5 : Int32)) < 0 ∧ ((v1 * (5 : Int32))).toNatClampNeg + (((((C.fi 2) - v1)) * (5 : Int32))).toNatClampNeg ≤ 80 ∧ ((0 : Int32)).toNatClampNeg + (((((C.fi 2) - v1)) * (5 : Int32))).toNatClampNeg ≤ 80 ∧ K (v1) ((C.si 2 (((C.fi 2) - v1))).ccu ((v1 * (5 : Int32))).toNatClampNeg ((0 : Int32)).toNatClampNeg (((((C.fi 2) - v1)) * (5 : Int32))).toNatClampNeg))) ∧ (¬ (C.fi 2) ≤ v1 → wp_X1_playCut (v1) C (fun r4 C5 => ((¬ r4 = 0 → (¬ (v1 * (5 : Int32)) < 0 ∧ ¬ (0 : Int32) < 0 ∧ ¬ ((((C5.fi 2) - v1)) * (5 : Int32)) < 0 ∧ ((v1 * (5 : Int32))).toNatClampNeg + (((((C5.fi 2) - v1)) * (5 : Int32))).toNatClampNeg ≤ 80 ∧ ((0 : Int32)).toNatClampNeg + (((((C5.fi 2) - v1)) * (5 : Int32))).toNatClampNeg ≤ 80 ∧ K (v1) ((C5.si 2 (((C5.fi 2) - v1))).ccu ((v1 * (5 : Int32))).toNatClampNeg ((0 : Int32)).toNatClampNeg (((((C5.fi 2) - v1)) * (5 : Int32))).toNatClampNeg))) ∧ (r4 = 0 → wl_X1_play_10 K n ((v1 + (1 : Int32))) C5)))))
def wp_X1_play  (C : cS) (K : Int32 → cS → Prop) : Prop := wp_X1_settle ((0 : Int32)) ((0 : Int32)) ((0 : Int32)) C (fun r1 C2 => (∃ n10 : Nat, wl_X1_play_10 K n10 ((0 : Int32)) C2))
set_option maxHeartbeats 4000000 in
set_option maxRecDepth 100000 in
theorem lp_X1_play_10 {p : Program} {l : Launch} {e : Env} {s : State} {m : MethodId} {args : Array Value} {below : List Frame} {meth : Method} {c : Code} {D : va_G} {cI cJ cO : ClassId} {h : Nat → Nat} {A : Nat → Prop} {K : Int32 → cS → Prop} (F : CallFix p m c cX1_play 2 s args wsX1_play RX1) (hin : ∀ w ∈ u_ws RX1 TX1 14, w ∈ wsX1_play) (hin0 : ∀ w ∈ u_ws RX0 TX0 3, w ∈ wsX1_play) (hr : meth.sig.returnType = some .int) (hlk : meth.locks = false) :
    ∀ (n : Nat) (v1 : Int32) (C : cS) (H : Heap) (locs : List Loc), cG D cI cJ cO h A s s.heap H locs C → ∀ (ls : Array Slot), lv_has ls 2 [(0, .ref (h 0)), (1, .int (v1))] → wl_X1_play_10 K n v1 C → W p l e rm_X1_play s m args below meth c H locs 0 0 (MQ below (va_Qi K (cB D cI cJ cO h A) A) args s 0 0 A) (F0 m 10 ls []) := by
  obtain ⟨hx, hb, hml, hown, hts⟩ := id F
  intro n
  induction n with
  | zero => intro v1 C H locs I ls hl hw; exact hw.elim
  | succ n ih =>
    intro v1 C H locs I ls hl hw
    rw [wl_X1_play_10] at hw
    refine lv_iload_n hx hb dX1_play_10 rfl (lv_at hl 1 rfl) ?_
    refine lv_aload_n hx hb dX1_play_11 rfl (lv_at hl 0 rfl) ?_
    refine c_get F hin I 2 (by decide) (v := .int ((C.fi 2))) rfl (hts (.fieldLink RX1 92 "CuttingTable" "cutCount" "I") (by decide +kernel)) dX1_play_12 ?_
    refine lv_icmp_ge (tgt := 32) hx hb dX1_play_15 (by decide) (fun c_3 => ?_) (fun c_3 => ?_)
    · have hw := hw.1 c_3
      refine lv_aload_n hx hb dX1_play_32 rfl (lv_at hl 0 rfl) ?_
      refine lv_dup hx hb dX1_play_33 rfl ?_
      refine c_get F hin I 2 (by decide) (v := .int ((C.fi 2))) rfl (hts (.fieldLink RX1 92 "CuttingTable" "cutCount" "I") (by decide +kernel)) dX1_play_34 ?_
      refine lv_iload_n hx hb dX1_play_37 rfl (lv_at hl 1 rfl) ?_
      refine lv_isub hx hb dX1_play_38 ?_
      refine c_put F hin I 2 (by decide) (hts (.fieldLink RX1 92 "CuttingTable" "cutCount" "I") (by decide +kernel)) dX1_play_39 (fun H locs I => ?_)
      refine lv_aload_n hx hb dX1_play_42 rfl (lv_at hl 0 rfl) ?_
      refine c_get F hin I 1 (by decide) (v := .ref (h 2)) rfl (hts (.fieldLink RX1 15 "CuttingTable" "cuts" "[I") (by decide +kernel)) dX1_play_43 ?_
      refine lv_iload_n hx hb dX1_play_46 rfl (lv_at hl 1 rfl) ?_
      refine lv_iconst (v := (5 : Int32)) hx hb dX1_play_47 (by decide) ?_
      refine lv_imul hx hb dX1_play_48 ?_
      refine lv_aload_n hx hb dX1_play_49 rfl (lv_at hl 0 rfl) ?_
      refine c_get F hin I 1 (by decide) (v := .ref (h 2)) rfl (hts (.fieldLink RX1 15 "CuttingTable" "cuts" "[I") (by decide +kernel)) dX1_play_50 ?_
      refine lv_iconst (v := (0 : Int32)) hx hb dX1_play_53 (by decide) ?_
      refine lv_aload_n hx hb dX1_play_54 rfl (lv_at hl 0 rfl) ?_
      refine c_get F hin I 2 (by decide) (v := .int ((((C.fi 2) - v1)))) rfl (hts (.fieldLink RX1 92 "CuttingTable" "cutCount" "I") (by decide +kernel)) dX1_play_55 ?_
      refine lv_iconst (v := (5 : Int32)) hx hb dX1_play_58 (by decide) ?_
      refine lv_imul hx hb dX1_play_59 ?_
      obtain ⟨hn1, hn2, hn3, hn4, hn5, hw⟩ := hw
      refine c_cpyc (rest := []) F hl.1 I (hts (.methodLink RX1 82 arraycopyName) (by decide +kernel)) (hts (.native arraycopyName) (by decide +kernel)) (hts (.static arraycopyName) (by decide +kernel)) (hts (.initialized "java/lang/System") (by decide +kernel))  hn1 hn2 hn3 hn4 hn5 (Nat.le_of_ble_eq_true rfl) (Nat.le_of_ble_eq_true rfl) dX1_play_60 (fun H locs I => ?_)
      refine lv_iload_n hx hb dX1_play_63 rfl (lv_at hl 1 rfl) ?_
      exact c_reti F hr hlk I dX1_play_64 hw
    · have hw := hw.2 c_3
      refine lv_aload_n hx hb dX1_play_18 rfl (lv_at hl 0 rfl) ?_
      refine lv_iload_n hx hb dX1_play_19 rfl (lv_at hl 1 rfl) ?_
      refine c_calli (rest := []) F I (c_X1_playCut (v1) _ _ hw) (cwV 1 hts gX1_play_X1_playCut rfl rfl rfl (by decide +kernel) ⟨Nat.le_of_ble_eq_true rfl, Nat.le_of_ble_eq_true rfl⟩) rfl hl.1 rfl (Nat.le_of_ble_eq_true rfl) dX1_play_20 ⟨Nat.zero_le _, Nat.zero_le _⟩ (fun r4 C5 H locs hw I => ?_)
      refine lv_if_ne (tgt := 32) hx hb dX1_play_23 (by decide) (fun c_6 => ?_) (fun c_6 => ?_)
      · have hw := hw.1 c_6
        refine lv_aload_n hx hb dX1_play_32 rfl (lv_at hl 0 rfl) ?_
        refine lv_dup hx hb dX1_play_33 rfl ?_
        refine c_get F hin I 2 (by decide) (v := .int ((C5.fi 2))) rfl (hts (.fieldLink RX1 92 "CuttingTable" "cutCount" "I") (by decide +kernel)) dX1_play_34 ?_
        refine lv_iload_n hx hb dX1_play_37 rfl (lv_at hl 1 rfl) ?_
        refine lv_isub hx hb dX1_play_38 ?_
        refine c_put F hin I 2 (by decide) (hts (.fieldLink RX1 92 "CuttingTable" "cutCount" "I") (by decide +kernel)) dX1_play_39 (fun H locs I => ?_)
        refine lv_aload_n hx hb dX1_play_42 rfl (lv_at hl 0 rfl) ?_
        refine c_get F hin I 1 (by decide) (v := .ref (h 2)) rfl (hts (.fieldLink RX1 15 "CuttingTable" "cuts" "[I") (by decide +kernel)) dX1_play_43 ?_
        refine lv_iload_n hx hb dX1_play_46 rfl (lv_at hl 1 rfl) ?_
        refine lv_iconst (v := (5 : Int32)) hx hb dX1_play_47 (by decide) ?_
        refine lv_imul hx hb dX1_play_48 ?_
        refine lv_aload_n hx hb dX1_play_49 rfl (lv_at hl 0 rfl) ?_
        refine c_get F hin I 1 (by decide) (v := .ref (h 2)) rfl (hts (.fieldLink RX1 15 "CuttingTable" "cuts" "[I") (by decide +kernel)) dX1_play_50 ?_
        refine lv_iconst (v := (0 : Int32)) hx hb dX1_play_53 (by decide) ?_
        refine lv_aload_n hx hb dX1_play_54 rfl (lv_at hl 0 rfl) ?_
        refine c_get F hin I 2 (by decide) (v := .int ((((C5.fi 2) - v1)))) rfl (hts (.fieldLink RX1 92 "CuttingTable" "cutCount" "I") (by decide +kernel)) dX1_play_55 ?_
        refine lv_iconst (v := (5 : Int32)) hx hb dX1_play_58 (by decide) ?_
        refine lv_imul hx hb dX1_play_59 ?_
        obtain ⟨hn1, hn2, hn3, hn4, hn5, hw⟩ := hw
        refine c_cpyc (rest := []) F hl.1 I (hts (.methodLink RX1 82 arraycopyName) (by decide +kernel)) (hts (.native arraycopyName) (by decide +kernel)) (hts (.static arraycopyName) (by decide +kernel)) (hts (.initialized "java/lang/System") (by decide +kernel))  hn1 hn2 hn3 hn4 hn5 (Nat.le_of_ble_eq_true rfl) (Nat.le_of_ble_eq_true rfl) dX1_play_60 (fun H locs I => ?_)
        refine lv_iload_n hx hb dX1_play_63 rfl (lv_at hl 1 rfl) ?_
        exact c_reti F hr hlk I dX1_play_64 hw
      · have hw := hw.2 c_6
        refine lv_iinc (v := (v1 + (1 : Int32))) (lv' := [(1, .int ((v1 + (1 : Int32)))), (0, .ref (h 0))]) hx hb dX1_play_26 hl (k := 1) rfl rfl (by decide) rfl (fun ls hl => ?_)
        refine lv_goto (tgt := 10) hx hb dX1_play_29 (by decide) ?_
        exact ih ((v1 + (1 : Int32))) C5 _ _ I ls (lv_sub hl [1, 0] rfl) hw
set_option maxHeartbeats 4000000 in
set_option maxRecDepth 100000 in
theorem c_X1_play {l : Launch} {D : va_G} {cI cJ cO : ClassId} {h : Nat → Nat}  (C : cS) (K : Int32 → cS → Prop) (hw : wp_X1_play  C K) : cMi l D cI cJ cO h yX1_play wsX1_play rm_X1_play 0 0 [.ref (h 0)] K C := by
  refine c_starti (rt := some .int) (R0 := RX1) (by decide) rfl rfl (Nat.le_of_ble_eq_true rfl) ?_
  intro p e s m below meth c A ls F hr hlk I hl hini
  have hin : ∀ w ∈ u_ws RX1 TX1 14, w ∈ wsX1_play := by decide +kernel
  have hin0 : ∀ w ∈ u_ws RX0 TX0 3, w ∈ wsX1_play := by decide +kernel
  obtain ⟨hx, hb, hml, hown, hts⟩ := id F
  have hl : lv_has ls 2 [(0, .ref (h 0))] := hl
  unfold wp_X1_play at hw
  refine lv_aload_n hx hb dX1_play_0 rfl (lv_at hl 0 rfl) ?_
  refine lv_iconst (v := (0 : Int32)) hx hb dX1_play_1 (by decide) ?_
  refine lv_iconst (v := (0 : Int32)) hx hb dX1_play_2 (by decide) ?_
  refine lv_iconst (v := (0 : Int32)) hx hb dX1_play_3 (by decide) ?_
  refine c_calli (rest := []) F I (c_X1_settle ((0 : Int32)) ((0 : Int32)) ((0 : Int32)) _ _ hw) (cwV 3 hts gX1_play_X1_settle rfl rfl rfl (by decide +kernel) ⟨Nat.le_of_ble_eq_true rfl, Nat.le_of_ble_eq_true rfl⟩) rfl hl.1 rfl (Nat.le_of_ble_eq_true rfl) dX1_play_4 ⟨Nat.zero_le _, Nat.zero_le _⟩ (fun r1 C2 H locs hw I => ?_)
  refine lv_pop hx hb dX1_play_7 rfl ?_
  refine lv_iconst (v := (0 : Int32)) hx hb dX1_play_8 (by decide) ?_
  refine lv_istore_n (lv' := [(1, .int ((0 : Int32))), (0, .ref (h 0))]) hx hb dX1_play_9 rfl hl (by decide) rfl (fun ls hl => ?_)
  obtain ⟨n10, hw⟩ := hw
  exact lp_X1_play_10 F hin hin0 hr hlk n10 ((0 : Int32)) C2 _ _ I ls (lv_sub hl [1, 0] rfl) hw
abbrev rm_X1_takeBack : Room := { frames := 1, cells := 0, slots := 0, locals := 38 }
def wp_X1_takeBack  (C : cS) (K : Int32 → cS → Prop) : Prop := (((C).br = none → wp_X1_emptyBin  C (fun C4 => K ((C.fi 6)) C4)) ∧ (∀ y1, (C).br = some y1 → (((C).br = none → False) ∧ (∀ y5, (C).br = some y5 → ((C).ld (y5) ∧ ∃ b7, (C).fr (y5) = some b7 ∧ ((C).aw (b7) ∧ ¬ (0 : Int32) < 0 ∧ ¬ (C.fi 5) < 0 ∧ ¬ (C.fi 6) < 0 ∧ ((0 : Int32)).toNatClampNeg + ((C.fi 6)).toNatClampNeg ≤ 24 ∧ ((C.fi 5)).toNatClampNeg + ((C.fi 6)).toNatClampNeg ≤ ((C).ln (b7)) ∧ wp_X1_emptyBin  (C.cbp (b7) ((0 : Int32)).toNatClampNeg ((C.fi 5)).toNatClampNeg ((C.fi 6)).toNatClampNeg) (fun C10 => K ((C.fi 6)) C10)))))))
set_option maxHeartbeats 4000000 in
set_option maxRecDepth 100000 in
theorem c_X1_takeBack {l : Launch} {D : va_G} {cI cJ cO : ClassId} {h : Nat → Nat}  (C : cS) (K : Int32 → cS → Prop) (hw : wp_X1_takeBack  C K) : cMi l D cI cJ cO h yX1_takeBack wsX1_takeBack rm_X1_takeBack 0 0 [.ref (h 0)] K C := by
  refine c_starti (rt := some .int) (R0 := RX1) (by decide) rfl rfl (Nat.le_of_ble_eq_true rfl) ?_
  intro p e s m below meth c A ls F hr hlk I hl hini
  have hin : ∀ w ∈ u_ws RX1 TX1 14, w ∈ wsX1_takeBack := by decide +kernel
  have hin0 : ∀ w ∈ u_ws RX0 TX0 3, w ∈ wsX1_takeBack := by decide +kernel
  obtain ⟨hx, hb, hml, hown, hts⟩ := id F
  have hl : lv_has ls 2 [(0, .ref (h 0))] := hl
  unfold wp_X1_takeBack at hw
  refine lv_aload_n hx hb dX1_takeBack_0 rfl (lv_at hl 0 rfl) ?_
  refine c_get F hin I 6 (by decide) (v := .int ((C.fi 6))) rfl (hts (.fieldLink RX1 98 "CuttingTable" "binCount" "I") (by decide +kernel)) dX1_takeBack_1 ?_
  refine lv_istore_n (lv' := [(1, .int ((C.fi 6))), (0, .ref (h 0))]) hx hb dX1_takeBack_4 rfl hl (by decide) rfl (fun ls hl => ?_)
  refine lv_aload_n hx hb dX1_takeBack_5 rfl (lv_at hl 1 rfl) ?_
  refine c_get F hin I 4 (by decide) (v := va_rf (C).br) rfl (hts (.fieldLink RX1 101 "CuttingTable" "binReel" "LCuttingTable$Load;") (by decide +kernel)) dX1_takeBack_6 ?_
  rcases e2 : (C).br with _ | y1
  · have hw := hw.1 e2
    refine lv_ifnullN (tgt := 32) hx hb dX1_takeBack_9 (by decide) ?_
    refine lv_aload_n hx hb dX1_takeBack_32 rfl (lv_at hl 1 rfl) ?_
    refine c_callv (rest := []) F I (c_X1_emptyBin  _ _ hw) (cwV 0 hts gX1_takeBack_X1_emptyBin rfl rfl rfl (by decide +kernel) ⟨Nat.le_of_ble_eq_true rfl, Nat.le_of_ble_eq_true rfl⟩) rfl hl.1 rfl (Nat.le_of_ble_eq_true rfl) dX1_takeBack_33 ⟨Nat.zero_le _, Nat.zero_le _⟩ (fun C4 H locs hw I => ?_)
    refine lv_iload_n hx hb dX1_takeBack_36 rfl (lv_at hl 0 rfl) ?_
    exact c_reti F hr hlk I dX1_takeBack_37 hw
  · have hw := hw.2 y1 e2
    refine lv_ifnull hx hb dX1_takeBack_9 ?_
    refine lv_aload_n hx hb dX1_takeBack_12 rfl (lv_at hl 1 rfl) ?_
    refine c_get F hin I 3 (by decide) (v := .ref (h 3)) rfl (hts (.fieldLink RX1 19 "CuttingTable" "binFrames" "[J") (by decide +kernel)) dX1_takeBack_13 ?_
    refine lv_iconst (v := (0 : Int32)) hx hb dX1_takeBack_16 (by decide) ?_
    refine lv_aload_n hx hb dX1_takeBack_17 rfl (lv_at hl 1 rfl) ?_
    refine c_get F hin I 4 (by decide) (v := va_rf (C).br) rfl (hts (.fieldLink RX1 101 "CuttingTable" "binReel" "LCuttingTable$Load;") (by decide +kernel)) dX1_takeBack_18 ?_
    rcases e6 : (C).br with _ | y5
    · have hw := hw.1 e6
      exact hw.elim
    · have hw := hw.2 y5 e6
      obtain ⟨hld, b7, e8, hw⟩ := hw
      refine c_lget F hin0 I hld 2 (by decide) (v := .ref b7) (by rw [← show va_rf ((C).fr (y5)) = .ref b7 from by rw [e8]; rfl]; rfl) (hts (.fieldLink RX1 48 "CuttingTable$Load" "frames" "[J") (by decide +kernel)) dX1_takeBack_21 ?_
      refine lv_aload_n hx hb dX1_takeBack_24 rfl (lv_at hl 1 rfl) ?_
      refine c_get F hin I 5 (by decide) (v := .int ((C.fi 5))) rfl (hts (.fieldLink RX1 105 "CuttingTable" "binPlace" "I") (by decide +kernel)) dX1_takeBack_25 ?_
      refine lv_iload_n hx hb dX1_takeBack_28 rfl (lv_at hl 0 rfl) ?_
      obtain ⟨ha0, hn1, hn2, hn3, hn4, hn5, hw⟩ := hw
      refine c_cpyb (rest := []) F hl.1 I (hts (.methodLink RX1 82 arraycopyName) (by decide +kernel)) (hts (.native arraycopyName) (by decide +kernel)) (hts (.static arraycopyName) (by decide +kernel)) (hts (.initialized "java/lang/System") (by decide +kernel)) ha0 hn1 hn2 hn3 hn4 hn5 (Nat.le_of_ble_eq_true rfl) (Nat.le_of_ble_eq_true rfl) dX1_takeBack_29 (fun H locs I => ?_)
      refine lv_aload_n hx hb dX1_takeBack_32 rfl (lv_at hl 1 rfl) ?_
      refine c_callv (rest := []) F I (c_X1_emptyBin  _ _ hw) (cwV 0 hts gX1_takeBack_X1_emptyBin rfl rfl rfl (by decide +kernel) ⟨Nat.le_of_ble_eq_true rfl, Nat.le_of_ble_eq_true rfl⟩) rfl hl.1 rfl (Nat.le_of_ble_eq_true rfl) dX1_takeBack_33 ⟨Nat.zero_le _, Nat.zero_le _⟩ (fun C10 H locs hw I => ?_)
      refine lv_iload_n hx hb dX1_takeBack_36 rfl (lv_at hl 0 rfl) ?_
      exact c_reti F hr hlk I dX1_takeBack_37 hw
abbrev rm_X1_refusal : Room := { frames := 0, cells := 0, slots := 0, locals := 0 }
def wp_X1_refusal (p0 : Int32) (C : cS) (K : Int32 → cS → Prop) : Prop := ((p0 = (0 : Int32) → K ((C.fi 7)) C) ∧ (p0 = (1 : Int32) → K ((C.fi 8)) C) ∧ (p0 = (2 : Int32) → K ((C.fi 9)) C) ∧ (¬ p0 = (0 : Int32) → ¬ p0 = (1 : Int32) → ¬ p0 = (2 : Int32) → K ((-1 : Int32)) C))
set_option maxHeartbeats 4000000 in
set_option maxRecDepth 100000 in
theorem c_X1_refusal {l : Launch} {D : va_G} {cI cJ cO : ClassId} {h : Nat → Nat} (p0 : Int32) (C : cS) (K : Int32 → cS → Prop) (hw : wp_X1_refusal p0 C K) : cMi l D cI cJ cO h yX1_refusal wsX1_refusal rm_X1_refusal 0 0 [.ref (h 0), .int (p0)] K C := by
  refine c_starti (rt := some .int) (R0 := RX1) (by decide) rfl rfl (Nat.le_of_ble_eq_true rfl) ?_
  intro p e s m below meth c A ls F hr hlk I hl hini
  have hin : ∀ w ∈ u_ws RX1 TX1 14, w ∈ wsX1_refusal := by decide +kernel
  have hin0 : True := trivial
  obtain ⟨hx, hb, hml, hown, hts⟩ := id F
  have hl : lv_has ls 2 [(0, .ref (h 0)), (1, .int (p0))] := hl
  unfold wp_X1_refusal at hw
  refine lv_iload_n hx hb dX1_refusal_0 rfl (lv_at hl 1 rfl) ?_
  by_cases c_1 : p0 = (0 : Int32)
  · have hw := hw.1 c_1
    refine lv_tableIn (off := 27) (tgt := 28) hx hb dX1_refusal_1 (by rw [c_1]; decide) (by rw [c_1]; decide) (by rw [c_1]; decide) (by decide) ?_
    refine lv_aload_n hx hb dX1_refusal_28 rfl (lv_at hl 0 rfl) ?_
    refine c_get F hin I 7 (by decide) (v := .int ((C.fi 7))) rfl (hts (.fieldLink RX1 108 "CuttingTable" "lastRefusal" "I") (by decide +kernel)) dX1_refusal_29 ?_
    exact c_reti F hr hlk I dX1_refusal_32 hw
  have hw := hw.2
  by_cases c_2 : p0 = (1 : Int32)
  · have hw := hw.1 c_2
    refine lv_tableIn (off := 32) (tgt := 33) hx hb dX1_refusal_1 (by rw [c_2]; decide) (by rw [c_2]; decide) (by rw [c_2]; decide) (by decide) ?_
    refine lv_aload_n hx hb dX1_refusal_33 rfl (lv_at hl 0 rfl) ?_
    refine c_get F hin I 8 (by decide) (v := .int ((C.fi 8))) rfl (hts (.fieldLink RX1 111 "CuttingTable" "lastWay" "I") (by decide +kernel)) dX1_refusal_34 ?_
    exact c_reti F hr hlk I dX1_refusal_37 hw
  have hw := hw.2
  by_cases c_3 : p0 = (2 : Int32)
  · have hw := hw.1 c_3
    refine lv_tableIn (off := 37) (tgt := 38) hx hb dX1_refusal_1 (by rw [c_3]; decide) (by rw [c_3]; decide) (by rw [c_3]; decide) (by decide) ?_
    refine lv_aload_n hx hb dX1_refusal_38 rfl (lv_at hl 0 rfl) ?_
    refine c_get F hin I 9 (by decide) (v := .int ((C.fi 9))) rfl (hts (.fieldLink RX1 114 "CuttingTable" "lastAhead" "I") (by decide +kernel)) dX1_refusal_39 ?_
    exact c_reti F hr hlk I dX1_refusal_42 hw
  have hw := hw.2
  have hw := hw c_1 c_2 c_3
  refine lv_tableOut (tgt := 43) hx hb dX1_refusal_1 (by have nc_1 := lv_neT c_1 (k := (0 : Int32)) (a := 0) rfl; have nc_2 := lv_neT c_2 (k := (1 : Int32)) (a := 1) rfl; have nc_3 := lv_neT c_3 (k := (2 : Int32)) (a := 2) rfl; omega) (by decide) ?_
  refine lv_iconst (v := (-1 : Int32)) hx hb dX1_refusal_43 (by decide) ?_
  exact c_reti F hr hlk I dX1_refusal_44 hw
abbrev rm_X1_look : Room := { frames := 2, cells := 0, slots := 0, locals := 41 }
def wp_X1_look (p0 : Int32) (p1 : Int32) (C : cS) (K : Int32 → cS → Prop) : Prop := wp_X1_loadOn (p0) C (fun r1 C2 => ((r1 = none → K ((-1 : Int32)) C2) ∧ (∀ y3, r1 = some y3 → ((p1 = (0 : Int32) → ((C2).ld (y3) ∧ K (((C2).so (y3))) C2)) ∧ (p1 = (1 : Int32) → ((C2).ld (y3) ∧ K (((C2).nu (y3))) C2)) ∧ (p1 = (2 : Int32) → wp_X1_lowestWith (y3) C2 (fun r8 C9 => K (r8) C9)) ∧ (¬ p1 = (0 : Int32) → ¬ p1 = (1 : Int32) → ¬ p1 = (2 : Int32) → K ((-1 : Int32)) C2)))))
set_option maxHeartbeats 4000000 in
set_option maxRecDepth 100000 in
theorem c_X1_look {l : Launch} {D : va_G} {cI cJ cO : ClassId} {h : Nat → Nat} (p0 : Int32) (p1 : Int32) (C : cS) (K : Int32 → cS → Prop) (hw : wp_X1_look p0 p1 C K) : cMi l D cI cJ cO h yX1_look wsX1_look rm_X1_look 0 0 [.ref (h 0), .int (p0), .int (p1)] K C := by
  refine c_starti (rt := some .int) (R0 := RX1) (by decide) rfl rfl (Nat.le_of_ble_eq_true rfl) ?_
  intro p e s m below meth c A ls F hr hlk I hl hini
  have hin : ∀ w ∈ u_ws RX1 TX1 14, w ∈ wsX1_look := by decide +kernel
  have hin0 : ∀ w ∈ u_ws RX0 TX0 3, w ∈ wsX1_look := by decide +kernel
  obtain ⟨hx, hb, hml, hown, hts⟩ := id F
  have hl : lv_has ls 4 [(0, .ref (h 0)), (1, .int (p0)), (2, .int (p1))] := hl
  unfold wp_X1_look at hw
  refine lv_aload_n hx hb dX1_look_0 rfl (lv_at hl 0 rfl) ?_
  refine lv_iload_n hx hb dX1_look_1 rfl (lv_at hl 1 rfl) ?_
  refine c_callq (rest := []) F I (c_X1_loadOn (p0) _ _ hw) (cwV 1 hts gX1_look_X1_loadOn rfl rfl rfl (by decide +kernel) ⟨Nat.le_of_ble_eq_true rfl, Nat.le_of_ble_eq_true rfl⟩) rfl hl.1 rfl (Nat.le_of_ble_eq_true rfl) dX1_look_2 ⟨Nat.zero_le _, Nat.zero_le _⟩ (fun r1 C2 H locs hw I => ?_)
  rcases e4 : r1 with _ | y3
  · have hw := hw.1 e4
    refine lv_astore_nN (lv' := [(3, .null), (0, .ref (h 0)), (1, .int (p0)), (2, .int (p1))]) hx hb dX1_look_5 rfl hl (by decide) rfl (fun ls hl => ?_)
    refine lv_aload_nN hx hb dX1_look_6 rfl (lv_at hl 0 rfl) ?_
    refine lv_ifnonnullN hx hb dX1_look_7 ?_
    refine lv_iconst (v := (-1 : Int32)) hx hb dX1_look_10 (by decide) ?_
    exact c_reti F hr hlk I dX1_look_11 hw
  · have hw := hw.2 y3 e4
    refine lv_astore_n (lv' := [(3, .ref (y3)), (0, .ref (h 0)), (1, .int (p0)), (2, .int (p1))]) hx hb dX1_look_5 rfl hl (by decide) rfl (fun ls hl => ?_)
    refine lv_aload_n hx hb dX1_look_6 rfl (lv_at hl 0 rfl) ?_
    refine lv_ifnonnull (tgt := 12) hx hb dX1_look_7 (by decide) ?_
    refine lv_iload_n hx hb dX1_look_12 rfl (lv_at hl 3 rfl) ?_
    by_cases c_5 : p1 = (0 : Int32)
    · have hw := hw.1 c_5
      refine lv_tableIn (off := 27) (tgt := 40) hx hb dX1_look_13 (by rw [c_5]; decide) (by rw [c_5]; decide) (by rw [c_5]; decide) (by decide) ?_
      refine lv_aload_n hx hb dX1_look_40 rfl (lv_at hl 0 rfl) ?_
      obtain ⟨hld, hw⟩ := hw
      refine c_lget F hin0 I hld 0 (by decide) (v := .int (((C2).so (y3)))) rfl (hts (.fieldLink RX1 42 "CuttingTable$Load" "sort" "I") (by decide +kernel)) dX1_look_41 ?_
      exact c_reti F hr hlk I dX1_look_44 hw
    have hw := hw.2
    by_cases c_6 : p1 = (1 : Int32)
    · have hw := hw.1 c_6
      refine lv_tableIn (off := 32) (tgt := 45) hx hb dX1_look_13 (by rw [c_6]; decide) (by rw [c_6]; decide) (by rw [c_6]; decide) (by decide) ?_
      refine lv_aload_n hx hb dX1_look_45 rfl (lv_at hl 0 rfl) ?_
      obtain ⟨hld, hw⟩ := hw
      refine c_lget F hin0 I hld 1 (by decide) (v := .int (((C2).nu (y3)))) rfl (hts (.fieldLink RX1 45 "CuttingTable$Load" "number" "I") (by decide +kernel)) dX1_look_46 ?_
      exact c_reti F hr hlk I dX1_look_49 hw
    have hw := hw.2
    by_cases c_7 : p1 = (2 : Int32)
    · have hw := hw.1 c_7
      refine lv_tableIn (off := 37) (tgt := 50) hx hb dX1_look_13 (by rw [c_7]; decide) (by rw [c_7]; decide) (by rw [c_7]; decide) (by decide) ?_
      refine lv_aload_n hx hb dX1_look_50 rfl (lv_at hl 1 rfl) ?_
      refine lv_aload_n hx hb dX1_look_51 rfl (lv_at hl 0 rfl) ?_
      refine c_calli (rest := []) F I (c_X1_lowestWith (y3) _ _ hw) (cwV 1 hts gX1_look_X1_lowestWith rfl rfl rfl (by decide +kernel) ⟨Nat.le_of_ble_eq_true rfl, Nat.le_of_ble_eq_true rfl⟩) rfl hl.1 rfl (Nat.le_of_ble_eq_true rfl) dX1_look_52 ⟨Nat.zero_le _, Nat.zero_le _⟩ (fun r8 C9 H locs hw I => ?_)
      exact c_reti F hr hlk I dX1_look_55 hw
    have hw := hw.2
    have hw := hw c_5 c_6 c_7
    refine lv_tableOut (tgt := 56) hx hb dX1_look_13 (by have nc_5 := lv_neT c_5 (k := (0 : Int32)) (a := 0) rfl; have nc_6 := lv_neT c_6 (k := (1 : Int32)) (a := 1) rfl; have nc_7 := lv_neT c_7 (k := (2 : Int32)) (a := 2) rfl; omega) (by decide) ?_
    refine lv_iconst (v := (-1 : Int32)) hx hb dX1_look_56 (by decide) ?_
    exact c_reti F hr hlk I dX1_look_57 hw
abbrev rm_X1_alike : Room := { frames := 1, cells := 0, slots := 0, locals := 22 }
def wp_X1_alike (p0 : Int32) (p1 : Int32) (C : cS) (K : Int32 → cS → Prop) : Prop := wp_X1_isSpindle (p0) (fun r1 => ((r1 = 0 → K (0 : Int32) C) ∧ (¬ r1 = 0 → wp_X1_isSpindle (p1) (fun r3 => ((¬ r3 = 0 → (vp_in (p0) 8 ∧ ((((C).sp (p0).toNatClampNeg) = none → (vp_in (p1) 8 ∧ ((((C).sp (p1).toNatClampNeg) = none → ((¬ (none : Option Nat) = (none : Option Nat) → K (0 : Int32) C) ∧ ((none : Option Nat) = (none : Option Nat) → K (1 : Int32) C))) ∧ (∀ y9, ((C).sp (p1).toNatClampNeg) = some y9 → ((¬ (none : Option Nat) = (some (y9) : Option Nat) → K (0 : Int32) C) ∧ ((none : Option Nat) = (some (y9) : Option Nat) → K (1 : Int32) C)))))) ∧ (∀ y6, ((C).sp (p0).toNatClampNeg) = some y6 → (vp_in (p1) 8 ∧ ((((C).sp (p1).toNatClampNeg) = none → ((¬ (some (y6) : Option Nat) = (none : Option Nat) → K (0 : Int32) C) ∧ ((some (y6) : Option Nat) = (none : Option Nat) → K (1 : Int32) C))) ∧ (∀ y14, ((C).sp (p1).toNatClampNeg) = some y14 → ((C).ld (y6) ∧ ((C).ld (y14) ∧ ((¬ ((C).so (y6)) = ((C).so (y14)) → K (0 : Int32) C) ∧ (((C).so (y6)) = ((C).so (y14)) → ((C).ld (y6) ∧ ((C).ld (y14) ∧ ((¬ ((C).nu (y6)) = ((C).nu (y14)) → K (0 : Int32) C) ∧ (((C).nu (y6)) = ((C).nu (y14)) → ((C).ld (y6) ∧ ∃ b19, (C).fr (y6) = some b19 ∧ ((C).ld (y14) ∧ ∃ b21, (C).fr (y14) = some b21 ∧ wp_X1_sameFrames (b19) (b21) C (fun r23 C24 => ((r23 = 0 → K (0 : Int32) C24) ∧ (¬ r23 = 0 → K (1 : Int32) C24)))))))))))))))))))) ∧ (r3 = 0 → K (0 : Int32) C))))))
set_option maxHeartbeats 4000000 in
set_option maxRecDepth 100000 in
theorem c_X1_alike {l : Launch} {D : va_G} {cI cJ cO : ClassId} {h : Nat → Nat} (p0 : Int32) (p1 : Int32) (C : cS) (K : Int32 → cS → Prop) (hw : wp_X1_alike p0 p1 C K) : cMi l D cI cJ cO h yX1_alike wsX1_alike rm_X1_alike 0 0 [.ref (h 0), .int (p0), .int (p1)] K C := by
  refine c_starti (rt := some .boolean) (R0 := RX1) (by decide) rfl rfl (Nat.le_of_ble_eq_true rfl) ?_
  intro p e s m below meth c A ls F hr hlk I hl hini
  have hin : ∀ w ∈ u_ws RX1 TX1 14, w ∈ wsX1_alike := by decide +kernel
  have hin0 : ∀ w ∈ u_ws RX0 TX0 3, w ∈ wsX1_alike := by decide +kernel
  obtain ⟨hx, hb, hml, hown, hts⟩ := id F
  have hl : lv_has ls 5 [(0, .ref (h 0)), (1, .int (p0)), (2, .int (p1))] := hl
  unfold wp_X1_alike at hw
  refine lv_iload_n hx hb dX1_alike_0 rfl (lv_at hl 1 rfl) ?_
  refine s_calli (rest := []) F (c_X1_isSpindle (p0) _ hw) (va_cwS 1 hts gX1_alike_X1_isSpindle rfl rfl rfl (by decide +kernel) ⟨Nat.le_of_ble_eq_true rfl, Nat.le_of_ble_eq_true rfl⟩) rfl hl.1 rfl (Nat.le_of_ble_eq_true rfl) dX1_alike_1 ⟨Nat.zero_le _, Nat.zero_le _⟩ (fun r1 hw => ?_)
  refine lv_if_eq (tgt := 14) hx hb dX1_alike_4 (by decide) (fun c_2 => ?_) (fun c_2 => ?_)
  · have hw := hw.1 c_2
    refine lv_iconst (v := (0 : Int32)) hx hb dX1_alike_14 (by decide) ?_
    exact c_retz F hr hlk I dX1_alike_15 ⟨hw, by decide⟩
  · have hw := hw.2 c_2
    refine lv_iload_n hx hb dX1_alike_7 rfl (lv_at hl 2 rfl) ?_
    refine s_calli (rest := []) F (c_X1_isSpindle (p1) _ hw) (va_cwS 1 hts gX1_alike_X1_isSpindle rfl rfl rfl (by decide +kernel) ⟨Nat.le_of_ble_eq_true rfl, Nat.le_of_ble_eq_true rfl⟩) rfl hl.1 rfl (Nat.le_of_ble_eq_true rfl) dX1_alike_8 ⟨Nat.zero_le _, Nat.zero_le _⟩ (fun r3 hw => ?_)
    refine lv_if_ne (tgt := 16) hx hb dX1_alike_11 (by decide) (fun c_4 => ?_) (fun c_4 => ?_)
    · have hw := hw.1 c_4
      refine lv_aload_n hx hb dX1_alike_16 rfl (lv_at hl 0 rfl) ?_
      refine c_get F hin I 0 (by decide) (v := .ref (h 1)) rfl (hts (.fieldLink RX1 11 "CuttingTable" "spindles" "[LCuttingTable$Load;") (by decide +kernel)) dX1_alike_17 ?_
      refine lv_iload_n hx hb dX1_alike_20 rfl (lv_at hl 1 rfl) ?_
      obtain ⟨hi5, hw⟩ := hw
      refine c_aald F I hi5 dX1_alike_21 ?_
      rcases e7 : ((C).sp (p0).toNatClampNeg) with _ | y6
      · have hw := hw.1 e7
        refine lv_astore_nN (lv' := [(3, .null), (0, .ref (h 0)), (1, .int (p0)), (2, .int (p1))]) hx hb dX1_alike_22 rfl hl (by decide) rfl (fun ls hl => ?_)
        refine lv_aload_n hx hb dX1_alike_23 rfl (lv_at hl 1 rfl) ?_
        refine c_get F hin I 0 (by decide) (v := .ref (h 1)) rfl (hts (.fieldLink RX1 11 "CuttingTable" "spindles" "[LCuttingTable$Load;") (by decide +kernel)) dX1_alike_24 ?_
        refine lv_iload_n hx hb dX1_alike_27 rfl (lv_at hl 3 rfl) ?_
        obtain ⟨hi8, hw⟩ := hw
        refine c_aald F I hi8 dX1_alike_28 ?_
        rcases e10 : ((C).sp (p1).toNatClampNeg) with _ | y9
        · have hw := hw.1 e10
          refine lv_astoreN (lv' := [(4, .null), (3, .null), (0, .ref (h 0)), (1, .int (p0)), (2, .int (p1))]) hx hb dX1_alike_29 hl (by decide) rfl (fun ls hl => ?_)
          refine lv_aload_nN hx hb dX1_alike_31 rfl (lv_at hl 1 rfl) ?_
          refine lv_ifnullN (tgt := 40) hx hb dX1_alike_32 (by decide) ?_
          refine lv_aload_nN hx hb dX1_alike_40 rfl (lv_at hl 1 rfl) ?_
          refine lv_aloadN hx hb dX1_alike_41 (lv_at hl 0 rfl) ?_
          refine lv_acmp_ne (rx := (none : Option Nat)) (ry := (none : Option Nat)) (tgt := 50) hx hb dX1_alike_43 (by decide) (fun c_11 => ?_) (fun c_11 => ?_)
          · have hw := hw.1 c_11
            refine lv_iconst (v := (0 : Int32)) hx hb dX1_alike_50 (by decide) ?_
            exact c_retz F hr hlk I dX1_alike_51 ⟨hw, by decide⟩
          · have hw := hw.2 c_11
            refine lv_iconst (v := (1 : Int32)) hx hb dX1_alike_46 (by decide) ?_
            refine lv_goto (tgt := 51) hx hb dX1_alike_47 (by decide) ?_
            exact c_retz F hr hlk I dX1_alike_51 ⟨hw, by decide⟩
        · have hw := hw.2 y9 e10
          refine lv_astore (lv' := [(4, .ref (y9)), (3, .null), (0, .ref (h 0)), (1, .int (p0)), (2, .int (p1))]) hx hb dX1_alike_29 hl (by decide) rfl (fun ls hl => ?_)
          refine lv_aload_nN hx hb dX1_alike_31 rfl (lv_at hl 1 rfl) ?_
          refine lv_ifnullN (tgt := 40) hx hb dX1_alike_32 (by decide) ?_
          refine lv_aload_nN hx hb dX1_alike_40 rfl (lv_at hl 1 rfl) ?_
          refine lv_aload hx hb dX1_alike_41 (lv_at hl 0 rfl) ?_
          refine lv_acmp_ne (rx := (none : Option Nat)) (ry := (some (y9) : Option Nat)) (tgt := 50) hx hb dX1_alike_43 (by decide) (fun c_12 => ?_) (fun c_12 => ?_)
          · have hw := hw.1 c_12
            refine lv_iconst (v := (0 : Int32)) hx hb dX1_alike_50 (by decide) ?_
            exact c_retz F hr hlk I dX1_alike_51 ⟨hw, by decide⟩
          · have hw := hw.2 c_12
            refine lv_iconst (v := (1 : Int32)) hx hb dX1_alike_46 (by decide) ?_
            refine lv_goto (tgt := 51) hx hb dX1_alike_47 (by decide) ?_
            exact c_retz F hr hlk I dX1_alike_51 ⟨hw, by decide⟩
      · have hw := hw.2 y6 e7
        refine lv_astore_n (lv' := [(3, .ref (y6)), (0, .ref (h 0)), (1, .int (p0)), (2, .int (p1))]) hx hb dX1_alike_22 rfl hl (by decide) rfl (fun ls hl => ?_)
        refine lv_aload_n hx hb dX1_alike_23 rfl (lv_at hl 1 rfl) ?_
        refine c_get F hin I 0 (by decide) (v := .ref (h 1)) rfl (hts (.fieldLink RX1 11 "CuttingTable" "spindles" "[LCuttingTable$Load;") (by decide +kernel)) dX1_alike_24 ?_
        refine lv_iload_n hx hb dX1_alike_27 rfl (lv_at hl 3 rfl) ?_
        obtain ⟨hi13, hw⟩ := hw
        refine c_aald F I hi13 dX1_alike_28 ?_
        rcases e15 : ((C).sp (p1).toNatClampNeg) with _ | y14
        · have hw := hw.1 e15
          refine lv_astoreN (lv' := [(4, .null), (3, .ref (y6)), (0, .ref (h 0)), (1, .int (p0)), (2, .int (p1))]) hx hb dX1_alike_29 hl (by decide) rfl (fun ls hl => ?_)
          refine lv_aload_n hx hb dX1_alike_31 rfl (lv_at hl 1 rfl) ?_
          refine lv_ifnull hx hb dX1_alike_32 ?_
          refine lv_aloadN hx hb dX1_alike_35 (lv_at hl 0 rfl) ?_
          refine lv_ifnonnullN hx hb dX1_alike_37 ?_
          refine lv_aload_n hx hb dX1_alike_40 rfl (lv_at hl 1 rfl) ?_
          refine lv_aloadN hx hb dX1_alike_41 (lv_at hl 0 rfl) ?_
          refine lv_acmp_ne (rx := (some (y6) : Option Nat)) (ry := (none : Option Nat)) (tgt := 50) hx hb dX1_alike_43 (by decide) (fun c_16 => ?_) (fun c_16 => ?_)
          · have hw := hw.1 c_16
            refine lv_iconst (v := (0 : Int32)) hx hb dX1_alike_50 (by decide) ?_
            exact c_retz F hr hlk I dX1_alike_51 ⟨hw, by decide⟩
          · have hw := hw.2 c_16
            refine lv_iconst (v := (1 : Int32)) hx hb dX1_alike_46 (by decide) ?_
            refine lv_goto (tgt := 51) hx hb dX1_alike_47 (by decide) ?_
            exact c_retz F hr hlk I dX1_alike_51 ⟨hw, by decide⟩
        · have hw := hw.2 y14 e15
          refine lv_astore (lv' := [(4, .ref (y14)), (3, .ref (y6)), (0, .ref (h 0)), (1, .int (p0)), (2, .int (p1))]) hx hb dX1_alike_29 hl (by decide) rfl (fun ls hl => ?_)
          refine lv_aload_n hx hb dX1_alike_31 rfl (lv_at hl 1 rfl) ?_
          refine lv_ifnull hx hb dX1_alike_32 ?_
          refine lv_aload hx hb dX1_alike_35 (lv_at hl 0 rfl) ?_
          refine lv_ifnonnull (tgt := 52) hx hb dX1_alike_37 (by decide) ?_
          refine lv_aload_n hx hb dX1_alike_52 rfl (lv_at hl 1 rfl) ?_
          obtain ⟨hld, hw⟩ := hw
          refine c_lget F hin0 I hld 0 (by decide) (v := .int (((C).so (y6)))) rfl (hts (.fieldLink RX1 42 "CuttingTable$Load" "sort" "I") (by decide +kernel)) dX1_alike_53 ?_
          refine lv_aload hx hb dX1_alike_56 (lv_at hl 0 rfl) ?_
          obtain ⟨hld, hw⟩ := hw
          refine c_lget F hin0 I hld 0 (by decide) (v := .int (((C).so (y14)))) rfl (hts (.fieldLink RX1 42 "CuttingTable$Load" "sort" "I") (by decide +kernel)) dX1_alike_58 ?_
          refine lv_icmp_ne (tgt := 95) hx hb dX1_alike_61 (by decide) (fun c_17 => ?_) (fun c_17 => ?_)
          · have hw := hw.1 c_17
            refine lv_iconst (v := (0 : Int32)) hx hb dX1_alike_95 (by decide) ?_
            exact c_retz F hr hlk I dX1_alike_96 ⟨hw, by decide⟩
          · have hw := hw.2 c_17
            refine lv_aload_n hx hb dX1_alike_64 rfl (lv_at hl 1 rfl) ?_
            obtain ⟨hld, hw⟩ := hw
            refine c_lget F hin0 I hld 1 (by decide) (v := .int (((C).nu (y6)))) rfl (hts (.fieldLink RX1 45 "CuttingTable$Load" "number" "I") (by decide +kernel)) dX1_alike_65 ?_
            refine lv_aload hx hb dX1_alike_68 (lv_at hl 0 rfl) ?_
            obtain ⟨hld, hw⟩ := hw
            refine c_lget F hin0 I hld 1 (by decide) (v := .int (((C).nu (y14)))) rfl (hts (.fieldLink RX1 45 "CuttingTable$Load" "number" "I") (by decide +kernel)) dX1_alike_70 ?_
            refine lv_icmp_ne (tgt := 95) hx hb dX1_alike_73 (by decide) (fun c_18 => ?_) (fun c_18 => ?_)
            · have hw := hw.1 c_18
              refine lv_iconst (v := (0 : Int32)) hx hb dX1_alike_95 (by decide) ?_
              exact c_retz F hr hlk I dX1_alike_96 ⟨hw, by decide⟩
            · have hw := hw.2 c_18
              refine lv_aload_n hx hb dX1_alike_76 rfl (lv_at hl 1 rfl) ?_
              obtain ⟨hld, b19, e20, hw⟩ := hw
              refine c_lget F hin0 I hld 2 (by decide) (v := .ref b19) (by rw [← show va_rf ((C).fr (y6)) = .ref b19 from by rw [e20]; rfl]; rfl) (hts (.fieldLink RX1 48 "CuttingTable$Load" "frames" "[J") (by decide +kernel)) dX1_alike_77 ?_
              refine lv_aload hx hb dX1_alike_80 (lv_at hl 0 rfl) ?_
              obtain ⟨hld, b21, e22, hw⟩ := hw
              refine c_lget F hin0 I hld 2 (by decide) (v := .ref b21) (by rw [← show va_rf ((C).fr (y14)) = .ref b21 from by rw [e22]; rfl]; rfl) (hts (.fieldLink RX1 48 "CuttingTable$Load" "frames" "[J") (by decide +kernel)) dX1_alike_82 ?_
              refine c_callSi (rest := []) F I (c_X1_sameFrames (b19) (b21) _ _ hw) (va_cwS 2 hts gX1_alike_X1_sameFrames rfl rfl rfl (by decide +kernel) ⟨Nat.le_of_ble_eq_true rfl, Nat.le_of_ble_eq_true rfl⟩) rfl hl.1 rfl (Nat.le_of_ble_eq_true rfl) dX1_alike_85 ⟨Nat.zero_le _, Nat.zero_le _⟩ (fun r23 C24 H locs hw I => ?_)
              refine lv_if_eq (tgt := 95) hx hb dX1_alike_88 (by decide) (fun c_25 => ?_) (fun c_25 => ?_)
              · have hw := hw.1 c_25
                refine lv_iconst (v := (0 : Int32)) hx hb dX1_alike_95 (by decide) ?_
                exact c_retz F hr hlk I dX1_alike_96 ⟨hw, by decide⟩
              · have hw := hw.2 c_25
                refine lv_iconst (v := (1 : Int32)) hx hb dX1_alike_91 (by decide) ?_
                refine lv_goto (tgt := 96) hx hb dX1_alike_92 (by decide) ?_
                exact c_retz F hr hlk I dX1_alike_96 ⟨hw, by decide⟩
    · have hw := hw.2 c_4
      refine lv_iconst (v := (0 : Int32)) hx hb dX1_alike_14 (by decide) ?_
      exact c_retz F hr hlk I dX1_alike_15 ⟨hw, by decide⟩
abbrev rm_X1_count : Room := { frames := 0, cells := 0, slots := 0, locals := 0 }
def wp_X1_count (p0 : Int32) (C : cS) (K : Int32 → cS → Prop) : Prop := ((p0 = (0 : Int32) → K ((C.fi 10)) C) ∧ (p0 = (1 : Int32) → K ((C.fi 11)) C) ∧ (p0 = (2 : Int32) → K ((C.fi 12)) C) ∧ (p0 = (3 : Int32) → K ((C.fi 2)) C) ∧ (p0 = (4 : Int32) → K ((C.fi 6)) C) ∧ (p0 = (5 : Int32) → K ((C.fi 13)) C) ∧ (¬ p0 = (0 : Int32) → ¬ p0 = (1 : Int32) → ¬ p0 = (2 : Int32) → ¬ p0 = (3 : Int32) → ¬ p0 = (4 : Int32) → ¬ p0 = (5 : Int32) → K ((-1 : Int32)) C))
set_option maxHeartbeats 4000000 in
set_option maxRecDepth 100000 in
theorem c_X1_count {l : Launch} {D : va_G} {cI cJ cO : ClassId} {h : Nat → Nat} (p0 : Int32) (C : cS) (K : Int32 → cS → Prop) (hw : wp_X1_count p0 C K) : cMi l D cI cJ cO h yX1_count wsX1_count rm_X1_count 0 0 [.ref (h 0), .int (p0)] K C := by
  refine c_starti (rt := some .int) (R0 := RX1) (by decide) rfl rfl (Nat.le_of_ble_eq_true rfl) ?_
  intro p e s m below meth c A ls F hr hlk I hl hini
  have hin : ∀ w ∈ u_ws RX1 TX1 14, w ∈ wsX1_count := by decide +kernel
  have hin0 : True := trivial
  obtain ⟨hx, hb, hml, hown, hts⟩ := id F
  have hl : lv_has ls 2 [(0, .ref (h 0)), (1, .int (p0))] := hl
  unfold wp_X1_count at hw
  refine lv_iload_n hx hb dX1_count_0 rfl (lv_at hl 1 rfl) ?_
  by_cases c_1 : p0 = (0 : Int32)
  · have hw := hw.1 c_1
    refine lv_tableIn (off := 39) (tgt := 40) hx hb dX1_count_1 (by rw [c_1]; decide) (by rw [c_1]; decide) (by rw [c_1]; decide) (by decide) ?_
    refine lv_aload_n hx hb dX1_count_40 rfl (lv_at hl 0 rfl) ?_
    refine c_get F hin I 10 (by decide) (v := .int ((C.fi 10))) rfl (hts (.fieldLink RX1 34 "CuttingTable" "reelsMade" "I") (by decide +kernel)) dX1_count_41 ?_
    exact c_reti F hr hlk I dX1_count_44 hw
  have hw := hw.2
  by_cases c_2 : p0 = (1 : Int32)
  · have hw := hw.1 c_2
    refine lv_tableIn (off := 44) (tgt := 45) hx hb dX1_count_1 (by rw [c_2]; decide) (by rw [c_2]; decide) (by rw [c_2]; decide) (by decide) ?_
    refine lv_aload_n hx hb dX1_count_45 rfl (lv_at hl 0 rfl) ?_
    refine c_get F hin I 11 (by decide) (v := .int ((C.fi 11))) rfl (hts (.fieldLink RX1 155 "CuttingTable" "splicesDone" "I") (by decide +kernel)) dX1_count_46 ?_
    exact c_reti F hr hlk I dX1_count_49 hw
  have hw := hw.2
  by_cases c_3 : p0 = (2 : Int32)
  · have hw := hw.1 c_3
    refine lv_tableIn (off := 49) (tgt := 50) hx hb dX1_count_1 (by rw [c_3]; decide) (by rw [c_3]; decide) (by rw [c_3]; decide) (by decide) ?_
    refine lv_aload_n hx hb dX1_count_50 rfl (lv_at hl 0 rfl) ?_
    refine c_get F hin I 12 (by decide) (v := .int ((C.fi 12))) rfl (hts (.fieldLink RX1 158 "CuttingTable" "framesGone" "I") (by decide +kernel)) dX1_count_51 ?_
    exact c_reti F hr hlk I dX1_count_54 hw
  have hw := hw.2
  by_cases c_4 : p0 = (3 : Int32)
  · have hw := hw.1 c_4
    refine lv_tableIn (off := 54) (tgt := 55) hx hb dX1_count_1 (by rw [c_4]; decide) (by rw [c_4]; decide) (by rw [c_4]; decide) (by decide) ?_
    refine lv_aload_n hx hb dX1_count_55 rfl (lv_at hl 0 rfl) ?_
    refine c_get F hin I 2 (by decide) (v := .int ((C.fi 2))) rfl (hts (.fieldLink RX1 92 "CuttingTable" "cutCount" "I") (by decide +kernel)) dX1_count_56 ?_
    exact c_reti F hr hlk I dX1_count_59 hw
  have hw := hw.2
  by_cases c_5 : p0 = (4 : Int32)
  · have hw := hw.1 c_5
    refine lv_tableIn (off := 59) (tgt := 60) hx hb dX1_count_1 (by rw [c_5]; decide) (by rw [c_5]; decide) (by rw [c_5]; decide) (by decide) ?_
    refine lv_aload_n hx hb dX1_count_60 rfl (lv_at hl 0 rfl) ?_
    refine c_get F hin I 6 (by decide) (v := .int ((C.fi 6))) rfl (hts (.fieldLink RX1 98 "CuttingTable" "binCount" "I") (by decide +kernel)) dX1_count_61 ?_
    exact c_reti F hr hlk I dX1_count_64 hw
  have hw := hw.2
  by_cases c_6 : p0 = (5 : Int32)
  · have hw := hw.1 c_6
    refine lv_tableIn (off := 64) (tgt := 65) hx hb dX1_count_1 (by rw [c_6]; decide) (by rw [c_6]; decide) (by rw [c_6]; decide) (by decide) ?_
    refine lv_aload_n hx hb dX1_count_65 rfl (lv_at hl 0 rfl) ?_
    refine c_get F hin I 13 (by decide) (v := .int ((C.fi 13))) rfl (hts (.fieldLink RX1 161 "CuttingTable" "shotsMade" "I") (by decide +kernel)) dX1_count_66 ?_
    exact c_reti F hr hlk I dX1_count_69 hw
  have hw := hw.2
  have hw := hw c_1 c_2 c_3 c_4 c_5 c_6
  refine lv_tableOut (tgt := 70) hx hb dX1_count_1 (by have nc_1 := lv_neT c_1 (k := (0 : Int32)) (a := 0) rfl; have nc_2 := lv_neT c_2 (k := (1 : Int32)) (a := 1) rfl; have nc_3 := lv_neT c_3 (k := (2 : Int32)) (a := 2) rfl; have nc_4 := lv_neT c_4 (k := (3 : Int32)) (a := 3) rfl; have nc_5 := lv_neT c_5 (k := (4 : Int32)) (a := 4) rfl; have nc_6 := lv_neT c_6 (k := (5 : Int32)) (a := 5) rfl; omega) (by decide) ?_
  refine lv_iconst (v := (-1 : Int32)) hx hb dX1_count_70 (by decide) ?_
  exact c_reti F hr hlk I dX1_count_71 hw
