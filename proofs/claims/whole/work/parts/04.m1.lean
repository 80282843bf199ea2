abbrev rm_X2_isSpindle : Room := { frames := 0, cells := 0, slots := 0, locals := 0 }
def wp_X2_isSpindle (p0 : Int32) (K : Int32 → Prop) : Prop := ((p0 < 0 → K (0 : Int32)) ∧ (¬ p0 < 0 → (((7 : Int32) < p0 → K (0 : Int32)) ∧ (¬ (7 : Int32) < p0 → K (1 : Int32)))))
set_option maxHeartbeats 4000000 in
set_option maxRecDepth 100000 in
theorem c_X2_isSpindle {l : Launch} (p0 : Int32) (K : Int32 → Prop) (hw : wp_X2_isSpindle p0 K) : sMi l yX2_isSpindle wsX2_isSpindle rm_X2_isSpindle [.int (p0)] K := by
  refine s_start (rt := some .boolean) (R0 := RX2) (by decide) rfl rfl (Nat.le_of_ble_eq_true rfl) ?_
  intro p e s m below meth c ls F hr hlk hl
  obtain ⟨hx, hb, hml, hown, hts⟩ := id F
  have hl : lv_has ls 1 [(0, .int (p0))] := hl
  unfold wp_X2_isSpindle at hw
  refine lv_iload_n hx hb dX2_isSpindle_0 rfl (lv_at hl 0 rfl) ?_
  refine lv_if_lt (tgt := 14) hx hb dX2_isSpindle_1 (by decide) (fun c_1 => ?_) (fun c_1 => ?_)
  · have hw := hw.1 c_1
    refine lv_iconst (v := (0 : Int32)) hx hb dX2_isSpindle_14 (by decide) ?_
    exact s_retz F hr hlk dX2_isSpindle_15 ⟨hw, by decide⟩
  · have hw := hw.2 c_1
    refine lv_iload_n hx hb dX2_isSpindle_4 rfl (lv_at hl 0 rfl) ?_
    refine lv_bipush (v := (7 : Int32)) hx hb dX2_isSpindle_5 (by decide) ?_
    refine lv_icmp_gt (tgt := 14) hx hb dX2_isSpindle_7 (by decide) (fun c_2 => ?_) (fun c_2 => ?_)
    · have hw := hw.1 c_2
      refine lv_iconst (v := (0 : Int32)) hx hb dX2_isSpindle_14 (by decide) ?_
      exact s_retz F hr hlk dX2_isSpindle_15 ⟨hw, by decide⟩
    · have hw := hw.2 c_2
      refine lv_iconst (v := (1 : Int32)) hx hb dX2_isSpindle_10 (by decide) ?_
      refine lv_goto (tgt := 15) hx hb dX2_isSpindle_11 (by decide) ?_
      exact s_retz F hr hlk dX2_isSpindle_15 ⟨hw, by decide⟩
abbrev rm_X2_isOfNumbers : Room := { frames := 0, cells := 0, slots := 0, locals := 0 }
def wp_X2_isOfNumbers (p0 : Int32) (K : Int32 → Prop) : Prop := (((5 : Int32) ≤ p0 → K (0 : Int32)) ∧ (¬ (5 : Int32) ≤ p0 → K (1 : Int32)))
set_option maxHeartbeats 4000000 in
set_option maxRecDepth 100000 in
theorem c_X2_isOfNumbers {l : Launch} (p0 : Int32) (K : Int32 → Prop) (hw : wp_X2_isOfNumbers p0 K) : sMi l yX2_isOfNumbers wsX2_isOfNumbers rm_X2_isOfNumbers [.int (p0)] K := by
  refine s_start (rt := some .boolean) (R0 := RX2) (by decide) rfl rfl (Nat.le_of_ble_eq_true rfl) ?_
  intro p e s m below meth c ls F hr hlk hl
  obtain ⟨hx, hb, hml, hown, hts⟩ := id F
  have hl : lv_has ls 1 [(0, .int (p0))] := hl
  unfold wp_X2_isOfNumbers at hw
  refine lv_iload_n hx hb dX2_isOfNumbers_0 rfl (lv_at hl 0 rfl) ?_
  refine lv_iconst (v := (5 : Int32)) hx hb dX2_isOfNumbers_1 (by decide) ?_
  refine lv_icmp_ge (tgt := 9) hx hb dX2_isOfNumbers_2 (by decide) (fun c_1 => ?_) (fun c_1 => ?_)
  · have hw := hw.1 c_1
    refine lv_iconst (v := (0 : Int32)) hx hb dX2_isOfNumbers_9 (by decide) ?_
    exact s_retz F hr hlk dX2_isOfNumbers_10 ⟨hw, by decide⟩
  · have hw := hw.2 c_1
    refine lv_iconst (v := (1 : Int32)) hx hb dX2_isOfNumbers_5 (by decide) ?_
    refine lv_goto (tgt := 10) hx hb dX2_isOfNumbers_6 (by decide) ?_
    exact s_retz F hr hlk dX2_isOfNumbers_10 ⟨hw, by decide⟩
abbrev rm_X2_told : Room := { frames := 0, cells := 0, slots := 0, locals := 0 }
def wp_X2_told (p0 : Int32) (S : mS) (K : Int32 → mS → Prop) : Prop := ((p0 = (4 : Int32) → ((p0 = (5 : Int32) → K (p0) (S.si 18 (p0))) ∧ (¬ p0 = (5 : Int32) → K (p0) ((S.si 18 (p0)).si 20 (0 : Int32))))) ∧ (¬ p0 = (4 : Int32) → ((p0 = (5 : Int32) → K (p0) ((S.si 18 (p0)).si 19 (0 : Int32))) ∧ (¬ p0 = (5 : Int32) → K (p0) (((S.si 18 (p0)).si 19 (0 : Int32)).si 20 (0 : Int32))))))
set_option maxHeartbeats 4000000 in
set_option maxRecDepth 100000 in
theorem c_X2_told {l : Launch} {D : va_G} {cI cJ : ClassId} {h : Nat → Nat} (p0 : Int32) (S : mS) (K : Int32 → mS → Prop) (hw : wp_X2_told p0 S K) : mMi l D cI cJ h yX2_told wsX2_told rm_X2_told [.ref (h 0), .int (p0)] K S := by
  refine m_starti (rt := some .int) (by decide) rfl rfl (Nat.le_of_ble_eq_true rfl) ?_
  intro p e s m below meth c A ls F hr hlk I hl
  have hin : ∀ w ∈ u_ws RX2 TX2 24, w ∈ wsX2_told := by decide +kernel
  obtain ⟨hx, hb, hml, hown, hts⟩ := id F
  have hl : lv_has ls 2 [(0, .ref (h 0)), (1, .int (p0))] := hl
  unfold wp_X2_told at hw
  refine lv_aload_n hx hb dX2_told_0 rfl (lv_at hl 0 rfl) ?_
  refine lv_iload_n hx hb dX2_told_1 rfl (lv_at hl 1 rfl) ?_
  refine m_put F hin I 18 (by decide) (hts (.fieldLink RX2 48 "CuttingTableModel" "refused" "I") (by decide +kernel)) dX2_told_2 (fun H locs I => ?_)
  refine lv_iload_n hx hb dX2_told_5 rfl (lv_at hl 1 rfl) ?_
  refine lv_iconst (v := (4 : Int32)) hx hb dX2_told_6 (by decide) ?_
  refine lv_icmp_eq (tgt := 15) hx hb dX2_told_7 (by decide) (fun c_1 => ?_) (fun c_1 => ?_)
  · have hw := hw.1 c_1
    refine lv_iload_n hx hb dX2_told_15 rfl (lv_at hl 1 rfl) ?_
    refine lv_iconst (v := (5 : Int32)) hx hb dX2_told_16 (by decide) ?_
    refine lv_icmp_eq (tgt := 25) hx hb dX2_told_17 (by decide) (fun c_2 => ?_) (fun c_2 => ?_)
    · have hw := hw.1 c_2
      refine lv_iload_n hx hb dX2_told_25 rfl (lv_at hl 1 rfl) ?_
      exact m_reti F hr hlk I dX2_told_26 hw
    · have hw := hw.2 c_2
      refine lv_aload_n hx hb dX2_told_20 rfl (lv_at hl 0 rfl) ?_
      refine lv_iconst (v := (0 : Int32)) hx hb dX2_told_21 (by decide) ?_
      refine m_put F hin I 20 (by decide) (hts (.fieldLink RX2 54 "CuttingTableModel" "ahead" "I") (by decide +kernel)) dX2_told_22 (fun H locs I => ?_)
      refine lv_iload_n hx hb dX2_told_25 rfl (lv_at hl 1 rfl) ?_
      exact m_reti F hr hlk I dX2_told_26 hw
  · have hw := hw.2 c_1
    refine lv_aload_n hx hb dX2_told_10 rfl (lv_at hl 0 rfl) ?_
    refine lv_iconst (v := (0 : Int32)) hx hb dX2_told_11 (by decide) ?_
    refine m_put F hin I 19 (by decide) (hts (.fieldLink RX2 51 "CuttingTableModel" "way" "I") (by decide +kernel)) dX2_told_12 (fun H locs I => ?_)
    refine lv_iload_n hx hb dX2_told_15 rfl (lv_at hl 1 rfl) ?_
    refine lv_iconst (v := (5 : Int32)) hx hb dX2_told_16 (by decide) ?_
    refine lv_icmp_eq (tgt := 25) hx hb dX2_told_17 (by decide) (fun c_3 => ?_) (fun c_3 => ?_)
    · have hw := hw.1 c_3
      refine lv_iload_n hx hb dX2_told_25 rfl (lv_at hl 1 rfl) ?_
      exact m_reti F hr hlk I dX2_told_26 hw
    · have hw := hw.2 c_3
      refine lv_aload_n hx hb dX2_told_20 rfl (lv_at hl 0 rfl) ?_
      refine lv_iconst (v := (0 : Int32)) hx hb dX2_told_21 (by decide) ?_
      refine m_put F hin I 20 (by decide) (hts (.fieldLink RX2 54 "CuttingTableModel" "ahead" "I") (by decide +kernel)) dX2_told_22 (fun H locs I => ?_)
      refine lv_iload_n hx hb dX2_told_25 rfl (lv_at hl 1 rfl) ?_
      exact m_reti F hr hlk I dX2_told_26 hw
abbrev rm_X2_begin : Room := { frames := 0, cells := 0, slots := 0, locals := 0 }
def wp_X2_begin  (S : mS) (K : mS → Prop) : Prop := K ((S.si 19 (0 : Int32)).si 20 (0 : Int32))
set_option maxHeartbeats 4000000 in
set_option maxRecDepth 100000 in
theorem c_X2_begin {l : Launch} {D : va_G} {cI cJ : ClassId} {h : Nat → Nat}  (S : mS) (K : mS → Prop) (hw : wp_X2_begin  S K) : mMv l D cI cJ h yX2_begin wsX2_begin rm_X2_begin [.ref (h 0)] K S := by
  refine m_startv (rt := none) (by decide) rfl rfl (Nat.le_of_ble_eq_true rfl) ?_
  intro p e s m below meth c A ls F hr hlk I hl
  have hin : ∀ w ∈ u_ws RX2 TX2 24, w ∈ wsX2_begin := by decide +kernel
  obtain ⟨hx, hb, hml, hown, hts⟩ := id F
  have hl : lv_has ls 1 [(0, .ref (h 0))] := hl
  unfold wp_X2_begin at hw
  refine lv_aload_n hx hb dX2_begin_0 rfl (lv_at hl 0 rfl) ?_
  refine lv_iconst (v := (0 : Int32)) hx hb dX2_begin_1 (by decide) ?_
  refine m_put F hin I 19 (by decide) (hts (.fieldLink RX2 51 "CuttingTableModel" "way" "I") (by decide +kernel)) dX2_begin_2 (fun H locs I => ?_)
  refine lv_aload_n hx hb dX2_begin_5 rfl (lv_at hl 0 rfl) ?_
  refine lv_iconst (v := (0 : Int32)) hx hb dX2_begin_6 (by decide) ?_
  refine m_put F hin I 20 (by decide) (hts (.fieldLink RX2 54 "CuttingTableModel" "ahead" "I") (by decide +kernel)) dX2_begin_7 (fun H locs I => ?_)
  exact m_retv F hr hlk I dX2_begin_10 hw
abbrev rm_X2_lay : Room := { frames := 0, cells := 0, slots := 0, locals := 0 }
def wp_X2_lay (p0 : Int32) (p1 : Int32) (p2 : Int32) (S : mS) (K : mS → Prop) : Prop := (vp_in (p0) 8 ∧ (vp_in (p0) 8 ∧ K ((S.sa 4 (p0).toNatClampNeg (p1)).sa 5 (p0).toNatClampNeg (p2))))
set_option maxHeartbeats 4000000 in
set_option maxRecDepth 100000 in
theorem c_X2_lay {l : Launch} {D : va_G} {cI cJ : ClassId} {h : Nat → Nat} (p0 : Int32) (p1 : Int32) (p2 : Int32) (S : mS) (K : mS → Prop) (hw : wp_X2_lay p0 p1 p2 S K) : mMv l D cI cJ h yX2_lay wsX2_lay rm_X2_lay [.ref (h 0), .int (p0), .int (p1), .int (p2)] K S := by
  refine m_startv (rt := none) (by decide) rfl rfl (Nat.le_of_ble_eq_true rfl) ?_
  intro p e s m below meth c A ls F hr hlk I hl
  have hin : ∀ w ∈ u_ws RX2 TX2 24, w ∈ wsX2_lay := by decide +kernel
  obtain ⟨hx, hb, hml, hown, hts⟩ := id F
  have hl : lv_has ls 4 [(0, .ref (h 0)), (1, .int (p0)), (2, .int (p1)), (3, .int (p2))] := hl
  unfold wp_X2_lay at hw
  refine lv_aload_n hx hb dX2_lay_0 rfl (lv_at hl 0 rfl) ?_
  refine m_get F hin I 4 (by decide) (v := .ref (h 4)) rfl (hts (.fieldLink RX2 20 "CuttingTableModel" "lies" "[I") (by decide +kernel)) dX2_lay_1 ?_
  refine lv_iload_n hx hb dX2_lay_4 rfl (lv_at hl 1 rfl) ?_
  refine lv_iload_n hx hb dX2_lay_5 rfl (lv_at hl 2 rfl) ?_
  obtain ⟨hi1, hw⟩ := hw
  refine m_iast F I 4 8 (by decide) hi1 dX2_lay_6 (fun H locs I => ?_)
  refine lv_aload_n hx hb dX2_lay_7 rfl (lv_at hl 0 rfl) ?_
  refine m_get F hin I 5 (by decide) (v := .ref (h 5)) rfl (hts (.fieldLink RX2 23 "CuttingTableModel" "which" "[I") (by decide +kernel)) dX2_lay_8 ?_
  refine lv_iload_n hx hb dX2_lay_11 rfl (lv_at hl 1 rfl) ?_
  refine lv_iload_n hx hb dX2_lay_12 rfl (lv_at hl 3 rfl) ?_
  obtain ⟨hi2, hw⟩ := hw
  refine m_iast F I 5 8 (by decide) hi2 dX2_lay_13 (fun H locs I => ?_)
  exact m_retv F hr hlk I dX2_lay_14 hw
abbrev rm_X2_newReel : Room := { frames := 1, cells := 0, slots := 0, locals := 20 }
def wl_X2_newReel_22 (K : Int32 → mS → Prop) : Nat → Int32 → Int32 → Int32 → mS → Prop
  | 0, _, _, _, _ => False
  | n + 1, v1, v2, v3, S => ((v2 ≤ v3 → K (((((S.fi 3) + (1 : Int32))) - (1 : Int32))) (S.si 3 (((S.fi 3) + (1 : Int32))))) ∧ (¬ v2 ≤ v3 → wp_X2_isOfNumbers (v1) (fun r4 => ((r4 = 0 → (vp_in ((((24 : Int32) * (S.fi 3)) + v3)) 12312 ∧ wl_X2_newReel_22 K n (v1) (v2) ((v3 + (1 : Int32))) (S.sl 3 ((((24 : Int32) * (S.fi 3)) + v3)).toNatClampNeg ((-1 : Int64))))) ∧ (¬ r4 = 0 → (vp_in ((((24 : Int32) * (S.fi 3)) + v3)) 12312 ∧ wl_X2_newReel_22 K n (v1) (v2) ((v3 + (1 : Int32))) (S.sl 3 ((((24 : Int32) * (S.fi 3)) + v3)).toNatClampNeg ((0 : Int64)))))))))
def wp_X2_newReel (p0 : Int32) (p1 : Int32) (S : mS) (K : Int32 → mS → Prop) : Prop := (vp_in ((S.fi 3)) 513 ∧ (vp_in ((S.fi 3)) 513 ∧ (∃ n22 : Nat, wl_X2_newReel_22 K n22 (p0) (p1) ((0 : Int32)) ((S.sa 1 ((S.fi 3)).toNatClampNeg (p0)).sa 2 ((S.fi 3)).toNatClampNeg (p1)))))
set_option maxHeartbeats 4000000 in
set_option maxRecDepth 100000 in
theorem lp_X2_newReel_22 {p : Program} {l : Launch} {e : Env} {s : State} {m : MethodId} {args : Array Value} {below : List Frame} {meth : Method} {c : Code} {D : va_G} {cI cJ : ClassId} {h : Nat → Nat} {A : Nat → Prop} {K : Int32 → mS → Prop} (F : CallFix p m c cX2_newReel 4 s args wsX2_newReel RX2) (hin : ∀ w ∈ u_ws RX2 TX2 24, w ∈ wsX2_newReel) (hr : meth.sig.returnType = some .int) (hlk : meth.locks = false) :
    ∀ (n : Nat) (v1 : Int32) (v2 : Int32) (v3 : Int32) (S : mS) (H : Heap) (locs : List Loc), mI D cI cJ h A s s.heap H locs S → ∀ (ls : Array Slot), lv_has ls 4 [(0, .ref (h 0)), (1, .int (v1)), (2, .int (v2)), (3, .int (v3))] → wl_X2_newReel_22 K n v1 v2 v3 S → W p l e rm_X2_newReel s m args below meth c H locs 0 0 (MQ below (va_Qi K (mB D cI cJ h A) A) args s 0 0 A) (F0 m 22 ls []) := by
  obtain ⟨hx, hb, hml, hown, hts⟩ := id F
  intro n
  induction n with
  | zero => intro v1 v2 v3 S H locs I ls hl hw; exact hw.elim
  | succ n ih =>
    intro v1 v2 v3 S H locs I ls hl hw
    rw [wl_X2_newReel_22] at hw
    refine lv_iload_n hx hb dX2_newReel_22 rfl (lv_at hl 3 rfl) ?_
    refine lv_iload_n hx hb dX2_newReel_23 rfl (lv_at hl 2 rfl) ?_
    refine lv_icmp_ge (tgt := 61) hx hb dX2_newReel_24 (by decide) (fun c_3 => ?_) (fun c_3 => ?_)
    · have hw := hw.1 c_3
      refine lv_aload_n hx hb dX2_newReel_61 rfl (lv_at hl 0 rfl) ?_
      refine lv_dup hx hb dX2_newReel_62 rfl ?_
      refine m_get F hin I 3 (by decide) (v := .int ((S.fi 3))) rfl (hts (.fieldLink RX2 57 "CuttingTableModel" "reels" "I") (by decide +kernel)) dX2_newReel_63 ?_
      refine lv_iconst (v := (1 : Int32)) hx hb dX2_newReel_66 (by decide) ?_
      refine lv_iadd hx hb dX2_newReel_67 ?_
      refine m_put F hin I 3 (by decide) (hts (.fieldLink RX2 57 "CuttingTableModel" "reels" "I") (by decide +kernel)) dX2_newReel_68 (fun H locs I => ?_)
      refine lv_aload_n hx hb dX2_newReel_71 rfl (lv_at hl 0 rfl) ?_
      refine m_get F hin I 3 (by decide) (v := .int ((((S.fi 3) + (1 : Int32))))) rfl (hts (.fieldLink RX2 57 "CuttingTableModel" "reels" "I") (by decide +kernel)) dX2_newReel_72 ?_
      refine lv_iconst (v := (1 : Int32)) hx hb dX2_newReel_75 (by decide) ?_
      refine lv_isub hx hb dX2_newReel_76 ?_
      exact m_reti F hr hlk I dX2_newReel_77 hw
    · have hw := hw.2 c_3
      refine lv_aload_n hx hb dX2_newReel_27 rfl (lv_at hl 0 rfl) ?_
      refine m_get F hin I 2 (by decide) (v := .ref (h 3)) rfl (hts (.fieldLink RX2 16 "CuttingTableModel" "cells" "[J") (by decide +kernel)) dX2_newReel_28 ?_
      refine lv_bipush (v := (24 : Int32)) hx hb dX2_newReel_31 (by decide) ?_
      refine lv_aload_n hx hb dX2_newReel_33 rfl (lv_at hl 0 rfl) ?_
      refine m_get F hin I 3 (by decide) (v := .int ((S.fi 3))) rfl (hts (.fieldLink RX2 57 "CuttingTableModel" "reels" "I") (by decide +kernel)) dX2_newReel_34 ?_
      refine lv_imul hx hb dX2_newReel_37 ?_
      refine lv_iload_n hx hb dX2_newReel_38 rfl (lv_at hl 3 rfl) ?_
      refine lv_iadd hx hb dX2_newReel_39 ?_
      refine lv_iload_n hx hb dX2_newReel_40 rfl (lv_at hl 1 rfl) ?_
      refine s_calli (rest := [.int ((((24 : Int32) * (S.fi 3)) + v3)), .ref (h 3)]) F (c_X2_isOfNumbers (v1) _ hw) (va_cwS 1 hts gX2_newReel_X2_isOfNumbers rfl rfl rfl (by decide +kernel) ⟨Nat.le_of_ble_eq_true rfl, Nat.le_of_ble_eq_true rfl⟩) rfl hl.1 rfl (Nat.le_of_ble_eq_true rfl) dX2_newReel_41 ⟨Nat.zero_le _, Nat.zero_le _⟩ (fun r4 hw => ?_)
      refine lv_if_eq (tgt := 51) hx hb dX2_newReel_44 (by decide) (fun c_5 => ?_) (fun c_5 => ?_)
      · have hw := hw.1 c_5
        refine lv_ldc2 hx hb hown (hts (.constantLong RX2 64 (-1)) (by decide +kernel)) dX2_newReel_51 ?_
        obtain ⟨hi6, hw⟩ := hw
        refine m_last F I 3 12312 (by decide) hi6 dX2_newReel_54 (fun H locs I => ?_)
        refine lv_iinc (v := (v3 + (1 : Int32))) (lv' := [(3, .int ((v3 + (1 : Int32)))), (0, .ref (h 0)), (1, .int (v1)), (2, .int (v2))]) hx hb dX2_newReel_55 hl (k := 3) rfl rfl (by decide) rfl (fun ls hl => ?_)
        refine lv_goto (tgt := 22) hx hb dX2_newReel_58 (by decide) ?_
        exact ih (v1) (v2) ((v3 + (1 : Int32))) (S.sl 3 ((((24 : Int32) * (S.fi 3)) + v3)).toNatClampNeg ((-1 : Int64))) _ _ I ls (lv_sub hl [1, 2, 3, 0] rfl) hw
      · have hw := hw.2 c_5
        refine lv_lconst (v := (0 : Int64)) hx hb dX2_newReel_47 (by decide) ?_
        refine lv_goto (tgt := 54) hx hb dX2_newReel_48 (by decide) ?_
        obtain ⟨hi7, hw⟩ := hw
        refine m_last F I 3 12312 (by decide) hi7 dX2_newReel_54 (fun H locs I => ?_)
        refine lv_iinc (v := (v3 + (1 : Int32))) (lv' := [(3, .int ((v3 + (1 : Int32)))), (0, .ref (h 0)), (1, .int (v1)), (2, .int (v2))]) hx hb dX2_newReel_55 hl (k := 3) rfl rfl (by decide) rfl (fun ls hl => ?_)
        refine lv_goto (tgt := 22) hx hb dX2_newReel_58 (by decide) ?_
        exact ih (v1) (v2) ((v3 + (1 : Int32))) (S.sl 3 ((((24 : Int32) * (S.fi 3)) + v3)).toNatClampNeg ((0 : Int64))) _ _ I ls (lv_sub hl [1, 2, 3, 0] rfl) hw
set_option maxHeartbeats 4000000 in
set_option maxRecDepth 100000 in
theorem c_X2_newReel {l : Launch} {D : va_G} {cI cJ : ClassId} {h : Nat → Nat} (p0 : Int32) (p1 : Int32) (S : mS) (K : Int32 → mS → Prop) (hw : wp_X2_newReel p0 p1 S K) : mMi l D cI cJ h yX2_newReel wsX2_newReel rm_X2_newReel [.ref (h 0), .int (p0), .int (p1)] K S := by
  refine m_starti (rt := some .int) (by decide) rfl rfl (Nat.le_of_ble_eq_true rfl) ?_
  intro p e s m below meth c A ls F hr hlk I hl
  have hin : ∀ w ∈ u_ws RX2 TX2 24, w ∈ wsX2_newReel := by decide +kernel
  obtain ⟨hx, hb, hml, hown, hts⟩ := id F
  have hl : lv_has ls 4 [(0, .ref (h 0)), (1, .int (p0)), (2, .int (p1))] := hl
  unfold wp_X2_newReel at hw
  refine lv_aload_n hx hb dX2_newReel_0 rfl (lv_at hl 0 rfl) ?_
  refine m_get F hin I 0 (by decide) (v := .ref (h 1)) rfl (hts (.fieldLink RX2 7 "CuttingTableModel" "stocks" "[I") (by decide +kernel)) dX2_newReel_1 ?_
  refine lv_aload_n hx hb dX2_newReel_4 rfl (lv_at hl 0 rfl) ?_
  refine m_get F hin I 3 (by decide) (v := .int ((S.fi 3))) rfl (hts (.fieldLink RX2 57 "CuttingTableModel" "reels" "I") (by decide +kernel)) dX2_newReel_5 ?_
  refine lv_iload_n hx hb dX2_newReel_8 rfl (lv_at hl 1 rfl) ?_
  obtain ⟨hi1, hw⟩ := hw
  refine m_iast F I 1 513 (by decide) hi1 dX2_newReel_9 (fun H locs I => ?_)
  refine lv_aload_n hx hb dX2_newReel_10 rfl (lv_at hl 0 rfl) ?_
  refine m_get F hin I 1 (by decide) (v := .ref (h 2)) rfl (hts (.fieldLink RX2 13 "CuttingTableModel" "sizes" "[I") (by decide +kernel)) dX2_newReel_11 ?_
  refine lv_aload_n hx hb dX2_newReel_14 rfl (lv_at hl 0 rfl) ?_
  refine m_get F hin I 3 (by decide) (v := .int ((S.fi 3))) rfl (hts (.fieldLink RX2 57 "CuttingTableModel" "reels" "I") (by decide +kernel)) dX2_newReel_15 ?_
  refine lv_iload_n hx hb dX2_newReel_18 rfl (lv_at hl 2 rfl) ?_
  obtain ⟨hi2, hw⟩ := hw
  refine m_iast F I 2 513 (by decide) hi2 dX2_newReel_19 (fun H locs I => ?_)
  refine lv_iconst (v := (0 : Int32)) hx hb dX2_newReel_20 (by decide) ?_
  refine lv_istore_n (lv' := [(3, .int ((0 : Int32))), (0, .ref (h 0)), (1, .int (p0)), (2, .int (p1))]) hx hb dX2_newReel_21 rfl hl (by decide) rfl (fun ls hl => ?_)
  obtain ⟨n22, hw⟩ := hw
  exact lp_X2_newReel_22 F hin hr hlk n22 (p0) (p1) ((0 : Int32)) ((S.sa 1 ((S.fi 3)).toNatClampNeg (p0)).sa 2 ((S.fi 3)).toNatClampNeg (p1)) _ _ I ls (lv_sub hl [1, 2, 3, 0] rfl) hw
abbrev rm_X2_thread : Room := { frames := 2, cells := 0, slots := 0, locals := 43 }
def wp_X2_thread (p0 : Int32) (p1 : Int32) (p2 : Int32) (S : mS) (K : Int32 → mS → Prop) : Prop := wp_X2_begin  (S.si 23 (0 : Int32)) (fun S2 => wp_X2_isSpindle (p0) (fun r3 => ((r3 = 0 → wp_X2_told ((6 : Int32)) S2 (fun r5 S6 => K (r5) S6)) ∧ (¬ r3 = 0 → ((p1 < 0 → wp_X2_told ((6 : Int32)) S2 (fun r8 S9 => K (r8) S9)) ∧ (¬ p1 < 0 → (((7 : Int32) < p1 → wp_X2_told ((6 : Int32)) S2 (fun r11 S12 => K (r11) S12)) ∧ (¬ (7 : Int32) < p1 → ((p2 < 0 → wp_X2_told ((6 : Int32)) S2 (fun r14 S15 => K (r14) S15)) ∧ (¬ p2 < 0 → ((p2 ≤ (24 : Int32) → wp_X2_newReel (p1) (p2) S2 (fun r17 S18 => wp_X2_lay (p0) ((1 : Int32)) (r17) S18 (fun S20 => wp_X2_told ((0 : Int32)) S20 (fun r21 S22 => K (r21) S22)))) ∧ (¬ p2 ≤ (24 : Int32) → wp_X2_told ((6 : Int32)) S2 (fun r23 S24 => K (r23) S24)))))))))))))
set_option maxHeartbeats 4000000 in
set_option maxRecDepth 100000 in
theorem c_X2_thread {l : Launch} {D : va_G} {cI cJ : ClassId} {h : Nat → Nat} (p0 : Int32) (p1 : Int32) (p2 : Int32) (S : mS) (K : Int32 → mS → Prop) (hw : wp_X2_thread p0 p1 p2 S K) : mMi l D cI cJ h yX2_thread wsX2_thread rm_X2_thread [.ref (h 0), .int (p0), .int (p1), .int (p2)] K S := by
  refine m_starti (rt := some .int) (by decide) rfl rfl (Nat.le_of_ble_eq_true rfl) ?_
  intro p e s m below meth c A ls F hr hlk I hl
  have hin : ∀ w ∈ u_ws RX2 TX2 24, w ∈ wsX2_thread := by decide +kernel
  obtain ⟨hx, hb, hml, hown, hts⟩ := id F
  have hl : lv_has ls 4 [(0, .ref (h 0)), (1, .int (p0)), (2, .int (p1)), (3, .int (p2))] := hl
  unfold wp_X2_thread at hw
  refine lv_aload_n hx hb dX2_thread_0 rfl (lv_at hl 0 rfl) ?_
  refine lv_iconst (v := (0 : Int32)) hx hb dX2_thread_1 (by decide) ?_
  refine m_put F hin I 23 (by decide) (hts (.fieldLink RX2 44 "CuttingTableModel" "thrown" "I") (by decide +kernel)) dX2_thread_2 (fun H locs I => ?_)
  refine lv_aload_n hx hb dX2_thread_5 rfl (lv_at hl 0 rfl) ?_
  refine m_callv (rest := []) F I (c_X2_begin  _ _ hw) (cwV 0 hts gX2_thread_X2_begin rfl rfl rfl (by decide +kernel) ⟨Nat.le_of_ble_eq_true rfl, Nat.le_of_ble_eq_true rfl⟩) rfl hl.1 rfl (Nat.le_of_ble_eq_true rfl) dX2_thread_6 ⟨Nat.zero_le _, Nat.zero_le _⟩ (fun S2 H locs hw I => ?_)
  refine lv_iload_n hx hb dX2_thread_9 rfl (lv_at hl 1 rfl) ?_
  refine s_calli (rest := []) F (c_X2_isSpindle (p0) _ hw) (va_cwS 1 hts gX2_thread_X2_isSpindle rfl rfl rfl (by decide +kernel) ⟨Nat.le_of_ble_eq_true rfl, Nat.le_of_ble_eq_true rfl⟩) rfl hl.1 rfl (Nat.le_of_ble_eq_true rfl) dX2_thread_10 ⟨Nat.zero_le _, Nat.zero_le _⟩ (fun r3 hw => ?_)
  refine lv_if_eq (tgt := 36) hx hb dX2_thread_13 (by decide) (fun c_4 => ?_) (fun c_4 => ?_)
  · have hw := hw.1 c_4
    refine lv_aload_n hx hb dX2_thread_36 rfl (lv_at hl 0 rfl) ?_
    refine lv_bipush (v := (6 : Int32)) hx hb dX2_thread_37 (by decide) ?_
    refine m_calli (rest := []) F I (c_X2_told ((6 : Int32)) _ _ hw) (cwV 1 hts gX2_thread_X2_told rfl rfl rfl (by decide +kernel) ⟨Nat.le_of_ble_eq_true rfl, Nat.le_of_ble_eq_true rfl⟩) rfl hl.1 rfl (Nat.le_of_ble_eq_true rfl) dX2_thread_39 ⟨Nat.zero_le _, Nat.zero_le _⟩ (fun r5 S6 H locs hw I => ?_)
    exact m_reti F hr hlk I dX2_thread_42 hw
  · have hw := hw.2 c_4
    refine lv_iload_n hx hb dX2_thread_16 rfl (lv_at hl 2 rfl) ?_
    refine lv_if_lt (tgt := 36) hx hb dX2_thread_17 (by decide) (fun c_7 => ?_) (fun c_7 => ?_)
    · have hw := hw.1 c_7
      refine lv_aload_n hx hb dX2_thread_36 rfl (lv_at hl 0 rfl) ?_
      refine lv_bipush (v := (6 : Int32)) hx hb dX2_thread_37 (by decide) ?_
      refine m_calli (rest := []) F I (c_X2_told ((6 : Int32)) _ _ hw) (cwV 1 hts gX2_thread_X2_told rfl rfl rfl (by decide +kernel) ⟨Nat.le_of_ble_eq_true rfl, Nat.le_of_ble_eq_true rfl⟩) rfl hl.1 rfl (Nat.le_of_ble_eq_true rfl) dX2_thread_39 ⟨Nat.zero_le _, Nat.zero_le _⟩ (fun r8 S9 H locs hw I => ?_)
      exact m_reti F hr hlk I dX2_thread_42 hw
    · have hw := hw.2 c_7
      refine lv_iload_n hx hb dX2_thread_20 rfl (lv_at hl 2 rfl) ?_
      refine lv_bipush (v := (7 : Int32)) hx hb dX2_thread_21 (by decide) ?_
      refine lv_icmp_gt (tgt := 36) hx hb dX2_thread_23 (by decide) (fun c_10 => ?_) (fun c_10 => ?_)
      · have hw := hw.1 c_10
        refine lv_aload_n hx hb dX2_thread_36 rfl (lv_at hl 0 rfl) ?_
        refine lv_bipush (v := (6 : Int32)) hx hb dX2_thread_37 (by decide) ?_
        refine m_calli (rest := []) F I (c_X2_told ((6 : Int32)) _ _ hw) (cwV 1 hts gX2_thread_X2_told rfl rfl rfl (by decide +kernel) ⟨Nat.le_of_ble_eq_true rfl, Nat.le_of_ble_eq_true rfl⟩) rfl hl.1 rfl (Nat.le_of_ble_eq_true rfl) dX2_thread_39 ⟨Nat.zero_le _, Nat.zero_le _⟩ (fun r11 S12 H locs hw I => ?_)
        exact m_reti F hr hlk I dX2_thread_42 hw
      · have hw := hw.2 c_10
        refine lv_iload_n hx hb dX2_thread_26 rfl (lv_at hl 3 rfl) ?_
        refine lv_if_lt (tgt := 36) hx hb dX2_thread_27 (by decide) (fun c_13 => ?_) (fun c_13 => ?_)
        · have hw := hw.1 c_13
          refine lv_aload_n hx hb dX2_thread_36 rfl (lv_at hl 0 rfl) ?_
          refine lv_bipush (v := (6 : Int32)) hx hb dX2_thread_37 (by decide) ?_
          refine m_calli (rest := []) F I (c_X2_told ((6 : Int32)) _ _ hw) (cwV 1 hts gX2_thread_X2_told rfl rfl rfl (by decide +kernel) ⟨Nat.le_of_ble_eq_true rfl, Nat.le_of_ble_eq_true rfl⟩) rfl hl.1 rfl (Nat.le_of_ble_eq_true rfl) dX2_thread_39 ⟨Nat.zero_le _, Nat.zero_le _⟩ (fun r14 S15 H locs hw I => ?_)
          exact m_reti F hr hlk I dX2_thread_42 hw
        · have hw := hw.2 c_13
          refine lv_iload_n hx hb dX2_thread_30 rfl (lv_at hl 3 rfl) ?_
          refine lv_bipush (v := (24 : Int32)) hx hb dX2_thread_31 (by decide) ?_
          refine lv_icmp_le (tgt := 43) hx hb dX2_thread_33 (by decide) (fun c_16 => ?_) (fun c_16 => ?_)
          · have hw := hw.1 c_16
            refine lv_aload_n hx hb dX2_thread_43 rfl (lv_at hl 0 rfl) ?_
            refine lv_iload_n hx hb dX2_thread_44 rfl (lv_at hl 1 rfl) ?_
            refine lv_iconst (v := (1 : Int32)) hx hb dX2_thread_45 (by decide) ?_
            refine lv_aload_n hx hb dX2_thread_46 rfl (lv_at hl 0 rfl) ?_
            refine lv_iload_n hx hb dX2_thread_47 rfl (lv_at hl 2 rfl) ?_
            refine lv_iload_n hx hb dX2_thread_48 rfl (lv_at hl 3 rfl) ?_
            refine m_calli (rest := [.int ((1 : Int32)), .int (p0), .ref (h 0)]) F I (c_X2_newReel (p1) (p2) _ _ hw) (cwV 2 hts gX2_thread_X2_newReel rfl rfl rfl (by decide +kernel) ⟨Nat.le_of_ble_eq_true rfl, Nat.le_of_ble_eq_true rfl⟩) rfl hl.1 rfl (Nat.le_of_ble_eq_true rfl) dX2_thread_49 ⟨Nat.zero_le _, Nat.zero_le _⟩ (fun r17 S18 H locs hw I => ?_)
            refine m_callv (rest := []) F I (c_X2_lay (p0) ((1 : Int32)) (r17) _ _ hw) (cwV 3 hts gX2_thread_X2_lay rfl rfl rfl (by decide +kernel) ⟨Nat.le_of_ble_eq_true rfl, Nat.le_of_ble_eq_true rfl⟩) rfl hl.1 rfl (Nat.le_of_ble_eq_true rfl) dX2_thread_52 ⟨Nat.zero_le _, Nat.zero_le _⟩ (fun S20 H locs hw I => ?_)
            refine lv_aload_n hx hb dX2_thread_55 rfl (lv_at hl 0 rfl) ?_
            refine lv_iconst (v := (0 : Int32)) hx hb dX2_thread_56 (by decide) ?_
            refine m_calli (rest := []) F I (c_X2_told ((0 : Int32)) _ _ hw) (cwV 1 hts gX2_thread_X2_told rfl rfl rfl (by decide +kernel) ⟨Nat.le_of_ble_eq_true rfl, Nat.le_of_ble_eq_true rfl⟩) rfl hl.1 rfl (Nat.le_of_ble_eq_true rfl) dX2_thread_57 ⟨Nat.zero_le _, Nat.zero_le _⟩ (fun r21 S22 H locs hw I => ?_)
            exact m_reti F hr hlk I dX2_thread_60 hw
          · have hw := hw.2 c_16
            refine lv_aload_n hx hb dX2_thread_36 rfl (lv_at hl 0 rfl) ?_
            refine lv_bipush (v := (6 : Int32)) hx hb dX2_thread_37 (by decide) ?_
            refine m_calli (rest := []) F I (c_X2_told ((6 : Int32)) _ _ hw) (cwV 1 hts gX2_thread_X2_told rfl rfl rfl (by decide +kernel) ⟨Nat.le_of_ble_eq_true rfl, Nat.le_of_ble_eq_true rfl⟩) rfl hl.1 rfl (Nat.le_of_ble_eq_true rfl) dX2_thread_39 ⟨Nat.zero_le _, Nat.zero_le _⟩ (fun r23 S24 H locs hw I => ?_)
            exact m_reti F hr hlk I dX2_thread_42 hw
abbrev rm_X2_tag : Room := { frames := 1, cells := 0, slots := 0, locals := 23 }
def wp_X2_tag (p0 : Int32) (p1 : Int32) (S : mS) (K : Int32 → mS → Prop) : Prop := wp_X2_begin  (S.si 23 (0 : Int32)) (fun S2 => wp_X2_isSpindle (p0) (fun r3 => ((¬ r3 = 0 → (vp_in ((S2.fi 7)) 513 ∧ wp_X2_lay (p0) ((2 : Int32)) ((S2.fi 7)) (S2.sa 6 ((S2.fi 7)).toNatClampNeg (p1)) (fun S7 => wp_X2_told ((0 : Int32)) (S7.si 7 (((S7.fi 7) + (1 : Int32)))) (fun r8 S9 => K (r8) S9)))) ∧ (r3 = 0 → wp_X2_told ((6 : Int32)) S2 (fun r10 S11 => K (r10) S11)))))
set_option maxHeartbeats 4000000 in
set_option maxRecDepth 100000 in
theorem c_X2_tag {l : Launch} {D : va_G} {cI cJ : ClassId} {h : Nat → Nat} (p0 : Int32) (p1 : Int32) (S : mS) (K : Int32 → mS → Prop) (hw : wp_X2_tag p0 p1 S K) : mMi l D cI cJ h yX2_tag wsX2_tag rm_X2_tag [.ref (h 0), .int (p0), .int (p1)] K S := by
  refine m_starti (rt := some .int) (by decide) rfl rfl (Nat.le_of_ble_eq_true rfl) ?_
  intro p e s m below meth c A ls F hr hlk I hl
  have hin : ∀ w ∈ u_ws RX2 TX2 24, w ∈ wsX2_tag := by decide +kernel
  obtain ⟨hx, hb, hml, hown, hts⟩ := id F
  have hl : lv_has ls 3 [(0, .ref (h 0)), (1, .int (p0)), (2, .int (p1))] := hl
  unfold wp_X2_tag at hw
  refine lv_aload_n hx hb dX2_tag_0 rfl (lv_at hl 0 rfl) ?_
  refine lv_iconst (v := (0 : Int32)) hx hb dX2_tag_1 (by decide) ?_
  refine m_put F hin I 23 (by decide) (hts (.fieldLink RX2 44 "CuttingTableModel" "thrown" "I") (by decide +kernel)) dX2_tag_2 (fun H locs I => ?_)
  refine lv_aload_n hx hb dX2_tag_5 rfl (lv_at hl 0 rfl) ?_
  refine m_callv (rest := []) F I (c_X2_begin  _ _ hw) (cwV 0 hts gX2_tag_X2_begin rfl rfl rfl (by decide +kernel) ⟨Nat.le_of_ble_eq_true rfl, Nat.le_of_ble_eq_true rfl⟩) rfl hl.1 rfl (Nat.le_of_ble_eq_true rfl) dX2_tag_6 ⟨Nat.zero_le _, Nat.zero_le _⟩ (fun S2 H locs hw I => ?_)
  refine lv_iload_n hx hb dX2_tag_9 rfl (lv_at hl 1 rfl) ?_
  refine s_calli (rest := []) F (c_X2_isSpindle (p0) _ hw) (va_cwS 1 hts gX2_tag_X2_isSpindle rfl rfl rfl (by decide +kernel) ⟨Nat.le_of_ble_eq_true rfl, Nat.le_of_ble_eq_true rfl⟩) rfl hl.1 rfl (Nat.le_of_ble_eq_true rfl) dX2_tag_10 ⟨Nat.zero_le _, Nat.zero_le _⟩ (fun r3 hw => ?_)
  refine lv_if_ne (tgt := 23) hx hb dX2_tag_13 (by decide) (fun c_4 => ?_) (fun c_4 => ?_)
  · have hw := hw.1 c_4
    refine lv_aload_n hx hb dX2_tag_23 rfl (lv_at hl 0 rfl) ?_
    refine m_get F hin I 6 (by decide) (v := .ref (h 6)) rfl (hts (.fieldLink RX2 26 "CuttingTableModel" "tagNumbers" "[I") (by decide +kernel)) dX2_tag_24 ?_
    refine lv_aload_n hx hb dX2_tag_27 rfl (lv_at hl 0 rfl) ?_
    refine m_get F hin I 7 (by decide) (v := .int ((S2.fi 7))) rfl (hts (.fieldLink RX2 84 "CuttingTableModel" "tags" "I") (by decide +kernel)) dX2_tag_28 ?_
    refine lv_iload_n hx hb dX2_tag_31 rfl (lv_at hl 2 rfl) ?_
    obtain ⟨hi5, hw⟩ := hw
    refine m_iast F I 6 513 (by decide) hi5 dX2_tag_32 (fun H locs I => ?_)
    refine lv_aload_n hx hb dX2_tag_33 rfl (lv_at hl 0 rfl) ?_
    refine lv_iload_n hx hb dX2_tag_34 rfl (lv_at hl 1 rfl) ?_
    refine lv_iconst (v := (2 : Int32)) hx hb dX2_tag_35 (by decide) ?_
    refine lv_aload_n hx hb dX2_tag_36 rfl (lv_at hl 0 rfl) ?_
    refine m_get F hin I 7 (by decide) (v := .int ((S2.fi 7))) rfl (hts (.fieldLink RX2 84 "CuttingTableModel" "tags" "I") (by decide +kernel)) dX2_tag_37 ?_
    refine m_callv (rest := []) F I (c_X2_lay (p0) ((2 : Int32)) ((S2.fi 7)) _ _ hw) (cwV 3 hts gX2_tag_X2_lay rfl rfl rfl (by decide +kernel) ⟨Nat.le_of_ble_eq_true rfl, Nat.le_of_ble_eq_true rfl⟩) rfl hl.1 rfl (Nat.le_of_ble_eq_true rfl) dX2_tag_40 ⟨Nat.zero_le _, Nat.zero_le _⟩ (fun S7 H locs hw I => ?_)
    refine lv_aload_n hx hb dX2_tag_43 rfl (lv_at hl 0 rfl) ?_
    refine lv_dup hx hb dX2_tag_44 rfl ?_
    refine m_get F hin I 7 (by decide) (v := .int ((S7.fi 7))) rfl (hts (.fieldLink RX2 84 "CuttingTableModel" "tags" "I") (by decide +kernel)) dX2_tag_45 ?_
    refine lv_iconst (v := (1 : Int32)) hx hb dX2_tag_48 (by decide) ?_
    refine lv_iadd hx hb dX2_tag_49 ?_
    refine m_put F hin I 7 (by decide) (hts (.fieldLink RX2 84 "CuttingTableModel" "tags" "I") (by decide +kernel)) dX2_tag_50 (fun H locs I => ?_)
    refine lv_aload_n hx hb dX2_tag_53 rfl (lv_at hl 0 rfl) ?_
    refine lv_iconst (v := (0 : Int32)) hx hb dX2_tag_54 (by decide) ?_
    refine m_calli (rest := []) F I (c_X2_told ((0 : Int32)) _ _ hw) (cwV 1 hts gX2_tag_X2_told rfl rfl rfl (by decide +kernel) ⟨Nat.le_of_ble_eq_true rfl, Nat.le_of_ble_eq_true rfl⟩) rfl hl.1 rfl (Nat.le_of_ble_eq_true rfl) dX2_tag_55 ⟨Nat.zero_le _, Nat.zero_le _⟩ (fun r8 S9 H locs hw I => ?_)
    exact m_reti F hr hlk I dX2_tag_58 hw
  · have hw := hw.2 c_4
    refine lv_aload_n hx hb dX2_tag_16 rfl (lv_at hl 0 rfl) ?_
    refine lv_bipush (v := (6 : Int32)) hx hb dX2_tag_17 (by decide) ?_
    refine m_calli (rest := []) F I (c_X2_told ((6 : Int32)) _ _ hw) (cwV 1 hts gX2_tag_X2_told rfl rfl rfl (by decide +kernel) ⟨Nat.le_of_ble_eq_true rfl, Nat.le_of_ble_eq_true rfl⟩) rfl hl.1 rfl (Nat.le_of_ble_eq_true rfl) dX2_tag_19 ⟨Nat.zero_le _, Nat.zero_le _⟩ (fun r10 S11 H locs hw I => ?_)
    exact m_reti F hr hlk I dX2_tag_22 hw
abbrev rm_X2_share : Room := { frames := 1, cells := 0, slots := 0, locals := 23 }
def wp_X2_share (p0 : Int32) (p1 : Int32) (S : mS) (K : Int32 → mS → Prop) : Prop := wp_X2_begin  (S.si 23 (0 : Int32)) (fun S2 => wp_X2_isSpindle (p0) (fun r3 => ((r3 = 0 → wp_X2_told ((6 : Int32)) S2 (fun r5 S6 => K (r5) S6)) ∧ (¬ r3 = 0 → wp_X2_isSpindle (p1) (fun r7 => ((¬ r7 = 0 → (vp_in (p0) 8 ∧ (vp_in (p0) 8 ∧ wp_X2_lay (p1) ((S2.ia 4 (p0).toNatClampNeg)) ((S2.ia 5 (p0).toNatClampNeg)) S2 (fun S12 => wp_X2_told ((0 : Int32)) S12 (fun r13 S14 => K (r13) S14))))) ∧ (r7 = 0 → wp_X2_told ((6 : Int32)) S2 (fun r15 S16 => K (r15) S16))))))))
set_option maxHeartbeats 4000000 in
set_option maxRecDepth 100000 in
theorem c_X2_share {l : Launch} {D : va_G} {cI cJ : ClassId} {h : Nat → Nat} (p0 : Int32) (p1 : Int32) (S : mS) (K : Int32 → mS → Prop) (hw : wp_X2_share p0 p1 S K) : mMi l D cI cJ h yX2_share wsX2_share rm_X2_share [.ref (h 0), .int (p0), .int (p1)] K S := by
  refine m_starti (rt := some .int) (by decide) rfl rfl (Nat.le_of_ble_eq_true rfl) ?_
  intro p e s m below meth c A ls F hr hlk I hl
  have hin : ∀ w ∈ u_ws RX2 TX2 24, w ∈ wsX2_share := by decide +kernel
  obtain ⟨hx, hb, hml, hown, hts⟩ := id F
  have hl : lv_has ls 3 [(0, .ref (h 0)), (1, .int (p0)), (2, .int (p1))] := hl
  unfold wp_X2_share at hw
  refine lv_aload_n hx hb dX2_share_0 rfl (lv_at hl 0 rfl) ?_
  refine lv_iconst (v := (0 : Int32)) hx hb dX2_share_1 (by decide) ?_
  refine m_put F hin I 23 (by decide) (hts (.fieldLink RX2 44 "CuttingTableModel" "thrown" "I") (by decide +kernel)) dX2_share_2 (fun H locs I => ?_)
  refine lv_aload_n hx hb dX2_share_5 rfl (lv_at hl 0 rfl) ?_
  refine m_callv (rest := []) F I (c_X2_begin  _ _ hw) (cwV 0 hts gX2_share_X2_begin rfl rfl rfl (by decide +kernel) ⟨Nat.le_of_ble_eq_true rfl, Nat.le_of_ble_eq_true rfl⟩) rfl hl.1 rfl (Nat.le_of_ble_eq_true rfl) dX2_share_6 ⟨Nat.zero_le _, Nat.zero_le _⟩ (fun S2 H locs hw I => ?_)
  refine lv_iload_n hx hb dX2_share_9 rfl (lv_at hl 1 rfl) ?_
  refine s_calli (rest := []) F (c_X2_isSpindle (p0) _ hw) (va_cwS 1 hts gX2_share_X2_isSpindle rfl rfl rfl (by decide +kernel) ⟨Nat.le_of_ble_eq_true rfl, Nat.le_of_ble_eq_true rfl⟩) rfl hl.1 rfl (Nat.le_of_ble_eq_true rfl) dX2_share_10 ⟨Nat.zero_le _, Nat.zero_le _⟩ (fun r3 hw => ?_)
  refine lv_if_eq (tgt := 23) hx hb dX2_share_13 (by decide) (fun c_4 => ?_) (fun c_4 => ?_)
  · have hw := hw.1 c_4
    refine lv_aload_n hx hb dX2_share_23 rfl (lv_at hl 0 rfl) ?_
    refine lv_bipush (v := (6 : Int32)) hx hb dX2_share_24 (by decide) ?_
    refine m_calli (rest := []) F I (c_X2_told ((6 : Int32)) _ _ hw) (cwV 1 hts gX2_share_X2_told rfl rfl rfl (by decide +kernel) ⟨Nat.le_of_ble_eq_true rfl, Nat.le_of_ble_eq_true rfl⟩) rfl hl.1 rfl (Nat.le_of_ble_eq_true rfl) dX2_share_26 ⟨Nat.zero_le _, Nat.zero_le _⟩ (fun r5 S6 H locs hw I => ?_)
    exact m_reti F hr hlk I dX2_share_29 hw
  · have hw := hw.2 c_4
    refine lv_iload_n hx hb dX2_share_16 rfl (lv_at hl 2 rfl) ?_
    refine s_calli (rest := []) F (c_X2_isSpindle (p1) _ hw) (va_cwS 1 hts gX2_share_X2_isSpindle rfl rfl rfl (by decide +kernel) ⟨Nat.le_of_ble_eq_true rfl, Nat.le_of_ble_eq_true rfl⟩) rfl hl.1 rfl (Nat.le_of_ble_eq_true rfl) dX2_share_17 ⟨Nat.zero_le _, Nat.zero_le _⟩ (fun r7 hw => ?_)
    refine lv_if_ne (tgt := 30) hx hb dX2_share_20 (by decide) (fun c_8 => ?_) (fun c_8 => ?_)
    · have hw := hw.1 c_8
      refine lv_aload_n hx hb dX2_share_30 rfl (lv_at hl 0 rfl) ?_
      refine lv_iload_n hx hb dX2_share_31 rfl (lv_at hl 2 rfl) ?_
      refine lv_aload_n hx hb dX2_share_32 rfl (lv_at hl 0 rfl) ?_
      refine m_get F hin I 4 (by decide) (v := .ref (h 4)) rfl (hts (.fieldLink RX2 20 "CuttingTableModel" "lies" "[I") (by decide +kernel)) dX2_share_33 ?_
      refine lv_iload_n hx hb dX2_share_36 rfl (lv_at hl 1 rfl) ?_
      obtain ⟨hi9, hw⟩ := hw
      refine m_iald F I 4 8 (by decide) hi9 dX2_share_37 ?_
      refine lv_aload_n hx hb dX2_share_38 rfl (lv_at hl 0 rfl) ?_
      refine m_get F hin I 5 (by decide) (v := .ref (h 5)) rfl (hts (.fieldLink RX2 23 "CuttingTableModel" "which" "[I") (by decide +kernel)) dX2_share_39 ?_
      refine lv_iload_n hx hb dX2_share_42 rfl (lv_at hl 1 rfl) ?_
      obtain ⟨hi10, hw⟩ := hw
      refine m_iald F I 5 8 (by decide) hi10 dX2_share_43 ?_
      refine m_callv (rest := []) F I (c_X2_lay (p1) ((S2.ia 4 (p0).toNatClampNeg)) ((S2.ia 5 (p0).toNatClampNeg)) _ _ hw) (cwV 3 hts gX2_share_X2_lay rfl rfl rfl (by decide +kernel) ⟨Nat.le_of_ble_eq_true rfl, Nat.le_of_ble_eq_true rfl⟩) rfl hl.1 rfl (Nat.le_of_ble_eq_true rfl) dX2_share_44 ⟨Nat.zero_le _, Nat.zero_le _⟩ (fun S12 H locs hw I => ?_)
      refine lv_aload_n hx hb dX2_share_47 rfl (lv_at hl 0 rfl) ?_
      refine lv_iconst (v := (0 : Int32)) hx hb dX2_share_48 (by decide) ?_
      refine m_calli (rest := []) F I (c_X2_told ((0 : Int32)) _ _ hw) (cwV 1 hts gX2_share_X2_told rfl rfl rfl (by decide +kernel) ⟨Nat.le_of_ble_eq_true rfl, Nat.le_of_ble_eq_true rfl⟩) rfl hl.1 rfl (Nat.le_of_ble_eq_true rfl) dX2_share_49 ⟨Nat.zero_le _, Nat.zero_le _⟩ (fun r13 S14 H locs hw I => ?_)
      exact m_reti F hr hlk I dX2_share_52 hw
    · have hw := hw.2 c_8
      refine lv_aload_n hx hb dX2_share_23 rfl (lv_at hl 0 rfl) ?_
      refine lv_bipush (v := (6 : Int32)) hx hb dX2_share_24 (by decide) ?_
      refine m_calli (rest := []) F I (c_X2_told ((6 : Int32)) _ _ hw) (cwV 1 hts gX2_share_X2_told rfl rfl rfl (by decide +kernel) ⟨Nat.le_of_ble_eq_true rfl, Nat.le_of_ble_eq_true rfl⟩) rfl hl.1 rfl (Nat.le_of_ble_eq_true rfl) dX2_share_26 ⟨Nat.zero_le _, Nat.zero_le _⟩ (fun r15 S16 H locs hw I => ?_)
      exact m_reti F hr hlk I dX2_share_29 hw
abbrev rm_X2_noReel : Room := { frames := 1, cells := 0, slots := 0, locals := 20 }
def wp_X2_noReel (p0 : Int32) (S : mS) (K : Int32 → mS → Prop) : Prop := wp_X2_isSpindle (p0) (fun r1 => ((¬ r1 = 0 → (vp_in (p0) 8 ∧ ((¬ (S.ia 4 (p0).toNatClampNeg) = 0 → (vp_in (p0) 8 ∧ ((¬ (S.ia 4 (p0).toNatClampNeg) = (2 : Int32) → K ((0 : Int32)) S) ∧ ((S.ia 4 (p0).toNatClampNeg) = (2 : Int32) → K ((2 : Int32)) S)))) ∧ ((S.ia 4 (p0).toNatClampNeg) = 0 → K ((1 : Int32)) S)))) ∧ (r1 = 0 → K ((6 : Int32)) S)))
set_option maxHeartbeats 4000000 in
set_option maxRecDepth 100000 in
theorem c_X2_noReel {l : Launch} {D : va_G} {cI cJ : ClassId} {h : Nat → Nat} (p0 : Int32) (S : mS) (K : Int32 → mS → Prop) (hw : wp_X2_noReel p0 S K) : mMi l D cI cJ h yX2_noReel wsX2_noReel rm_X2_noReel [.ref (h 0), .int (p0)] K S := by
  refine m_starti (rt := some .int) (by decide) rfl rfl (Nat.le_of_ble_eq_true rfl) ?_
  intro p e s m below meth c A ls F hr hlk I hl
  have hin : ∀ w ∈ u_ws RX2 TX2 24, w ∈ wsX2_noReel := by decide +kernel
  obtain ⟨hx, hb, hml, hown, hts⟩ := id F
  have hl : lv_has ls 2 [(0, .ref (h 0)), (1, .int (p0))] := hl
  unfold wp_X2_noReel at hw
  refine lv_iload_n hx hb dX2_noReel_0 rfl (lv_at hl 1 rfl) ?_
  refine s_calli (rest := []) F (c_X2_isSpindle (p0) _ hw) (va_cwS 1 hts gX2_noReel_X2_isSpindle rfl rfl rfl (by decide +kernel) ⟨Nat.le_of_ble_eq_true rfl, Nat.le_of_ble_eq_true rfl⟩) rfl hl.1 rfl (Nat.le_of_ble_eq_true rfl) dX2_noReel_1 ⟨Nat.zero_le _, Nat.zero_le _⟩ (fun r1 hw => ?_)
  refine lv_if_ne (tgt := 12) hx hb dX2_noReel_4 (by decide) (fun c_2 => ?_) (fun c_2 => ?_)
  · have hw := hw.1 c_2
    refine lv_aload_n hx hb dX2_noReel_12 rfl (lv_at hl 0 rfl) ?_
    refine m_get F hin I 4 (by decide) (v := .ref (h 4)) rfl (hts (.fieldLink RX2 20 "CuttingTableModel" "lies" "[I") (by decide +kernel)) dX2_noReel_13 ?_
    refine lv_iload_n hx hb dX2_noReel_16 rfl (lv_at hl 1 rfl) ?_
    obtain ⟨hi3, hw⟩ := hw
    refine m_iald F I 4 8 (by decide) hi3 dX2_noReel_17 ?_
    refine lv_if_ne (tgt := 25) hx hb dX2_noReel_18 (by decide) (fun c_4 => ?_) (fun c_4 => ?_)
    · have hw := hw.1 c_4
      refine lv_aload_n hx hb dX2_noReel_25 rfl (lv_at hl 0 rfl) ?_
      refine m_get F hin I 4 (by decide) (v := .ref (h 4)) rfl (hts (.fieldLink RX2 20 "CuttingTableModel" "lies" "[I") (by decide +kernel)) dX2_noReel_26 ?_
      refine lv_iload_n hx hb dX2_noReel_29 rfl (lv_at hl 1 rfl) ?_
      obtain ⟨hi5, hw⟩ := hw
      refine m_iald F I 4 8 (by decide) hi5 dX2_noReel_30 ?_
      refine lv_iconst (v := (2 : Int32)) hx hb dX2_noReel_31 (by decide) ?_
      refine lv_icmp_ne (tgt := 39) hx hb dX2_noReel_32 (by decide) (fun c_6 => ?_) (fun c_6 => ?_)
      · have hw := hw.1 c_6
        refine lv_iconst (v := (0 : Int32)) hx hb dX2_noReel_39 (by decide) ?_
        exact m_reti F hr hlk I dX2_noReel_40 hw
      · have hw := hw.2 c_6
        refine lv_iconst (v := (2 : Int32)) hx hb dX2_noReel_35 (by decide) ?_
        refine lv_goto (tgt := 40) hx hb dX2_noReel_36 (by decide) ?_
        exact m_reti F hr hlk I dX2_noReel_40 hw
    · have hw := hw.2 c_4
      refine lv_iconst (v := (1 : Int32)) hx hb dX2_noReel_21 (by decide) ?_
      refine lv_goto (tgt := 40) hx hb dX2_noReel_22 (by decide) ?_
      exact m_reti F hr hlk I dX2_noReel_40 hw
  · have hw := hw.2 c_2
    refine lv_bipush (v := (6 : Int32)) hx hb dX2_noReel_7 (by decide) ?_
    refine lv_goto (tgt := 40) hx hb dX2_noReel_9 (by decide) ?_
    exact m_reti F hr hlk I dX2_noReel_40 hw
abbrev rm_X2_copy : Room := { frames := 2, cells := 0, slots := 0, locals := 43 }
def wl_X2_copy_68 (K : Int32 → mS → Prop) : Nat → Int32 → Int32 → Int32 → Int32 → Int32 → Int32 → mS → Prop
  | 0, _, _, _, _, _, _, _ => False
  | n + 1, v1, v2, v3, v4, v5, v6, S => (vp_in (v4) 513 ∧ (((S.ia 2 (v4).toNatClampNeg) ≤ v6 → wp_X2_lay (v2) ((1 : Int32)) (v5) S (fun S19 => wp_X2_told ((0 : Int32)) S19 (fun r20 S21 => K (r20) S21))) ∧ (¬ (S.ia 2 (v4).toNatClampNeg) ≤ v6 → (vp_in ((((24 : Int32) * v4) + v6)) 12312 ∧ (vp_in ((((24 : Int32) * v5) + v6)) 12312 ∧ wl_X2_copy_68 K n (v1) (v2) (v3) (v4) (v5) ((v6 + (1 : Int32))) (S.sl 3 ((((24 : Int32) * v5) + v6)).toNatClampNeg ((S.la 3 ((((24 : Int32) * v4) + v6)).toNatClampNeg))))))))
def wp_X2_copy (p0 : Int32) (p1 : Int32) (S : mS) (K : Int32 → mS → Prop) : Prop := wp_X2_begin  (S.si 23 (0 : Int32)) (fun S2 => wp_X2_isSpindle (p1) (fun r3 => ((r3 = 0 → wp_X2_told ((6 : Int32)) S2 (fun r6 S7 => K (r6) S7)) ∧ (¬ r3 = 0 → wp_X2_noReel (p0) S2 (fun r8 S9 => ((r8 ≤ 0 → (vp_in (p0) 8 ∧ (vp_in ((S9.ia 5 (p0).toNatClampNeg)) 513 ∧ (vp_in ((S9.ia 5 (p0).toNatClampNeg)) 513 ∧ wp_X2_newReel ((S9.ia 1 ((S9.ia 5 (p0).toNatClampNeg)).toNatClampNeg)) ((S9.ia 2 ((S9.ia 5 (p0).toNatClampNeg)).toNatClampNeg)) S9 (fun r14 S15 => (∃ n68 : Nat, wl_X2_copy_68 K n68 (p0) (p1) (r8) ((S9.ia 5 (p0).toNatClampNeg)) (r14) ((0 : Int32)) S15)))))) ∧ (¬ r8 ≤ 0 → wp_X2_told (r8) S9 (fun r24 S25 => K (r24) S25))))))))
set_option maxHeartbeats 4000000 in
set_option maxRecDepth 100000 in
theorem lp_X2_copy_68 {p : Program} {l : Launch} {e : Env} {s : State} {m : MethodId} {args : Array Value} {below : List Frame} {meth : Method} {c : Code} {D : va_G} {cI cJ : ClassId} {h : Nat → Nat} {A : Nat → Prop} {K : Int32 → mS → Prop} (F : CallFix p m c cX2_copy 7 s args wsX2_copy RX2) (hin : ∀ w ∈ u_ws RX2 TX2 24, w ∈ wsX2_copy) (hr : meth.sig.returnType = some .int) (hlk : meth.locks = false) :
    ∀ (n : Nat) (v1 : Int32) (v2 : Int32) (v3 : Int32) (v4 : Int32) (v5 : Int32) (v6 : Int32) (S : mS) (H : Heap) (locs : List Loc), mI D cI cJ h A s s.heap H locs S → ∀ (ls : Array Slot), lv_has ls 7 [(0, .ref (h 0)), (1, .int (v1)), (2, .int (v2)), (3, .int (v3)), (4, .int (v4)), (5, .int (v5)), (6, .int (v6))] → wl_X2_copy_68 K n v1 v2 v3 v4 v5 v6 S → W p l e rm_X2_copy s m args below meth c H locs 0 0 (MQ below (va_Qi K (mB D cI cJ h A) A) args s 0 0 A) (F0 m 68 ls []) := by
  obtain ⟨hx, hb, hml, hown, hts⟩ := id F
  intro n
  induction n with
  | zero => intro v1 v2 v3 v4 v5 v6 S H locs I ls hl hw; exact hw.elim
  | succ n ih =>
    intro v1 v2 v3 v4 v5 v6 S H locs I ls hl hw
    rw [wl_X2_copy_68] at hw
    refine lv_iload hx hb dX2_copy_68 (lv_at hl 6 rfl) ?_
    refine lv_aload_n hx hb dX2_copy_70 rfl (lv_at hl 0 rfl) ?_
    refine m_get F hin I 1 (by decide) (v := .ref (h 2)) rfl (hts (.fieldLink RX2 13 "CuttingTableModel" "sizes" "[I") (by decide +kernel)) dX2_copy_71 ?_
    refine lv_iload hx hb dX2_copy_74 (lv_at hl 4 rfl) ?_
    obtain ⟨hi16, hw⟩ := hw
    refine m_iald F I 2 513 (by decide) hi16 dX2_copy_76 ?_
    refine lv_icmp_ge (tgt := 112) hx hb dX2_copy_77 (by decide) (fun c_17 => ?_) (fun c_17 => ?_)
    · have hw := hw.1 c_17
      refine lv_aload_n hx hb dX2_copy_112 rfl (lv_at hl 0 rfl) ?_
      refine lv_iload_n hx hb dX2_copy_113 rfl (lv_at hl 2 rfl) ?_
      refine lv_iconst (v := (1 : Int32)) hx hb dX2_copy_114 (by decide) ?_
      refine lv_iload hx hb dX2_copy_115 (lv_at hl 5 rfl) ?_
      refine m_callv (rest := []) F I (c_X2_lay (v2) ((1 : Int32)) (v5) _ _ hw) (cwV 3 hts gX2_copy_X2_lay rfl rfl rfl (by decide +kernel) ⟨Nat.le_of_ble_eq_true rfl, Nat.le_of_ble_eq_true rfl⟩) rfl hl.1 rfl (Nat.le_of_ble_eq_true rfl) dX2_copy_117 ⟨Nat.zero_le _, Nat.zero_le _⟩ (fun S19 H locs hw I => ?_)
      refine lv_aload_n hx hb dX2_copy_120 rfl (lv_at hl 0 rfl) ?_
      refine lv_iconst (v := (0 : Int32)) hx hb dX2_copy_121 (by decide) ?_
      refine m_calli (rest := []) F I (c_X2_told ((0 : Int32)) _ _ hw) (cwV 1 hts gX2_copy_X2_told rfl rfl rfl (by decide +kernel) ⟨Nat.le_of_ble_eq_true rfl, Nat.le_of_ble_eq_true rfl⟩) rfl hl.1 rfl (Nat.le_of_ble_eq_true rfl) dX2_copy_122 ⟨Nat.zero_le _, Nat.zero_le _⟩ (fun r20 S21 H locs hw I => ?_)
      exact m_reti F hr hlk I dX2_copy_125 hw
    · have hw := hw.2 c_17
      refine lv_aload_n hx hb dX2_copy_80 rfl (lv_at hl 0 rfl) ?_
      refine m_get F hin I 2 (by decide) (v := .ref (h 3)) rfl (hts (.fieldLink RX2 16 "CuttingTableModel" "cells" "[J") (by decide +kernel)) dX2_copy_81 ?_
      refine lv_bipush (v := (24 : Int32)) hx hb dX2_copy_84 (by decide) ?_
      refine lv_iload hx hb dX2_copy_86 (lv_at hl 5 rfl) ?_
      refine lv_imul hx hb dX2_copy_88 ?_
      refine lv_iload hx hb dX2_copy_89 (lv_at hl 6 rfl) ?_
      refine lv_iadd hx hb dX2_copy_91 ?_
      refine lv_aload_n hx hb dX2_copy_92 rfl (lv_at hl 0 rfl) ?_
      refine m_get F hin I 2 (by decide) (v := .ref (h 3)) rfl (hts (.fieldLink RX2 16 "CuttingTableModel" "cells" "[J") (by decide +kernel)) dX2_copy_93 ?_
      refine lv_bipush (v := (24 : Int32)) hx hb dX2_copy_96 (by decide) ?_
      refine lv_iload hx hb dX2_copy_98 (lv_at hl 4 rfl) ?_
      refine lv_imul hx hb dX2_copy_100 ?_
      refine lv_iload hx hb dX2_copy_101 (lv_at hl 6 rfl) ?_
      refine lv_iadd hx hb dX2_copy_103 ?_
      obtain ⟨hi22, hw⟩ := hw
      refine m_lald F I 3 12312 (by decide) hi22 dX2_copy_104 ?_
      obtain ⟨hi23, hw⟩ := hw
      refine m_last F I 3 12312 (by decide) hi23 dX2_copy_105 (fun H locs I => ?_)
      refine lv_iinc (v := (v6 + (1 : Int32))) (lv' := [(6, .int ((v6 + (1 : Int32)))), (0, .ref (h 0)), (1, .int (v1)), (2, .int (v2)), (3, .int (v3)), (4, .int (v4)), (5, .int (v5))]) hx hb dX2_copy_106 hl (k := 6) rfl rfl (by decide) rfl (fun ls hl => ?_)
      refine lv_goto (tgt := 68) hx hb dX2_copy_109 (by decide) ?_
      exact ih (v1) (v2) (v3) (v4) (v5) ((v6 + (1 : Int32))) (S.sl 3 ((((24 : Int32) * v5) + v6)).toNatClampNeg ((S.la 3 ((((24 : Int32) * v4) + v6)).toNatClampNeg))) _ _ I ls (lv_sub hl [1, 2, 3, 4, 5, 6, 0] rfl) hw
set_option maxHeartbeats 4000000 in
set_option maxRecDepth 100000 in
theorem c_X2_copy {l : Launch} {D : va_G} {cI cJ : ClassId} {h : Nat → Nat} (p0 : Int32) (p1 : Int32) (S : mS) (K : Int32 → mS → Prop) (hw : wp_X2_copy p0 p1 S K) : mMi l D cI cJ h yX2_copy wsX2_copy rm_X2_copy [.ref (h 0), .int (p0), .int (p1)] K S := by
  refine m_starti (rt := some .int) (by decide) rfl rfl (Nat.le_of_ble_eq_true rfl) ?_
  intro p e s m below meth c A ls F hr hlk I hl
  have hin : ∀ w ∈ u_ws RX2 TX2 24, w ∈ wsX2_copy := by decide +kernel
  obtain ⟨hx, hb, hml, hown, hts⟩ := id F
  have hl : lv_has ls 7 [(0, .ref (h 0)), (1, .int (p0)), (2, .int (p1))] := hl
  unfold wp_X2_copy at hw
  refine lv_aload_n hx hb dX2_copy_0 rfl (lv_at hl 0 rfl) ?_
  refine lv_iconst (v := (0 : Int32)) hx hb dX2_copy_1 (by decide) ?_
  refine m_put F hin I 23 (by decide) (hts (.fieldLink RX2 44 "CuttingTableModel" "thrown" "I") (by decide +kernel)) dX2_copy_2 (fun H locs I => ?_)
  refine lv_aload_n hx hb dX2_copy_5 rfl (lv_at hl 0 rfl) ?_
  refine m_callv (rest := []) F I (c_X2_begin  _ _ hw) (cwV 0 hts gX2_copy_X2_begin rfl rfl rfl (by decide +kernel) ⟨Nat.le_of_ble_eq_true rfl, Nat.le_of_ble_eq_true rfl⟩) rfl hl.1 rfl (Nat.le_of_ble_eq_true rfl) dX2_copy_6 ⟨Nat.zero_le _, Nat.zero_le _⟩ (fun S2 H locs hw I => ?_)
  refine lv_iload_n hx hb dX2_copy_9 rfl (lv_at hl 2 rfl) ?_
  refine s_calli (rest := []) F (c_X2_isSpindle (p1) _ hw) (va_cwS 1 hts gX2_copy_X2_isSpindle rfl rfl rfl (by decide +kernel) ⟨Nat.le_of_ble_eq_true rfl, Nat.le_of_ble_eq_true rfl⟩) rfl hl.1 rfl (Nat.le_of_ble_eq_true rfl) dX2_copy_10 ⟨Nat.zero_le _, Nat.zero_le _⟩ (fun r3 hw => ?_)
  refine lv_if_eq (tgt := 24) hx hb dX2_copy_13 (by decide) (fun c_4 => ?_) (fun c_4 => ?_)
  · have hw := hw.1 c_4
    refine lv_bipush (v := (6 : Int32)) hx hb dX2_copy_24 (by decide) ?_
    refine lv_istore_n (lv' := [(3, .int ((6 : Int32))), (0, .ref (h 0)), (1, .int (p0)), (2, .int (p1))]) hx hb dX2_copy_26 rfl hl (by decide) rfl (fun ls hl => ?_)
    refine lv_iload_n hx hb dX2_copy_27 rfl (lv_at hl 0 rfl) ?_
    refine lv_if_le (tgt := 37) hx hb dX2_copy_28 (by decide) (fun c_5 => ?_) (fun c_5 => ?_)
    · exact absurd c_5 (by decide)
    · refine lv_aload_n hx hb dX2_copy_31 rfl (lv_at hl 1 rfl) ?_
      refine lv_iload_n hx hb dX2_copy_32 rfl (lv_at hl 0 rfl) ?_
      refine m_calli (rest := []) F I (c_X2_told ((6 : Int32)) _ _ hw) (cwV 1 hts gX2_copy_X2_told rfl rfl rfl (by decide +kernel) ⟨Nat.le_of_ble_eq_true rfl, Nat.le_of_ble_eq_true rfl⟩) rfl hl.1 rfl (Nat.le_of_ble_eq_true rfl) dX2_copy_33 ⟨Nat.zero_le _, Nat.zero_le _⟩ (fun r6 S7 H locs hw I => ?_)
      exact m_reti F hr hlk I dX2_copy_36 hw
  · have hw := hw.2 c_4
    refine lv_aload_n hx hb dX2_copy_16 rfl (lv_at hl 0 rfl) ?_
    refine lv_iload_n hx hb dX2_copy_17 rfl (lv_at hl 1 rfl) ?_
    refine m_calli (rest := []) F I (c_X2_noReel (p0) _ _ hw) (cwV 1 hts gX2_copy_X2_noReel rfl rfl rfl (by decide +kernel) ⟨Nat.le_of_ble_eq_true rfl, Nat.le_of_ble_eq_true rfl⟩) rfl hl.1 rfl (Nat.le_of_ble_eq_true rfl) dX2_copy_18 ⟨Nat.zero_le _, Nat.zero_le _⟩ (fun r8 S9 H locs hw I => ?_)
    refine lv_goto (tgt := 26) hx hb dX2_copy_21 (by decide) ?_
    refine lv_istore_n (lv' := [(3, .int (r8)), (0, .ref (h 0)), (1, .int (p0)), (2, .int (p1))]) hx hb dX2_copy_26 rfl hl (by decide) rfl (fun ls hl => ?_)
    refine lv_iload_n hx hb dX2_copy_27 rfl (lv_at hl 0 rfl) ?_
    refine lv_if_le (tgt := 37) hx hb dX2_copy_28 (by decide) (fun c_10 => ?_) (fun c_10 => ?_)
    · have hw := hw.1 c_10
      refine lv_aload_n hx hb dX2_copy_37 rfl (lv_at hl 1 rfl) ?_
      refine m_get F hin I 5 (by decide) (v := .ref (h 5)) rfl (hts (.fieldLink RX2 23 "CuttingTableModel" "which" "[I") (by decide +kernel)) dX2_copy_38 ?_
      refine lv_iload_n hx hb dX2_copy_41 rfl (lv_at hl 2 rfl) ?_
      obtain ⟨hi11, hw⟩ := hw
      refine m_iald F I 5 8 (by decide) hi11 dX2_copy_42 ?_
      refine lv_istore (lv' := [(4, .int ((S9.ia 5 (p0).toNatClampNeg))), (3, .int (r8)), (0, .ref (h 0)), (1, .int (p0)), (2, .int (p1))]) hx hb dX2_copy_43 hl (by decide) rfl (fun ls hl => ?_)
      refine lv_aload_n hx hb dX2_copy_45 rfl (lv_at hl 2 rfl) ?_
      refine lv_aload_n hx hb dX2_copy_46 rfl (lv_at hl 2 rfl) ?_
      refine m_get F hin I 0 (by decide) (v := .ref (h 1)) rfl (hts (.fieldLink RX2 7 "CuttingTableModel" "stocks" "[I") (by decide +kernel)) dX2_copy_47 ?_
      refine lv_iload hx hb dX2_copy_50 (lv_at hl 0 rfl) ?_
      obtain ⟨hi12, hw⟩ := hw
      refine m_iald F I 1 513 (by decide) hi12 dX2_copy_52 ?_
      refine lv_aload_n hx hb dX2_copy_53 rfl (lv_at hl 2 rfl) ?_
      refine m_get F hin I 1 (by decide) (v := .ref (h 2)) rfl (hts (.fieldLink RX2 13 "CuttingTableModel" "sizes" "[I") (by decide +kernel)) dX2_copy_54 ?_
      refine lv_iload hx hb dX2_copy_57 (lv_at hl 0 rfl) ?_
      obtain ⟨hi13, hw⟩ := hw
      refine m_iald F I 2 513 (by decide) hi13 dX2_copy_59 ?_
      refine m_calli (rest := []) F I (c_X2_newReel ((S9.ia 1 ((S9.ia 5 (p0).toNatClampNeg)).toNatClampNeg)) ((S9.ia 2 ((S9.ia 5 (p0).toNatClampNeg)).toNatClampNeg)) _ _ hw) (cwV 2 hts gX2_copy_X2_newReel rfl rfl rfl (by decide +kernel) ⟨Nat.le_of_ble_eq_true rfl, Nat.le_of_ble_eq_true rfl⟩) rfl hl.1 rfl (Nat.le_of_ble_eq_true rfl) dX2_copy_60 ⟨Nat.zero_le _, Nat.zero_le _⟩ (fun r14 S15 H locs hw I => ?_)
      refine lv_istore (lv' := [(5, .int (r14)), (4, .int ((S9.ia 5 (p0).toNatClampNeg))), (3, .int (r8)), (0, .ref (h 0)), (1, .int (p0)), (2, .int (p1))]) hx hb dX2_copy_63 hl (by decide) rfl (fun ls hl => ?_)
      refine lv_iconst (v := (0 : Int32)) hx hb dX2_copy_65 (by decide) ?_
      refine lv_istore (lv' := [(6, .int ((0 : Int32))), (5, .int (r14)), (4, .int ((S9.ia 5 (p0).toNatClampNeg))), (3, .int (r8)), (0, .ref (h 0)), (1, .int (p0)), (2, .int (p1))]) hx hb dX2_copy_66 hl (by decide) rfl (fun ls hl => ?_)
      obtain ⟨n68, hw⟩ := hw
      exact lp_X2_copy_68 F hin hr hlk n68 (p0) (p1) (r8) ((S9.ia 5 (p0).toNatClampNeg)) (r14) ((0 : Int32)) S15 _ _ I ls (lv_sub hl [4, 5, 6, 3, 2, 1, 0] rfl) hw
    · have hw := hw.2 c_10
      refine lv_aload_n hx hb dX2_copy_31 rfl (lv_at hl 1 rfl) ?_
      refine lv_iload_n hx hb dX2_copy_32 rfl (lv_at hl 0 rfl) ?_
      refine m_calli (rest := []) F I (c_X2_told (r8) _ _ hw) (cwV 1 hts gX2_copy_X2_told rfl rfl rfl (by decide +kernel) ⟨Nat.le_of_ble_eq_true rfl, Nat.le_of_ble_eq_true rfl⟩) rfl hl.1 rfl (Nat.le_of_ble_eq_true rfl) dX2_copy_33 ⟨Nat.zero_le _, Nat.zero_le _⟩ (fun r24 S25 H locs hw I => ?_)
      exact m_reti F hr hlk I dX2_copy_36 hw
abbrev rm_X2_clear : Room := { frames := 1, cells := 0, slots := 0, locals := 23 }
def wp_X2_clear (p0 : Int32) (S : mS) (K : Int32 → mS → Prop) : Prop := wp_X2_begin  (S.si 23 (0 : Int32)) (fun S2 => wp_X2_isSpindle (p0) (fun r3 => ((¬ r3 = 0 → wp_X2_lay (p0) ((0 : Int32)) ((0 : Int32)) S2 (fun S6 => wp_X2_told ((0 : Int32)) S6 (fun r7 S8 => K (r7) S8))) ∧ (r3 = 0 → wp_X2_told ((6 : Int32)) S2 (fun r9 S10 => K (r9) S10)))))
set_option maxHeartbeats 4000000 in
set_option maxRecDepth 100000 in
theorem c_X2_clear {l : Launch} {D : va_G} {cI cJ : ClassId} {h : Nat → Nat} (p0 : Int32) (S : mS) (K : Int32 → mS → Prop) (hw : wp_X2_clear p0 S K) : mMi l D cI cJ h yX2_clear wsX2_clear rm_X2_clear [.ref (h 0), .int (p0)] K S := by
  refine m_starti (rt := some .int) (by decide) rfl rfl (Nat.le_of_ble_eq_true rfl) ?_
  intro p e s m below meth c A ls F hr hlk I hl
  have hin : ∀ w ∈ u_ws RX2 TX2 24, w ∈ wsX2_clear := by decide +kernel
  obtain ⟨hx, hb, hml, hown, hts⟩ := id F
  have hl : lv_has ls 2 [(0, .ref (h 0)), (1, .int (p0))] := hl
  unfold wp_X2_clear at hw
  refine lv_aload_n hx hb dX2_clear_0 rfl (lv_at hl 0 rfl) ?_
  refine lv_iconst (v := (0 : Int32)) hx hb dX2_clear_1 (by decide) ?_
  refine m_put F hin I 23 (by decide) (hts (.fieldLink RX2 44 "CuttingTableModel" "thrown" "I") (by decide +kernel)) dX2_clear_2 (fun H locs I => ?_)
  refine lv_aload_n hx hb dX2_clear_5 rfl (lv_at hl 0 rfl) ?_
  refine m_callv (rest := []) F I (c_X2_begin  _ _ hw) (cwV 0 hts gX2_clear_X2_begin rfl rfl rfl (by decide +kernel) ⟨Nat.le_of_ble_eq_true rfl, Nat.le_of_ble_eq_true rfl⟩) rfl hl.1 rfl (Nat.le_of_ble_eq_true rfl) dX2_clear_6 ⟨Nat.zero_le _, Nat.zero_le _⟩ (fun S2 H locs hw I => ?_)
  refine lv_iload_n hx hb dX2_clear_9 rfl (lv_at hl 1 rfl) ?_
  refine s_calli (rest := []) F (c_X2_isSpindle (p0) _ hw) (va_cwS 1 hts gX2_clear_X2_isSpindle rfl rfl rfl (by decide +kernel) ⟨Nat.le_of_ble_eq_true rfl, Nat.le_of_ble_eq_true rfl⟩) rfl hl.1 rfl (Nat.le_of_ble_eq_true rfl) dX2_clear_10 ⟨Nat.zero_le _, Nat.zero_le _⟩ (fun r3 hw => ?_)
  refine lv_if_ne (tgt := 23) hx hb dX2_clear_13 (by decide) (fun c_4 => ?_) (fun c_4 => ?_)
  · have hw := hw.1 c_4
    refine lv_aload_n hx hb dX2_clear_23 rfl (lv_at hl 0 rfl) ?_
    refine lv_iload_n hx hb dX2_clear_24 rfl (lv_at hl 1 rfl) ?_
    refine lv_iconst (v := (0 : Int32)) hx hb dX2_clear_25 (by decide) ?_
    refine lv_iconst (v := (0 : Int32)) hx hb dX2_clear_26 (by decide) ?_
    refine m_callv (rest := []) F I (c_X2_lay (p0) ((0 : Int32)) ((0 : Int32)) _ _ hw) (cwV 3 hts gX2_clear_X2_lay rfl rfl rfl (by decide +kernel) ⟨Nat.le_of_ble_eq_true rfl, Nat.le_of_ble_eq_true rfl⟩) rfl hl.1 rfl (Nat.le_of_ble_eq_true rfl) dX2_clear_27 ⟨Nat.zero_le _, Nat.zero_le _⟩ (fun S6 H locs hw I => ?_)
    refine lv_aload_n hx hb dX2_clear_30 rfl (lv_at hl 0 rfl) ?_
    refine lv_iconst (v := (0 : Int32)) hx hb dX2_clear_31 (by decide) ?_
    refine m_calli (rest := []) F I (c_X2_told ((0 : Int32)) _ _ hw) (cwV 1 hts gX2_clear_X2_told rfl rfl rfl (by decide +kernel) ⟨Nat.le_of_ble_eq_true rfl, Nat.le_of_ble_eq_true rfl⟩) rfl hl.1 rfl (Nat.le_of_ble_eq_true rfl) dX2_clear_32 ⟨Nat.zero_le _, Nat.zero_le _⟩ (fun r7 S8 H locs hw I => ?_)
    exact m_reti F hr hlk I dX2_clear_35 hw
  · have hw := hw.2 c_4
    refine lv_aload_n hx hb dX2_clear_16 rfl (lv_at hl 0 rfl) ?_
    refine lv_bipush (v := (6 : Int32)) hx hb dX2_clear_17 (by decide) ?_
    refine m_calli (rest := []) F I (c_X2_told ((6 : Int32)) _ _ hw) (cwV 1 hts gX2_clear_X2_told rfl rfl rfl (by decide +kernel) ⟨Nat.le_of_ble_eq_true rfl, Nat.le_of_ble_eq_true rfl⟩) rfl hl.1 rfl (Nat.le_of_ble_eq_true rfl) dX2_clear_19 ⟨Nat.zero_le _, Nat.zero_le _⟩ (fun r9 S10 H locs hw I => ?_)
    exact m_reti F hr hlk I dX2_clear_22 hw
abbrev rm_X2_cutTo : Room := { frames := 0, cells := 0, slots := 0, locals := 0 }
def wp_X2_cutTo (p0 : Int32) (p1 : Int64) (K : Int64 → Prop) : Prop := ((p0 = (0 : Int32) → K (((p1).toInt32).toInt64)) ∧ (p0 = (1 : Int32) → K (p1)) ∧ (p0 = (2 : Int32) → K ((((p1).toInt32).toInt16.toInt32).toInt64)) ∧ (p0 = (3 : Int32) → K ((p1 &&& (65535 : Int64)))) ∧ (p0 = (4 : Int32) → ((p1 = (0 : Int64) → K ((0 : Int64))) ∧ (¬ p1 = (0 : Int64) → K ((1 : Int64))))) ∧ (¬ p0 = (0 : Int32) → ¬ p0 = (1 : Int32) → ¬ p0 = (2 : Int32) → ¬ p0 = (3 : Int32) → ¬ p0 = (4 : Int32) → K (p1)))
set_option maxHeartbeats 4000000 in
set_option maxRecDepth 100000 in
theorem c_X2_cutTo {l : Launch} (p0 : Int32) (p1 : Int64) (K : Int64 → Prop) (hw : wp_X2_cutTo p0 p1 K) : sMl l yX2_cutTo wsX2_cutTo rm_X2_cutTo [.int (p0), .long (p1)] K := by
  refine s_start (rt := some .long) (R0 := RX2) (by decide) rfl rfl (Nat.le_of_ble_eq_true rfl) ?_
  intro p e s m below meth c ls F hr hlk hl
  obtain ⟨hx, hb, hml, hown, hts⟩ := id F
  have hl : lv_has ls 3 [(0, .int (p0)), (1, .long (p1))] := hl
  unfold wp_X2_cutTo at hw
  refine lv_iload_n hx hb dX2_cutTo_0 rfl (lv_at hl 0 rfl) ?_
  by_cases c_1 : p0 = (0 : Int32)
  · have hw := hw.1 c_1
    refine lv_tableIn (off := 35) (tgt := 36) hx hb dX2_cutTo_1 (by rw [c_1]; decide) (by rw [c_1]; decide) (by rw [c_1]; decide) (by decide) ?_
    refine lv_lload_n hx hb dX2_cutTo_36 rfl (lv_at hl 1 rfl) ?_
    refine lv_l2i hx hb dX2_cutTo_37 rfl ?_
    refine lv_i2l hx hb dX2_cutTo_38 rfl ?_
    exact s_retl F hr hlk dX2_cutTo_39 hw
  have hw := hw.2
  by_cases c_2 : p0 = (1 : Int32)
  · have hw := hw.1 c_2
    refine lv_tableIn (off := 62) (tgt := 63) hx hb dX2_cutTo_1 (by rw [c_2]; decide) (by rw [c_2]; decide) (by rw [c_2]; decide) (by decide) ?_
    refine lv_lload_n hx hb dX2_cutTo_63 rfl (lv_at hl 1 rfl) ?_
    exact s_retl F hr hlk dX2_cutTo_64 hw
  have hw := hw.2
  by_cases c_3 : p0 = (2 : Int32)
  · have hw := hw.1 c_3
    refine lv_tableIn (off := 39) (tgt := 40) hx hb dX2_cutTo_1 (by rw [c_3]; decide) (by rw [c_3]; decide) (by rw [c_3]; decide) (by decide) ?_
    refine lv_lload_n hx hb dX2_cutTo_40 rfl (lv_at hl 1 rfl) ?_
    refine lv_l2i hx hb dX2_cutTo_41 rfl ?_
    refine lv_i2s hx hb dX2_cutTo_42 rfl ?_
    refine lv_i2l hx hb dX2_cutTo_43 rfl ?_
    exact s_retl F hr hlk dX2_cutTo_44 hw
  have hw := hw.2
  by_cases c_4 : p0 = (3 : Int32)
  · have hw := hw.1 c_4
    refine lv_tableIn (off := 44) (tgt := 45) hx hb dX2_cutTo_1 (by rw [c_4]; decide) (by rw [c_4]; decide) (by rw [c_4]; decide) (by decide) ?_
    refine lv_lload_n hx hb dX2_cutTo_45 rfl (lv_at hl 1 rfl) ?_
    refine lv_ldc2 hx hb hown (hts (.constantLong RX2 90 (65535)) (by decide +kernel)) dX2_cutTo_46 ?_
    refine lv_land hx hb dX2_cutTo_49 ?_
    exact s_retl F hr hlk dX2_cutTo_50 hw
  have hw := hw.2
  by_cases c_5 : p0 = (4 : Int32)
  · have hw := hw.1 c_5
    refine lv_tableIn (off := 50) (tgt := 51) hx hb dX2_cutTo_1 (by rw [c_5]; decide) (by rw [c_5]; decide) (by rw [c_5]; decide) (by decide) ?_
    refine lv_lload_n hx hb dX2_cutTo_51 rfl (lv_at hl 1 rfl) ?_
    refine lv_lconst (v := (0 : Int64)) hx hb dX2_cutTo_52 (by decide) ?_
    refine W.lcmp hx hb dX2_cutTo_53 ?_
    refine lv_if_eq (tgt := 61) hx hb dX2_cutTo_54 (by decide) (fun c_6 => ?_) (fun c_6 => ?_)
    · have hw := hw.1 ((lg_cmp_eq _ _).mp c_6)
      refine lv_lconst (v := (0 : Int64)) hx hb dX2_cutTo_61 (by decide) ?_
      exact s_retl F hr hlk dX2_cutTo_62 hw
    · have hw := hw.2 (fun q => c_6 ((lg_cmp_eq _ _).mpr q))
      refine lv_lconst (v := (1 : Int64)) hx hb dX2_cutTo_57 (by decide) ?_
      refine lv_goto (tgt := 62) hx hb dX2_cutTo_58 (by decide) ?_
      exact s_retl F hr hlk dX2_cutTo_62 hw
  have hw := hw.2
  have hw := hw c_1 c_2 c_3 c_4 c_5
  refine lv_tableOut (tgt := 63) hx hb dX2_cutTo_1 (by have nc_1 := lv_neT c_1 (k := (0 : Int32)) (a := 0) rfl; have nc_2 := lv_neT c_2 (k := (1 : Int32)) (a := 1) rfl; have nc_3 := lv_neT c_3 (k := (2 : Int32)) (a := 2) rfl; have nc_4 := lv_neT c_4 (k := (3 : Int32)) (a := 3) rfl; have nc_5 := lv_neT c_5 (k := (4 : Int32)) (a := 4) rfl; omega) (by decide) ?_
  refine lv_lload_n hx hb dX2_cutTo_63 rfl (lv_at hl 1 rfl) ?_
  exact s_retl F hr hlk dX2_cutTo_64 hw
abbrev rm_X2_put : Room := { frames := 2, cells := 0, slots := 0, locals := 41 }
def wp_X2_put (p0 : Int32) (p1 : Int32) (p2 : Int64) (S : mS) (K : Int32 → mS → Prop) : Prop := wp_X2_begin  (S.si 23 (0 : Int32)) (fun S2 => wp_X2_noReel (p0) S2 (fun r3 S4 => ((r3 ≤ 0 → (vp_in (p0) 8 ∧ (vp_in ((S4.ia 5 (p0).toNatClampNeg)) 513 ∧ wp_X2_isOfNumbers ((S4.ia 1 ((S4.ia 5 (p0).toNatClampNeg)).toNatClampNeg)) (fun r8 => ((¬ r8 = 0 → ((p1 < 0 → wp_X2_told ((4 : Int32)) S4 (fun r11 S12 => K (r11) S12)) ∧ (¬ p1 < 0 → (vp_in ((S4.ia 5 (p0).toNatClampNeg)) 513 ∧ ((p1 < (S4.ia 2 ((S4.ia 5 (p0).toNatClampNeg)).toNatClampNeg) → (vp_in ((S4.ia 5 (p0).toNatClampNeg)) 513 ∧ wp_X2_cutTo ((S4.ia 1 ((S4.ia 5 (p0).toNatClampNeg)).toNatClampNeg)) (p2) (fun r16 => (vp_in ((((24 : Int32) * (S4.ia 5 (p0).toNatClampNeg)) + p1)) 12312 ∧ wp_X2_told ((0 : Int32)) ((S4.sl 3 ((((24 : Int32) * (S4.ia 5 (p0).toNatClampNeg)) + p1)).toNatClampNeg (r16)).si 16 (0 : Int32)) (fun r18 S19 => K (r18) S19))))) ∧ (¬ p1 < (S4.ia 2 ((S4.ia 5 (p0).toNatClampNeg)).toNatClampNeg) → wp_X2_told ((4 : Int32)) S4 (fun r20 S21 => K (r20) S21))))))) ∧ (r8 = 0 → wp_X2_told ((3 : Int32)) S4 (fun r22 S23 => K (r22) S23))))))) ∧ (¬ r3 ≤ 0 → wp_X2_told (r3) S4 (fun r24 S25 => K (r24) S25)))))
set_option maxHeartbeats 4000000 in
set_option maxRecDepth 100000 in
theorem c_X2_put {l : Launch} {D : va_G} {cI cJ : ClassId} {h : Nat → Nat} (p0 : Int32) (p1 : Int32) (p2 : Int64) (S : mS) (K : Int32 → mS → Prop) (hw : wp_X2_put p0 p1 p2 S K) : mMi l D cI cJ h yX2_put wsX2_put rm_X2_put [.ref (h 0), .int (p0), .int (p1), .long (p2)] K S := by
  refine m_starti (rt := some .int) (by decide) rfl rfl (Nat.le_of_ble_eq_true rfl) ?_
  intro p e s m below meth c A ls F hr hlk I hl
  have hin : ∀ w ∈ u_ws RX2 TX2 24, w ∈ wsX2_put := by decide +kernel
  obtain ⟨hx, hb, hml, hown, hts⟩ := id F
  have hl : lv_has ls 7 [(0, .ref (h 0)), (1, .int (p0)), (2, .int (p1)), (3, .long (p2))] := hl
  unfold wp_X2_put at hw
  refine lv_aload_n hx hb dX2_put_0 rfl (lv_at hl 0 rfl) ?_
  refine lv_iconst (v := (0 : Int32)) hx hb dX2_put_1 (by decide) ?_
  refine m_put F hin I 23 (by decide) (hts (.fieldLink RX2 44 "CuttingTableModel" "thrown" "I") (by decide +kernel)) dX2_put_2 (fun H locs I => ?_)
  refine lv_aload_n hx hb dX2_put_5 rfl (lv_at hl 0 rfl) ?_
  refine m_callv (rest := []) F I (c_X2_begin  _ _ hw) (cwV 0 hts gX2_put_X2_begin rfl rfl rfl (by decide +kernel) ⟨Nat.le_of_ble_eq_true rfl, Nat.le_of_ble_eq_true rfl⟩) rfl hl.1 rfl (Nat.le_of_ble_eq_true rfl) dX2_put_6 ⟨Nat.zero_le _, Nat.zero_le _⟩ (fun S2 H locs hw I => ?_)
  refine lv_aload_n hx hb dX2_put_9 rfl (lv_at hl 0 rfl) ?_
  refine lv_iload_n hx hb dX2_put_10 rfl (lv_at hl 1 rfl) ?_
  refine m_calli (rest := []) F I (c_X2_noReel (p0) _ _ hw) (cwV 1 hts gX2_put_X2_noReel rfl rfl rfl (by decide +kernel) ⟨Nat.le_of_ble_eq_true rfl, Nat.le_of_ble_eq_true rfl⟩) rfl hl.1 rfl (Nat.le_of_ble_eq_true rfl) dX2_put_11 ⟨Nat.zero_le _, Nat.zero_le _⟩ (fun r3 S4 H locs hw I => ?_)
  refine lv_istore (lv' := [(5, .int (r3)), (0, .ref (h 0)), (1, .int (p0)), (2, .int (p1)), (3, .long (p2))]) hx hb dX2_put_14 hl (by decide) rfl (fun ls hl => ?_)
  refine lv_iload hx hb dX2_put_16 (lv_at hl 0 rfl) ?_
  refine lv_if_le (tgt := 28) hx hb dX2_put_18 (by decide) (fun c_5 => ?_) (fun c_5 => ?_)
  · have hw := hw.1 c_5
    refine lv_aload_n hx hb dX2_put_28 rfl (lv_at hl 1 rfl) ?_
    refine m_get F hin I 5 (by decide) (v := .ref (h 5)) rfl (hts (.fieldLink RX2 23 "CuttingTableModel" "which" "[I") (by decide +kernel)) dX2_put_29 ?_
    refine lv_iload_n hx hb dX2_put_32 rfl (lv_at hl 2 rfl) ?_
    obtain ⟨hi6, hw⟩ := hw
    refine m_iald F I 5 8 (by decide) hi6 dX2_put_33 ?_
    refine lv_istore (lv' := [(6, .int ((S4.ia 5 (p0).toNatClampNeg))), (5, .int (r3)), (0, .ref (h 0)), (1, .int (p0)), (2, .int (p1)), (3, .long (p2))]) hx hb dX2_put_34 hl (by decide) rfl (fun ls hl => ?_)
    refine lv_aload_n hx hb dX2_put_36 rfl (lv_at hl 2 rfl) ?_
    refine m_get F hin I 0 (by decide) (v := .ref (h 1)) rfl (hts (.fieldLink RX2 7 "CuttingTableModel" "stocks" "[I") (by decide +kernel)) dX2_put_37 ?_
    refine lv_iload hx hb dX2_put_40 (lv_at hl 0 rfl) ?_
    obtain ⟨hi7, hw⟩ := hw
    refine m_iald F I 1 513 (by decide) hi7 dX2_put_42 ?_
    refine s_calli (rest := []) F (c_X2_isOfNumbers ((S4.ia 1 ((S4.ia 5 (p0).toNatClampNeg)).toNatClampNeg)) _ hw) (va_cwS 1 hts gX2_put_X2_isOfNumbers rfl rfl rfl (by decide +kernel) ⟨Nat.le_of_ble_eq_true rfl, Nat.le_of_ble_eq_true rfl⟩) rfl hl.1 rfl (Nat.le_of_ble_eq_true rfl) dX2_put_43 ⟨Nat.zero_le _, Nat.zero_le _⟩ (fun r8 hw => ?_)
    refine lv_if_ne (tgt := 55) hx hb dX2_put_46 (by decide) (fun c_9 => ?_) (fun c_9 => ?_)
    · have hw := hw.1 c_9
      refine lv_iload_n hx hb dX2_put_55 rfl (lv_at hl 4 rfl) ?_
      refine lv_if_lt (tgt := 70) hx hb dX2_put_56 (by decide) (fun c_10 => ?_) (fun c_10 => ?_)
      · have hw := hw.1 c_10
        refine lv_aload_n hx hb dX2_put_70 rfl (lv_at hl 2 rfl) ?_
        refine lv_iconst (v := (4 : Int32)) hx hb dX2_put_71 (by decide) ?_
        refine m_calli (rest := []) F I (c_X2_told ((4 : Int32)) _ _ hw) (cwV 1 hts gX2_put_X2_told rfl rfl rfl (by decide +kernel) ⟨Nat.le_of_ble_eq_true rfl, Nat.le_of_ble_eq_true rfl⟩) rfl hl.1 rfl (Nat.le_of_ble_eq_true rfl) dX2_put_72 ⟨Nat.zero_le _, Nat.zero_le _⟩ (fun r11 S12 H locs hw I => ?_)
        exact m_reti F hr hlk I dX2_put_75 hw
      · have hw := hw.2 c_10
        refine lv_iload_n hx hb dX2_put_59 rfl (lv_at hl 4 rfl) ?_
        refine lv_aload_n hx hb dX2_put_60 rfl (lv_at hl 2 rfl) ?_
        refine m_get F hin I 1 (by decide) (v := .ref (h 2)) rfl (hts (.fieldLink RX2 13 "CuttingTableModel" "sizes" "[I") (by decide +kernel)) dX2_put_61 ?_
        refine lv_iload hx hb dX2_put_64 (lv_at hl 0 rfl) ?_
        obtain ⟨hi13, hw⟩ := hw
        refine m_iald F I 2 513 (by decide) hi13 dX2_put_66 ?_
        refine lv_icmp_lt (tgt := 76) hx hb dX2_put_67 (by decide) (fun c_14 => ?_) (fun c_14 => ?_)
        · have hw := hw.1 c_14
          refine lv_aload_n hx hb dX2_put_76 rfl (lv_at hl 2 rfl) ?_
          refine m_get F hin I 2 (by decide) (v := .ref (h 3)) rfl (hts (.fieldLink RX2 16 "CuttingTableModel" "cells" "[J") (by decide +kernel)) dX2_put_77 ?_
          refine lv_bipush (v := (24 : Int32)) hx hb dX2_put_80 (by decide) ?_
          refine lv_iload hx hb dX2_put_82 (lv_at hl 0 rfl) ?_
          refine lv_imul hx hb dX2_put_84 ?_
          refine lv_iload_n hx hb dX2_put_85 rfl (lv_at hl 4 rfl) ?_
          refine lv_iadd hx hb dX2_put_86 ?_
          refine lv_aload_n hx hb dX2_put_87 rfl (lv_at hl 2 rfl) ?_
          refine m_get F hin I 0 (by decide) (v := .ref (h 1)) rfl (hts (.fieldLink RX2 7 "CuttingTableModel" "stocks" "[I") (by decide +kernel)) dX2_put_88 ?_
          refine lv_iload hx hb dX2_put_91 (lv_at hl 0 rfl) ?_
          obtain ⟨hi15, hw⟩ := hw
          refine m_iald F I 1 513 (by decide) hi15 dX2_put_93 ?_
          refine lv_lload_n hx hb dX2_put_94 rfl (lv_at hl 5 rfl) ?_
          refine s_calll (rest := [.int ((((24 : Int32) * (S4.ia 5 (p0).toNatClampNeg)) + p1)), .ref (h 3)]) F (c_X2_cutTo ((S4.ia 1 ((S4.ia 5 (p0).toNatClampNeg)).toNatClampNeg)) (p2) _ hw) (va_cwS 2 hts gX2_put_X2_cutTo rfl rfl rfl (by decide +kernel) ⟨Nat.le_of_ble_eq_true rfl, Nat.le_of_ble_eq_true rfl⟩) rfl hl.1 rfl (Nat.le_of_ble_eq_true rfl) dX2_put_95 ⟨Nat.zero_le _, Nat.zero_le _⟩ (fun r16 hw => ?_)
          obtain ⟨hi17, hw⟩ := hw
          refine m_last F I 3 12312 (by decide) hi17 dX2_put_98 (fun H locs I => ?_)
          refine lv_aload_n hx hb dX2_put_99 rfl (lv_at hl 2 rfl) ?_
          refine lv_iconst (v := (0 : Int32)) hx hb dX2_put_100 (by decide) ?_
          refine m_put F hin I 16 (by decide) (hts (.fieldLink RX2 96 "CuttingTableModel" "binMany" "I") (by decide +kernel)) dX2_put_101 (fun H locs I => ?_)
          refine lv_aload_n hx hb dX2_put_104 rfl (lv_at hl 2 rfl) ?_
          refine lv_iconst (v := (0 : Int32)) hx hb dX2_put_105 (by decide) ?_
          refine m_calli (rest := []) F I (c_X2_told ((0 : Int32)) _ _ hw) (cwV 1 hts gX2_put_X2_told rfl rfl rfl (by decide +kernel) ⟨Nat.le_of_ble_eq_true rfl, Nat.le_of_ble_eq_true rfl⟩) rfl hl.1 rfl (Nat.le_of_ble_eq_true rfl) dX2_put_106 ⟨Nat.zero_le _, Nat.zero_le _⟩ (fun r18 S19 H locs hw I => ?_)
          exact m_reti F hr hlk I dX2_put_109 hw
        · have hw := hw.2 c_14
          refine lv_aload_n hx hb dX2_put_70 rfl (lv_at hl 2 rfl) ?_
          refine lv_iconst (v := (4 : Int32)) hx hb dX2_put_71 (by decide) ?_
          refine m_calli (rest := []) F I (c_X2_told ((4 : Int32)) _ _ hw) (cwV 1 hts gX2_put_X2_told rfl rfl rfl (by decide +kernel) ⟨Nat.le_of_ble_eq_true rfl, Nat.le_of_ble_eq_true rfl⟩) rfl hl.1 rfl (Nat.le_of_ble_eq_true rfl) dX2_put_72 ⟨Nat.zero_le _, Nat.zero_le _⟩ (fun r20 S21 H locs hw I => ?_)
          exact m_reti F hr hlk I dX2_put_75 hw
    · have hw := hw.2 c_9
      refine lv_aload_n hx hb dX2_put_49 rfl (lv_at hl 2 rfl) ?_
      refine lv_iconst (v := (3 : Int32)) hx hb dX2_put_50 (by decide) ?_
      refine m_calli (rest := []) F I (c_X2_told ((3 : Int32)) _ _ hw) (cwV 1 hts gX2_put_X2_told rfl rfl rfl (by decide +kernel) ⟨Nat.le_of_ble_eq_true rfl, Nat.le_of_ble_eq_true rfl⟩) rfl hl.1 rfl (Nat.le_of_ble_eq_true rfl) dX2_put_51 ⟨Nat.zero_le _, Nat.zero_le _⟩ (fun r22 S23 H locs hw I => ?_)
      exact m_reti F hr hlk I dX2_put_54 hw
  · have hw := hw.2 c_5
    refine lv_aload_n hx hb dX2_put_21 rfl (lv_at hl 1 rfl) ?_
    refine lv_iload hx hb dX2_put_22 (lv_at hl 0 rfl) ?_
    refine m_calli (rest := []) F I (c_X2_told (r3) _ _ hw) (cwV 1 hts gX2_put_X2_told rfl rfl rfl (by decide +kernel) ⟨Nat.le_of_ble_eq_true rfl, Nat.le_of_ble_eq_true rfl⟩) rfl hl.1 rfl (Nat.le_of_ble_eq_true rfl) dX2_put_24 ⟨Nat.zero_le _, Nat.zero_le _⟩ (fun r24 S25 H locs hw I => ?_)
    exact m_reti F hr hlk I dX2_put_27 hw
abbrev rm_X2_bears : Room := { frames := 1, cells := 0, slots := 0, locals := 20 }
def wp_X2_bears (p0 : Int32) (p1 : Int64) (S : mS) (K : Int32 → mS → Prop) : Prop := wp_X2_isOfNumbers (p0) (fun r1 => ((¬ r1 = 0 → K (1 : Int32) S) ∧ (r1 = 0 → (((0 : Int64) ≤ p1 → (vp_in ((p1).toInt32) 513 ∧ ((p0 = (5 : Int32) → K (1 : Int32) S) ∧ (¬ p0 = (5 : Int32) → (((S.ia 8 ((p1).toInt32).toNatClampNeg) = (2 : Int32) → K (1 : Int32) S) ∧ (¬ (S.ia 8 ((p1).toInt32).toNatClampNeg) = (2 : Int32) → ((¬ p0 = (6 : Int32) → K (0 : Int32) S) ∧ (p0 = (6 : Int32) → ((¬ (S.ia 8 ((p1).toInt32).toNatClampNeg) = (1 : Int32) → K (0 : Int32) S) ∧ ((S.ia 8 ((p1).toInt32).toNatClampNeg) = (1 : Int32) → K (1 : Int32) S)))))))))) ∧ (¬ (0 : Int64) ≤ p1 → K (1 : Int32) S)))))
set_option maxHeartbeats 4000000 in
set_option maxRecDepth 100000 in
theorem c_X2_bears {l : Launch} {D : va_G} {cI cJ : ClassId} {h : Nat → Nat} (p0 : Int32) (p1 : Int64) (S : mS) (K : Int32 → mS → Prop) (hw : wp_X2_bears p0 p1 S K) : mMi l D cI cJ h yX2_bears wsX2_bears rm_X2_bears [.ref (h 0), .int (p0), .long (p1)] K S := by
  refine m_starti (rt := some .boolean) (by decide) rfl rfl (Nat.le_of_ble_eq_true rfl) ?_
  intro p e s m below meth c A ls F hr hlk I hl
  have hin : ∀ w ∈ u_ws RX2 TX2 24, w ∈ wsX2_bears := by decide +kernel
  obtain ⟨hx, hb, hml, hown, hts⟩ := id F
  have hl : lv_has ls 5 [(0, .ref (h 0)), (1, .int (p0)), (2, .long (p1))] := hl
  unfold wp_X2_bears at hw
  refine lv_iload_n hx hb dX2_bears_0 rfl (lv_at hl 1 rfl) ?_
  refine s_calli (rest := []) F (c_X2_isOfNumbers (p0) _ hw) (va_cwS 1 hts gX2_bears_X2_isOfNumbers rfl rfl rfl (by decide +kernel) ⟨Nat.le_of_ble_eq_true rfl, Nat.le_of_ble_eq_true rfl⟩) rfl hl.1 rfl (Nat.le_of_ble_eq_true rfl) dX2_bears_1 ⟨Nat.zero_le _, Nat.zero_le _⟩ (fun r1 hw => ?_)
  refine lv_if_ne (tgt := 13) hx hb dX2_bears_4 (by decide) (fun c_2 => ?_) (fun c_2 => ?_)
  · have hw := hw.1 c_2
    refine lv_iconst (v := (1 : Int32)) hx hb dX2_bears_13 (by decide) ?_
    exact m_retz F hr hlk I dX2_bears_14 ⟨hw, by decide⟩
  · have hw := hw.2 c_2
    refine lv_lload_n hx hb dX2_bears_7 rfl (lv_at hl 2 rfl) ?_
    refine lv_lconst (v := (0 : Int64)) hx hb dX2_bears_8 (by decide) ?_
    refine W.lcmp hx hb dX2_bears_9 ?_
    refine lv_if_ge (tgt := 15) hx hb dX2_bears_10 (by decide) (fun c_3 => ?_) (fun c_3 => ?_)
    · have hw := hw.1 ((lg_cmp_ge _ _).mp c_3)
      refine lv_aload_n hx hb dX2_bears_15 rfl (lv_at hl 0 rfl) ?_
      refine m_get F hin I 9 (by decide) (v := .ref (h 8)) rfl (hts (.fieldLink RX2 32 "CuttingTableModel" "shotKinds" "[I") (by decide +kernel)) dX2_bears_16 ?_
      refine lv_lload_n hx hb dX2_bears_19 rfl (lv_at hl 2 rfl) ?_
      refine lv_l2i hx hb dX2_bears_20 rfl ?_
      obtain ⟨hi4, hw⟩ := hw
      refine m_iald F I 8 513 (by decide) hi4 dX2_bears_21 ?_
      refine lv_istore (lv' := [(4, .int ((S.ia 8 ((p1).toInt32).toNatClampNeg))), (0, .ref (h 0)), (1, .int (p0)), (2, .long (p1))]) hx hb dX2_bears_22 hl (by decide) rfl (fun ls hl => ?_)
      refine lv_iload_n hx hb dX2_bears_24 rfl (lv_at hl 2 rfl) ?_
      refine lv_iconst (v := (5 : Int32)) hx hb dX2_bears_25 (by decide) ?_
      refine lv_icmp_eq (tgt := 47) hx hb dX2_bears_26 (by decide) (fun c_5 => ?_) (fun c_5 => ?_)
      · have hw := hw.1 c_5
        refine lv_iconst (v := (1 : Int32)) hx hb dX2_bears_47 (by decide) ?_
        refine lv_goto (tgt := 52) hx hb dX2_bears_48 (by decide) ?_
        exact m_retz F hr hlk I dX2_bears_52 ⟨hw, by decide⟩
      · have hw := hw.2 c_5
        refine lv_iload hx hb dX2_bears_29 (lv_at hl 0 rfl) ?_
        refine lv_iconst (v := (2 : Int32)) hx hb dX2_bears_31 (by decide) ?_
        refine lv_icmp_eq (tgt := 47) hx hb dX2_bears_32 (by decide) (fun c_6 => ?_) (fun c_6 => ?_)
        · have hw := hw.1 c_6
          refine lv_iconst (v := (1 : Int32)) hx hb dX2_bears_47 (by decide) ?_
          refine lv_goto (tgt := 52) hx hb dX2_bears_48 (by decide) ?_
          exact m_retz F hr hlk I dX2_bears_52 ⟨hw, by decide⟩
        · have hw := hw.2 c_6
          refine lv_iload_n hx hb dX2_bears_35 rfl (lv_at hl 2 rfl) ?_
          refine lv_bipush (v := (6 : Int32)) hx hb dX2_bears_36 (by decide) ?_
          refine lv_icmp_ne (tgt := 51) hx hb dX2_bears_38 (by decide) (fun c_7 => ?_) (fun c_7 => ?_)
          · have hw := hw.1 c_7
            refine lv_iconst (v := (0 : Int32)) hx hb dX2_bears_51 (by decide) ?_
            exact m_retz F hr hlk I dX2_bears_52 ⟨hw, by decide⟩
          · have hw := hw.2 c_7
            refine lv_iload hx hb dX2_bears_41 (lv_at hl 0 rfl) ?_
            refine lv_iconst (v := (1 : Int32)) hx hb dX2_bears_43 (by decide) ?_
            refine lv_icmp_ne (tgt := 51) hx hb dX2_bears_44 (by decide) (fun c_8 => ?_) (fun c_8 => ?_)
            · have hw := hw.1 c_8
              refine lv_iconst (v := (0 : Int32)) hx hb dX2_bears_51 (by decide) ?_
              exact m_retz F hr hlk I dX2_bears_52 ⟨hw, by decide⟩
            · have hw := hw.2 c_8
              refine lv_iconst (v := (1 : Int32)) hx hb dX2_bears_47 (by decide) ?_
              refine lv_goto (tgt := 52) hx hb dX2_bears_48 (by decide) ?_
              exact m_retz F hr hlk I dX2_bears_52 ⟨hw, by decide⟩
    · have hw := hw.2 (fun q => c_3 ((lg_cmp_ge _ _).mpr q))
      refine lv_iconst (v := (1 : Int32)) hx hb dX2_bears_13 (by decide) ?_
      exact m_retz F hr hlk I dX2_bears_14 ⟨hw, by decide⟩
abbrev rm_X2_shoot : Room := { frames := 2, cells := 0, slots := 0, locals := 44 }
def wp_X2_shoot (p0 : Int32) (p1 : Int32) (p2 : Int32) (p3 : Int32) (S : mS) (K : Int32 → mS → Prop) : Prop := wp_X2_begin  (S.si 23 (0 : Int32)) (fun S2 => ((p2 < 0 → wp_X2_told ((6 : Int32)) S2 (fun r5 S6 => K (r5) S6)) ∧ (¬ p2 < 0 → ((p2 ≤ (3 : Int32) → wp_X2_noReel (p0) S2 (fun r8 S9 => ((r8 ≤ 0 → (vp_in (p0) 8 ∧ (vp_in ((S9.ia 5 (p0).toNatClampNeg)) 513 ∧ wp_X2_isOfNumbers ((S9.ia 1 ((S9.ia 5 (p0).toNatClampNeg)).toNatClampNeg)) (fun r13 => ((r13 = 0 → (((3 : Int32) ≤ p2 → ((p1 < 0 → wp_X2_told ((4 : Int32)) S9 (fun r17 S18 => K (r17) S18)) ∧ (¬ p1 < 0 → (vp_in ((S9.ia 5 (p0).toNatClampNeg)) 513 ∧ ((p1 < (S9.ia 2 ((S9.ia 5 (p0).toNatClampNeg)).toNatClampNeg) → (vp_in ((S9.ia 5 (p0).toNatClampNeg)) 513 ∧ wp_X2_bears ((S9.ia 1 ((S9.ia 5 (p0).toNatClampNeg)).toNatClampNeg)) ((-1 : Int64)) S9 (fun r22 S23 => ((¬ r22 = 0 → (vp_in ((((24 : Int32) * (S9.ia 5 (p0).toNatClampNeg)) + p1)) 12312 ∧ wp_X2_told ((0 : Int32)) ((S23.sl 3 ((((24 : Int32) * (S9.ia 5 (p0).toNatClampNeg)) + p1)).toNatClampNeg ((-1 : Int64))).si 16 (0 : Int32)) (fun r26 S27 => K (r26) S27))) ∧ (r22 = 0 → wp_X2_told ((5 : Int32)) S23 (fun r28 S29 => K (r28) S29)))))) ∧ (¬ p1 < (S9.ia 2 ((S9.ia 5 (p0).toNatClampNeg)).toNatClampNeg) → wp_X2_told ((4 : Int32)) S9 (fun r30 S31 => K (r30) S31))))))) ∧ (¬ (3 : Int32) ≤ p2 → (vp_in ((S9.fi 10)) 513 ∧ (vp_in ((S9.fi 10)) 513 ∧ ((p1 < 0 → wp_X2_told ((4 : Int32)) (((S9.sa 8 ((S9.fi 10)).toNatClampNeg (p2)).sa 7 ((S9.fi 10)).toNatClampNeg (p3)).si 10 (((S9.fi 10) + (1 : Int32)))) (fun r35 S36 => K (r35) S36)) ∧ (¬ p1 < 0 → (vp_in ((S9.ia 5 (p0).toNatClampNeg)) 513 ∧ ((p1 < (S9.ia 2 ((S9.ia 5 (p0).toNatClampNeg)).toNatClampNeg) → (vp_in ((S9.ia 5 (p0).toNatClampNeg)) 513 ∧ wp_X2_bears ((S9.ia 1 ((S9.ia 5 (p0).toNatClampNeg)).toNatClampNeg)) (((S9.fi 10)).toInt64) (((S9.sa 8 ((S9.fi 10)).toNatClampNeg (p2)).sa 7 ((S9.fi 10)).toNatClampNeg (p3)).si 10 (((S9.fi 10) + (1 : Int32)))) (fun r40 S41 => ((¬ r40 = 0 → (vp_in ((((24 : Int32) * (S9.ia 5 (p0).toNatClampNeg)) + p1)) 12312 ∧ wp_X2_told ((0 : Int32)) ((S41.sl 3 ((((24 : Int32) * (S9.ia 5 (p0).toNatClampNeg)) + p1)).toNatClampNeg (((S9.fi 10)).toInt64)).si 16 (0 : Int32)) (fun r44 S45 => K (r44) S45))) ∧ (r40 = 0 → wp_X2_told ((5 : Int32)) S41 (fun r46 S47 => K (r46) S47)))))) ∧ (¬ p1 < (S9.ia 2 ((S9.ia 5 (p0).toNatClampNeg)).toNatClampNeg) → wp_X2_told ((4 : Int32)) (((S9.sa 8 ((S9.fi 10)).toNatClampNeg (p2)).sa 7 ((S9.fi 10)).toNatClampNeg (p3)).si 10 (((S9.fi 10) + (1 : Int32)))) (fun r48 S49 => K (r48) S49))))))))))) ∧ (¬ r13 = 0 → wp_X2_told ((3 : Int32)) S9 (fun r50 S51 => K (r50) S51))))))) ∧ (¬ r8 ≤ 0 → wp_X2_told (r8) S9 (fun r52 S53 => K (r52) S53))))) ∧ (¬ p2 ≤ (3 : Int32) → wp_X2_told ((6 : Int32)) S2 (fun r55 S56 => K (r55) S56))))))
set_option maxHeartbeats 4000000 in
set_option maxRecDepth 100000 in
theorem c_X2_shoot {l : Launch} {D : va_G} {cI cJ : ClassId} {h : Nat → Nat} (p0 : Int32) (p1 : Int32) (p2 : Int32) (p3 : Int32) (S : mS) (K : Int32 → mS → Prop) (hw : wp_X2_shoot p0 p1 p2 p3 S K) : mMi l D cI cJ h yX2_shoot wsX2_shoot rm_X2_shoot [.ref (h 0), .int (p0), .int (p1), .int (p2), .int (p3)] K S := by
  refine m_starti (rt := some .int) (by decide) rfl rfl (Nat.le_of_ble_eq_true rfl) ?_
  intro p e s m below meth c A ls F hr hlk I hl
  have hin : ∀ w ∈ u_ws RX2 TX2 24, w ∈ wsX2_shoot := by decide +kernel
  obtain ⟨hx, hb, hml, hown, hts⟩ := id F
  have hl : lv_has ls 9 [(0, .ref (h 0)), (1, .int (p0)), (2, .int (p1)), (3, .int (p2)), (4, .int (p3))] := hl
  unfold wp_X2_shoot at hw
  refine lv_aload_n hx hb dX2_shoot_0 rfl (lv_at hl 0 rfl) ?_
  refine lv_iconst (v := (0 : Int32)) hx hb dX2_shoot_1 (by decide) ?_
  refine m_put F hin I 23 (by decide) (hts (.fieldLink RX2 44 "CuttingTableModel" "thrown" "I") (by decide +kernel)) dX2_shoot_2 (fun H locs I => ?_)
  refine lv_aload_n hx hb dX2_shoot_5 rfl (lv_at hl 0 rfl) ?_
  refine m_callv (rest := []) F I (c_X2_begin  _ _ hw) (cwV 0 hts gX2_shoot_X2_begin rfl rfl rfl (by decide +kernel) ⟨Nat.le_of_ble_eq_true rfl, Nat.le_of_ble_eq_true rfl⟩) rfl hl.1 rfl (Nat.le_of_ble_eq_true rfl) dX2_shoot_6 ⟨Nat.zero_le _, Nat.zero_le _⟩ (fun S2 H locs hw I => ?_)
  refine lv_iload_n hx hb dX2_shoot_9 rfl (lv_at hl 3 rfl) ?_
  refine lv_if_lt (tgt := 18) hx hb dX2_shoot_10 (by decide) (fun c_3 => ?_) (fun c_3 => ?_)
  · have hw := hw.1 c_3
    refine lv_bipush (v := (6 : Int32)) hx hb dX2_shoot_18 (by decide) ?_
    refine lv_goto (tgt := 28) hx hb dX2_shoot_20 (by decide) ?_
    refine lv_istore (lv' := [(5, .int ((6 : Int32))), (0, .ref (h 0)), (1, .int (p0)), (2, .int (p1)), (3, .int (p2)), (4, .int (p3))]) hx hb dX2_shoot_28 hl (by decide) rfl (fun ls hl => ?_)
    refine lv_iload hx hb dX2_shoot_30 (lv_at hl 0 rfl) ?_
    refine lv_if_le (tgt := 42) hx hb dX2_shoot_32 (by decide) (fun c_4 => ?_) (fun c_4 => ?_)
    · exact absurd c_4 (by decide)
    · refine lv_aload_n hx hb dX2_shoot_35 rfl (lv_at hl 1 rfl) ?_
      refine lv_iload hx hb dX2_shoot_36 (lv_at hl 0 rfl) ?_
      refine m_calli (rest := []) F I (c_X2_told ((6 : Int32)) _ _ hw) (cwV 1 hts gX2_shoot_X2_told rfl rfl rfl (by decide +kernel) ⟨Nat.le_of_ble_eq_true rfl, Nat.le_of_ble_eq_true rfl⟩) rfl hl.1 rfl (Nat.le_of_ble_eq_true rfl) dX2_shoot_38 ⟨Nat.zero_le _, Nat.zero_le _⟩ (fun r5 S6 H locs hw I => ?_)
      exact m_reti F hr hlk I dX2_shoot_41 hw
  · have hw := hw.2 c_3
    refine lv_iload_n hx hb dX2_shoot_13 rfl (lv_at hl 3 rfl) ?_
    refine lv_iconst (v := (3 : Int32)) hx hb dX2_shoot_14 (by decide) ?_
    refine lv_icmp_le (tgt := 23) hx hb dX2_shoot_15 (by decide) (fun c_7 => ?_) (fun c_7 => ?_)
    · have hw := hw.1 c_7
      refine lv_aload_n hx hb dX2_shoot_23 rfl (lv_at hl 0 rfl) ?_
      refine lv_iload_n hx hb dX2_shoot_24 rfl (lv_at hl 1 rfl) ?_
      refine m_calli (rest := []) F I (c_X2_noReel (p0) _ _ hw) (cwV 1 hts gX2_shoot_X2_noReel rfl rfl rfl (by decide +kernel) ⟨Nat.le_of_ble_eq_true rfl, Nat.le_of_ble_eq_true rfl⟩) rfl hl.1 rfl (Nat.le_of_ble_eq_true rfl) dX2_shoot_25 ⟨Nat.zero_le _, Nat.zero_le _⟩ (fun r8 S9 H locs hw I => ?_)
      refine lv_istore (lv' := [(5, .int (r8)), (0, .ref (h 0)), (1, .int (p0)), (2, .int (p1)), (3, .int (p2)), (4, .int (p3))]) hx hb dX2_shoot_28 hl (by decide) rfl (fun ls hl => ?_)
      refine lv_iload hx hb dX2_shoot_30 (lv_at hl 0 rfl) ?_
      refine lv_if_le (tgt := 42) hx hb dX2_shoot_32 (by decide) (fun c_10 => ?_) (fun c_10 => ?_)
      · have hw := hw.1 c_10
        refine lv_aload_n hx hb dX2_shoot_42 rfl (lv_at hl 1 rfl) ?_
        refine m_get F hin I 5 (by decide) (v := .ref (h 5)) rfl (hts (.fieldLink RX2 23 "CuttingTableModel" "which" "[I") (by decide +kernel)) dX2_shoot_43 ?_
        refine lv_iload_n hx hb dX2_shoot_46 rfl (lv_at hl 2 rfl) ?_
        obtain ⟨hi11, hw⟩ := hw
        refine m_iald F I 5 8 (by decide) hi11 dX2_shoot_47 ?_
        refine lv_istore (lv' := [(6, .int ((S9.ia 5 (p0).toNatClampNeg))), (5, .int (r8)), (0, .ref (h 0)), (1, .int (p0)), (2, .int (p1)), (3, .int (p2)), (4, .int (p3))]) hx hb dX2_shoot_48 hl (by decide) rfl (fun ls hl => ?_)
        refine lv_aload_n hx hb dX2_shoot_50 rfl (lv_at hl 2 rfl) ?_
        refine m_get F hin I 0 (by decide) (v := .ref (h 1)) rfl (hts (.fieldLink RX2 7 "CuttingTableModel" "stocks" "[I") (by decide +kernel)) dX2_shoot_51 ?_
        refine lv_iload hx hb dX2_shoot_54 (lv_at hl 0 rfl) ?_
        obtain ⟨hi12, hw⟩ := hw
        refine m_iald F I 1 513 (by decide) hi12 dX2_shoot_56 ?_
        refine s_calli (rest := []) F (c_X2_isOfNumbers ((S9.ia 1 ((S9.ia 5 (p0).toNatClampNeg)).toNatClampNeg)) _ hw) (va_cwS 1 hts gX2_shoot_X2_isOfNumbers rfl rfl rfl (by decide +kernel) ⟨Nat.le_of_ble_eq_true rfl, Nat.le_of_ble_eq_true rfl⟩) rfl hl.1 rfl (Nat.le_of_ble_eq_true rfl) dX2_shoot_57 ⟨Nat.zero_le _, Nat.zero_le _⟩ (fun r13 hw => ?_)
        refine lv_if_eq (tgt := 69) hx hb dX2_shoot_60 (by decide) (fun c_14 => ?_) (fun c_14 => ?_)
        · have hw := hw.1 c_14
          refine lv_ldc2 hx hb hown (hts (.constantLong RX2 64 (-1)) (by decide +kernel)) dX2_shoot_69 ?_
          refine lv_lstore (lv' := [(7, .long ((-1 : Int64))), (6, .int ((S9.ia 5 (p0).toNatClampNeg))), (5, .int (r8)), (0, .ref (h 0)), (1, .int (p0)), (2, .int (p1)), (3, .int (p2)), (4, .int (p3))]) hx hb dX2_shoot_72 hl (by decide) rfl (fun ls hl => ?_)
          refine lv_iload_n hx hb dX2_shoot_74 rfl (lv_at hl 6 rfl) ?_
          refine lv_iconst (v := (3 : Int32)) hx hb dX2_shoot_75 (by decide) ?_
          refine lv_icmp_ge (tgt := 117) hx hb dX2_shoot_76 (by decide) (fun c_15 => ?_) (fun c_15 => ?_)
          · have hw := hw.1 c_15
            refine lv_iload_n hx hb dX2_shoot_117 rfl (lv_at hl 5 rfl) ?_
            refine lv_if_lt (tgt := 132) hx hb dX2_shoot_118 (by decide) (fun c_16 => ?_) (fun c_16 => ?_)
            · have hw := hw.1 c_16
              refine lv_aload_n hx hb dX2_shoot_132 rfl (lv_at hl 3 rfl) ?_
              refine lv_iconst (v := (4 : Int32)) hx hb dX2_shoot_133 (by decide) ?_
              refine m_calli (rest := []) F I (c_X2_told ((4 : Int32)) _ _ hw) (cwV 1 hts gX2_shoot_X2_told rfl rfl rfl (by decide +kernel) ⟨Nat.le_of_ble_eq_true rfl, Nat.le_of_ble_eq_true rfl⟩) rfl hl.1 rfl (Nat.le_of_ble_eq_true rfl) dX2_shoot_134 ⟨Nat.zero_le _, Nat.zero_le _⟩ (fun r17 S18 H locs hw I => ?_)
              exact m_reti F hr hlk I dX2_shoot_137 hw
            · have hw := hw.2 c_16
              refine lv_iload_n hx hb dX2_shoot_121 rfl (lv_at hl 5 rfl) ?_
              refine lv_aload_n hx hb dX2_shoot_122 rfl (lv_at hl 3 rfl) ?_
              refine m_get F hin I 1 (by decide) (v := .ref (h 2)) rfl (hts (.fieldLink RX2 13 "CuttingTableModel" "sizes" "[I") (by decide +kernel)) dX2_shoot_123 ?_
              refine lv_iload hx hb dX2_shoot_126 (lv_at hl 1 rfl) ?_
              obtain ⟨hi19, hw⟩ := hw
              refine m_iald F I 2 513 (by decide) hi19 dX2_shoot_128 ?_
              refine lv_icmp_lt (tgt := 138) hx hb dX2_shoot_129 (by decide) (fun c_20 => ?_) (fun c_20 => ?_)
              · have hw := hw.1 c_20
                refine lv_aload_n hx hb dX2_shoot_138 rfl (lv_at hl 3 rfl) ?_
                refine lv_aload_n hx hb dX2_shoot_139 rfl (lv_at hl 3 rfl) ?_
                refine m_get F hin I 0 (by decide) (v := .ref (h 1)) rfl (hts (.fieldLink RX2 7 "CuttingTableModel" "stocks" "[I") (by decide +kernel)) dX2_shoot_140 ?_
                refine lv_iload hx hb dX2_shoot_143 (lv_at hl 1 rfl) ?_
                obtain ⟨hi21, hw⟩ := hw
                refine m_iald F I 1 513 (by decide) hi21 dX2_shoot_145 ?_
                refine lv_lload hx hb dX2_shoot_146 (lv_at hl 0 rfl) ?_
                refine m_calli (rest := []) F I (c_X2_bears ((S9.ia 1 ((S9.ia 5 (p0).toNatClampNeg)).toNatClampNeg)) ((-1 : Int64)) _ _ hw) (cwV 2 hts gX2_shoot_X2_bears rfl rfl rfl (by decide +kernel) ⟨Nat.le_of_ble_eq_true rfl, Nat.le_of_ble_eq_true rfl⟩) rfl hl.1 rfl (Nat.le_of_ble_eq_true rfl) dX2_shoot_148 ⟨Nat.zero_le _, Nat.zero_le _⟩ (fun r22 S23 H locs hw I => ?_)
                refine lv_if_ne (tgt := 160) hx hb dX2_shoot_151 (by decide) (fun c_24 => ?_) (fun c_24 => ?_)
                · have hw := hw.1 c_24
                  refine lv_aload_n hx hb dX2_shoot_160 rfl (lv_at hl 3 rfl) ?_
                  refine m_get F hin I 2 (by decide) (v := .ref (h 3)) rfl (hts (.fieldLink RX2 16 "CuttingTableModel" "cells" "[J") (by decide +kernel)) dX2_shoot_161 ?_
                  refine lv_bipush (v := (24 : Int32)) hx hb dX2_shoot_164 (by decide) ?_
                  refine lv_iload hx hb dX2_shoot_166 (lv_at hl 1 rfl) ?_
                  refine lv_imul hx hb dX2_shoot_168 ?_
                  refine lv_iload_n hx hb dX2_shoot_169 rfl (lv_at hl 5 rfl) ?_
                  refine lv_iadd hx hb dX2_shoot_170 ?_
                  refine lv_lload hx hb dX2_shoot_171 (lv_at hl 0 rfl) ?_
                  obtain ⟨hi25, hw⟩ := hw
                  refine m_last F I 3 12312 (by decide) hi25 dX2_shoot_173 (fun H locs I => ?_)
                  refine lv_aload_n hx hb dX2_shoot_174 rfl (lv_at hl 3 rfl) ?_
                  refine lv_iconst (v := (0 : Int32)) hx hb dX2_shoot_175 (by decide) ?_
                  refine m_put F hin I 16 (by decide) (hts (.fieldLink RX2 96 "CuttingTableModel" "binMany" "I") (by decide +kernel)) dX2_shoot_176 (fun H locs I => ?_)
                  refine lv_aload_n hx hb dX2_shoot_179 rfl (lv_at hl 3 rfl) ?_
                  refine lv_iconst (v := (0 : Int32)) hx hb dX2_shoot_180 (by decide) ?_
                  refine m_calli (rest := []) F I (c_X2_told ((0 : Int32)) _ _ hw) (cwV 1 hts gX2_shoot_X2_told rfl rfl rfl (by decide +kernel) ⟨Nat.le_of_ble_eq_true rfl, Nat.le_of_ble_eq_true rfl⟩) rfl hl.1 rfl (Nat.le_of_ble_eq_true rfl) dX2_shoot_181 ⟨Nat.zero_le _, Nat.zero_le _⟩ (fun r26 S27 H locs hw I => ?_)
                  exact m_reti F hr hlk I dX2_shoot_184 hw
                · have hw := hw.2 c_24
                  refine lv_aload_n hx hb dX2_shoot_154 rfl (lv_at hl 3 rfl) ?_
                  refine lv_iconst (v := (5 : Int32)) hx hb dX2_shoot_155 (by decide) ?_
                  refine m_calli (rest := []) F I (c_X2_told ((5 : Int32)) _ _ hw) (cwV 1 hts gX2_shoot_X2_told rfl rfl rfl (by decide +kernel) ⟨Nat.le_of_ble_eq_true rfl, Nat.le_of_ble_eq_true rfl⟩) rfl hl.1 rfl (Nat.le_of_ble_eq_true rfl) dX2_shoot_156 ⟨Nat.zero_le _, Nat.zero_le _⟩ (fun r28 S29 H locs hw I => ?_)
                  exact m_reti F hr hlk I dX2_shoot_159 hw
              · have hw := hw.2 c_20
                refine lv_aload_n hx hb dX2_shoot_132 rfl (lv_at hl 3 rfl) ?_
                refine lv_iconst (v := (4 : Int32)) hx hb dX2_shoot_133 (by decide) ?_
                refine m_calli (rest := []) F I (c_X2_told ((4 : Int32)) _ _ hw) (cwV 1 hts gX2_shoot_X2_told rfl rfl rfl (by decide +kernel) ⟨Nat.le_of_ble_eq_true rfl, Nat.le_of_ble_eq_true rfl⟩) rfl hl.1 rfl (Nat.le_of_ble_eq_true rfl) dX2_shoot_134 ⟨Nat.zero_le _, Nat.zero_le _⟩ (fun r30 S31 H locs hw I => ?_)
                exact m_reti F hr hlk I dX2_shoot_137 hw
          · have hw := hw.2 c_15
            refine lv_aload_n hx hb dX2_shoot_79 rfl (lv_at hl 3 rfl) ?_
            refine m_get F hin I 9 (by decide) (v := .ref (h 8)) rfl (hts (.fieldLink RX2 32 "CuttingTableModel" "shotKinds" "[I") (by decide +kernel)) dX2_shoot_80 ?_
            refine lv_aload_n hx hb dX2_shoot_83 rfl (lv_at hl 3 rfl) ?_
            refine m_get F hin I 10 (by decide) (v := .int ((S9.fi 10))) rfl (hts (.fieldLink RX2 99 "CuttingTableModel" "shots" "I") (by decide +kernel)) dX2_shoot_84 ?_
            refine lv_iload_n hx hb dX2_shoot_87 rfl (lv_at hl 6 rfl) ?_
            obtain ⟨hi32, hw⟩ := hw
            refine m_iast F I 8 513 (by decide) hi32 dX2_shoot_88 (fun H locs I => ?_)
            refine lv_aload_n hx hb dX2_shoot_89 rfl (lv_at hl 3 rfl) ?_
            refine m_get F hin I 8 (by decide) (v := .ref (h 7)) rfl (hts (.fieldLink RX2 29 "CuttingTableModel" "shotNumbers" "[I") (by decide +kernel)) dX2_shoot_90 ?_
            refine lv_aload_n hx hb dX2_shoot_93 rfl (lv_at hl 3 rfl) ?_
            refine m_get F hin I 10 (by decide) (v := .int ((S9.fi 10))) rfl (hts (.fieldLink RX2 99 "CuttingTableModel" "shots" "I") (by decide +kernel)) dX2_shoot_94 ?_
            refine lv_iload hx hb dX2_shoot_97 (lv_at hl 7 rfl) ?_
            obtain ⟨hi33, hw⟩ := hw
            refine m_iast F I 7 513 (by decide) hi33 dX2_shoot_99 (fun H locs I => ?_)
            refine lv_aload_n hx hb dX2_shoot_100 rfl (lv_at hl 3 rfl) ?_
            refine m_get F hin I 10 (by decide) (v := .int ((S9.fi 10))) rfl (hts (.fieldLink RX2 99 "CuttingTableModel" "shots" "I") (by decide +kernel)) dX2_shoot_101 ?_
            refine lv_i2l hx hb dX2_shoot_104 rfl ?_
            refine lv_lstore (lv' := [(7, .long (((S9.fi 10)).toInt64)), (6, .int ((S9.ia 5 (p0).toNatClampNeg))), (5, .int (r8)), (0, .ref (h 0)), (1, .int (p0)), (2, .int (p1)), (3, .int (p2)), (4, .int (p3))]) hx hb dX2_shoot_105 hl (by decide) rfl (fun ls hl => ?_)
            refine lv_aload_n hx hb dX2_shoot_107 rfl (lv_at hl 3 rfl) ?_
            refine lv_dup hx hb dX2_shoot_108 rfl ?_
            refine m_get F hin I 10 (by decide) (v := .int ((S9.fi 10))) rfl (hts (.fieldLink RX2 99 "CuttingTableModel" "shots" "I") (by decide +kernel)) dX2_shoot_109 ?_
            refine lv_iconst (v := (1 : Int32)) hx hb dX2_shoot_112 (by decide) ?_
            refine lv_iadd hx hb dX2_shoot_113 ?_
            refine m_put F hin I 10 (by decide) (hts (.fieldLink RX2 99 "CuttingTableModel" "shots" "I") (by decide +kernel)) dX2_shoot_114 (fun H locs I => ?_)
            refine lv_iload_n hx hb dX2_shoot_117 rfl (lv_at hl 5 rfl) ?_
            refine lv_if_lt (tgt := 132) hx hb dX2_shoot_118 (by decide) (fun c_34 => ?_) (fun c_34 => ?_)
            · have hw := hw.1 c_34
              refine lv_aload_n hx hb dX2_shoot_132 rfl (lv_at hl 3 rfl) ?_
              refine lv_iconst (v := (4 : Int32)) hx hb dX2_shoot_133 (by decide) ?_
              refine m_calli (rest := []) F I (c_X2_told ((4 : Int32)) _ _ hw) (cwV 1 hts gX2_shoot_X2_told rfl rfl rfl (by decide +kernel) ⟨Nat.le_of_ble_eq_true rfl, Nat.le_of_ble_eq_true rfl⟩) rfl hl.1 rfl (Nat.le_of_ble_eq_true rfl) dX2_shoot_134 ⟨Nat.zero_le _, Nat.zero_le _⟩ (fun r35 S36 H locs hw I => ?_)
              exact m_reti F hr hlk I dX2_shoot_137 hw
            · have hw := hw.2 c_34
              refine lv_iload_n hx hb dX2_shoot_121 rfl (lv_at hl 5 rfl) ?_
              refine lv_aload_n hx hb dX2_shoot_122 rfl (lv_at hl 3 rfl) ?_
              refine m_get F hin I 1 (by decide) (v := .ref (h 2)) rfl (hts (.fieldLink RX2 13 "CuttingTableModel" "sizes" "[I") (by decide +kernel)) dX2_shoot_123 ?_
              refine lv_iload hx hb dX2_shoot_126 (lv_at hl 1 rfl) ?_
              obtain ⟨hi37, hw⟩ := hw
              refine m_iald F I 2 513 (by decide) hi37 dX2_shoot_128 ?_
              refine W.eq (g2 := F0 m 129 ls [.int ((S9.ia 2 ((S9.ia 5 (p0).toNatClampNeg)).toNatClampNeg)), .int (p1)]) rfl ?_
              refine lv_icmp_lt (tgt := 138) hx hb dX2_shoot_129 (by decide) (fun c_38 => ?_) (fun c_38 => ?_)
              · have hw := hw.1 c_38
                refine lv_aload_n hx hb dX2_shoot_138 rfl (lv_at hl 3 rfl) ?_
                refine lv_aload_n hx hb dX2_shoot_139 rfl (lv_at hl 3 rfl) ?_
                refine m_get F hin I 0 (by decide) (v := .ref (h 1)) rfl (hts (.fieldLink RX2 7 "CuttingTableModel" "stocks" "[I") (by decide +kernel)) dX2_shoot_140 ?_
                refine lv_iload hx hb dX2_shoot_143 (lv_at hl 1 rfl) ?_
                obtain ⟨hi39, hw⟩ := hw
                refine m_iald F I 1 513 (by decide) hi39 dX2_shoot_145 ?_
                refine W.eq (g2 := F0 m 146 ls [.int ((S9.ia 1 ((S9.ia 5 (p0).toNatClampNeg)).toNatClampNeg)), .ref (h 0)]) rfl ?_
                refine lv_lload hx hb dX2_shoot_146 (lv_at hl 0 rfl) ?_
                refine m_calli (rest := []) F I (c_X2_bears ((S9.ia 1 ((S9.ia 5 (p0).toNatClampNeg)).toNatClampNeg)) (((S9.fi 10)).toInt64) _ _ hw) (cwV 2 hts gX2_shoot_X2_bears rfl rfl rfl (by decide +kernel) ⟨Nat.le_of_ble_eq_true rfl, Nat.le_of_ble_eq_true rfl⟩) rfl hl.1 rfl (Nat.le_of_ble_eq_true rfl) dX2_shoot_148 ⟨Nat.zero_le _, Nat.zero_le _⟩ (fun r40 S41 H locs hw I => ?_)
                refine lv_if_ne (tgt := 160) hx hb dX2_shoot_151 (by decide) (fun c_42 => ?_) (fun c_42 => ?_)
                · have hw := hw.1 c_42
                  refine lv_aload_n hx hb dX2_shoot_160 rfl (lv_at hl 3 rfl) ?_
                  refine m_get F hin I 2 (by decide) (v := .ref (h 3)) rfl (hts (.fieldLink RX2 16 "CuttingTableModel" "cells" "[J") (by decide +kernel)) dX2_shoot_161 ?_
                  refine lv_bipush (v := (24 : Int32)) hx hb dX2_shoot_164 (by decide) ?_
                  refine lv_iload hx hb dX2_shoot_166 (lv_at hl 1 rfl) ?_
                  refine lv_imul hx hb dX2_shoot_168 ?_
                  refine lv_iload_n hx hb dX2_shoot_169 rfl (lv_at hl 5 rfl) ?_
                  refine lv_iadd hx hb dX2_shoot_170 ?_
                  refine lv_lload hx hb dX2_shoot_171 (lv_at hl 0 rfl) ?_
                  obtain ⟨hi43, hw⟩ := hw
                  refine m_last F I 3 12312 (by decide) hi43 dX2_shoot_173 (fun H locs I => ?_)
                  refine lv_aload_n hx hb dX2_shoot_174 rfl (lv_at hl 3 rfl) ?_
                  refine lv_iconst (v := (0 : Int32)) hx hb dX2_shoot_175 (by decide) ?_
                  refine m_put F hin I 16 (by decide) (hts (.fieldLink RX2 96 "CuttingTableModel" "binMany" "I") (by decide +kernel)) dX2_shoot_176 (fun H locs I => ?_)
                  refine lv_aload_n hx hb dX2_shoot_179 rfl (lv_at hl 3 rfl) ?_
                  refine lv_iconst (v := (0 : Int32)) hx hb dX2_shoot_180 (by decide) ?_
                  refine m_calli (rest := []) F I (c_X2_told ((0 : Int32)) _ _ hw) (cwV 1 hts gX2_shoot_X2_told rfl rfl rfl (by decide +kernel) ⟨Nat.le_of_ble_eq_true rfl, Nat.le_of_ble_eq_true rfl⟩) rfl hl.1 rfl (Nat.le_of_ble_eq_true rfl) dX2_shoot_181 ⟨Nat.zero_le _, Nat.zero_le _⟩ (fun r44 S45 H locs hw I => ?_)
                  exact m_reti F hr hlk I dX2_shoot_184 hw
                · have hw := hw.2 c_42
                  refine lv_aload_n hx hb dX2_shoot_154 rfl (lv_at hl 3 rfl) ?_
                  refine lv_iconst (v := (5 : Int32)) hx hb dX2_shoot_155 (by decide) ?_
                  refine m_calli (rest := []) F I (c_X2_told ((5 : Int32)) _ _ hw) (cwV 1 hts gX2_shoot_X2_told rfl rfl rfl (by decide +kernel) ⟨Nat.le_of_ble_eq_true rfl, Nat.le_of_ble_eq_true rfl⟩) rfl hl.1 rfl (Nat.le_of_ble_eq_true rfl) dX2_shoot_156 ⟨Nat.zero_le _, Nat.zero_le _⟩ (fun r46 S47 H locs hw I => ?_)
                  exact m_reti F hr hlk I dX2_shoot_159 hw
              · have hw := hw.2 c_38
                refine lv_aload_n hx hb dX2_shoot_132 rfl (lv_at hl 3 rfl) ?_
                refine lv_iconst (v := (4 : Int32)) hx hb dX2_shoot_133 (by decide) ?_
                refine m_calli (rest := []) F I (c_X2_told ((4 : Int32)) _ _ hw) (cwV 1 hts gX2_shoot_X2_told rfl rfl rfl (by decide +kernel) ⟨Nat.le_of_ble_eq_true rfl, Nat.le_of_ble_eq_true rfl⟩) rfl hl.1 rfl (Nat.le_of_ble_eq_true rfl) dX2_shoot_134 ⟨Nat.zero_le _, Nat.zero_le _⟩ (fun r48 S49 H locs hw I => ?_)
                exact m_reti F hr hlk I dX2_shoot_137 hw
        · have hw := hw.2 c_14
          refine lv_aload_n hx hb dX2_shoot_63 rfl (lv_at hl 2 rfl) ?_
          refine lv_iconst (v := (3 : Int32)) hx hb dX2_shoot_64 (by decide) ?_
          refine m_calli (rest := []) F I (c_X2_told ((3 : Int32)) _ _ hw) (cwV 1 hts gX2_shoot_X2_told rfl rfl rfl (by decide +kernel) ⟨Nat.le_of_ble_eq_true rfl, Nat.le_of_ble_eq_true rfl⟩) rfl hl.1 rfl (Nat.le_of_ble_eq_true rfl) dX2_shoot_65 ⟨Nat.zero_le _, Nat.zero_le _⟩ (fun r50 S51 H locs hw I => ?_)
          exact m_reti F hr hlk I dX2_shoot_68 hw
      · have hw := hw.2 c_10
        refine lv_aload_n hx hb dX2_shoot_35 rfl (lv_at hl 1 rfl) ?_
        refine lv_iload hx hb dX2_shoot_36 (lv_at hl 0 rfl) ?_
        refine m_calli (rest := []) F I (c_X2_told (r8) _ _ hw) (cwV 1 hts gX2_shoot_X2_told rfl rfl rfl (by decide +kernel) ⟨Nat.le_of_ble_eq_true rfl, Nat.le_of_ble_eq_true rfl⟩) rfl hl.1 rfl (Nat.le_of_ble_eq_true rfl) dX2_shoot_38 ⟨Nat.zero_le _, Nat.zero_le _⟩ (fun r52 S53 H locs hw I => ?_)
        exact m_reti F hr hlk I dX2_shoot_41 hw
    · have hw := hw.2 c_7
      refine lv_bipush (v := (6 : Int32)) hx hb dX2_shoot_18 (by decide) ?_
      refine lv_goto (tgt := 28) hx hb dX2_shoot_20 (by decide) ?_
      refine lv_istore (lv' := [(5, .int ((6 : Int32))), (0, .ref (h 0)), (1, .int (p0)), (2, .int (p1)), (3, .int (p2)), (4, .int (p3))]) hx hb dX2_shoot_28 hl (by decide) rfl (fun ls hl => ?_)
      refine lv_iload hx hb dX2_shoot_30 (lv_at hl 0 rfl) ?_
      refine lv_if_le (tgt := 42) hx hb dX2_shoot_32 (by decide) (fun c_54 => ?_) (fun c_54 => ?_)
      · exact absurd c_54 (by decide)
      · refine lv_aload_n hx hb dX2_shoot_35 rfl (lv_at hl 1 rfl) ?_
        refine lv_iload hx hb dX2_shoot_36 (lv_at hl 0 rfl) ?_
        refine m_calli (rest := []) F I (c_X2_told ((6 : Int32)) _ _ hw) (cwV 1 hts gX2_shoot_X2_told rfl rfl rfl (by decide +kernel) ⟨Nat.le_of_ble_eq_true rfl, Nat.le_of_ble_eq_true rfl⟩) rfl hl.1 rfl (Nat.le_of_ble_eq_true rfl) dX2_shoot_38 ⟨Nat.zero_le _, Nat.zero_le _⟩ (fun r55 S56 H locs hw I => ?_)
        exact m_reti F hr hlk I dX2_shoot_41 hw
abbrev rm_X2_wayOf : Room := { frames := 0, cells := 0, slots := 0, locals := 0 }
def wp_X2_wayOf (p0 : Int64) (p1 : Int64) (p2 : Int64) (p3 : Int32) (p4 : Int32) (K : Int32 → Prop) : Prop := (((0 : Int64) ≤ p0 → (((0 : Int64) ≤ p1 → (((0 : Int64) ≤ p2 → (((p0 + p2) ≤ (p3).toInt64 → (((p1 + p2) ≤ (p4).toInt64 → K ((0 : Int32))) ∧ (¬ (p1 + p2) ≤ (p4).toInt64 → K ((5 : Int32))))) ∧ (¬ (p0 + p2) ≤ (p3).toInt64 → K ((4 : Int32))))) ∧ (¬ (0 : Int64) ≤ p2 → K ((3 : Int32))))) ∧ (¬ (0 : Int64) ≤ p1 → K ((2 : Int32))))) ∧ (¬ (0 : Int64) ≤ p0 → K ((1 : Int32))))
set_option maxHeartbeats 4000000 in
set_option maxRecDepth 100000 in
theorem c_X2_wayOf {l : Launch} (p0 : Int64) (p1 : Int64) (p2 : Int64) (p3 : Int32) (p4 : Int32) (K : Int32 → Prop) (hw : wp_X2_wayOf p0 p1 p2 p3 p4 K) : sMi l yX2_wayOf wsX2_wayOf rm_X2_wayOf [.long (p0), .long (p1), .long (p2), .int (p3), .int (p4)] K := by
  refine s_start (rt := some .int) (R0 := RX2) (by decide) rfl rfl (Nat.le_of_ble_eq_true rfl) ?_
  intro p e s m below meth c ls F hr hlk hl
  obtain ⟨hx, hb, hml, hown, hts⟩ := id F
  have hl : lv_has ls 8 [(0, .long (p0)), (2, .long (p1)), (4, .long (p2)), (6, .int (p3)), (7, .int (p4))] := hl
  unfold wp_X2_wayOf at hw
  refine lv_lload_n hx hb dX2_wayOf_0 rfl (lv_at hl 0 rfl) ?_
  refine lv_lconst (v := (0 : Int64)) hx hb dX2_wayOf_1 (by decide) ?_
  refine W.lcmp hx hb dX2_wayOf_2 ?_
  refine lv_if_ge (tgt := 8) hx hb dX2_wayOf_3 (by decide) (fun c_1 => ?_) (fun c_1 => ?_)
  · have hw := hw.1 ((lg_cmp_ge _ _).mp c_1)
    refine lv_lload_n hx hb dX2_wayOf_8 rfl (lv_at hl 1 rfl) ?_
    refine lv_lconst (v := (0 : Int64)) hx hb dX2_wayOf_9 (by decide) ?_
    refine W.lcmp hx hb dX2_wayOf_10 ?_
    refine lv_if_ge (tgt := 16) hx hb dX2_wayOf_11 (by decide) (fun c_2 => ?_) (fun c_2 => ?_)
    · have hw := hw.1 ((lg_cmp_ge _ _).mp c_2)
      refine lv_lload hx hb dX2_wayOf_16 (lv_at hl 2 rfl) ?_
      refine lv_lconst (v := (0 : Int64)) hx hb dX2_wayOf_18 (by decide) ?_
      refine W.lcmp hx hb dX2_wayOf_19 ?_
      refine lv_if_ge (tgt := 25) hx hb dX2_wayOf_20 (by decide) (fun c_3 => ?_) (fun c_3 => ?_)
      · have hw := hw.1 ((lg_cmp_ge _ _).mp c_3)
        refine lv_lload_n hx hb dX2_wayOf_25 rfl (lv_at hl 0 rfl) ?_
        refine lv_lload hx hb dX2_wayOf_26 (lv_at hl 2 rfl) ?_
        refine lv_ladd hx hb dX2_wayOf_28 ?_
        refine lv_iload hx hb dX2_wayOf_29 (lv_at hl 3 rfl) ?_
        refine lv_i2l hx hb dX2_wayOf_31 rfl ?_
        refine W.lcmp hx hb dX2_wayOf_32 ?_
        refine lv_if_le (tgt := 38) hx hb dX2_wayOf_33 (by decide) (fun c_4 => ?_) (fun c_4 => ?_)
        · have hw := hw.1 ((lg_cmp_le _ _).mp c_4)
          refine lv_lload_n hx hb dX2_wayOf_38 rfl (lv_at hl 1 rfl) ?_
          refine lv_lload hx hb dX2_wayOf_39 (lv_at hl 2 rfl) ?_
          refine lv_ladd hx hb dX2_wayOf_41 ?_
          refine lv_iload hx hb dX2_wayOf_42 (lv_at hl 4 rfl) ?_
          refine lv_i2l hx hb dX2_wayOf_44 rfl ?_
          refine W.lcmp hx hb dX2_wayOf_45 ?_
          refine lv_if_le (tgt := 53) hx hb dX2_wayOf_46 (by decide) (fun c_5 => ?_) (fun c_5 => ?_)
          · have hw := hw.1 ((lg_cmp_le _ _).mp c_5)
            refine lv_iconst (v := (0 : Int32)) hx hb dX2_wayOf_53 (by decide) ?_
            exact s_reti F hr hlk dX2_wayOf_54 hw
          · have hw := hw.2 (fun q => c_5 ((lg_cmp_le _ _).mpr q))
            refine lv_iconst (v := (5 : Int32)) hx hb dX2_wayOf_49 (by decide) ?_
            refine lv_goto (tgt := 54) hx hb dX2_wayOf_50 (by decide) ?_
            exact s_reti F hr hlk dX2_wayOf_54 hw
        · have hw := hw.2 (fun q => c_4 ((lg_cmp_le _ _).mpr q))
          refine lv_iconst (v := (4 : Int32)) hx hb dX2_wayOf_36 (by decide) ?_
          exact s_reti F hr hlk dX2_wayOf_37 hw
      · have hw := hw.2 (fun q => c_3 ((lg_cmp_ge _ _).mpr q))
        refine lv_iconst (v := (3 : Int32)) hx hb dX2_wayOf_23 (by decide) ?_
        exact s_reti F hr hlk dX2_wayOf_24 hw
    · have hw := hw.2 (fun q => c_2 ((lg_cmp_ge _ _).mpr q))
      refine lv_iconst (v := (2 : Int32)) hx hb dX2_wayOf_14 (by decide) ?_
      exact s_reti F hr hlk dX2_wayOf_15 hw
  · have hw := hw.2 (fun q => c_1 ((lg_cmp_ge _ _).mpr q))
    refine lv_iconst (v := (1 : Int32)) hx hb dX2_wayOf_6 (by decide) ?_
    exact s_reti F hr hlk dX2_wayOf_7 hw
abbrev rm_X2_goes : Room := { frames := 0, cells := 0, slots := 0, locals := 0 }
def wl_X2_goes_18 (K : mS → Prop) : Nat → Int32 → Int32 → Int32 → Int32 → mS → Prop
  | 0, _, _, _, _, _ => False
  | n + 1, v1, v2, v3, v4, S => ((v3 ≤ v4 → K (S.si 22 (((S.fi 22) + v3)))) ∧ (¬ v3 ≤ v4 → (vp_in (((((24 : Int32) * v1) + v2) + v4)) 12312 ∧ (vp_in (v4) 24 ∧ (vp_in (v4) 24 ∧ (vp_in (((((24 : Int32) * v1) + v2) + v4)) 12312 ∧ wl_X2_goes_18 K n (v1) (v2) (v3) ((v4 + (1 : Int32))) ((S.sl 10 (v4).toNatClampNeg ((S.la 3 (((((24 : Int32) * v1) + v2) + v4)).toNatClampNeg))).sl 3 (((((24 : Int32) * v1) + v2) + v4)).toNatClampNeg ((S.la 11 (v4).toNatClampNeg)))))))))
def wp_X2_goes (p0 : Int32) (p1 : Int32) (p2 : Int32) (S : mS) (K : mS → Prop) : Prop := (∃ n18 : Nat, wl_X2_goes_18 K n18 (p0) (p1) (p2) ((0 : Int32)) (((S.si 14 (p0)).si 15 (p1)).si 16 (p2)))
set_option maxHeartbeats 4000000 in
set_option maxRecDepth 100000 in
theorem lp_X2_goes_18 {p : Program} {l : Launch} {e : Env} {s : State} {m : MethodId} {args : Array Value} {below : List Frame} {meth : Method} {c : Code} {D : va_G} {cI cJ : ClassId} {h : Nat → Nat} {A : Nat → Prop} {K : mS → Prop} (F : CallFix p m c cX2_goes 5 s args wsX2_goes RX2) (hin : ∀ w ∈ u_ws RX2 TX2 24, w ∈ wsX2_goes) (hr : meth.sig.returnType = none) (hlk : meth.locks = false) :
    ∀ (n : Nat) (v1 : Int32) (v2 : Int32) (v3 : Int32) (v4 : Int32) (S : mS) (H : Heap) (locs : List Loc), mI D cI cJ h A s s.heap H locs S → ∀ (ls : Array Slot), lv_has ls 5 [(0, .ref (h 0)), (1, .int (v1)), (2, .int (v2)), (3, .int (v3)), (4, .int (v4))] → wl_X2_goes_18 K n v1 v2 v3 v4 S → W p l e rm_X2_goes s m args below meth c H locs 0 0 (MQ below (va_Qv K (mB D cI cJ h A) A) args s 0 0 A) (F0 m 18 ls []) := by
  obtain ⟨hx, hb, hml, hown, hts⟩ := id F
  intro n
  induction n with
  | zero => intro v1 v2 v3 v4 S H locs I ls hl hw; exact hw.elim
  | succ n ih =>
    intro v1 v2 v3 v4 S H locs I ls hl hw
    rw [wl_X2_goes_18] at hw
    refine lv_iload hx hb dX2_goes_18 (lv_at hl 4 rfl) ?_
    refine lv_iload_n hx hb dX2_goes_20 rfl (lv_at hl 3 rfl) ?_
    refine lv_icmp_ge (tgt := 72) hx hb dX2_goes_21 (by decide) (fun c_1 => ?_) (fun c_1 => ?_)
    · have hw := hw.1 c_1
      refine lv_aload_n hx hb dX2_goes_72 rfl (lv_at hl 0 rfl) ?_
      refine lv_dup hx hb dX2_goes_73 rfl ?_
      refine m_get F hin I 22 (by decide) (v := .int ((S.fi 22))) rfl (hts (.fieldLink RX2 122 "CuttingTableModel" "went" "I") (by decide +kernel)) dX2_goes_74 ?_
      refine lv_iload_n hx hb dX2_goes_77 rfl (lv_at hl 3 rfl) ?_
      refine lv_iadd hx hb dX2_goes_78 ?_
      refine m_put F hin I 22 (by decide) (hts (.fieldLink RX2 122 "CuttingTableModel" "went" "I") (by decide +kernel)) dX2_goes_79 (fun H locs I => ?_)
      exact m_retv F hr hlk I dX2_goes_82 hw
    · have hw := hw.2 c_1
      refine lv_aload_n hx hb dX2_goes_24 rfl (lv_at hl 0 rfl) ?_
      refine m_get F hin I 13 (by decide) (v := .ref (h 10)) rfl (hts (.fieldLink RX2 38 "CuttingTableModel" "bin" "[J") (by decide +kernel)) dX2_goes_25 ?_
      refine lv_iload hx hb dX2_goes_28 (lv_at hl 4 rfl) ?_
      refine lv_aload_n hx hb dX2_goes_30 rfl (lv_at hl 0 rfl) ?_
      refine m_get F hin I 2 (by decide) (v := .ref (h 3)) rfl (hts (.fieldLink RX2 16 "CuttingTableModel" "cells" "[J") (by decide +kernel)) dX2_goes_31 ?_
      refine lv_bipush (v := (24 : Int32)) hx hb dX2_goes_34 (by decide) ?_
      refine lv_iload_n hx hb dX2_goes_36 rfl (lv_at hl 1 rfl) ?_
      refine lv_imul hx hb dX2_goes_37 ?_
      refine lv_iload_n hx hb dX2_goes_38 rfl (lv_at hl 2 rfl) ?_
      refine lv_iadd hx hb dX2_goes_39 ?_
      refine lv_iload hx hb dX2_goes_40 (lv_at hl 4 rfl) ?_
      refine lv_iadd hx hb dX2_goes_42 ?_
      obtain ⟨hi2, hw⟩ := hw
      refine m_lald F I 3 12312 (by decide) hi2 dX2_goes_43 ?_
      obtain ⟨hi3, hw⟩ := hw
      refine m_last F I 10 24 (by decide) hi3 dX2_goes_44 (fun H locs I => ?_)
      refine lv_aload_n hx hb dX2_goes_45 rfl (lv_at hl 0 rfl) ?_
      refine m_get F hin I 2 (by decide) (v := .ref (h 3)) rfl (hts (.fieldLink RX2 16 "CuttingTableModel" "cells" "[J") (by decide +kernel)) dX2_goes_46 ?_
      refine lv_bipush (v := (24 : Int32)) hx hb dX2_goes_49 (by decide) ?_
      refine lv_iload_n hx hb dX2_goes_51 rfl (lv_at hl 1 rfl) ?_
      refine lv_imul hx hb dX2_goes_52 ?_
      refine lv_iload_n hx hb dX2_goes_53 rfl (lv_at hl 2 rfl) ?_
      refine lv_iadd hx hb dX2_goes_54 ?_
      refine lv_iload hx hb dX2_goes_55 (lv_at hl 4 rfl) ?_
      refine lv_iadd hx hb dX2_goes_57 ?_
      refine lv_aload_n hx hb dX2_goes_58 rfl (lv_at hl 0 rfl) ?_
      refine m_get F hin I 17 (by decide) (v := .ref (h 11)) rfl (hts (.fieldLink RX2 41 "CuttingTableModel" "taken" "[J") (by decide +kernel)) dX2_goes_59 ?_
      refine lv_iload hx hb dX2_goes_62 (lv_at hl 4 rfl) ?_
      obtain ⟨hi4, hw⟩ := hw
      refine m_lald F I 11 24 (by decide) hi4 dX2_goes_64 ?_
      refine W.eq (g2 := F0 m 65 ls [.long ((S.la 11 (v4).toNatClampNeg)), .int (((((24 : Int32) * v1) + v2) + v4)), .ref (h 3)]) rfl ?_
      obtain ⟨hi5, hw⟩ := hw
      refine m_last F I 3 12312 (by decide) hi5 dX2_goes_65 (fun H locs I => ?_)
      refine lv_iinc (v := (v4 + (1 : Int32))) (lv' := [(4, .int ((v4 + (1 : Int32)))), (0, .ref (h 0)), (1, .int (v1)), (2, .int (v2)), (3, .int (v3))]) hx hb dX2_goes_66 hl (k := 4) rfl rfl (by decide) rfl (fun ls hl => ?_)
      refine lv_goto (tgt := 18) hx hb dX2_goes_69 (by decide) ?_
      exact ih (v1) (v2) (v3) ((v4 + (1 : Int32))) ((S.sl 10 (v4).toNatClampNeg ((S.la 3 (((((24 : Int32) * v1) + v2) + v4)).toNatClampNeg))).sl 3 (((((24 : Int32) * v1) + v2) + v4)).toNatClampNeg ((S.la 11 (v4).toNatClampNeg))) _ _ I ls (lv_sub hl [1, 2, 3, 4, 0] rfl) hw
set_option maxHeartbeats 4000000 in
set_option maxRecDepth 100000 in
theorem c_X2_goes {l : Launch} {D : va_G} {cI cJ : ClassId} {h : Nat → Nat} (p0 : Int32) (p1 : Int32) (p2 : Int32) (S : mS) (K : mS → Prop) (hw : wp_X2_goes p0 p1 p2 S K) : mMv l D cI cJ h yX2_goes wsX2_goes rm_X2_goes [.ref (h 0), .int (p0), .int (p1), .int (p2)] K S := by
  refine m_startv (rt := none) (by decide) rfl rfl (Nat.le_of_ble_eq_true rfl) ?_
  intro p e s m below meth c A ls F hr hlk I hl
  have hin : ∀ w ∈ u_ws RX2 TX2 24, w ∈ wsX2_goes := by decide +kernel
  obtain ⟨hx, hb, hml, hown, hts⟩ := id F
  have hl : lv_has ls 5 [(0, .ref (h 0)), (1, .int (p0)), (2, .int (p1)), (3, .int (p2))] := hl
  unfold wp_X2_goes at hw
  refine lv_aload_n hx hb dX2_goes_0 rfl (lv_at hl 0 rfl) ?_
  refine lv_iload_n hx hb dX2_goes_1 rfl (lv_at hl 1 rfl) ?_
  refine m_put F hin I 14 (by decide) (hts (.fieldLink RX2 116 "CuttingTableModel" "binReel" "I") (by decide +kernel)) dX2_goes_2 (fun H locs I => ?_)
  refine lv_aload_n hx hb dX2_goes_5 rfl (lv_at hl 0 rfl) ?_
  refine lv_iload_n hx hb dX2_goes_6 rfl (lv_at hl 2 rfl) ?_
  refine m_put F hin I 15 (by decide) (hts (.fieldLink RX2 119 "CuttingTableModel" "binFrom" "I") (by decide +kernel)) dX2_goes_7 (fun H locs I => ?_)
  refine lv_aload_n hx hb dX2_goes_10 rfl (lv_at hl 0 rfl) ?_
  refine lv_iload_n hx hb dX2_goes_11 rfl (lv_at hl 3 rfl) ?_
  refine m_put F hin I 16 (by decide) (hts (.fieldLink RX2 96 "CuttingTableModel" "binMany" "I") (by decide +kernel)) dX2_goes_12 (fun H locs I => ?_)
  refine lv_iconst (v := (0 : Int32)) hx hb dX2_goes_15 (by decide) ?_
  refine lv_istore (lv' := [(4, .int ((0 : Int32))), (0, .ref (h 0)), (1, .int (p0)), (2, .int (p1)), (3, .int (p2))]) hx hb dX2_goes_16 hl (by decide) rfl (fun ls hl => ?_)
  obtain ⟨n18, hw⟩ := hw
  exact lp_X2_goes_18 F hin hr hlk n18 (p0) (p1) (p2) ((0 : Int32)) (((S.si 14 (p0)).si 15 (p1)).si 16 (p2)) _ _ I ls (lv_sub hl [1, 2, 3, 4, 0] rfl) hw
abbrev rm_X2_spliced : Room := { frames := 2, cells := 0, slots := 0, locals := 44 }
def wl_X2_spliced_166 (K : Int32 → mS → Prop) : Nat → Int32 → Int64 → Int32 → Int64 → Int64 → Int32 → Int32 → Int32 → mS → Prop
  | 0, _, _, _, _, _, _, _, _, _ => False
  | n + 1, v1, v2, v4, v5, v7, v9, v10, v11, S => ((v7 ≤ (v11).toInt64 → ((v11 ≤ 0 → ((v7 ≤ (v11).toInt64 → K ((0 : Int32)) (S.si 21 (((S.fi 21) + (1 : Int32))))) ∧ (¬ v7 ≤ (v11).toInt64 → K ((5 : Int32)) (S.si 20 (v11))))) ∧ (¬ v11 ≤ 0 → wp_X2_goes (v10) ((v5).toInt32) (v11) S (fun S28 => ((v7 ≤ (v11).toInt64 → K ((0 : Int32)) (S28.si 21 (((S28.fi 21) + (1 : Int32))))) ∧ (¬ v7 ≤ (v11).toInt64 → K ((5 : Int32)) (S28.si 20 (v11)))))))) ∧ (¬ v7 ≤ (v11).toInt64 → (vp_in (v10) 513 ∧ (vp_in (((((24 : Int32) * v9) + (v2).toInt32) + v11)) 12312 ∧ wp_X2_bears ((S.ia 1 (v10).toNatClampNeg)) ((S.la 3 (((((24 : Int32) * v9) + (v2).toInt32) + v11)).toNatClampNeg)) S (fun r32 S33 => ((r32 = 0 → ((v11 ≤ 0 → ((v7 ≤ (v11).toInt64 → K ((0 : Int32)) (S33.si 21 (((S33.fi 21) + (1 : Int32))))) ∧ (¬ v7 ≤ (v11).toInt64 → K ((5 : Int32)) (S33.si 20 (v11))))) ∧ (¬ v11 ≤ 0 → wp_X2_goes (v10) ((v5).toInt32) (v11) S33 (fun S38 => ((v7 ≤ (v11).toInt64 → K ((0 : Int32)) (S38.si 21 (((S38.fi 21) + (1 : Int32))))) ∧ (¬ v7 ≤ (v11).toInt64 → K ((5 : Int32)) (S38.si 20 (v11)))))))) ∧ (¬ r32 = 0 → (vp_in (((((24 : Int32) * v9) + (v2).toInt32) + v11)) 12312 ∧ (vp_in (v11) 24 ∧ wl_X2_spliced_166 K n (v1) (v2) (v4) (v5) (v7) (v9) (v10) ((v11 + (1 : Int32))) (S33.sl 11 (v11).toNatClampNeg ((S33.la 3 (((((24 : Int32) * v9) + (v2).toInt32) + v11)).toNatClampNeg))))))))))))
def wp_X2_spliced (p0 : Int32) (p1 : Int64) (p2 : Int32) (p3 : Int64) (p4 : Int64) (S : mS) (K : Int32 → mS → Prop) : Prop := wp_X2_begin  S (fun S2 => wp_X2_isSpindle (p0) (fun r3 => ((r3 = 0 → K ((6 : Int32)) S2) ∧ (¬ r3 = 0 → wp_X2_isSpindle (p2) (fun r5 => ((¬ r5 = 0 → (vp_in (p0) 8 ∧ (((S2.ia 4 (p0).toNatClampNeg) = 0 → K ((1 : Int32)) S2) ∧ (¬ (S2.ia 4 (p0).toNatClampNeg) = 0 → (vp_in (p2) 8 ∧ ((¬ (S2.ia 4 (p2).toNatClampNeg) = 0 → (vp_in (p0) 8 ∧ (((S2.ia 4 (p0).toNatClampNeg) = (2 : Int32) → K ((2 : Int32)) S2) ∧ (¬ (S2.ia 4 (p0).toNatClampNeg) = (2 : Int32) → (vp_in (p2) 8 ∧ ((¬ (S2.ia 4 (p2).toNatClampNeg) = (2 : Int32) → (vp_in (p0) 8 ∧ (vp_in (p2) 8 ∧ (vp_in ((S2.ia 5 (p0).toNatClampNeg)) 513 ∧ (vp_in ((S2.ia 5 (p2).toNatClampNeg)) 513 ∧ (((S2.ia 1 ((S2.ia 5 (p0).toNatClampNeg)).toNatClampNeg) = (S2.ia 1 ((S2.ia 5 (p2).toNatClampNeg)).toNatClampNeg) → (vp_in ((S2.ia 5 (p0).toNatClampNeg)) 513 ∧ (vp_in ((S2.ia 5 (p2).toNatClampNeg)) 513 ∧ wp_X2_wayOf (p1) (p3) (p4) ((S2.ia 2 ((S2.ia 5 (p0).toNatClampNeg)).toNatClampNeg)) ((S2.ia 2 ((S2.ia 5 (p2).toNatClampNeg)).toNatClampNeg)) (fun r22 => (((r22) ≤ 0 → (∃ n166 : Nat, wl_X2_spliced_166 K n166 (p0) (p1) (p2) (p3) (p4) ((S2.ia 5 (p0).toNatClampNeg)) ((S2.ia 5 (p2).toNatClampNeg)) ((0 : Int32)) (S2.si 19 (r22)))) ∧ (¬ (r22) ≤ 0 → K ((4 : Int32)) (S2.si 19 (r22)))))))) ∧ (¬ (S2.ia 1 ((S2.ia 5 (p0).toNatClampNeg)).toNatClampNeg) = (S2.ia 1 ((S2.ia 5 (p2).toNatClampNeg)).toNatClampNeg) → (vp_in ((S2.ia 5 (p0).toNatClampNeg)) 513 ∧ wp_X2_isOfNumbers ((S2.ia 1 ((S2.ia 5 (p0).toNatClampNeg)).toNatClampNeg)) (fun r43 => ((¬ r43 = 0 → K ((3 : Int32)) S2) ∧ (r43 = 0 → (vp_in ((S2.ia 5 (p2).toNatClampNeg)) 513 ∧ wp_X2_isOfNumbers ((S2.ia 1 ((S2.ia 5 (p2).toNatClampNeg)).toNatClampNeg)) (fun r46 => ((r46 = 0 → (vp_in ((S2.ia 5 (p0).toNatClampNeg)) 513 ∧ (vp_in ((S2.ia 5 (p2).toNatClampNeg)) 513 ∧ wp_X2_wayOf (p1) (p3) (p4) ((S2.ia 2 ((S2.ia 5 (p0).toNatClampNeg)).toNatClampNeg)) ((S2.ia 2 ((S2.ia 5 (p2).toNatClampNeg)).toNatClampNeg)) (fun r50 => (((r50) ≤ 0 → (∃ n166 : Nat, wl_X2_spliced_166 K n166 (p0) (p1) (p2) (p3) (p4) ((S2.ia 5 (p0).toNatClampNeg)) ((S2.ia 5 (p2).toNatClampNeg)) ((0 : Int32)) (S2.si 19 (r50)))) ∧ (¬ (r50) ≤ 0 → K ((4 : Int32)) (S2.si 19 (r50)))))))) ∧ (¬ r46 = 0 → K ((3 : Int32)) S2))))))))))))))) ∧ ((S2.ia 4 (p2).toNatClampNeg) = (2 : Int32) → K ((2 : Int32)) S2))))))) ∧ ((S2.ia 4 (p2).toNatClampNeg) = 0 → K ((1 : Int32)) S2))))))) ∧ (r5 = 0 → K ((6 : Int32)) S2)))))))
set_option maxHeartbeats 4000000 in
set_option maxRecDepth 100000 in
theorem lp_X2_spliced_166 {p : Program} {l : Launch} {e : Env} {s : State} {m : MethodId} {args : Array Value} {below : List Frame} {meth : Method} {c : Code} {D : va_G} {cI cJ : ClassId} {h : Nat → Nat} {A : Nat → Prop} {K : Int32 → mS → Prop} (F : CallFix p m c cX2_spliced 12 s args wsX2_spliced RX2) (hin : ∀ w ∈ u_ws RX2 TX2 24, w ∈ wsX2_spliced) (hr : meth.sig.returnType = some .int) (hlk : meth.locks = false) :
    ∀ (n : Nat) (v1 : Int32) (v2 : Int64) (v4 : Int32) (v5 : Int64) (v7 : Int64) (v9 : Int32) (v10 : Int32) (v11 : Int32) (S : mS) (H : Heap) (locs : List Loc), mI D cI cJ h A s s.heap H locs S → ∀ (ls : Array Slot), lv_has ls 12 [(0, .ref (h 0)), (1, .int (v1)), (2, .long (v2)), (4, .int (v4)), (5, .long (v5)), (7, .long (v7)), (9, .int (v9)), (10, .int (v10)), (11, .int (v11))] → wl_X2_spliced_166 K n v1 v2 v4 v5 v7 v9 v10 v11 S → W p l e rm_X2_spliced s m args below meth c H locs 0 0 (MQ below (va_Qi K (mB D cI cJ h A) A) args s 0 0 A) (F0 m 166 ls []) := by
  obtain ⟨hx, hb, hml, hown, hts⟩ := id F
  intro n
  induction n with
  | zero => intro v1 v2 v4 v5 v7 v9 v10 v11 S H locs I ls hl hw; exact hw.elim
  | succ n ih =>
    intro v1 v2 v4 v5 v7 v9 v10 v11 S H locs I ls hl hw
    rw [wl_X2_spliced_166] at hw
    refine lv_iload hx hb dX2_spliced_166 (lv_at hl 8 rfl) ?_
    refine lv_i2l hx hb dX2_spliced_168 rfl ?_
    refine lv_lload hx hb dX2_spliced_169 (lv_at hl 5 rfl) ?_
    refine W.lcmp hx hb dX2_spliced_171 ?_
    refine lv_if_ge (tgt := 234) hx hb dX2_spliced_172 (by decide) (fun c_24 => ?_) (fun c_24 => ?_)
    · have hw := hw.1 ((lg_cmp_ge _ _).mp c_24)
      refine lv_iload hx hb dX2_spliced_234 (lv_at hl 8 rfl) ?_
      refine lv_if_le (tgt := 250) hx hb dX2_spliced_236 (by decide) (fun c_25 => ?_) (fun c_25 => ?_)
      · have hw := hw.1 c_25
        refine lv_iload hx hb dX2_spliced_250 (lv_at hl 8 rfl) ?_
        refine lv_i2l hx hb dX2_spliced_252 rfl ?_
        refine lv_lload hx hb dX2_spliced_253 (lv_at hl 5 rfl) ?_
        refine W.lcmp hx hb dX2_spliced_255 ?_
        refine lv_if_ge (tgt := 267) hx hb dX2_spliced_256 (by decide) (fun c_26 => ?_) (fun c_26 => ?_)
        · have hw := hw.1 ((lg_cmp_ge _ _).mp c_26)
          refine lv_aload_n hx hb dX2_spliced_267 rfl (lv_at hl 0 rfl) ?_
          refine lv_dup hx hb dX2_spliced_268 rfl ?_
          refine m_get F hin I 21 (by decide) (v := .int ((S.fi 21))) rfl (hts (.fieldLink RX2 113 "CuttingTableModel" "splices" "I") (by decide +kernel)) dX2_spliced_269 ?_
          refine lv_iconst (v := (1 : Int32)) hx hb dX2_spliced_272 (by decide) ?_
          refine lv_iadd hx hb dX2_spliced_273 ?_
          refine m_put F hin I 21 (by decide) (hts (.fieldLink RX2 113 "CuttingTableModel" "splices" "I") (by decide +kernel)) dX2_spliced_274 (fun H locs I => ?_)
          refine lv_iconst (v := (0 : Int32)) hx hb dX2_spliced_277 (by decide) ?_
          exact m_reti F hr hlk I dX2_spliced_278 hw
        · have hw := hw.2 (fun q => c_26 ((lg_cmp_ge _ _).mpr q))
          refine lv_aload_n hx hb dX2_spliced_259 rfl (lv_at hl 0 rfl) ?_
          refine lv_iload hx hb dX2_spliced_260 (lv_at hl 8 rfl) ?_
          refine m_put F hin I 20 (by decide) (hts (.fieldLink RX2 54 "CuttingTableModel" "ahead" "I") (by decide +kernel)) dX2_spliced_262 (fun H locs I => ?_)
          refine lv_iconst (v := (5 : Int32)) hx hb dX2_spliced_265 (by decide) ?_
          exact m_reti F hr hlk I dX2_spliced_266 hw
      · have hw := hw.2 c_25
        refine lv_aload_n hx hb dX2_spliced_239 rfl (lv_at hl 0 rfl) ?_
        refine lv_iload hx hb dX2_spliced_240 (lv_at hl 7 rfl) ?_
        refine lv_lload hx hb dX2_spliced_242 (lv_at hl 4 rfl) ?_
        refine lv_l2i hx hb dX2_spliced_244 rfl ?_
        refine lv_iload hx hb dX2_spliced_245 (lv_at hl 8 rfl) ?_
        refine m_callv (rest := []) F I (c_X2_goes (v10) ((v5).toInt32) (v11) _ _ hw) (cwV 3 hts gX2_spliced_X2_goes rfl rfl rfl (by decide +kernel) ⟨Nat.le_of_ble_eq_true rfl, Nat.le_of_ble_eq_true rfl⟩) rfl hl.1 rfl (Nat.le_of_ble_eq_true rfl) dX2_spliced_247 ⟨Nat.zero_le _, Nat.zero_le _⟩ (fun S28 H locs hw I => ?_)
        refine lv_iload hx hb dX2_spliced_250 (lv_at hl 8 rfl) ?_
        refine lv_i2l hx hb dX2_spliced_252 rfl ?_
        refine lv_lload hx hb dX2_spliced_253 (lv_at hl 5 rfl) ?_
        refine W.lcmp hx hb dX2_spliced_255 ?_
        refine lv_if_ge (tgt := 267) hx hb dX2_spliced_256 (by decide) (fun c_29 => ?_) (fun c_29 => ?_)
        · have hw := hw.1 ((lg_cmp_ge _ _).mp c_29)
          refine lv_aload_n hx hb dX2_spliced_267 rfl (lv_at hl 0 rfl) ?_
          refine lv_dup hx hb dX2_spliced_268 rfl ?_
          refine m_get F hin I 21 (by decide) (v := .int ((S28.fi 21))) rfl (hts (.fieldLink RX2 113 "CuttingTableModel" "splices" "I") (by decide +kernel)) dX2_spliced_269 ?_
          refine lv_iconst (v := (1 : Int32)) hx hb dX2_spliced_272 (by decide) ?_
          refine lv_iadd hx hb dX2_spliced_273 ?_
          refine m_put F hin I 21 (by decide) (hts (.fieldLink RX2 113 "CuttingTableModel" "splices" "I") (by decide +kernel)) dX2_spliced_274 (fun H locs I => ?_)
          refine lv_iconst (v := (0 : Int32)) hx hb dX2_spliced_277 (by decide) ?_
          exact m_reti F hr hlk I dX2_spliced_278 hw
        · have hw := hw.2 (fun q => c_29 ((lg_cmp_ge _ _).mpr q))
          refine lv_aload_n hx hb dX2_spliced_259 rfl (lv_at hl 0 rfl) ?_
          refine lv_iload hx hb dX2_spliced_260 (lv_at hl 8 rfl) ?_
          refine m_put F hin I 20 (by decide) (hts (.fieldLink RX2 54 "CuttingTableModel" "ahead" "I") (by decide +kernel)) dX2_spliced_262 (fun H locs I => ?_)
          refine lv_iconst (v := (5 : Int32)) hx hb dX2_spliced_265 (by decide) ?_
          exact m_reti F hr hlk I dX2_spliced_266 hw
    · have hw := hw.2 (fun q => c_24 ((lg_cmp_ge _ _).mpr q))
      refine lv_aload_n hx hb dX2_spliced_175 rfl (lv_at hl 0 rfl) ?_
      refine lv_aload_n hx hb dX2_spliced_176 rfl (lv_at hl 0 rfl) ?_
      refine m_get F hin I 0 (by decide) (v := .ref (h 1)) rfl (hts (.fieldLink RX2 7 "CuttingTableModel" "stocks" "[I") (by decide +kernel)) dX2_spliced_177 ?_
      refine lv_iload hx hb dX2_spliced_180 (lv_at hl 7 rfl) ?_
      obtain ⟨hi30, hw⟩ := hw
      refine m_iald F I 1 513 (by decide) hi30 dX2_spliced_182 ?_
      refine lv_aload_n hx hb dX2_spliced_183 rfl (lv_at hl 0 rfl) ?_
      refine m_get F hin I 2 (by decide) (v := .ref (h 3)) rfl (hts (.fieldLink RX2 16 "CuttingTableModel" "cells" "[J") (by decide +kernel)) dX2_spliced_184 ?_
      refine lv_bipush (v := (24 : Int32)) hx hb dX2_spliced_187 (by decide) ?_
      refine lv_iload hx hb dX2_spliced_189 (lv_at hl 6 rfl) ?_
      refine lv_imul hx hb dX2_spliced_191 ?_
      refine lv_lload_n hx hb dX2_spliced_192 rfl (lv_at hl 2 rfl) ?_
      refine lv_l2i hx hb dX2_spliced_193 rfl ?_
      refine lv_iadd hx hb dX2_spliced_194 ?_
      refine lv_iload hx hb dX2_spliced_195 (lv_at hl 8 rfl) ?_
      refine lv_iadd hx hb dX2_spliced_197 ?_
      obtain ⟨hi31, hw⟩ := hw
      refine m_lald F I 3 12312 (by decide) hi31 dX2_spliced_198 ?_
      refine m_calli (rest := []) F I (c_X2_bears ((S.ia 1 (v10).toNatClampNeg)) ((S.la 3 (((((24 : Int32) * v9) + (v2).toInt32) + v11)).toNatClampNeg)) _ _ hw) (cwV 2 hts gX2_spliced_X2_bears rfl rfl rfl (by decide +kernel) ⟨Nat.le_of_ble_eq_true rfl, Nat.le_of_ble_eq_true rfl⟩) rfl hl.1 rfl (Nat.le_of_ble_eq_true rfl) dX2_spliced_199 ⟨Nat.zero_le _, Nat.zero_le _⟩ (fun r32 S33 H locs hw I => ?_)
      refine lv_if_eq (tgt := 234) hx hb dX2_spliced_202 (by decide) (fun c_34 => ?_) (fun c_34 => ?_)
      · have hw := hw.1 c_34
        refine lv_iload hx hb dX2_spliced_234 (lv_at hl 8 rfl) ?_
        refine lv_if_le (tgt := 250) hx hb dX2_spliced_236 (by decide) (fun c_35 => ?_) (fun c_35 => ?_)
        · have hw := hw.1 c_35
          refine lv_iload hx hb dX2_spliced_250 (lv_at hl 8 rfl) ?_
          refine lv_i2l hx hb dX2_spliced_252 rfl ?_
          refine lv_lload hx hb dX2_spliced_253 (lv_at hl 5 rfl) ?_
          refine W.lcmp hx hb dX2_spliced_255 ?_
          refine lv_if_ge (tgt := 267) hx hb dX2_spliced_256 (by decide) (fun c_36 => ?_) (fun c_36 => ?_)
          · have hw := hw.1 ((lg_cmp_ge _ _).mp c_36)
            refine lv_aload_n hx hb dX2_spliced_267 rfl (lv_at hl 0 rfl) ?_
            refine lv_dup hx hb dX2_spliced_268 rfl ?_
            refine m_get F hin I 21 (by decide) (v := .int ((S33.fi 21))) rfl (hts (.fieldLink RX2 113 "CuttingTableModel" "splices" "I") (by decide +kernel)) dX2_spliced_269 ?_
            refine lv_iconst (v := (1 : Int32)) hx hb dX2_spliced_272 (by decide) ?_
            refine lv_iadd hx hb dX2_spliced_273 ?_
            refine m_put F hin I 21 (by decide) (hts (.fieldLink RX2 113 "CuttingTableModel" "splices" "I") (by decide +kernel)) dX2_spliced_274 (fun H locs I => ?_)
            refine lv_iconst (v := (0 : Int32)) hx hb dX2_spliced_277 (by decide) ?_
            exact m_reti F hr hlk I dX2_spliced_278 hw
          · have hw := hw.2 (fun q => c_36 ((lg_cmp_ge _ _).mpr q))
            refine lv_aload_n hx hb dX2_spliced_259 rfl (lv_at hl 0 rfl) ?_
            refine lv_iload hx hb dX2_spliced_260 (lv_at hl 8 rfl) ?_
            refine m_put F hin I 20 (by decide) (hts (.fieldLink RX2 54 "CuttingTableModel" "ahead" "I") (by decide +kernel)) dX2_spliced_262 (fun H locs I => ?_)
            refine lv_iconst (v := (5 : Int32)) hx hb dX2_spliced_265 (by decide) ?_
            exact m_reti F hr hlk I dX2_spliced_266 hw
        · have hw := hw.2 c_35
          refine lv_aload_n hx hb dX2_spliced_239 rfl (lv_at hl 0 rfl) ?_
          refine lv_iload hx hb dX2_spliced_240 (lv_at hl 7 rfl) ?_
          refine lv_lload hx hb dX2_spliced_242 (lv_at hl 4 rfl) ?_
          refine lv_l2i hx hb dX2_spliced_244 rfl ?_
          refine lv_iload hx hb dX2_spliced_245 (lv_at hl 8 rfl) ?_
          refine m_callv (rest := []) F I (c_X2_goes (v10) ((v5).toInt32) (v11) _ _ hw) (cwV 3 hts gX2_spliced_X2_goes rfl rfl rfl (by decide +kernel) ⟨Nat.le_of_ble_eq_true rfl, Nat.le_of_ble_eq_true rfl⟩) rfl hl.1 rfl (Nat.le_of_ble_eq_true rfl) dX2_spliced_247 ⟨Nat.zero_le _, Nat.zero_le _⟩ (fun S38 H locs hw I => ?_)
          refine lv_iload hx hb dX2_spliced_250 (lv_at hl 8 rfl) ?_
          refine lv_i2l hx hb dX2_spliced_252 rfl ?_
          refine lv_lload hx hb dX2_spliced_253 (lv_at hl 5 rfl) ?_
          refine W.lcmp hx hb dX2_spliced_255 ?_
          refine lv_if_ge (tgt := 267) hx hb dX2_spliced_256 (by decide) (fun c_39 => ?_) (fun c_39 => ?_)
          · have hw := hw.1 ((lg_cmp_ge _ _).mp c_39)
            refine lv_aload_n hx hb dX2_spliced_267 rfl (lv_at hl 0 rfl) ?_
            refine lv_dup hx hb dX2_spliced_268 rfl ?_
            refine m_get F hin I 21 (by decide) (v := .int ((S38.fi 21))) rfl (hts (.fieldLink RX2 113 "CuttingTableModel" "splices" "I") (by decide +kernel)) dX2_spliced_269 ?_
            refine lv_iconst (v := (1 : Int32)) hx hb dX2_spliced_272 (by decide) ?_
            refine lv_iadd hx hb dX2_spliced_273 ?_
            refine m_put F hin I 21 (by decide) (hts (.fieldLink RX2 113 "CuttingTableModel" "splices" "I") (by decide +kernel)) dX2_spliced_274 (fun H locs I => ?_)
            refine lv_iconst (v := (0 : Int32)) hx hb dX2_spliced_277 (by decide) ?_
            exact m_reti F hr hlk I dX2_spliced_278 hw
          · have hw := hw.2 (fun q => c_39 ((lg_cmp_ge _ _).mpr q))
            refine lv_aload_n hx hb dX2_spliced_259 rfl (lv_at hl 0 rfl) ?_
            refine lv_iload hx hb dX2_spliced_260 (lv_at hl 8 rfl) ?_
            refine m_put F hin I 20 (by decide) (hts (.fieldLink RX2 54 "CuttingTableModel" "ahead" "I") (by decide +kernel)) dX2_spliced_262 (fun H locs I => ?_)
            refine lv_iconst (v := (5 : Int32)) hx hb dX2_spliced_265 (by decide) ?_
            exact m_reti F hr hlk I dX2_spliced_266 hw
      · have hw := hw.2 c_34
        refine lv_aload_n hx hb dX2_spliced_205 rfl (lv_at hl 0 rfl) ?_
        refine m_get F hin I 17 (by decide) (v := .ref (h 11)) rfl (hts (.fieldLink RX2 41 "CuttingTableModel" "taken" "[J") (by decide +kernel)) dX2_spliced_206 ?_
        refine lv_iload hx hb dX2_spliced_209 (lv_at hl 8 rfl) ?_
        refine lv_aload_n hx hb dX2_spliced_211 rfl (lv_at hl 0 rfl) ?_
        refine m_get F hin I 2 (by decide) (v := .ref (h 3)) rfl (hts (.fieldLink RX2 16 "CuttingTableModel" "cells" "[J") (by decide +kernel)) dX2_spliced_212 ?_
        refine lv_bipush (v := (24 : Int32)) hx hb dX2_spliced_215 (by decide) ?_
        refine lv_iload hx hb dX2_spliced_217 (lv_at hl 6 rfl) ?_
        refine lv_imul hx hb dX2_spliced_219 ?_
        refine lv_lload_n hx hb dX2_spliced_220 rfl (lv_at hl 2 rfl) ?_
        refine lv_l2i hx hb dX2_spliced_221 rfl ?_
        refine lv_iadd hx hb dX2_spliced_222 ?_
        refine lv_iload hx hb dX2_spliced_223 (lv_at hl 8 rfl) ?_
        refine lv_iadd hx hb dX2_spliced_225 ?_
        obtain ⟨hi40, hw⟩ := hw
        refine m_lald F I 3 12312 (by decide) hi40 dX2_spliced_226 ?_
        obtain ⟨hi41, hw⟩ := hw
        refine m_last F I 11 24 (by decide) hi41 dX2_spliced_227 (fun H locs I => ?_)
        refine lv_iinc (v := (v11 + (1 : Int32))) (lv' := [(11, .int ((v11 + (1 : Int32)))), (0, .ref (h 0)), (1, .int (v1)), (2, .long (v2)), (4, .int (v4)), (5, .long (v5)), (7, .long (v7)), (9, .int (v9)), (10, .int (v10))]) hx hb dX2_spliced_228 hl (k := 8) rfl rfl (by decide) rfl (fun ls hl => ?_)
        refine lv_goto (tgt := 166) hx hb dX2_spliced_231 (by decide) ?_
        exact ih (v1) (v2) (v4) (v5) (v7) (v9) (v10) ((v11 + (1 : Int32))) (S33.sl 11 (v11).toNatClampNeg ((S33.la 3 (((((24 : Int32) * v9) + (v2).toInt32) + v11)).toNatClampNeg))) _ _ I ls (lv_sub hl [1, 2, 3, 4, 5, 6, 7, 8, 0] rfl) hw
set_option maxHeartbeats 4000000 in
set_option maxRecDepth 100000 in
theorem c_X2_spliced {l : Launch} {D : va_G} {cI cJ : ClassId} {h : Nat → Nat} (p0 : Int32) (p1 : Int64) (p2 : Int32) (p3 : Int64) (p4 : Int64) (S : mS) (K : Int32 → mS → Prop) (hw : wp_X2_spliced p0 p1 p2 p3 p4 S K) : mMi l D cI cJ h yX2_spliced wsX2_spliced rm_X2_spliced [.ref (h 0), .int (p0), .long (p1), .int (p2), .long (p3), .long (p4)] K S := by
  refine m_starti (rt := some .int) (by decide) rfl rfl (Nat.le_of_ble_eq_true rfl) ?_
  intro p e s m below meth c A ls F hr hlk I hl
  have hin : ∀ w ∈ u_ws RX2 TX2 24, w ∈ wsX2_spliced := by decide +kernel
  obtain ⟨hx, hb, hml, hown, hts⟩ := id F
  have hl : lv_has ls 12 [(0, .ref (h 0)), (1, .int (p0)), (2, .long (p1)), (4, .int (p2)), (5, .long (p3)), (7, .long (p4))] := hl
  unfold wp_X2_spliced at hw
  refine lv_aload_n hx hb dX2_spliced_0 rfl (lv_at hl 0 rfl) ?_
  refine m_callv (rest := []) F I (c_X2_begin  _ _ hw) (cwV 0 hts gX2_spliced_X2_begin rfl rfl rfl (by decide +kernel) ⟨Nat.le_of_ble_eq_true rfl, Nat.le_of_ble_eq_true rfl⟩) rfl hl.1 rfl (Nat.le_of_ble_eq_true rfl) dX2_spliced_1 ⟨Nat.zero_le _, Nat.zero_le _⟩ (fun S2 H locs hw I => ?_)
  refine lv_iload_n hx hb dX2_spliced_4 rfl (lv_at hl 1 rfl) ?_
  refine s_calli (rest := []) F (c_X2_isSpindle (p0) _ hw) (va_cwS 1 hts gX2_spliced_X2_isSpindle rfl rfl rfl (by decide +kernel) ⟨Nat.le_of_ble_eq_true rfl, Nat.le_of_ble_eq_true rfl⟩) rfl hl.1 rfl (Nat.le_of_ble_eq_true rfl) dX2_spliced_5 ⟨Nat.zero_le _, Nat.zero_le _⟩ (fun r3 hw => ?_)
  refine lv_if_eq (tgt := 19) hx hb dX2_spliced_8 (by decide) (fun c_4 => ?_) (fun c_4 => ?_)
  · have hw := hw.1 c_4
    refine lv_bipush (v := (6 : Int32)) hx hb dX2_spliced_19 (by decide) ?_
    exact m_reti F hr hlk I dX2_spliced_21 hw
  · have hw := hw.2 c_4
    refine lv_iload hx hb dX2_spliced_11 (lv_at hl 3 rfl) ?_
    refine s_calli (rest := []) F (c_X2_isSpindle (p2) _ hw) (va_cwS 1 hts gX2_spliced_X2_isSpindle rfl rfl rfl (by decide +kernel) ⟨Nat.le_of_ble_eq_true rfl, Nat.le_of_ble_eq_true rfl⟩) rfl hl.1 rfl (Nat.le_of_ble_eq_true rfl) dX2_spliced_13 ⟨Nat.zero_le _, Nat.zero_le _⟩ (fun r5 hw => ?_)
    refine lv_if_ne (tgt := 22) hx hb dX2_spliced_16 (by decide) (fun c_6 => ?_) (fun c_6 => ?_)
    · have hw := hw.1 c_6
      refine lv_aload_n hx hb dX2_spliced_22 rfl (lv_at hl 0 rfl) ?_
      refine m_get F hin I 4 (by decide) (v := .ref (h 4)) rfl (hts (.fieldLink RX2 20 "CuttingTableModel" "lies" "[I") (by decide +kernel)) dX2_spliced_23 ?_
      refine lv_iload_n hx hb dX2_spliced_26 rfl (lv_at hl 1 rfl) ?_
      obtain ⟨hi7, hw⟩ := hw
      refine m_iald F I 4 8 (by decide) hi7 dX2_spliced_27 ?_
      refine lv_if_eq (tgt := 41) hx hb dX2_spliced_28 (by decide) (fun c_8 => ?_) (fun c_8 => ?_)
      · have hw := hw.1 c_8
        refine lv_iconst (v := (1 : Int32)) hx hb dX2_spliced_41 (by decide) ?_
        exact m_reti F hr hlk I dX2_spliced_42 hw
      · have hw := hw.2 c_8
        refine lv_aload_n hx hb dX2_spliced_31 rfl (lv_at hl 0 rfl) ?_
        refine m_get F hin I 4 (by decide) (v := .ref (h 4)) rfl (hts (.fieldLink RX2 20 "CuttingTableModel" "lies" "[I") (by decide +kernel)) dX2_spliced_32 ?_
        refine lv_iload hx hb dX2_spliced_35 (lv_at hl 3 rfl) ?_
        obtain ⟨hi9, hw⟩ := hw
        refine m_iald F I 4 8 (by decide) hi9 dX2_spliced_37 ?_
        refine lv_if_ne (tgt := 43) hx hb dX2_spliced_38 (by decide) (fun c_10 => ?_) (fun c_10 => ?_)
        · have hw := hw.1 c_10
          refine lv_aload_n hx hb dX2_spliced_43 rfl (lv_at hl 0 rfl) ?_
          refine m_get F hin I 4 (by decide) (v := .ref (h 4)) rfl (hts (.fieldLink RX2 20 "CuttingTableModel" "lies" "[I") (by decide +kernel)) dX2_spliced_44 ?_
          refine lv_iload_n hx hb dX2_spliced_47 rfl (lv_at hl 1 rfl) ?_
          obtain ⟨hi11, hw⟩ := hw
          refine m_iald F I 4 8 (by decide) hi11 dX2_spliced_48 ?_
          refine lv_iconst (v := (2 : Int32)) hx hb dX2_spliced_49 (by decide) ?_
          refine lv_icmp_eq (tgt := 64) hx hb dX2_spliced_50 (by decide) (fun c_12 => ?_) (fun c_12 => ?_)
          · have hw := hw.1 c_12
            refine lv_iconst (v := (2 : Int32)) hx hb dX2_spliced_64 (by decide) ?_
            exact m_reti F hr hlk I dX2_spliced_65 hw
          · have hw := hw.2 c_12
            refine lv_aload_n hx hb dX2_spliced_53 rfl (lv_at hl 0 rfl) ?_
            refine m_get F hin I 4 (by decide) (v := .ref (h 4)) rfl (hts (.fieldLink RX2 20 "CuttingTableModel" "lies" "[I") (by decide +kernel)) dX2_spliced_54 ?_
            refine lv_iload hx hb dX2_spliced_57 (lv_at hl 3 rfl) ?_
            obtain ⟨hi13, hw⟩ := hw
            refine m_iald F I 4 8 (by decide) hi13 dX2_spliced_59 ?_
            refine lv_iconst (v := (2 : Int32)) hx hb dX2_spliced_60 (by decide) ?_
            refine lv_icmp_ne (tgt := 66) hx hb dX2_spliced_61 (by decide) (fun c_14 => ?_) (fun c_14 => ?_)
            · have hw := hw.1 c_14
              refine lv_aload_n hx hb dX2_spliced_66 rfl (lv_at hl 0 rfl) ?_
              refine m_get F hin I 5 (by decide) (v := .ref (h 5)) rfl (hts (.fieldLink RX2 23 "CuttingTableModel" "which" "[I") (by decide +kernel)) dX2_spliced_67 ?_
              refine lv_iload_n hx hb dX2_spliced_70 rfl (lv_at hl 1 rfl) ?_
              obtain ⟨hi15, hw⟩ := hw
              refine m_iald F I 5 8 (by decide) hi15 dX2_spliced_71 ?_
              refine lv_istore (lv' := [(9, .int ((S2.ia 5 (p0).toNatClampNeg))), (0, .ref (h 0)), (1, .int (p0)), (2, .long (p1)), (4, .int (p2)), (5, .long (p3)), (7, .long (p4))]) hx hb dX2_spliced_72 hl (by decide) rfl (fun ls hl => ?_)
              refine lv_aload_n hx hb dX2_spliced_74 rfl (lv_at hl 1 rfl) ?_
              refine m_get F hin I 5 (by decide) (v := .ref (h 5)) rfl (hts (.fieldLink RX2 23 "CuttingTableModel" "which" "[I") (by decide +kernel)) dX2_spliced_75 ?_
              refine lv_iload hx hb dX2_spliced_78 (lv_at hl 4 rfl) ?_
              obtain ⟨hi16, hw⟩ := hw
              refine m_iald F I 5 8 (by decide) hi16 dX2_spliced_80 ?_
              refine lv_istore (lv' := [(10, .int ((S2.ia 5 (p2).toNatClampNeg))), (9, .int ((S2.ia 5 (p0).toNatClampNeg))), (0, .ref (h 0)), (1, .int (p0)), (2, .long (p1)), (4, .int (p2)), (5, .long (p3)), (7, .long (p4))]) hx hb dX2_spliced_81 hl (by decide) rfl (fun ls hl => ?_)
              refine lv_aload_n hx hb dX2_spliced_83 rfl (lv_at hl 2 rfl) ?_
              refine m_get F hin I 0 (by decide) (v := .ref (h 1)) rfl (hts (.fieldLink RX2 7 "CuttingTableModel" "stocks" "[I") (by decide +kernel)) dX2_spliced_84 ?_
              refine lv_iload hx hb dX2_spliced_87 (lv_at hl 1 rfl) ?_
              obtain ⟨hi17, hw⟩ := hw
              refine m_iald F I 1 513 (by decide) hi17 dX2_spliced_89 ?_
              refine lv_aload_n hx hb dX2_spliced_90 rfl (lv_at hl 2 rfl) ?_
              refine m_get F hin I 0 (by decide) (v := .ref (h 1)) rfl (hts (.fieldLink RX2 7 "CuttingTableModel" "stocks" "[I") (by decide +kernel)) dX2_spliced_91 ?_
              refine lv_iload hx hb dX2_spliced_94 (lv_at hl 0 rfl) ?_
              obtain ⟨hi18, hw⟩ := hw
              refine m_iald F I 1 513 (by decide) hi18 dX2_spliced_96 ?_
              refine lv_icmp_eq (tgt := 128) hx hb dX2_spliced_97 (by decide) (fun c_19 => ?_) (fun c_19 => ?_)
              · have hw := hw.1 c_19
                refine lv_aload_n hx hb dX2_spliced_128 rfl (lv_at hl 2 rfl) ?_
                refine lv_lload_n hx hb dX2_spliced_129 rfl (lv_at hl 4 rfl) ?_
                refine lv_lload hx hb dX2_spliced_130 (lv_at hl 6 rfl) ?_
                refine lv_lload hx hb dX2_spliced_132 (lv_at hl 7 rfl) ?_
                refine lv_aload_n hx hb dX2_spliced_134 rfl (lv_at hl 2 rfl) ?_
                refine m_get F hin I 1 (by decide) (v := .ref (h 2)) rfl (hts (.fieldLink RX2 13 "CuttingTableModel" "sizes" "[I") (by decide +kernel)) dX2_spliced_135 ?_
                refine lv_iload hx hb dX2_spliced_138 (lv_at hl 1 rfl) ?_
                obtain ⟨hi20, hw⟩ := hw
                refine m_iald F I 2 513 (by decide) hi20 dX2_spliced_140 ?_
                refine lv_aload_n hx hb dX2_spliced_141 rfl (lv_at hl 2 rfl) ?_
                refine m_get F hin I 1 (by decide) (v := .ref (h 2)) rfl (hts (.fieldLink RX2 13 "CuttingTableModel" "sizes" "[I") (by decide +kernel)) dX2_spliced_142 ?_
                refine lv_iload hx hb dX2_spliced_145 (lv_at hl 0 rfl) ?_
                obtain ⟨hi21, hw⟩ := hw
                refine m_iald F I 2 513 (by decide) hi21 dX2_spliced_147 ?_
                refine s_calli (rest := [.ref (h 0)]) F (c_X2_wayOf (p1) (p3) (p4) ((S2.ia 2 ((S2.ia 5 (p0).toNatClampNeg)).toNatClampNeg)) ((S2.ia 2 ((S2.ia 5 (p2).toNatClampNeg)).toNatClampNeg)) _ hw) (va_cwS 5 hts gX2_spliced_X2_wayOf rfl rfl rfl (by decide +kernel) ⟨Nat.le_of_ble_eq_true rfl, Nat.le_of_ble_eq_true rfl⟩) rfl hl.1 rfl (Nat.le_of_ble_eq_true rfl) dX2_spliced_148 ⟨Nat.zero_le _, Nat.zero_le _⟩ (fun r22 hw => ?_)
                refine m_put F hin I 19 (by decide) (hts (.fieldLink RX2 51 "CuttingTableModel" "way" "I") (by decide +kernel)) dX2_spliced_151 (fun H locs I => ?_)
                refine lv_aload_n hx hb dX2_spliced_154 rfl (lv_at hl 2 rfl) ?_
                refine m_get F hin I 19 (by decide) (v := .int ((r22))) rfl (hts (.fieldLink RX2 51 "CuttingTableModel" "way" "I") (by decide +kernel)) dX2_spliced_155 ?_
                refine lv_if_le (tgt := 163) hx hb dX2_spliced_158 (by decide) (fun c_23 => ?_) (fun c_23 => ?_)
                · have hw := hw.1 c_23
                  refine lv_iconst (v := (0 : Int32)) hx hb dX2_spliced_163 (by decide) ?_
                  refine lv_istore (lv' := [(11, .int ((0 : Int32))), (10, .int ((S2.ia 5 (p2).toNatClampNeg))), (9, .int ((S2.ia 5 (p0).toNatClampNeg))), (0, .ref (h 0)), (1, .int (p0)), (2, .long (p1)), (4, .int (p2)), (5, .long (p3)), (7, .long (p4))]) hx hb dX2_spliced_164 hl (by decide) rfl (fun ls hl => ?_)
                  obtain ⟨n166, hw⟩ := hw
                  exact lp_X2_spliced_166 F hin hr hlk n166 (p0) (p1) (p2) (p3) (p4) ((S2.ia 5 (p0).toNatClampNeg)) ((S2.ia 5 (p2).toNatClampNeg)) ((0 : Int32)) (S2.si 19 (r22)) _ _ I ls (lv_sub hl [3, 4, 5, 6, 7, 8, 2, 1, 0] rfl) hw
                · have hw := hw.2 c_23
                  refine lv_iconst (v := (4 : Int32)) hx hb dX2_spliced_161 (by decide) ?_
                  exact m_reti F hr hlk I dX2_spliced_162 hw
              · have hw := hw.2 c_19
                refine lv_aload_n hx hb dX2_spliced_100 rfl (lv_at hl 2 rfl) ?_
                refine m_get F hin I 0 (by decide) (v := .ref (h 1)) rfl (hts (.fieldLink RX2 7 "CuttingTableModel" "stocks" "[I") (by decide +kernel)) dX2_spliced_101 ?_
                refine lv_iload hx hb dX2_spliced_104 (lv_at hl 1 rfl) ?_
                obtain ⟨hi42, hw⟩ := hw
                refine m_iald F I 1 513 (by decide) hi42 dX2_spliced_106 ?_
                refine s_calli (rest := []) F (c_X2_isOfNumbers ((S2.ia 1 ((S2.ia 5 (p0).toNatClampNeg)).toNatClampNeg)) _ hw) (va_cwS 1 hts gX2_spliced_X2_isOfNumbers rfl rfl rfl (by decide +kernel) ⟨Nat.le_of_ble_eq_true rfl, Nat.le_of_ble_eq_true rfl⟩) rfl hl.1 rfl (Nat.le_of_ble_eq_true rfl) dX2_spliced_107 ⟨Nat.zero_le _, Nat.zero_le _⟩ (fun r43 hw => ?_)
                refine lv_if_ne (tgt := 126) hx hb dX2_spliced_110 (by decide) (fun c_44 => ?_) (fun c_44 => ?_)
                · have hw := hw.1 c_44
                  refine lv_iconst (v := (3 : Int32)) hx hb dX2_spliced_126 (by decide) ?_
                  exact m_reti F hr hlk I dX2_spliced_127 hw
                · have hw := hw.2 c_44
                  refine lv_aload_n hx hb dX2_spliced_113 rfl (lv_at hl 2 rfl) ?_
                  refine m_get F hin I 0 (by decide) (v := .ref (h 1)) rfl (hts (.fieldLink RX2 7 "CuttingTableModel" "stocks" "[I") (by decide +kernel)) dX2_spliced_114 ?_
                  refine lv_iload hx hb dX2_spliced_117 (lv_at hl 0 rfl) ?_
                  obtain ⟨hi45, hw⟩ := hw
                  refine m_iald F I 1 513 (by decide) hi45 dX2_spliced_119 ?_
                  refine s_calli (rest := []) F (c_X2_isOfNumbers ((S2.ia 1 ((S2.ia 5 (p2).toNatClampNeg)).toNatClampNeg)) _ hw) (va_cwS 1 hts gX2_spliced_X2_isOfNumbers rfl rfl rfl (by decide +kernel) ⟨Nat.le_of_ble_eq_true rfl, Nat.le_of_ble_eq_true rfl⟩) rfl hl.1 rfl (Nat.le_of_ble_eq_true rfl) dX2_spliced_120 ⟨Nat.zero_le _, Nat.zero_le _⟩ (fun r46 hw => ?_)
                  refine lv_if_eq (tgt := 128) hx hb dX2_spliced_123 (by decide) (fun c_47 => ?_) (fun c_47 => ?_)
                  · have hw := hw.1 c_47
                    refine lv_aload_n hx hb dX2_spliced_128 rfl (lv_at hl 2 rfl) ?_
                    refine lv_lload_n hx hb dX2_spliced_129 rfl (lv_at hl 4 rfl) ?_
                    refine lv_lload hx hb dX2_spliced_130 (lv_at hl 6 rfl) ?_
                    refine lv_lload hx hb dX2_spliced_132 (lv_at hl 7 rfl) ?_
                    refine lv_aload_n hx hb dX2_spliced_134 rfl (lv_at hl 2 rfl) ?_
                    refine m_get F hin I 1 (by decide) (v := .ref (h 2)) rfl (hts (.fieldLink RX2 13 "CuttingTableModel" "sizes" "[I") (by decide +kernel)) dX2_spliced_135 ?_
                    refine lv_iload hx hb dX2_spliced_138 (lv_at hl 1 rfl) ?_
                    obtain ⟨hi48, hw⟩ := hw
                    refine m_iald F I 2 513 (by decide) hi48 dX2_spliced_140 ?_
                    refine lv_aload_n hx hb dX2_spliced_141 rfl (lv_at hl 2 rfl) ?_
                    refine m_get F hin I 1 (by decide) (v := .ref (h 2)) rfl (hts (.fieldLink RX2 13 "CuttingTableModel" "sizes" "[I") (by decide +kernel)) dX2_spliced_142 ?_
                    refine lv_iload hx hb dX2_spliced_145 (lv_at hl 0 rfl) ?_
                    obtain ⟨hi49, hw⟩ := hw
                    refine m_iald F I 2 513 (by decide) hi49 dX2_spliced_147 ?_
                    refine s_calli (rest := [.ref (h 0)]) F (c_X2_wayOf (p1) (p3) (p4) ((S2.ia 2 ((S2.ia 5 (p0).toNatClampNeg)).toNatClampNeg)) ((S2.ia 2 ((S2.ia 5 (p2).toNatClampNeg)).toNatClampNeg)) _ hw) (va_cwS 5 hts gX2_spliced_X2_wayOf rfl rfl rfl (by decide +kernel) ⟨Nat.le_of_ble_eq_true rfl, Nat.le_of_ble_eq_true rfl⟩) rfl hl.1 rfl (Nat.le_of_ble_eq_true rfl) dX2_spliced_148 ⟨Nat.zero_le _, Nat.zero_le _⟩ (fun r50 hw => ?_)
                    refine m_put F hin I 19 (by decide) (hts (.fieldLink RX2 51 "CuttingTableModel" "way" "I") (by decide +kernel)) dX2_spliced_151 (fun H locs I => ?_)
                    refine lv_aload_n hx hb dX2_spliced_154 rfl (lv_at hl 2 rfl) ?_
                    refine m_get F hin I 19 (by decide) (v := .int ((r50))) rfl (hts (.fieldLink RX2 51 "CuttingTableModel" "way" "I") (by decide +kernel)) dX2_spliced_155 ?_
                    refine lv_if_le (tgt := 163) hx hb dX2_spliced_158 (by decide) (fun c_51 => ?_) (fun c_51 => ?_)
                    · have hw := hw.1 c_51
                      refine lv_iconst (v := (0 : Int32)) hx hb dX2_spliced_163 (by decide) ?_
                      refine lv_istore (lv' := [(11, .int ((0 : Int32))), (10, .int ((S2.ia 5 (p2).toNatClampNeg))), (9, .int ((S2.ia 5 (p0).toNatClampNeg))), (0, .ref (h 0)), (1, .int (p0)), (2, .long (p1)), (4, .int (p2)), (5, .long (p3)), (7, .long (p4))]) hx hb dX2_spliced_164 hl (by decide) rfl (fun ls hl => ?_)
                      obtain ⟨n166, hw⟩ := hw
                      exact lp_X2_spliced_166 F hin hr hlk n166 (p0) (p1) (p2) (p3) (p4) ((S2.ia 5 (p0).toNatClampNeg)) ((S2.ia 5 (p2).toNatClampNeg)) ((0 : Int32)) (S2.si 19 (r50)) _ _ I ls (lv_sub hl [3, 4, 5, 6, 7, 8, 2, 1, 0] rfl) hw
                    · have hw := hw.2 c_51
                      refine lv_iconst (v := (4 : Int32)) hx hb dX2_spliced_161 (by decide) ?_
                      exact m_reti F hr hlk I dX2_spliced_162 hw
                  · have hw := hw.2 c_47
                    refine lv_iconst (v := (3 : Int32)) hx hb dX2_spliced_126 (by decide) ?_
                    exact m_reti F hr hlk I dX2_spliced_127 hw
            · have hw := hw.2 c_14
              refine lv_iconst (v := (2 : Int32)) hx hb dX2_spliced_64 (by decide) ?_
              exact m_reti F hr hlk I dX2_spliced_65 hw
        · have hw := hw.2 c_10
          refine lv_iconst (v := (1 : Int32)) hx hb dX2_spliced_41 (by decide) ?_
          exact m_reti F hr hlk I dX2_spliced_42 hw
    · have hw := hw.2 c_6
      refine lv_bipush (v := (6 : Int32)) hx hb dX2_spliced_19 (by decide) ?_
      exact m_reti F hr hlk I dX2_spliced_21 hw
abbrev rm_X2_splice : Room := { frames := 3, cells := 0, slots := 0, locals := 75 }
def wp_X2_splice (p0 : Int32) (p1 : Int32) (p2 : Int32) (p3 : Int32) (p4 : Int32) (S : mS) (K : Int32 → mS → Prop) : Prop := wp_X2_spliced (p0) ((p1).toInt64) (p2) ((p3).toInt64) ((p4).toInt64) (S.si 23 (0 : Int32)) (fun r1 S2 => wp_X2_told (r1) S2 (fun r3 S4 => ((r3 ≤ 0 → K (p4) S4) ∧ (¬ r3 ≤ 0 → K ((-r3)) S4))))
set_option maxHeartbeats 4000000 in
set_option maxRecDepth 100000 in
theorem c_X2_splice {l : Launch} {D : va_G} {cI cJ : ClassId} {h : Nat → Nat} (p0 : Int32) (p1 : Int32) (p2 : Int32) (p3 : Int32) (p4 : Int32) (S : mS) (K : Int32 → mS → Prop) (hw : wp_X2_splice p0 p1 p2 p3 p4 S K) : mMi l D cI cJ h yX2_splice wsX2_splice rm_X2_splice [.ref (h 0), .int (p0), .int (p1), .int (p2), .int (p3), .int (p4)] K S := by
  refine m_starti (rt := some .int) (by decide) rfl rfl (Nat.le_of_ble_eq_true rfl) ?_
  intro p e s m below meth c A ls F hr hlk I hl
  have hin : ∀ w ∈ u_ws RX2 TX2 24, w ∈ wsX2_splice := by decide +kernel
  obtain ⟨hx, hb, hml, hown, hts⟩ := id F
  have hl : lv_has ls 7 [(0, .ref (h 0)), (1, .int (p0)), (2, .int (p1)), (3, .int (p2)), (4, .int (p3)), (5, .int (p4))] := hl
  unfold wp_X2_splice at hw
  refine lv_aload_n hx hb dX2_splice_0 rfl (lv_at hl 0 rfl) ?_
  refine lv_iconst (v := (0 : Int32)) hx hb dX2_splice_1 (by decide) ?_
  refine m_put F hin I 23 (by decide) (hts (.fieldLink RX2 44 "CuttingTableModel" "thrown" "I") (by decide +kernel)) dX2_splice_2 (fun H locs I => ?_)
  refine lv_aload_n hx hb dX2_splice_5 rfl (lv_at hl 0 rfl) ?_
  refine lv_aload_n hx hb dX2_splice_6 rfl (lv_at hl 0 rfl) ?_
  refine lv_iload_n hx hb dX2_splice_7 rfl (lv_at hl 1 rfl) ?_
  refine lv_iload_n hx hb dX2_splice_8 rfl (lv_at hl 2 rfl) ?_
  refine lv_i2l hx hb dX2_splice_9 rfl ?_
  refine lv_iload_n hx hb dX2_splice_10 rfl (lv_at hl 3 rfl) ?_
  refine lv_iload hx hb dX2_splice_11 (lv_at hl 4 rfl) ?_
  refine lv_i2l hx hb dX2_splice_13 rfl ?_
  refine lv_iload hx hb dX2_splice_14 (lv_at hl 5 rfl) ?_
  refine lv_i2l hx hb dX2_splice_16 rfl ?_
  refine m_calli (rest := [.ref (h 0)]) F I (c_X2_spliced (p0) ((p1).toInt64) (p2) ((p3).toInt64) ((p4).toInt64) _ _ hw) (cwV 5 hts gX2_splice_X2_spliced rfl rfl rfl (by decide +kernel) ⟨Nat.le_of_ble_eq_true rfl, Nat.le_of_ble_eq_true rfl⟩) rfl hl.1 rfl (Nat.le_of_ble_eq_true rfl) dX2_splice_17 ⟨Nat.zero_le _, Nat.zero_le _⟩ (fun r1 S2 H locs hw I => ?_)
  refine m_calli (rest := []) F I (c_X2_told (r1) _ _ hw) (cwV 1 hts gX2_splice_X2_told rfl rfl rfl (by decide +kernel) ⟨Nat.le_of_ble_eq_true rfl, Nat.le_of_ble_eq_true rfl⟩) rfl hl.1 rfl (Nat.le_of_ble_eq_true rfl) dX2_splice_20 ⟨Nat.zero_le _, Nat.zero_le _⟩ (fun r3 S4 H locs hw I => ?_)
  refine lv_istore (lv' := [(6, .int (r3)), (0, .ref (h 0)), (1, .int (p0)), (2, .int (p1)), (3, .int (p2)), (4, .int (p3)), (5, .int (p4))]) hx hb dX2_splice_23 hl (by decide) rfl (fun ls hl => ?_)
  refine lv_iload hx hb dX2_splice_25 (lv_at hl 0 rfl) ?_
  refine lv_if_le (tgt := 36) hx hb dX2_splice_27 (by decide) (fun c_5 => ?_) (fun c_5 => ?_)
  · have hw := hw.1 c_5
    refine lv_iload hx hb dX2_splice_36 (lv_at hl 6 rfl) ?_
    exact m_reti F hr hlk I dX2_splice_38 hw
  · have hw := hw.2 c_5
    refine lv_iload hx hb dX2_splice_30 (lv_at hl 0 rfl) ?_
    refine lv_ineg hx hb dX2_splice_32 ?_
    refine lv_goto (tgt := 38) hx hb dX2_splice_33 (by decide) ?_
    exact m_reti F hr hlk I dX2_splice_38 hw
abbrev rm_X2_loop : Room := { frames := 3, cells := 0, slots := 0, locals := 75 }
def wl_X2_loop_45 (K : Int32 → mS → Prop) : Nat → Int32 → Int32 → Int32 → Int32 → Int32 → Int32 → Int32 → mS → Prop
  | 0, _, _, _, _, _, _, _, _ => False
  | n + 1, v1, v2, v3, v4, v5, v6, v7, S => ((v4 < v7 → wp_X2_told (v6) S (fun r12 S13 => K (v5) S13)) ∧ (¬ v4 < v7 → ((¬ v6 = 0 → wp_X2_told (v6) S (fun r15 S16 => K (v5) S16)) ∧ (v6 = 0 → wp_X2_spliced (v1) ((v2).toInt64) (v1) (((v2).toInt64 + ((v7).toInt64 * (v3).toInt64))) ((v3).toInt64) S (fun r17 S18 => ((¬ r17 = 0 → wl_X2_loop_45 K n (v1) (v2) (v3) (v4) ((v5 + (0 : Int32))) (r17) ((v7 + (1 : Int32))) S18) ∧ (r17 = 0 → wl_X2_loop_45 K n (v1) (v2) (v3) (v4) ((v5 + (1 : Int32))) (r17) ((v7 + (1 : Int32))) S18)))))))
def wp_X2_loop (p0 : Int32) (p1 : Int32) (p2 : Int32) (p3 : Int32) (S : mS) (K : Int32 → mS → Prop) : Prop := wp_X2_begin  (S.si 23 (0 : Int32)) (fun S2 => wp_X2_isSpindle (p0) (fun r3 => ((r3 = 0 → wp_X2_told ((6 : Int32)) S2 (fun r5 S6 => K ((-r5)) S6)) ∧ (¬ r3 = 0 → ((p3 < 0 → wp_X2_told ((6 : Int32)) S2 (fun r8 S9 => K ((-r8)) S9)) ∧ (¬ p3 < 0 → ((p3 ≤ (20 : Int32) → (∃ n45 : Nat, wl_X2_loop_45 K n45 (p0) (p1) (p2) (p3) ((0 : Int32)) ((0 : Int32)) ((1 : Int32)) S2)) ∧ (¬ p3 ≤ (20 : Int32) → wp_X2_told ((6 : Int32)) S2 (fun r20 S21 => K ((-r20)) S21)))))))))
set_option maxHeartbeats 4000000 in
set_option maxRecDepth 100000 in
theorem lp_X2_loop_45 {p : Program} {l : Launch} {e : Env} {s : State} {m : MethodId} {args : Array Value} {below : List Frame} {meth : Method} {c : Code} {D : va_G} {cI cJ : ClassId} {h : Nat → Nat} {A : Nat → Prop} {K : Int32 → mS → Prop} (F : CallFix p m c cX2_loop 8 s args wsX2_loop RX2) (hin : ∀ w ∈ u_ws RX2 TX2 24, w ∈ wsX2_loop) (hr : meth.sig.returnType = some .int) (hlk : meth.locks = false) :
    ∀ (n : Nat) (v1 : Int32) (v2 : Int32) (v3 : Int32) (v4 : Int32) (v5 : Int32) (v6 : Int32) (v7 : Int32) (S : mS) (H : Heap) (locs : List Loc), mI D cI cJ h A s s.heap H locs S → ∀ (ls : Array Slot), lv_has ls 8 [(0, .ref (h 0)), (1, .int (v1)), (2, .int (v2)), (3, .int (v3)), (4, .int (v4)), (5, .int (v5)), (6, .int (v6)), (7, .int (v7))] → wl_X2_loop_45 K n v1 v2 v3 v4 v5 v6 v7 S → W p l e rm_X2_loop s m args below meth c H locs 0 0 (MQ below (va_Qi K (mB D cI cJ h A) A) args s 0 0 A) (F0 m 45 ls []) := by
  obtain ⟨hx, hb, hml, hown, hts⟩ := id F
  intro n
  induction n with
  | zero => intro v1 v2 v3 v4 v5 v6 v7 S H locs I ls hl hw; exact hw.elim
  | succ n ih =>
    intro v1 v2 v3 v4 v5 v6 v7 S H locs I ls hl hw
    rw [wl_X2_loop_45] at hw
    refine lv_iload hx hb dX2_loop_45 (lv_at hl 7 rfl) ?_
    refine lv_iload hx hb dX2_loop_47 (lv_at hl 4 rfl) ?_
    refine lv_icmp_gt (tgt := 99) hx hb dX2_loop_49 (by decide) (fun c_11 => ?_) (fun c_11 => ?_)
    · have hw := hw.1 c_11
      refine lv_aload_n hx hb dX2_loop_99 rfl (lv_at hl 0 rfl) ?_
      refine lv_iload hx hb dX2_loop_100 (lv_at hl 6 rfl) ?_
      refine m_calli (rest := []) F I (c_X2_told (v6) _ _ hw) (cwV 1 hts gX2_loop_X2_told rfl rfl rfl (by decide +kernel) ⟨Nat.le_of_ble_eq_true rfl, Nat.le_of_ble_eq_true rfl⟩) rfl hl.1 rfl (Nat.le_of_ble_eq_true rfl) dX2_loop_102 ⟨Nat.zero_le _, Nat.zero_le _⟩ (fun r12 S13 H locs hw I => ?_)
      refine lv_pop hx hb dX2_loop_105 rfl ?_
      refine lv_iload hx hb dX2_loop_106 (lv_at hl 5 rfl) ?_
      exact m_reti F hr hlk I dX2_loop_108 hw
    · have hw := hw.2 c_11
      refine lv_iload hx hb dX2_loop_52 (lv_at hl 6 rfl) ?_
      refine lv_if_ne (tgt := 99) hx hb dX2_loop_54 (by decide) (fun c_14 => ?_) (fun c_14 => ?_)
      · have hw := hw.1 c_14
        refine lv_aload_n hx hb dX2_loop_99 rfl (lv_at hl 0 rfl) ?_
        refine lv_iload hx hb dX2_loop_100 (lv_at hl 6 rfl) ?_
        refine m_calli (rest := []) F I (c_X2_told (v6) _ _ hw) (cwV 1 hts gX2_loop_X2_told rfl rfl rfl (by decide +kernel) ⟨Nat.le_of_ble_eq_true rfl, Nat.le_of_ble_eq_true rfl⟩) rfl hl.1 rfl (Nat.le_of_ble_eq_true rfl) dX2_loop_102 ⟨Nat.zero_le _, Nat.zero_le _⟩ (fun r15 S16 H locs hw I => ?_)
        refine lv_pop hx hb dX2_loop_105 rfl ?_
        refine lv_iload hx hb dX2_loop_106 (lv_at hl 5 rfl) ?_
        exact m_reti F hr hlk I dX2_loop_108 hw
      · have hw := hw.2 c_14
        refine lv_aload_n hx hb dX2_loop_57 rfl (lv_at hl 0 rfl) ?_
        refine lv_iload_n hx hb dX2_loop_58 rfl (lv_at hl 1 rfl) ?_
        refine lv_iload_n hx hb dX2_loop_59 rfl (lv_at hl 2 rfl) ?_
        refine lv_i2l hx hb dX2_loop_60 rfl ?_
        refine lv_iload_n hx hb dX2_loop_61 rfl (lv_at hl 1 rfl) ?_
        refine lv_iload_n hx hb dX2_loop_62 rfl (lv_at hl 2 rfl) ?_
        refine lv_i2l hx hb dX2_loop_63 rfl ?_
        refine lv_iload hx hb dX2_loop_64 (lv_at hl 7 rfl) ?_
        refine lv_i2l hx hb dX2_loop_66 rfl ?_
        refine lv_iload_n hx hb dX2_loop_67 rfl (lv_at hl 3 rfl) ?_
        refine lv_i2l hx hb dX2_loop_68 rfl ?_
        refine lv_lmul hx hb dX2_loop_69 ?_
        refine lv_ladd hx hb dX2_loop_70 ?_
        refine lv_iload_n hx hb dX2_loop_71 rfl (lv_at hl 3 rfl) ?_
        refine lv_i2l hx hb dX2_loop_72 rfl ?_
        refine m_calli (rest := []) F I (c_X2_spliced (v1) ((v2).toInt64) (v1) (((v2).toInt64 + ((v7).toInt64 * (v3).toInt64))) ((v3).toInt64) _ _ hw) (cwV 5 hts gX2_loop_X2_spliced rfl rfl rfl (by decide +kernel) ⟨Nat.le_of_ble_eq_true rfl, Nat.le_of_ble_eq_true rfl⟩) rfl hl.1 rfl (Nat.le_of_ble_eq_true rfl) dX2_loop_73 ⟨Nat.zero_le _, Nat.zero_le _⟩ (fun r17 S18 H locs hw I => ?_)
        refine lv_istore (lv' := [(6, .int (r17)), (0, .ref (h 0)), (1, .int (v1)), (2, .int (v2)), (3, .int (v3)), (4, .int (v4)), (5, .int (v5)), (7, .int (v7))]) hx hb dX2_loop_76 hl (by decide) rfl (fun ls hl => ?_)
        refine lv_iload hx hb dX2_loop_78 (lv_at hl 6 rfl) ?_
        refine lv_iload hx hb dX2_loop_80 (lv_at hl 0 rfl) ?_
        refine lv_if_ne (tgt := 89) hx hb dX2_loop_82 (by decide) (fun c_19 => ?_) (fun c_19 => ?_)
        · have hw := hw.1 c_19
          refine lv_iconst (v := (0 : Int32)) hx hb dX2_loop_89 (by decide) ?_
          refine lv_iadd hx hb dX2_loop_90 ?_
          refine lv_istore (lv' := [(5, .int ((v5 + (0 : Int32)))), (6, .int (r17)), (0, .ref (h 0)), (1, .int (v1)), (2, .int (v2)), (3, .int (v3)), (4, .int (v4)), (7, .int (v7))]) hx hb dX2_loop_91 hl (by decide) rfl (fun ls hl => ?_)
          refine lv_iinc (v := (v7 + (1 : Int32))) (lv' := [(7, .int ((v7 + (1 : Int32)))), (5, .int ((v5 + (0 : Int32)))), (6, .int (r17)), (0, .ref (h 0)), (1, .int (v1)), (2, .int (v2)), (3, .int (v3)), (4, .int (v4))]) hx hb dX2_loop_93 hl (k := 7) rfl rfl (by decide) rfl (fun ls hl => ?_)
          refine lv_goto (tgt := 45) hx hb dX2_loop_96 (by decide) ?_
          exact ih (v1) (v2) (v3) (v4) ((v5 + (0 : Int32))) (r17) ((v7 + (1 : Int32))) S18 _ _ I ls (lv_sub hl [3, 4, 5, 6, 7, 1, 2, 0] rfl) hw
        · have hw := hw.2 c_19
          refine lv_iconst (v := (1 : Int32)) hx hb dX2_loop_85 (by decide) ?_
          refine lv_goto (tgt := 90) hx hb dX2_loop_86 (by decide) ?_
          refine lv_iadd hx hb dX2_loop_90 ?_
          refine lv_istore (lv' := [(5, .int ((v5 + (1 : Int32)))), (6, .int (r17)), (0, .ref (h 0)), (1, .int (v1)), (2, .int (v2)), (3, .int (v3)), (4, .int (v4)), (7, .int (v7))]) hx hb dX2_loop_91 hl (by decide) rfl (fun ls hl => ?_)
          refine lv_iinc (v := (v7 + (1 : Int32))) (lv' := [(7, .int ((v7 + (1 : Int32)))), (5, .int ((v5 + (1 : Int32)))), (6, .int (r17)), (0, .ref (h 0)), (1, .int (v1)), (2, .int (v2)), (3, .int (v3)), (4, .int (v4))]) hx hb dX2_loop_93 hl (k := 7) rfl rfl (by decide) rfl (fun ls hl => ?_)
          refine lv_goto (tgt := 45) hx hb dX2_loop_96 (by decide) ?_
          exact ih (v1) (v2) (v3) (v4) ((v5 + (1 : Int32))) (r17) ((v7 + (1 : Int32))) S18 _ _ I ls (lv_sub hl [3, 4, 5, 6, 7, 1, 2, 0] rfl) hw
set_option maxHeartbeats 4000000 in
set_option maxRecDepth 100000 in
theorem c_X2_loop {l : Launch} {D : va_G} {cI cJ : ClassId} {h : Nat → Nat} (p0 : Int32) (p1 : Int32) (p2 : Int32) (p3 : Int32) (S : mS) (K : Int32 → mS → Prop) (hw : wp_X2_loop p0 p1 p2 p3 S K) : mMi l D cI cJ h yX2_loop wsX2_loop rm_X2_loop [.ref (h 0), .int (p0), .int (p1), .int (p2), .int (p3)] K S := by
  refine m_starti (rt := some .int) (by decide) rfl rfl (Nat.le_of_ble_eq_true rfl) ?_
  intro p e s m below meth c A ls F hr hlk I hl
  have hin : ∀ w ∈ u_ws RX2 TX2 24, w ∈ wsX2_loop := by decide +kernel
  obtain ⟨hx, hb, hml, hown, hts⟩ := id F
  have hl : lv_has ls 8 [(0, .ref (h 0)), (1, .int (p0)), (2, .int (p1)), (3, .int (p2)), (4, .int (p3))] := hl
  unfold wp_X2_loop at hw
  refine lv_aload_n hx hb dX2_loop_0 rfl (lv_at hl 0 rfl) ?_
  refine lv_iconst (v := (0 : Int32)) hx hb dX2_loop_1 (by decide) ?_
  refine m_put F hin I 23 (by decide) (hts (.fieldLink RX2 44 "CuttingTableModel" "thrown" "I") (by decide +kernel)) dX2_loop_2 (fun H locs I => ?_)
  refine lv_aload_n hx hb dX2_loop_5 rfl (lv_at hl 0 rfl) ?_
  refine m_callv (rest := []) F I (c_X2_begin  _ _ hw) (cwV 0 hts gX2_loop_X2_begin rfl rfl rfl (by decide +kernel) ⟨Nat.le_of_ble_eq_true rfl, Nat.le_of_ble_eq_true rfl⟩) rfl hl.1 rfl (Nat.le_of_ble_eq_true rfl) dX2_loop_6 ⟨Nat.zero_le _, Nat.zero_le _⟩ (fun S2 H locs hw I => ?_)
  refine lv_iload_n hx hb dX2_loop_9 rfl (lv_at hl 1 rfl) ?_
  refine s_calli (rest := []) F (c_X2_isSpindle (p0) _ hw) (va_cwS 1 hts gX2_loop_X2_isSpindle rfl rfl rfl (by decide +kernel) ⟨Nat.le_of_ble_eq_true rfl, Nat.le_of_ble_eq_true rfl⟩) rfl hl.1 rfl (Nat.le_of_ble_eq_true rfl) dX2_loop_10 ⟨Nat.zero_le _, Nat.zero_le _⟩ (fun r3 hw => ?_)
  refine lv_if_eq (tgt := 28) hx hb dX2_loop_13 (by decide) (fun c_4 => ?_) (fun c_4 => ?_)
  · have hw := hw.1 c_4
    refine lv_aload_n hx hb dX2_loop_28 rfl (lv_at hl 0 rfl) ?_
    refine lv_bipush (v := (6 : Int32)) hx hb dX2_loop_29 (by decide) ?_
    refine m_calli (rest := []) F I (c_X2_told ((6 : Int32)) _ _ hw) (cwV 1 hts gX2_loop_X2_told rfl rfl rfl (by decide +kernel) ⟨Nat.le_of_ble_eq_true rfl, Nat.le_of_ble_eq_true rfl⟩) rfl hl.1 rfl (Nat.le_of_ble_eq_true rfl) dX2_loop_31 ⟨Nat.zero_le _, Nat.zero_le _⟩ (fun r5 S6 H locs hw I => ?_)
    refine lv_ineg hx hb dX2_loop_34 ?_
    exact m_reti F hr hlk I dX2_loop_35 hw
  · have hw := hw.2 c_4
    refine lv_iload hx hb dX2_loop_16 (lv_at hl 4 rfl) ?_
    refine lv_if_lt (tgt := 28) hx hb dX2_loop_18 (by decide) (fun c_7 => ?_) (fun c_7 => ?_)
    · have hw := hw.1 c_7
      refine lv_aload_n hx hb dX2_loop_28 rfl (lv_at hl 0 rfl) ?_
      refine lv_bipush (v := (6 : Int32)) hx hb dX2_loop_29 (by decide) ?_
      refine m_calli (rest := []) F I (c_X2_told ((6 : Int32)) _ _ hw) (cwV 1 hts gX2_loop_X2_told rfl rfl rfl (by decide +kernel) ⟨Nat.le_of_ble_eq_true rfl, Nat.le_of_ble_eq_true rfl⟩) rfl hl.1 rfl (Nat.le_of_ble_eq_true rfl) dX2_loop_31 ⟨Nat.zero_le _, Nat.zero_le _⟩ (fun r8 S9 H locs hw I => ?_)
      refine lv_ineg hx hb dX2_loop_34 ?_
      exact m_reti F hr hlk I dX2_loop_35 hw
    · have hw := hw.2 c_7
      refine lv_iload hx hb dX2_loop_21 (lv_at hl 4 rfl) ?_
      refine lv_bipush (v := (20 : Int32)) hx hb dX2_loop_23 (by decide) ?_
      refine lv_icmp_le (tgt := 36) hx hb dX2_loop_25 (by decide) (fun c_10 => ?_) (fun c_10 => ?_)
      · have hw := hw.1 c_10
        refine lv_iconst (v := (0 : Int32)) hx hb dX2_loop_36 (by decide) ?_
        refine lv_istore (lv' := [(5, .int ((0 : Int32))), (0, .ref (h 0)), (1, .int (p0)), (2, .int (p1)), (3, .int (p2)), (4, .int (p3))]) hx hb dX2_loop_37 hl (by decide) rfl (fun ls hl => ?_)
        refine lv_iconst (v := (0 : Int32)) hx hb dX2_loop_39 (by decide) ?_
        refine lv_istore (lv' := [(6, .int ((0 : Int32))), (5, .int ((0 : Int32))), (0, .ref (h 0)), (1, .int (p0)), (2, .int (p1)), (3, .int (p2)), (4, .int (p3))]) hx hb dX2_loop_40 hl (by decide) rfl (fun ls hl => ?_)
        refine lv_iconst (v := (1 : Int32)) hx hb dX2_loop_42 (by decide) ?_
        refine lv_istore (lv' := [(7, .int ((1 : Int32))), (6, .int ((0 : Int32))), (5, .int ((0 : Int32))), (0, .ref (h 0)), (1, .int (p0)), (2, .int (p1)), (3, .int (p2)), (4, .int (p3))]) hx hb dX2_loop_43 hl (by decide) rfl (fun ls hl => ?_)
        obtain ⟨n45, hw⟩ := hw
        exact lp_X2_loop_45 F hin hr hlk n45 (p0) (p1) (p2) (p3) ((0 : Int32)) ((0 : Int32)) ((1 : Int32)) S2 _ _ I ls (lv_sub hl [3, 4, 5, 6, 7, 2, 1, 0] rfl) hw
      · have hw := hw.2 c_10
        refine lv_aload_n hx hb dX2_loop_28 rfl (lv_at hl 0 rfl) ?_
        refine lv_bipush (v := (6 : Int32)) hx hb dX2_loop_29 (by decide) ?_
        refine m_calli (rest := []) F I (c_X2_told ((6 : Int32)) _ _ hw) (cwV 1 hts gX2_loop_X2_told rfl rfl rfl (by decide +kernel) ⟨Nat.le_of_ble_eq_true rfl, Nat.le_of_ble_eq_true rfl⟩) rfl hl.1 rfl (Nat.le_of_ble_eq_true rfl) dX2_loop_31 ⟨Nat.zero_le _, Nat.zero_le _⟩ (fun r20 S21 H locs hw I => ?_)
        refine lv_ineg hx hb dX2_loop_34 ?_
        exact m_reti F hr hlk I dX2_loop_35 hw
abbrev rm_X2_note : Room := { frames := 0, cells := 0, slots := 0, locals := 0 }
def wp_X2_note (p0 : Int32) (p1 : Int32) (p2 : Int32) (p3 : Int32) (p4 : Int32) (S : mS) (K : Int32 → mS → Prop) : Prop := ((¬ (S.fi 12) = (16 : Int32) → (vp_in (((5 : Int32) * (S.fi 12))) 80 ∧ (vp_in ((((5 : Int32) * (S.fi 12)) + (1 : Int32))) 80 ∧ (vp_in ((((5 : Int32) * (S.fi 12)) + (2 : Int32))) 80 ∧ (vp_in ((((5 : Int32) * (S.fi 12)) + (3 : Int32))) 80 ∧ (vp_in ((((5 : Int32) * (S.fi 12)) + (4 : Int32))) 80 ∧ K ((((S.fi 12) + (1 : Int32)))) (((((((S.si 23 (0 : Int32)).sa 9 (((5 : Int32) * (S.fi 12))).toNatClampNeg (p0)).sa 9 ((((5 : Int32) * (S.fi 12)) + (1 : Int32))).toNatClampNeg (p1)).sa 9 ((((5 : Int32) * (S.fi 12)) + (2 : Int32))).toNatClampNeg (p2)).sa 9 ((((5 : Int32) * (S.fi 12)) + (3 : Int32))).toNatClampNeg (p3)).sa 9 ((((5 : Int32) * (S.fi 12)) + (4 : Int32))).toNatClampNeg (p4)).si 12 (((S.fi 12) + (1 : Int32)))))))))) ∧ ((S.fi 12) = (16 : Int32) → K ((-1 : Int32)) (S.si 23 (0 : Int32))))
set_option maxHeartbeats 4000000 in
set_option maxRecDepth 100000 in
theorem c_X2_note {l : Launch} {D : va_G} {cI cJ : ClassId} {h : Nat → Nat} (p0 : Int32) (p1 : Int32) (p2 : Int32) (p3 : Int32) (p4 : Int32) (S : mS) (K : Int32 → mS → Prop) (hw : wp_X2_note p0 p1 p2 p3 p4 S K) : mMi l D cI cJ h yX2_note wsX2_note rm_X2_note [.ref (h 0), .int (p0), .int (p1), .int (p2), .int (p3), .int (p4)] K S := by
  refine m_starti (rt := some .int) (by decide) rfl rfl (Nat.le_of_ble_eq_true rfl) ?_
  intro p e s m below meth c A ls F hr hlk I hl
  have hin : ∀ w ∈ u_ws RX2 TX2 24, w ∈ wsX2_note := by decide +kernel
  obtain ⟨hx, hb, hml, hown, hts⟩ := id F
  have hl : lv_has ls 6 [(0, .ref (h 0)), (1, .int (p0)), (2, .int (p1)), (3, .int (p2)), (4, .int (p3)), (5, .int (p4))] := hl
  unfold wp_X2_note at hw
  refine lv_aload_n hx hb dX2_note_0 rfl (lv_at hl 0 rfl) ?_
  refine lv_iconst (v := (0 : Int32)) hx hb dX2_note_1 (by decide) ?_
  refine m_put F hin I 23 (by decide) (hts (.fieldLink RX2 44 "CuttingTableModel" "thrown" "I") (by decide +kernel)) dX2_note_2 (fun H locs I => ?_)
  refine lv_aload_n hx hb dX2_note_5 rfl (lv_at hl 0 rfl) ?_
  refine m_get F hin I 12 (by decide) (v := .int ((S.fi 12))) rfl (hts (.fieldLink RX2 129 "CuttingTableModel" "cuts" "I") (by decide +kernel)) dX2_note_6 ?_
  refine lv_bipush (v := (16 : Int32)) hx hb dX2_note_9 (by decide) ?_
  refine lv_icmp_ne (tgt := 16) hx hb dX2_note_11 (by decide) (fun c_1 => ?_) (fun c_1 => ?_)
  · have hw := hw.1 c_1
    refine lv_aload_n hx hb dX2_note_16 rfl (lv_at hl 0 rfl) ?_
    refine m_get F hin I 11 (by decide) (v := .ref (h 9)) rfl (hts (.fieldLink RX2 35 "CuttingTableModel" "list" "[I") (by decide +kernel)) dX2_note_17 ?_
    refine lv_iconst (v := (5 : Int32)) hx hb dX2_note_20 (by decide) ?_
    refine lv_aload_n hx hb dX2_note_21 rfl (lv_at hl 0 rfl) ?_
    refine m_get F hin I 12 (by decide) (v := .int ((S.fi 12))) rfl (hts (.fieldLink RX2 129 "CuttingTableModel" "cuts" "I") (by decide +kernel)) dX2_note_22 ?_
    refine lv_imul hx hb dX2_note_25 ?_
    refine lv_iload_n hx hb dX2_note_26 rfl (lv_at hl 1 rfl) ?_
    obtain ⟨hi2, hw⟩ := hw
    refine m_iast F I 9 80 (by decide) hi2 dX2_note_27 (fun H locs I => ?_)
    refine lv_aload_n hx hb dX2_note_28 rfl (lv_at hl 0 rfl) ?_
    refine m_get F hin I 11 (by decide) (v := .ref (h 9)) rfl (hts (.fieldLink RX2 35 "CuttingTableModel" "list" "[I") (by decide +kernel)) dX2_note_29 ?_
    refine lv_iconst (v := (5 : Int32)) hx hb dX2_note_32 (by decide) ?_
    refine lv_aload_n hx hb dX2_note_33 rfl (lv_at hl 0 rfl) ?_
    refine m_get F hin I 12 (by decide) (v := .int ((S.fi 12))) rfl (hts (.fieldLink RX2 129 "CuttingTableModel" "cuts" "I") (by decide +kernel)) dX2_note_34 ?_
    refine lv_imul hx hb dX2_note_37 ?_
    refine lv_iconst (v := (1 : Int32)) hx hb dX2_note_38 (by decide) ?_
    refine lv_iadd hx hb dX2_note_39 ?_
    refine lv_iload_n hx hb dX2_note_40 rfl (lv_at hl 2 rfl) ?_
    obtain ⟨hi3, hw⟩ := hw
    refine m_iast F I 9 80 (by decide) hi3 dX2_note_41 (fun H locs I => ?_)
    refine lv_aload_n hx hb dX2_note_42 rfl (lv_at hl 0 rfl) ?_
    refine m_get F hin I 11 (by decide) (v := .ref (h 9)) rfl (hts (.fieldLink RX2 35 "CuttingTableModel" "list" "[I") (by decide +kernel)) dX2_note_43 ?_
    refine lv_iconst (v := (5 : Int32)) hx hb dX2_note_46 (by decide) ?_
    refine lv_aload_n hx hb dX2_note_47 rfl (lv_at hl 0 rfl) ?_
    refine m_get F hin I 12 (by decide) (v := .int ((S.fi 12))) rfl (hts (.fieldLink RX2 129 "CuttingTableModel" "cuts" "I") (by decide +kernel)) dX2_note_48 ?_
    refine lv_imul hx hb dX2_note_51 ?_
    refine lv_iconst (v := (2 : Int32)) hx hb dX2_note_52 (by decide) ?_
    refine lv_iadd hx hb dX2_note_53 ?_
    refine lv_iload_n hx hb dX2_note_54 rfl (lv_at hl 3 rfl) ?_
    obtain ⟨hi4, hw⟩ := hw
    refine m_iast F I 9 80 (by decide) hi4 dX2_note_55 (fun H locs I => ?_)
    refine lv_aload_n hx hb dX2_note_56 rfl (lv_at hl 0 rfl) ?_
    refine m_get F hin I 11 (by decide) (v := .ref (h 9)) rfl (hts (.fieldLink RX2 35 "CuttingTableModel" "list" "[I") (by decide +kernel)) dX2_note_57 ?_
    refine lv_iconst (v := (5 : Int32)) hx hb dX2_note_60 (by decide) ?_
    refine lv_aload_n hx hb dX2_note_61 rfl (lv_at hl 0 rfl) ?_
    refine m_get F hin I 12 (by decide) (v := .int ((S.fi 12))) rfl (hts (.fieldLink RX2 129 "CuttingTableModel" "cuts" "I") (by decide +kernel)) dX2_note_62 ?_
    refine lv_imul hx hb dX2_note_65 ?_
    refine lv_iconst (v := (3 : Int32)) hx hb dX2_note_66 (by decide) ?_
    refine lv_iadd hx hb dX2_note_67 ?_
    refine lv_iload hx hb dX2_note_68 (lv_at hl 4 rfl) ?_
    obtain ⟨hi5, hw⟩ := hw
    refine m_iast F I 9 80 (by decide) hi5 dX2_note_70 (fun H locs I => ?_)
    refine lv_aload_n hx hb dX2_note_71 rfl (lv_at hl 0 rfl) ?_
    refine m_get F hin I 11 (by decide) (v := .ref (h 9)) rfl (hts (.fieldLink RX2 35 "CuttingTableModel" "list" "[I") (by decide +kernel)) dX2_note_72 ?_
    refine lv_iconst (v := (5 : Int32)) hx hb dX2_note_75 (by decide) ?_
    refine lv_aload_n hx hb dX2_note_76 rfl (lv_at hl 0 rfl) ?_
    refine m_get F hin I 12 (by decide) (v := .int ((S.fi 12))) rfl (hts (.fieldLink RX2 129 "CuttingTableModel" "cuts" "I") (by decide +kernel)) dX2_note_77 ?_
    refine lv_imul hx hb dX2_note_80 ?_
    refine lv_iconst (v := (4 : Int32)) hx hb dX2_note_81 (by decide) ?_
    refine lv_iadd hx hb dX2_note_82 ?_
    refine lv_iload hx hb dX2_note_83 (lv_at hl 5 rfl) ?_
    obtain ⟨hi6, hw⟩ := hw
    refine m_iast F I 9 80 (by decide) hi6 dX2_note_85 (fun H locs I => ?_)
    refine lv_aload_n hx hb dX2_note_86 rfl (lv_at hl 0 rfl) ?_
    refine lv_dup hx hb dX2_note_87 rfl ?_
    refine m_get F hin I 12 (by decide) (v := .int ((S.fi 12))) rfl (hts (.fieldLink RX2 129 "CuttingTableModel" "cuts" "I") (by decide +kernel)) dX2_note_88 ?_
    refine lv_iconst (v := (1 : Int32)) hx hb dX2_note_91 (by decide) ?_
    refine lv_iadd hx hb dX2_note_92 ?_
    refine m_put F hin I 12 (by decide) (hts (.fieldLink RX2 129 "CuttingTableModel" "cuts" "I") (by decide +kernel)) dX2_note_93 (fun H locs I => ?_)
    refine lv_aload_n hx hb dX2_note_96 rfl (lv_at hl 0 rfl) ?_
    refine m_get F hin I 12 (by decide) (v := .int ((((S.fi 12) + (1 : Int32))))) rfl (hts (.fieldLink RX2 129 "CuttingTableModel" "cuts" "I") (by decide +kernel)) dX2_note_97 ?_
    exact m_reti F hr hlk I dX2_note_100 hw
  · have hw := hw.2 c_1
    refine lv_iconst (v := (-1 : Int32)) hx hb dX2_note_14 (by decide) ?_
    exact m_reti F hr hlk I dX2_note_15 hw
abbrev rm_X2_play : Room := { frames := 3, cells := 0, slots := 0, locals := 75 }
def wl_X2_play_100 (K : Int32 → mS → Prop) : Nat → Int32 → Int32 → Int32 → mS → Prop
  | 0, _, _, _, _ => False
  | n + 1, v1, v2, v3, S => ((((5 : Int32) * (S.fi 12)) ≤ v3 → wp_X2_told (v2) (S.si 12 (((S.fi 12) - v1))) (fun r5 S6 => K (v1) S6)) ∧ (¬ ((5 : Int32) * (S.fi 12)) ≤ v3 → (vp_in (v3) 80 ∧ (vp_in ((v3 - ((5 : Int32) * v1))) 80 ∧ wl_X2_play_100 K n (v1) (v2) ((v3 + (1 : Int32))) (S.sa 9 ((v3 - ((5 : Int32) * v1))).toNatClampNeg ((S.ia 9 (v3).toNatClampNeg)))))))
def wl_X2_play_13 (K : Int32 → mS → Prop) : Nat → Int32 → Int32 → mS → Prop
  | 0, _, _, _ => False
  | n + 1, v1, v2, S => (((S.fi 12) ≤ v1 → (∃ n100 : Nat, wl_X2_play_100 K n100 (v1) (v2) (((5 : Int32) * v1)) S)) ∧ (¬ (S.fi 12) ≤ v1 → ((¬ v2 = 0 → (∃ n100 : Nat, wl_X2_play_100 K n100 (v1) (v2) (((5 : Int32) * v1)) S)) ∧ (v2 = 0 → (vp_in (((5 : Int32) * v1)) 80 ∧ (vp_in ((((5 : Int32) * v1) + (1 : Int32))) 80 ∧ (vp_in ((((5 : Int32) * v1) + (2 : Int32))) 80 ∧ (vp_in ((((5 : Int32) * v1) + (3 : Int32))) 80 ∧ (vp_in ((((5 : Int32) * v1) + (4 : Int32))) 80 ∧ wp_X2_spliced ((S.ia 9 (((5 : Int32) * v1)).toNatClampNeg)) (((S.ia 9 ((((5 : Int32) * v1) + (1 : Int32))).toNatClampNeg)).toInt64) ((S.ia 9 ((((5 : Int32) * v1) + (2 : Int32))).toNatClampNeg)) (((S.ia 9 ((((5 : Int32) * v1) + (3 : Int32))).toNatClampNeg)).toInt64) (((S.ia 9 ((((5 : Int32) * v1) + (4 : Int32))).toNatClampNeg)).toInt64) S (fun r15 S16 => ((¬ r15 = 0 → wl_X2_play_13 K n ((v1 + (0 : Int32))) (r15) S16) ∧ (r15 = 0 → wl_X2_play_13 K n ((v1 + (1 : Int32))) (r15) S16))))))))))))
def wp_X2_play  (S : mS) (K : Int32 → mS → Prop) : Prop := wp_X2_begin  (S.si 23 (0 : Int32)) (fun S2 => (∃ n13 : Nat, wl_X2_play_13 K n13 ((0 : Int32)) ((0 : Int32)) S2))
set_option maxHeartbeats 4000000 in
set_option maxRecDepth 100000 in
theorem lp_X2_play_100 {p : Program} {l : Launch} {e : Env} {s : State} {m : MethodId} {args : Array Value} {below : List Frame} {meth : Method} {c : Code} {D : va_G} {cI cJ : ClassId} {h : Nat → Nat} {A : Nat → Prop} {K : Int32 → mS → Prop} (F : CallFix p m c cX2_play 4 s args wsX2_play RX2) (hin : ∀ w ∈ u_ws RX2 TX2 24, w ∈ wsX2_play) (hr : meth.sig.returnType = some .int) (hlk : meth.locks = false) :
    ∀ (n : Nat) (v1 : Int32) (v2 : Int32) (v3 : Int32) (S : mS) (H : Heap) (locs : List Loc), mI D cI cJ h A s s.heap H locs S → ∀ (ls : Array Slot), lv_has ls 4 [(0, .ref (h 0)), (1, .int (v1)), (2, .int (v2)), (3, .int (v3))] → wl_X2_play_100 K n v1 v2 v3 S → W p l e rm_X2_play s m args below meth c H locs 0 0 (MQ below (va_Qi K (mB D cI cJ h A) A) args s 0 0 A) (F0 m 100 ls []) := by
  obtain ⟨hx, hb, hml, hown, hts⟩ := id F
  intro n
  induction n with
  | zero => intro v1 v2 v3 S H locs I ls hl hw; exact hw.elim
  | succ n ih =>
    intro v1 v2 v3 S H locs I ls hl hw
    rw [wl_X2_play_100] at hw
    refine lv_iload_n hx hb dX2_play_100 rfl (lv_at hl 3 rfl) ?_
    refine lv_iconst (v := (5 : Int32)) hx hb dX2_play_101 (by decide) ?_
    refine lv_aload_n hx hb dX2_play_102 rfl (lv_at hl 0 rfl) ?_
    refine m_get F hin I 12 (by decide) (v := .int ((S.fi 12))) rfl (hts (.fieldLink RX2 129 "CuttingTableModel" "cuts" "I") (by decide +kernel)) dX2_play_103 ?_
    refine lv_imul hx hb dX2_play_106 ?_
    refine lv_icmp_ge (tgt := 132) hx hb dX2_play_107 (by decide) (fun c_4 => ?_) (fun c_4 => ?_)
    · have hw := hw.1 c_4
      refine lv_aload_n hx hb dX2_play_132 rfl (lv_at hl 0 rfl) ?_
      refine lv_dup hx hb dX2_play_133 rfl ?_
      refine m_get F hin I 12 (by decide) (v := .int ((S.fi 12))) rfl (hts (.fieldLink RX2 129 "CuttingTableModel" "cuts" "I") (by decide +kernel)) dX2_play_134 ?_
      refine lv_iload_n hx hb dX2_play_137 rfl (lv_at hl 1 rfl) ?_
      refine lv_isub hx hb dX2_play_138 ?_
      refine m_put F hin I 12 (by decide) (hts (.fieldLink RX2 129 "CuttingTableModel" "cuts" "I") (by decide +kernel)) dX2_play_139 (fun H locs I => ?_)
      refine lv_aload_n hx hb dX2_play_142 rfl (lv_at hl 0 rfl) ?_
      refine lv_iload_n hx hb dX2_play_143 rfl (lv_at hl 2 rfl) ?_
      refine m_calli (rest := []) F I (c_X2_told (v2) _ _ hw) (cwV 1 hts gX2_play_X2_told rfl rfl rfl (by decide +kernel) ⟨Nat.le_of_ble_eq_true rfl, Nat.le_of_ble_eq_true rfl⟩) rfl hl.1 rfl (Nat.le_of_ble_eq_true rfl) dX2_play_144 ⟨Nat.zero_le _, Nat.zero_le _⟩ (fun r5 S6 H locs hw I => ?_)
      refine lv_pop hx hb dX2_play_147 rfl ?_
      refine lv_iload_n hx hb dX2_play_148 rfl (lv_at hl 1 rfl) ?_
      exact m_reti F hr hlk I dX2_play_149 hw
    · have hw := hw.2 c_4
      refine lv_aload_n hx hb dX2_play_110 rfl (lv_at hl 0 rfl) ?_
      refine m_get F hin I 11 (by decide) (v := .ref (h 9)) rfl (hts (.fieldLink RX2 35 "CuttingTableModel" "list" "[I") (by decide +kernel)) dX2_play_111 ?_
      refine lv_iload_n hx hb dX2_play_114 rfl (lv_at hl 3 rfl) ?_
      refine lv_iconst (v := (5 : Int32)) hx hb dX2_play_115 (by decide) ?_
      refine lv_iload_n hx hb dX2_play_116 rfl (lv_at hl 1 rfl) ?_
      refine lv_imul hx hb dX2_play_117 ?_
      refine lv_isub hx hb dX2_play_118 ?_
      refine lv_aload_n hx hb dX2_play_119 rfl (lv_at hl 0 rfl) ?_
      refine m_get F hin I 11 (by decide) (v := .ref (h 9)) rfl (hts (.fieldLink RX2 35 "CuttingTableModel" "list" "[I") (by decide +kernel)) dX2_play_120 ?_
      refine lv_iload_n hx hb dX2_play_123 rfl (lv_at hl 3 rfl) ?_
      obtain ⟨hi7, hw⟩ := hw
      refine m_iald F I 9 80 (by decide) hi7 dX2_play_124 ?_
      obtain ⟨hi8, hw⟩ := hw
      refine m_iast F I 9 80 (by decide) hi8 dX2_play_125 (fun H locs I => ?_)
      refine lv_iinc (v := (v3 + (1 : Int32))) (lv' := [(3, .int ((v3 + (1 : Int32)))), (0, .ref (h 0)), (1, .int (v1)), (2, .int (v2))]) hx hb dX2_play_126 hl (k := 3) rfl rfl (by decide) rfl (fun ls hl => ?_)
      refine lv_goto (tgt := 100) hx hb dX2_play_129 (by decide) ?_
      exact ih (v1) (v2) ((v3 + (1 : Int32))) (S.sa 9 ((v3 - ((5 : Int32) * v1))).toNatClampNeg ((S.ia 9 (v3).toNatClampNeg))) _ _ I ls (lv_sub hl [1, 2, 3, 0] rfl) hw
set_option maxHeartbeats 4000000 in
set_option maxRecDepth 100000 in
theorem lp_X2_play_13 {p : Program} {l : Launch} {e : Env} {s : State} {m : MethodId} {args : Array Value} {below : List Frame} {meth : Method} {c : Code} {D : va_G} {cI cJ : ClassId} {h : Nat → Nat} {A : Nat → Prop} {K : Int32 → mS → Prop} (F : CallFix p m c cX2_play 4 s args wsX2_play RX2) (hin : ∀ w ∈ u_ws RX2 TX2 24, w ∈ wsX2_play) (hr : meth.sig.returnType = some .int) (hlk : meth.locks = false) :
    ∀ (n : Nat) (v1 : Int32) (v2 : Int32) (S : mS) (H : Heap) (locs : List Loc), mI D cI cJ h A s s.heap H locs S → ∀ (ls : Array Slot), lv_has ls 4 [(0, .ref (h 0)), (1, .int (v1)), (2, .int (v2))] → wl_X2_play_13 K n v1 v2 S → W p l e rm_X2_play s m args below meth c H locs 0 0 (MQ below (va_Qi K (mB D cI cJ h A) A) args s 0 0 A) (F0 m 13 ls []) := by
  obtain ⟨hx, hb, hml, hown, hts⟩ := id F
  intro n
  induction n with
  | zero => intro v1 v2 S H locs I ls hl hw; exact hw.elim
  | succ n ih =>
    intro v1 v2 S H locs I ls hl hw
    rw [wl_X2_play_13] at hw
    refine lv_iload_n hx hb dX2_play_13 rfl (lv_at hl 1 rfl) ?_
    refine lv_aload_n hx hb dX2_play_14 rfl (lv_at hl 0 rfl) ?_
    refine m_get F hin I 12 (by decide) (v := .int ((S.fi 12))) rfl (hts (.fieldLink RX2 129 "CuttingTableModel" "cuts" "I") (by decide +kernel)) dX2_play_15 ?_
    refine lv_icmp_ge (tgt := 96) hx hb dX2_play_18 (by decide) (fun c_3 => ?_) (fun c_3 => ?_)
    · have hw := hw.1 c_3
      refine lv_iconst (v := (5 : Int32)) hx hb dX2_play_96 (by decide) ?_
      refine lv_iload_n hx hb dX2_play_97 rfl (lv_at hl 1 rfl) ?_
      refine lv_imul hx hb dX2_play_98 ?_
      refine lv_istore_n (lv' := [(3, .int (((5 : Int32) * v1))), (0, .ref (h 0)), (1, .int (v1)), (2, .int (v2))]) hx hb dX2_play_99 rfl hl (by decide) rfl (fun ls hl => ?_)
      obtain ⟨n100, hw⟩ := hw
      exact lp_X2_play_100 F hin hr hlk n100 (v1) (v2) (((5 : Int32) * v1)) S _ _ I ls (lv_sub hl [1, 2, 3, 0] rfl) hw
    · have hw := hw.2 c_3
      refine lv_iload_n hx hb dX2_play_21 rfl (lv_at hl 2 rfl) ?_
      refine lv_if_ne (tgt := 96) hx hb dX2_play_22 (by decide) (fun c_9 => ?_) (fun c_9 => ?_)
      · have hw := hw.1 c_9
        refine lv_iconst (v := (5 : Int32)) hx hb dX2_play_96 (by decide) ?_
        refine lv_iload_n hx hb dX2_play_97 rfl (lv_at hl 1 rfl) ?_
        refine lv_imul hx hb dX2_play_98 ?_
        refine lv_istore_n (lv' := [(3, .int (((5 : Int32) * v1))), (0, .ref (h 0)), (1, .int (v1)), (2, .int (v2))]) hx hb dX2_play_99 rfl hl (by decide) rfl (fun ls hl => ?_)
        obtain ⟨n100, hw⟩ := hw
        exact lp_X2_play_100 F hin hr hlk n100 (v1) (v2) (((5 : Int32) * v1)) S _ _ I ls (lv_sub hl [1, 2, 3, 0] rfl) hw
      · have hw := hw.2 c_9
        refine lv_aload_n hx hb dX2_play_25 rfl (lv_at hl 0 rfl) ?_
        refine lv_aload_n hx hb dX2_play_26 rfl (lv_at hl 0 rfl) ?_
        refine m_get F hin I 11 (by decide) (v := .ref (h 9)) rfl (hts (.fieldLink RX2 35 "CuttingTableModel" "list" "[I") (by decide +kernel)) dX2_play_27 ?_
        refine lv_iconst (v := (5 : Int32)) hx hb dX2_play_30 (by decide) ?_
        refine lv_iload_n hx hb dX2_play_31 rfl (lv_at hl 1 rfl) ?_
        refine lv_imul hx hb dX2_play_32 ?_
        obtain ⟨hi10, hw⟩ := hw
        refine m_iald F I 9 80 (by decide) hi10 dX2_play_33 ?_
        refine lv_aload_n hx hb dX2_play_34 rfl (lv_at hl 0 rfl) ?_
        refine m_get F hin I 11 (by decide) (v := .ref (h 9)) rfl (hts (.fieldLink RX2 35 "CuttingTableModel" "list" "[I") (by decide +kernel)) dX2_play_35 ?_
        refine lv_iconst (v := (5 : Int32)) hx hb dX2_play_38 (by decide) ?_
        refine lv_iload_n hx hb dX2_play_39 rfl (lv_at hl 1 rfl) ?_
        refine lv_imul hx hb dX2_play_40 ?_
        refine lv_iconst (v := (1 : Int32)) hx hb dX2_play_41 (by decide) ?_
        refine lv_iadd hx hb dX2_play_42 ?_
        obtain ⟨hi11, hw⟩ := hw
        refine m_iald F I 9 80 (by decide) hi11 dX2_play_43 ?_
        refine lv_i2l hx hb dX2_play_44 rfl ?_
        refine lv_aload_n hx hb dX2_play_45 rfl (lv_at hl 0 rfl) ?_
        refine m_get F hin I 11 (by decide) (v := .ref (h 9)) rfl (hts (.fieldLink RX2 35 "CuttingTableModel" "list" "[I") (by decide +kernel)) dX2_play_46 ?_
        refine lv_iconst (v := (5 : Int32)) hx hb dX2_play_49 (by decide) ?_
        refine lv_iload_n hx hb dX2_play_50 rfl (lv_at hl 1 rfl) ?_
        refine lv_imul hx hb dX2_play_51 ?_
        refine lv_iconst (v := (2 : Int32)) hx hb dX2_play_52 (by decide) ?_
        refine lv_iadd hx hb dX2_play_53 ?_
        obtain ⟨hi12, hw⟩ := hw
        refine m_iald F I 9 80 (by decide) hi12 dX2_play_54 ?_
        refine lv_aload_n hx hb dX2_play_55 rfl (lv_at hl 0 rfl) ?_
        refine m_get F hin I 11 (by decide) (v := .ref (h 9)) rfl (hts (.fieldLink RX2 35 "CuttingTableModel" "list" "[I") (by decide +kernel)) dX2_play_56 ?_
        refine lv_iconst (v := (5 : Int32)) hx hb dX2_play_59 (by decide) ?_
        refine lv_iload_n hx hb dX2_play_60 rfl (lv_at hl 1 rfl) ?_
        refine lv_imul hx hb dX2_play_61 ?_
        refine lv_iconst (v := (3 : Int32)) hx hb dX2_play_62 (by decide) ?_
        refine lv_iadd hx hb dX2_play_63 ?_
        obtain ⟨hi13, hw⟩ := hw
        refine m_iald F I 9 80 (by decide) hi13 dX2_play_64 ?_
        refine lv_i2l hx hb dX2_play_65 rfl ?_
        refine lv_aload_n hx hb dX2_play_66 rfl (lv_at hl 0 rfl) ?_
        refine m_get F hin I 11 (by decide) (v := .ref (h 9)) rfl (hts (.fieldLink RX2 35 "CuttingTableModel" "list" "[I") (by decide +kernel)) dX2_play_67 ?_
        refine lv_iconst (v := (5 : Int32)) hx hb dX2_play_70 (by decide) ?_
        refine lv_iload_n hx hb dX2_play_71 rfl (lv_at hl 1 rfl) ?_
        refine lv_imul hx hb dX2_play_72 ?_
        refine lv_iconst (v := (4 : Int32)) hx hb dX2_play_73 (by decide) ?_
        refine lv_iadd hx hb dX2_play_74 ?_
        obtain ⟨hi14, hw⟩ := hw
        refine m_iald F I 9 80 (by decide) hi14 dX2_play_75 ?_
        refine lv_i2l hx hb dX2_play_76 rfl ?_
        refine m_calli (rest := []) F I (c_X2_spliced ((S.ia 9 (((5 : Int32) * v1)).toNatClampNeg)) (((S.ia 9 ((((5 : Int32) * v1) + (1 : Int32))).toNatClampNeg)).toInt64) ((S.ia 9 ((((5 : Int32) * v1) + (2 : Int32))).toNatClampNeg)) (((S.ia 9 ((((5 : Int32) * v1) + (3 : Int32))).toNatClampNeg)).toInt64) (((S.ia 9 ((((5 : Int32) * v1) + (4 : Int32))).toNatClampNeg)).toInt64) _ _ hw) (cwV 5 hts gX2_play_X2_spliced rfl rfl rfl (by decide +kernel) ⟨Nat.le_of_ble_eq_true rfl, Nat.le_of_ble_eq_true rfl⟩) rfl hl.1 rfl (Nat.le_of_ble_eq_true rfl) dX2_play_77 ⟨Nat.zero_le _, Nat.zero_le _⟩ (fun r15 S16 H locs hw I => ?_)
        refine lv_istore_n (lv' := [(2, .int (r15)), (0, .ref (h 0)), (1, .int (v1))]) hx hb dX2_play_80 rfl hl (by decide) rfl (fun ls hl => ?_)
        refine lv_iload_n hx hb dX2_play_81 rfl (lv_at hl 2 rfl) ?_
        refine lv_iload_n hx hb dX2_play_82 rfl (lv_at hl 0 rfl) ?_
        refine lv_if_ne (tgt := 90) hx hb dX2_play_83 (by decide) (fun c_17 => ?_) (fun c_17 => ?_)
        · have hw := hw.1 c_17
          refine lv_iconst (v := (0 : Int32)) hx hb dX2_play_90 (by decide) ?_
          refine lv_iadd hx hb dX2_play_91 ?_
          refine lv_istore_n (lv' := [(1, .int ((v1 + (0 : Int32)))), (2, .int (r15)), (0, .ref (h 0))]) hx hb dX2_play_92 rfl hl (by decide) rfl (fun ls hl => ?_)
          refine lv_goto (tgt := 13) hx hb dX2_play_93 (by decide) ?_
          exact ih ((v1 + (0 : Int32))) (r15) S16 _ _ I ls (lv_sub hl [2, 0, 1] rfl) hw
        · have hw := hw.2 c_17
          refine lv_iconst (v := (1 : Int32)) hx hb dX2_play_86 (by decide) ?_
          refine lv_goto (tgt := 91) hx hb dX2_play_87 (by decide) ?_
          refine lv_iadd hx hb dX2_play_91 ?_
          refine lv_istore_n (lv' := [(1, .int ((v1 + (1 : Int32)))), (2, .int (r15)), (0, .ref (h 0))]) hx hb dX2_play_92 rfl hl (by decide) rfl (fun ls hl => ?_)
          refine lv_goto (tgt := 13) hx hb dX2_play_93 (by decide) ?_
          exact ih ((v1 + (1 : Int32))) (r15) S16 _ _ I ls (lv_sub hl [2, 0, 1] rfl) hw
set_option maxHeartbeats 4000000 in
set_option maxRecDepth 100000 in
theorem c_X2_play {l : Launch} {D : va_G} {cI cJ : ClassId} {h : Nat → Nat}  (S : mS) (K : Int32 → mS → Prop) (hw : wp_X2_play  S K) : mMi l D cI cJ h yX2_play wsX2_play rm_X2_play [.ref (h 0)] K S := by
  refine m_starti (rt := some .int) (by decide) rfl rfl (Nat.le_of_ble_eq_true rfl) ?_
  intro p e s m below meth c A ls F hr hlk I hl
  have hin : ∀ w ∈ u_ws RX2 TX2 24, w ∈ wsX2_play := by decide +kernel
  obtain ⟨hx, hb, hml, hown, hts⟩ := id F
  have hl : lv_has ls 4 [(0, .ref (h 0))] := hl
  unfold wp_X2_play at hw
  refine lv_aload_n hx hb dX2_play_0 rfl (lv_at hl 0 rfl) ?_
  refine lv_iconst (v := (0 : Int32)) hx hb dX2_play_1 (by decide) ?_
  refine m_put F hin I 23 (by decide) (hts (.fieldLink RX2 44 "CuttingTableModel" "thrown" "I") (by decide +kernel)) dX2_play_2 (fun H locs I => ?_)
  refine lv_aload_n hx hb dX2_play_5 rfl (lv_at hl 0 rfl) ?_
  refine m_callv (rest := []) F I (c_X2_begin  _ _ hw) (cwV 0 hts gX2_play_X2_begin rfl rfl rfl (by decide +kernel) ⟨Nat.le_of_ble_eq_true rfl, Nat.le_of_ble_eq_true rfl⟩) rfl hl.1 rfl (Nat.le_of_ble_eq_true rfl) dX2_play_6 ⟨Nat.zero_le _, Nat.zero_le _⟩ (fun S2 H locs hw I => ?_)
  refine lv_iconst (v := (0 : Int32)) hx hb dX2_play_9 (by decide) ?_
  refine lv_istore_n (lv' := [(1, .int ((0 : Int32))), (0, .ref (h 0))]) hx hb dX2_play_10 rfl hl (by decide) rfl (fun ls hl => ?_)
  refine lv_iconst (v := (0 : Int32)) hx hb dX2_play_11 (by decide) ?_
  refine lv_istore_n (lv' := [(2, .int ((0 : Int32))), (1, .int ((0 : Int32))), (0, .ref (h 0))]) hx hb dX2_play_12 rfl hl (by decide) rfl (fun ls hl => ?_)
  obtain ⟨n13, hw⟩ := hw
  exact lp_X2_play_13 F hin hr hlk n13 ((0 : Int32)) ((0 : Int32)) S2 _ _ I ls (lv_sub hl [2, 1, 0] rfl) hw
abbrev rm_X2_takeBack : Room := { frames := 0, cells := 0, slots := 0, locals := 0 }
def wl_X2_takeBack_12 (K : Int32 → mS → Prop) : Nat → Int32 → Int32 → mS → Prop
  | 0, _, _, _ => False
  | n + 1, v1, v2, S => ((v1 ≤ v2 → K (v1) (S.si 16 (0 : Int32))) ∧ (¬ v1 ≤ v2 → (vp_in (v2) 24 ∧ (vp_in (((((24 : Int32) * (S.fi 14)) + (S.fi 15)) + v2)) 12312 ∧ wl_X2_takeBack_12 K n (v1) ((v2 + (1 : Int32))) (S.sl 3 (((((24 : Int32) * (S.fi 14)) + (S.fi 15)) + v2)).toNatClampNeg ((S.la 10 (v2).toNatClampNeg)))))))
def wp_X2_takeBack  (S : mS) (K : Int32 → mS → Prop) : Prop := (∃ n12 : Nat, wl_X2_takeBack_12 K n12 ((S.fi 16)) ((0 : Int32)) (S.si 23 (0 : Int32)))
set_option maxHeartbeats 4000000 in
set_option maxRecDepth 100000 in
theorem lp_X2_takeBack_12 {p : Program} {l : Launch} {e : Env} {s : State} {m : MethodId} {args : Array Value} {below : List Frame} {meth : Method} {c : Code} {D : va_G} {cI cJ : ClassId} {h : Nat → Nat} {A : Nat → Prop} {K : Int32 → mS → Prop} (F : CallFix p m c cX2_takeBack 3 s args wsX2_takeBack RX2) (hin : ∀ w ∈ u_ws RX2 TX2 24, w ∈ wsX2_takeBack) (hr : meth.sig.returnType = some .int) (hlk : meth.locks = false) :
    ∀ (n : Nat) (v1 : Int32) (v2 : Int32) (S : mS) (H : Heap) (locs : List Loc), mI D cI cJ h A s s.heap H locs S → ∀ (ls : Array Slot), lv_has ls 3 [(0, .ref (h 0)), (1, .int (v1)), (2, .int (v2))] → wl_X2_takeBack_12 K n v1 v2 S → W p l e rm_X2_takeBack s m args below meth c H locs 0 0 (MQ below (va_Qi K (mB D cI cJ h A) A) args s 0 0 A) (F0 m 12 ls []) := by
  obtain ⟨hx, hb, hml, hown, hts⟩ := id F
  intro n
  induction n with
  | zero => intro v1 v2 S H locs I ls hl hw; exact hw.elim
  | succ n ih =>
    intro v1 v2 S H locs I ls hl hw
    rw [wl_X2_takeBack_12] at hw
    refine lv_iload_n hx hb dX2_takeBack_12 rfl (lv_at hl 2 rfl) ?_
    refine lv_iload_n hx hb dX2_takeBack_13 rfl (lv_at hl 1 rfl) ?_
    refine lv_icmp_ge (tgt := 48) hx hb dX2_takeBack_14 (by decide) (fun c_1 => ?_) (fun c_1 => ?_)
    · have hw := hw.1 c_1
      refine lv_aload_n hx hb dX2_takeBack_48 rfl (lv_at hl 0 rfl) ?_
      refine lv_iconst (v := (0 : Int32)) hx hb dX2_takeBack_49 (by decide) ?_
      refine m_put F hin I 16 (by decide) (hts (.fieldLink RX2 96 "CuttingTableModel" "binMany" "I") (by decide +kernel)) dX2_takeBack_50 (fun H locs I => ?_)
      refine lv_iload_n hx hb dX2_takeBack_53 rfl (lv_at hl 1 rfl) ?_
      exact m_reti F hr hlk I dX2_takeBack_54 hw
    · have hw := hw.2 c_1
      refine lv_aload_n hx hb dX2_takeBack_17 rfl (lv_at hl 0 rfl) ?_
      refine m_get F hin I 2 (by decide) (v := .ref (h 3)) rfl (hts (.fieldLink RX2 16 "CuttingTableModel" "cells" "[J") (by decide +kernel)) dX2_takeBack_18 ?_
      refine lv_bipush (v := (24 : Int32)) hx hb dX2_takeBack_21 (by decide) ?_
      refine lv_aload_n hx hb dX2_takeBack_23 rfl (lv_at hl 0 rfl) ?_
      refine m_get F hin I 14 (by decide) (v := .int ((S.fi 14))) rfl (hts (.fieldLink RX2 116 "CuttingTableModel" "binReel" "I") (by decide +kernel)) dX2_takeBack_24 ?_
      refine lv_imul hx hb dX2_takeBack_27 ?_
      refine lv_aload_n hx hb dX2_takeBack_28 rfl (lv_at hl 0 rfl) ?_
      refine m_get F hin I 15 (by decide) (v := .int ((S.fi 15))) rfl (hts (.fieldLink RX2 119 "CuttingTableModel" "binFrom" "I") (by decide +kernel)) dX2_takeBack_29 ?_
      refine lv_iadd hx hb dX2_takeBack_32 ?_
      refine lv_iload_n hx hb dX2_takeBack_33 rfl (lv_at hl 2 rfl) ?_
      refine lv_iadd hx hb dX2_takeBack_34 ?_
      refine lv_aload_n hx hb dX2_takeBack_35 rfl (lv_at hl 0 rfl) ?_
      refine m_get F hin I 13 (by decide) (v := .ref (h 10)) rfl (hts (.fieldLink RX2 38 "CuttingTableModel" "bin" "[J") (by decide +kernel)) dX2_takeBack_36 ?_
      refine lv_iload_n hx hb dX2_takeBack_39 rfl (lv_at hl 2 rfl) ?_
      obtain ⟨hi2, hw⟩ := hw
      refine m_lald F I 10 24 (by decide) hi2 dX2_takeBack_40 ?_
      obtain ⟨hi3, hw⟩ := hw
      refine m_last F I 3 12312 (by decide) hi3 dX2_takeBack_41 (fun H locs I => ?_)
      refine lv_iinc (v := (v2 + (1 : Int32))) (lv' := [(2, .int ((v2 + (1 : Int32)))), (0, .ref (h 0)), (1, .int (v1))]) hx hb dX2_takeBack_42 hl (k := 2) rfl rfl (by decide) rfl (fun ls hl => ?_)
      refine lv_goto (tgt := 12) hx hb dX2_takeBack_45 (by decide) ?_
      exact ih (v1) ((v2 + (1 : Int32))) (S.sl 3 (((((24 : Int32) * (S.fi 14)) + (S.fi 15)) + v2)).toNatClampNeg ((S.la 10 (v2).toNatClampNeg))) _ _ I ls (lv_sub hl [1, 2, 0] rfl) hw
set_option maxHeartbeats 4000000 in
set_option maxRecDepth 100000 in
theorem c_X2_takeBack {l : Launch} {D : va_G} {cI cJ : ClassId} {h : Nat → Nat}  (S : mS) (K : Int32 → mS → Prop) (hw : wp_X2_takeBack  S K) : mMi l D cI cJ h yX2_takeBack wsX2_takeBack rm_X2_takeBack [.ref (h 0)] K S := by
  refine m_starti (rt := some .int) (by decide) rfl rfl (Nat.le_of_ble_eq_true rfl) ?_
  intro p e s m below meth c A ls F hr hlk I hl
  have hin : ∀ w ∈ u_ws RX2 TX2 24, w ∈ wsX2_takeBack := by decide +kernel
  obtain ⟨hx, hb, hml, hown, hts⟩ := id F
  have hl : lv_has ls 3 [(0, .ref (h 0))] := hl
  unfold wp_X2_takeBack at hw
  refine lv_aload_n hx hb dX2_takeBack_0 rfl (lv_at hl 0 rfl) ?_
  refine lv_iconst (v := (0 : Int32)) hx hb dX2_takeBack_1 (by decide) ?_
  refine m_put F hin I 23 (by decide) (hts (.fieldLink RX2 44 "CuttingTableModel" "thrown" "I") (by decide +kernel)) dX2_takeBack_2 (fun H locs I => ?_)
  refine lv_aload_n hx hb dX2_takeBack_5 rfl (lv_at hl 0 rfl) ?_
  refine m_get F hin I 16 (by decide) (v := .int ((S.fi 16))) rfl (hts (.fieldLink RX2 96 "CuttingTableModel" "binMany" "I") (by decide +kernel)) dX2_takeBack_6 ?_
  refine lv_istore_n (lv' := [(1, .int ((S.fi 16))), (0, .ref (h 0))]) hx hb dX2_takeBack_9 rfl hl (by decide) rfl (fun ls hl => ?_)
  refine lv_iconst (v := (0 : Int32)) hx hb dX2_takeBack_10 (by decide) ?_
  refine lv_istore_n (lv' := [(2, .int ((0 : Int32))), (1, .int ((S.fi 16))), (0, .ref (h 0))]) hx hb dX2_takeBack_11 rfl hl (by decide) rfl (fun ls hl => ?_)
  obtain ⟨n12, hw⟩ := hw
  exact lp_X2_takeBack_12 F hin hr hlk n12 ((S.fi 16)) ((0 : Int32)) (S.si 23 (0 : Int32)) _ _ I ls (lv_sub hl [2, 1, 0] rfl) hw
abbrev rm_X2_noGap : Room := { frames := 2, cells := 0, slots := 0, locals := 41 }
def wp_X2_noGap (p0 : Int32) (p1 : Int32) (p2 : Int32) (S : mS) (K : Int32 → mS → Prop) : Prop := wp_X2_begin  S (fun S2 => wp_X2_noReel (p0) S2 (fun r3 S4 => ((r3 ≤ 0 → (vp_in (p0) 8 ∧ (vp_in ((S4.ia 5 (p0).toNatClampNeg)) 513 ∧ wp_X2_wayOf ((p1).toInt64) ((0 : Int64)) ((p2).toInt64) ((S4.ia 2 ((S4.ia 5 (p0).toNatClampNeg)).toNatClampNeg)) ((2147483647 : Int32)) (fun r8 => (((r8) ≤ 0 → K ((0 : Int32)) (S4.si 19 (r8))) ∧ (¬ (r8) ≤ 0 → K ((4 : Int32)) (S4.si 19 (r8)))))))) ∧ (¬ r3 ≤ 0 → K (r3) S4))))
set_option maxHeartbeats 4000000 in
set_option maxRecDepth 100000 in
theorem c_X2_noGap {l : Launch} {D : va_G} {cI cJ : ClassId} {h : Nat → Nat} (p0 : Int32) (p1 : Int32) (p2 : Int32) (S : mS) (K : Int32 → mS → Prop) (hw : wp_X2_noGap p0 p1 p2 S K) : mMi l D cI cJ h yX2_noGap wsX2_noGap rm_X2_noGap [.ref (h 0), .int (p0), .int (p1), .int (p2)] K S := by
  refine m_starti (rt := some .int) (by decide) rfl rfl (Nat.le_of_ble_eq_true rfl) ?_
  intro p e s m below meth c A ls F hr hlk I hl
  have hin : ∀ w ∈ u_ws RX2 TX2 24, w ∈ wsX2_noGap := by decide +kernel
  obtain ⟨hx, hb, hml, hown, hts⟩ := id F
  have hl : lv_has ls 5 [(0, .ref (h 0)), (1, .int (p0)), (2, .int (p1)), (3, .int (p2))] := hl
  unfold wp_X2_noGap at hw
  refine lv_aload_n hx hb dX2_noGap_0 rfl (lv_at hl 0 rfl) ?_
  refine m_callv (rest := []) F I (c_X2_begin  _ _ hw) (cwV 0 hts gX2_noGap_X2_begin rfl rfl rfl (by decide +kernel) ⟨Nat.le_of_ble_eq_true rfl, Nat.le_of_ble_eq_true rfl⟩) rfl hl.1 rfl (Nat.le_of_ble_eq_true rfl) dX2_noGap_1 ⟨Nat.zero_le _, Nat.zero_le _⟩ (fun S2 H locs hw I => ?_)
  refine lv_aload_n hx hb dX2_noGap_4 rfl (lv_at hl 0 rfl) ?_
  refine lv_iload_n hx hb dX2_noGap_5 rfl (lv_at hl 1 rfl) ?_
  refine m_calli (rest := []) F I (c_X2_noReel (p0) _ _ hw) (cwV 1 hts gX2_noGap_X2_noReel rfl rfl rfl (by decide +kernel) ⟨Nat.le_of_ble_eq_true rfl, Nat.le_of_ble_eq_true rfl⟩) rfl hl.1 rfl (Nat.le_of_ble_eq_true rfl) dX2_noGap_6 ⟨Nat.zero_le _, Nat.zero_le _⟩ (fun r3 S4 H locs hw I => ?_)
  refine lv_istore (lv' := [(4, .int (r3)), (0, .ref (h 0)), (1, .int (p0)), (2, .int (p1)), (3, .int (p2))]) hx hb dX2_noGap_9 hl (by decide) rfl (fun ls hl => ?_)
  refine lv_iload hx hb dX2_noGap_11 (lv_at hl 0 rfl) ?_
  refine lv_if_le (tgt := 19) hx hb dX2_noGap_13 (by decide) (fun c_5 => ?_) (fun c_5 => ?_)
  · have hw := hw.1 c_5
    refine lv_aload_n hx hb dX2_noGap_19 rfl (lv_at hl 1 rfl) ?_
    refine lv_iload_n hx hb dX2_noGap_20 rfl (lv_at hl 3 rfl) ?_
    refine lv_i2l hx hb dX2_noGap_21 rfl ?_
    refine lv_lconst (v := (0 : Int64)) hx hb dX2_noGap_22 (by decide) ?_
    refine lv_iload_n hx hb dX2_noGap_23 rfl (lv_at hl 4 rfl) ?_
    refine lv_i2l hx hb dX2_noGap_24 rfl ?_
    refine lv_aload_n hx hb dX2_noGap_25 rfl (lv_at hl 1 rfl) ?_
    refine m_get F hin I 1 (by decide) (v := .ref (h 2)) rfl (hts (.fieldLink RX2 13 "CuttingTableModel" "sizes" "[I") (by decide +kernel)) dX2_noGap_26 ?_
    refine lv_aload_n hx hb dX2_noGap_29 rfl (lv_at hl 1 rfl) ?_
    refine m_get F hin I 5 (by decide) (v := .ref (h 5)) rfl (hts (.fieldLink RX2 23 "CuttingTableModel" "which" "[I") (by decide +kernel)) dX2_noGap_30 ?_
    refine lv_iload_n hx hb dX2_noGap_33 rfl (lv_at hl 2 rfl) ?_
    obtain ⟨hi6, hw⟩ := hw
    refine m_iald F I 5 8 (by decide) hi6 dX2_noGap_34 ?_
    obtain ⟨hi7, hw⟩ := hw
    refine m_iald F I 2 513 (by decide) hi7 dX2_noGap_35 ?_
    refine lv_ldc hx hb hown (hts (.constant RX2 132 (2147483647)) (by decide +kernel)) dX2_noGap_36 ?_
    refine s_calli (rest := [.ref (h 0)]) F (c_X2_wayOf ((p1).toInt64) ((0 : Int64)) ((p2).toInt64) ((S4.ia 2 ((S4.ia 5 (p0).toNatClampNeg)).toNatClampNeg)) ((2147483647 : Int32)) _ hw) (va_cwS 5 hts gX2_noGap_X2_wayOf rfl rfl rfl (by decide +kernel) ⟨Nat.le_of_ble_eq_true rfl, Nat.le_of_ble_eq_true rfl⟩) rfl hl.1 rfl (Nat.le_of_ble_eq_true rfl) dX2_noGap_38 ⟨Nat.zero_le _, Nat.zero_le _⟩ (fun r8 hw => ?_)
    refine m_put F hin I 19 (by decide) (hts (.fieldLink RX2 51 "CuttingTableModel" "way" "I") (by decide +kernel)) dX2_noGap_41 (fun H locs I => ?_)
    refine lv_aload_n hx hb dX2_noGap_44 rfl (lv_at hl 1 rfl) ?_
    refine m_get F hin I 19 (by decide) (v := .int ((r8))) rfl (hts (.fieldLink RX2 51 "CuttingTableModel" "way" "I") (by decide +kernel)) dX2_noGap_45 ?_
    refine lv_if_le (tgt := 55) hx hb dX2_noGap_48 (by decide) (fun c_9 => ?_) (fun c_9 => ?_)
    · have hw := hw.1 c_9
      refine lv_iconst (v := (0 : Int32)) hx hb dX2_noGap_55 (by decide) ?_
      exact m_reti F hr hlk I dX2_noGap_56 hw
    · have hw := hw.2 c_9
      refine lv_iconst (v := (4 : Int32)) hx hb dX2_noGap_51 (by decide) ?_
      refine lv_goto (tgt := 56) hx hb dX2_noGap_52 (by decide) ?_
      exact m_reti F hr hlk I dX2_noGap_56 hw
  · have hw := hw.2 c_5
    refine lv_iload hx hb dX2_noGap_16 (lv_at hl 0 rfl) ?_
    exact m_reti F hr hlk I dX2_noGap_18 hw
abbrev rm_X2_open : Room := { frames := 3, cells := 0, slots := 0, locals := 65 }
def wl_X2_open_95 (K : Int32 → mS → Prop) : Nat → Int32 → Int32 → Int32 → Int32 → Int32 → Int32 → Int32 → mS → Prop
  | 0, _, _, _, _, _, _, _, _ => False
  | n + 1, v1, v2, v3, v4, v5, v6, v7, S => (((v2 + v3) ≤ v7 → wp_X2_told ((0 : Int32)) (S.si 16 (0 : Int32)) (fun r8 S9 => K (((v6 - v2) - v3)) S9)) ∧ (¬ (v2 + v3) ≤ v7 → (vp_in (v5) 513 ∧ wp_X2_isOfNumbers ((S.ia 1 (v5).toNatClampNeg)) (fun r11 => ((r11 = 0 → (vp_in ((((24 : Int32) * v5) + v7)) 12312 ∧ wl_X2_open_95 K n (v1) (v2) (v3) (v4) (v5) (v6) ((v7 + (1 : Int32))) (S.sl 3 ((((24 : Int32) * v5) + v7)).toNatClampNeg ((-1 : Int64))))) ∧ (¬ r11 = 0 → (vp_in ((((24 : Int32) * v5) + v7)) 12312 ∧ wl_X2_open_95 K n (v1) (v2) (v3) (v4) (v5) (v6) ((v7 + (1 : Int32))) (S.sl 3 ((((24 : Int32) * v5) + v7)).toNatClampNeg ((0 : Int64))))))))))
def wl_X2_open_50 (K : Int32 → mS → Prop) : Nat → Int32 → Int32 → Int32 → Int32 → Int32 → Int32 → Int32 → mS → Prop
  | 0, _, _, _, _, _, _, _, _ => False
  | n + 1, v1, v2, v3, v4, v5, v6, v7, S => ((v7 < (v2 + v3) → (∃ n95 : Nat, wl_X2_open_95 K n95 (v1) (v2) (v3) (v4) (v5) (v6) (v2) S)) ∧ (¬ v7 < (v2 + v3) → (vp_in (((((24 : Int32) * v5) + v7) - v3)) 12312 ∧ (vp_in ((((24 : Int32) * v5) + v7)) 12312 ∧ wl_X2_open_50 K n (v1) (v2) (v3) (v4) (v5) (v6) ((v7 + (-1 : Int32))) (S.sl 3 ((((24 : Int32) * v5) + v7)).toNatClampNeg ((S.la 3 (((((24 : Int32) * v5) + v7) - v3)).toNatClampNeg)))))))
def wp_X2_open (p0 : Int32) (p1 : Int32) (p2 : Int32) (S : mS) (K : Int32 → mS → Prop) : Prop := wp_X2_noGap (p0) (p1) (p2) (S.si 23 (0 : Int32)) (fun r1 S2 => ((r1 ≤ 0 → (vp_in (p0) 8 ∧ (vp_in ((S2.ia 5 (p0).toNatClampNeg)) 513 ∧ (∃ n50 : Nat, wl_X2_open_50 K n50 (p0) (p1) (p2) (r1) ((S2.ia 5 (p0).toNatClampNeg)) ((S2.ia 2 ((S2.ia 5 (p0).toNatClampNeg)).toNatClampNeg)) (((S2.ia 2 ((S2.ia 5 (p0).toNatClampNeg)).toNatClampNeg) - (1 : Int32))) S2)))) ∧ (¬ r1 ≤ 0 → wp_X2_told (r1) S2 (fun r17 S18 => K ((-r17)) S18))))
set_option maxHeartbeats 4000000 in
set_option maxRecDepth 100000 in
theorem lp_X2_open_95 {p : Program} {l : Launch} {e : Env} {s : State} {m : MethodId} {args : Array Value} {below : List Frame} {meth : Method} {c : Code} {D : va_G} {cI cJ : ClassId} {h : Nat → Nat} {A : Nat → Prop} {K : Int32 → mS → Prop} (F : CallFix p m c cX2_open 8 s args wsX2_open RX2) (hin : ∀ w ∈ u_ws RX2 TX2 24, w ∈ wsX2_open) (hr : meth.sig.returnType = some .int) (hlk : meth.locks = false) :
    ∀ (n : Nat) (v1 : Int32) (v2 : Int32) (v3 : Int32) (v4 : Int32) (v5 : Int32) (v6 : Int32) (v7 : Int32) (S : mS) (H : Heap) (locs : List Loc), mI D cI cJ h A s s.heap H locs S → ∀ (ls : Array Slot), lv_has ls 8 [(0, .ref (h 0)), (1, .int (v1)), (2, .int (v2)), (3, .int (v3)), (4, .int (v4)), (5, .int (v5)), (6, .int (v6)), (7, .int (v7))] → wl_X2_open_95 K n v1 v2 v3 v4 v5 v6 v7 S → W p l e rm_X2_open s m args below meth c H locs 0 0 (MQ below (va_Qi K (mB D cI cJ h A) A) args s 0 0 A) (F0 m 95 ls []) := by
  obtain ⟨hx, hb, hml, hown, hts⟩ := id F
  intro n
  induction n with
  | zero => intro v1 v2 v3 v4 v5 v6 v7 S H locs I ls hl hw; exact hw.elim
  | succ n ih =>
    intro v1 v2 v3 v4 v5 v6 v7 S H locs I ls hl hw
    rw [wl_X2_open_95] at hw
    refine lv_iload hx hb dX2_open_95 (lv_at hl 7 rfl) ?_
    refine lv_iload_n hx hb dX2_open_97 rfl (lv_at hl 2 rfl) ?_
    refine lv_iload_n hx hb dX2_open_98 rfl (lv_at hl 3 rfl) ?_
    refine lv_iadd hx hb dX2_open_99 ?_
    refine lv_icmp_ge (tgt := 142) hx hb dX2_open_100 (by decide) (fun c_7 => ?_) (fun c_7 => ?_)
    · have hw := hw.1 c_7
      refine lv_aload_n hx hb dX2_open_142 rfl (lv_at hl 0 rfl) ?_
      refine lv_iconst (v := (0 : Int32)) hx hb dX2_open_143 (by decide) ?_
      refine m_put F hin I 16 (by decide) (hts (.fieldLink RX2 96 "CuttingTableModel" "binMany" "I") (by decide +kernel)) dX2_open_144 (fun H locs I => ?_)
      refine lv_aload_n hx hb dX2_open_147 rfl (lv_at hl 0 rfl) ?_
      refine lv_iconst (v := (0 : Int32)) hx hb dX2_open_148 (by decide) ?_
      refine m_calli (rest := []) F I (c_X2_told ((0 : Int32)) _ _ hw) (cwV 1 hts gX2_open_X2_told rfl rfl rfl (by decide +kernel) ⟨Nat.le_of_ble_eq_true rfl, Nat.le_of_ble_eq_true rfl⟩) rfl hl.1 rfl (Nat.le_of_ble_eq_true rfl) dX2_open_149 ⟨Nat.zero_le _, Nat.zero_le _⟩ (fun r8 S9 H locs hw I => ?_)
      refine lv_pop hx hb dX2_open_152 rfl ?_
      refine lv_iload hx hb dX2_open_153 (lv_at hl 6 rfl) ?_
      refine lv_iload_n hx hb dX2_open_155 rfl (lv_at hl 2 rfl) ?_
      refine lv_isub hx hb dX2_open_156 ?_
      refine lv_iload_n hx hb dX2_open_157 rfl (lv_at hl 3 rfl) ?_
      refine lv_isub hx hb dX2_open_158 ?_
      exact m_reti F hr hlk I dX2_open_159 hw
    · have hw := hw.2 c_7
      refine lv_aload_n hx hb dX2_open_103 rfl (lv_at hl 0 rfl) ?_
      refine m_get F hin I 2 (by decide) (v := .ref (h 3)) rfl (hts (.fieldLink RX2 16 "CuttingTableModel" "cells" "[J") (by decide +kernel)) dX2_open_104 ?_
      refine lv_bipush (v := (24 : Int32)) hx hb dX2_open_107 (by decide) ?_
      refine lv_iload hx hb dX2_open_109 (lv_at hl 5 rfl) ?_
      refine lv_imul hx hb dX2_open_111 ?_
      refine lv_iload hx hb dX2_open_112 (lv_at hl 7 rfl) ?_
      refine lv_iadd hx hb dX2_open_114 ?_
      refine lv_aload_n hx hb dX2_open_115 rfl (lv_at hl 0 rfl) ?_
      refine m_get F hin I 0 (by decide) (v := .ref (h 1)) rfl (hts (.fieldLink RX2 7 "CuttingTableModel" "stocks" "[I") (by decide +kernel)) dX2_open_116 ?_
      refine lv_iload hx hb dX2_open_119 (lv_at hl 5 rfl) ?_
      obtain ⟨hi10, hw⟩ := hw
      refine m_iald F I 1 513 (by decide) hi10 dX2_open_121 ?_
      refine s_calli (rest := [.int ((((24 : Int32) * v5) + v7)), .ref (h 3)]) F (c_X2_isOfNumbers ((S.ia 1 (v5).toNatClampNeg)) _ hw) (va_cwS 1 hts gX2_open_X2_isOfNumbers rfl rfl rfl (by decide +kernel) ⟨Nat.le_of_ble_eq_true rfl, Nat.le_of_ble_eq_true rfl⟩) rfl hl.1 rfl (Nat.le_of_ble_eq_true rfl) dX2_open_122 ⟨Nat.zero_le _, Nat.zero_le _⟩ (fun r11 hw => ?_)
      refine lv_if_eq (tgt := 132) hx hb dX2_open_125 (by decide) (fun c_12 => ?_) (fun c_12 => ?_)
      · have hw := hw.1 c_12
        refine lv_ldc2 hx hb hown (hts (.constantLong RX2 64 (-1)) (by decide +kernel)) dX2_open_132 ?_
        obtain ⟨hi13, hw⟩ := hw
        refine m_last F I 3 12312 (by decide) hi13 dX2_open_135 (fun H locs I => ?_)
        refine lv_iinc (v := (v7 + (1 : Int32))) (lv' := [(7, .int ((v7 + (1 : Int32)))), (0, .ref (h 0)), (1, .int (v1)), (2, .int (v2)), (3, .int (v3)), (4, .int (v4)), (5, .int (v5)), (6, .int (v6))]) hx hb dX2_open_136 hl (k := 7) rfl rfl (by decide) rfl (fun ls hl => ?_)
        refine lv_goto (tgt := 95) hx hb dX2_open_139 (by decide) ?_
        exact ih (v1) (v2) (v3) (v4) (v5) (v6) ((v7 + (1 : Int32))) (S.sl 3 ((((24 : Int32) * v5) + v7)).toNatClampNeg ((-1 : Int64))) _ _ I ls (lv_sub hl [1, 2, 3, 4, 5, 6, 7, 0] rfl) hw
      · have hw := hw.2 c_12
        refine lv_lconst (v := (0 : Int64)) hx hb dX2_open_128 (by decide) ?_
        refine lv_goto (tgt := 135) hx hb dX2_open_129 (by decide) ?_
        obtain ⟨hi14, hw⟩ := hw
        refine m_last F I 3 12312 (by decide) hi14 dX2_open_135 (fun H locs I => ?_)
        refine lv_iinc (v := (v7 + (1 : Int32))) (lv' := [(7, .int ((v7 + (1 : Int32)))), (0, .ref (h 0)), (1, .int (v1)), (2, .int (v2)), (3, .int (v3)), (4, .int (v4)), (5, .int (v5)), (6, .int (v6))]) hx hb dX2_open_136 hl (k := 7) rfl rfl (by decide) rfl (fun ls hl => ?_)
        refine lv_goto (tgt := 95) hx hb dX2_open_139 (by decide) ?_
        exact ih (v1) (v2) (v3) (v4) (v5) (v6) ((v7 + (1 : Int32))) (S.sl 3 ((((24 : Int32) * v5) + v7)).toNatClampNeg ((0 : Int64))) _ _ I ls (lv_sub hl [1, 2, 3, 4, 5, 6, 7, 0] rfl) hw
set_option maxHeartbeats 4000000 in
set_option maxRecDepth 100000 in
theorem lp_X2_open_50 {p : Program} {l : Launch} {e : Env} {s : State} {m : MethodId} {args : Array Value} {below : List Frame} {meth : Method} {c : Code} {D : va_G} {cI cJ : ClassId} {h : Nat → Nat} {A : Nat → Prop} {K : Int32 → mS → Prop} (F : CallFix p m c cX2_open 8 s args wsX2_open RX2) (hin : ∀ w ∈ u_ws RX2 TX2 24, w ∈ wsX2_open) (hr : meth.sig.returnType = some .int) (hlk : meth.locks = false) :
    ∀ (n : Nat) (v1 : Int32) (v2 : Int32) (v3 : Int32) (v4 : Int32) (v5 : Int32) (v6 : Int32) (v7 : Int32) (S : mS) (H : Heap) (locs : List Loc), mI D cI cJ h A s s.heap H locs S → ∀ (ls : Array Slot), lv_has ls 8 [(0, .ref (h 0)), (1, .int (v1)), (2, .int (v2)), (3, .int (v3)), (4, .int (v4)), (5, .int (v5)), (6, .int (v6)), (7, .int (v7))] → wl_X2_open_50 K n v1 v2 v3 v4 v5 v6 v7 S → W p l e rm_X2_open s m args below meth c H locs 0 0 (MQ below (va_Qi K (mB D cI cJ h A) A) args s 0 0 A) (F0 m 50 ls []) := by
  obtain ⟨hx, hb, hml, hown, hts⟩ := id F
  intro n
  induction n with
  | zero => intro v1 v2 v3 v4 v5 v6 v7 S H locs I ls hl hw; exact hw.elim
  | succ n ih =>
    intro v1 v2 v3 v4 v5 v6 v7 S H locs I ls hl hw
    rw [wl_X2_open_50] at hw
    refine lv_iload hx hb dX2_open_50 (lv_at hl 7 rfl) ?_
    refine lv_iload_n hx hb dX2_open_52 rfl (lv_at hl 2 rfl) ?_
    refine lv_iload_n hx hb dX2_open_53 rfl (lv_at hl 3 rfl) ?_
    refine lv_iadd hx hb dX2_open_54 ?_
    refine lv_icmp_lt (tgt := 92) hx hb dX2_open_55 (by decide) (fun c_6 => ?_) (fun c_6 => ?_)
    · have hw := hw.1 c_6
      refine lv_iload_n hx hb dX2_open_92 rfl (lv_at hl 2 rfl) ?_
      refine lv_istore (lv' := [(7, .int (v2)), (0, .ref (h 0)), (1, .int (v1)), (2, .int (v2)), (3, .int (v3)), (4, .int (v4)), (5, .int (v5)), (6, .int (v6))]) hx hb dX2_open_93 hl (by decide) rfl (fun ls hl => ?_)
      obtain ⟨n95, hw⟩ := hw
      exact lp_X2_open_95 F hin hr hlk n95 (v1) (v2) (v3) (v4) (v5) (v6) (v2) S _ _ I ls (lv_sub hl [1, 2, 3, 4, 5, 6, 7, 0] rfl) hw
    · have hw := hw.2 c_6
      refine lv_aload_n hx hb dX2_open_58 rfl (lv_at hl 0 rfl) ?_
      refine m_get F hin I 2 (by decide) (v := .ref (h 3)) rfl (hts (.fieldLink RX2 16 "CuttingTableModel" "cells" "[J") (by decide +kernel)) dX2_open_59 ?_
      refine lv_bipush (v := (24 : Int32)) hx hb dX2_open_62 (by decide) ?_
      refine lv_iload hx hb dX2_open_64 (lv_at hl 5 rfl) ?_
      refine lv_imul hx hb dX2_open_66 ?_
      refine lv_iload hx hb dX2_open_67 (lv_at hl 7 rfl) ?_
      refine lv_iadd hx hb dX2_open_69 ?_
      refine lv_aload_n hx hb dX2_open_70 rfl (lv_at hl 0 rfl) ?_
      refine m_get F hin I 2 (by decide) (v := .ref (h 3)) rfl (hts (.fieldLink RX2 16 "CuttingTableModel" "cells" "[J") (by decide +kernel)) dX2_open_71 ?_
      refine lv_bipush (v := (24 : Int32)) hx hb dX2_open_74 (by decide) ?_
      refine lv_iload hx hb dX2_open_76 (lv_at hl 5 rfl) ?_
      refine lv_imul hx hb dX2_open_78 ?_
      refine lv_iload hx hb dX2_open_79 (lv_at hl 7 rfl) ?_
      refine lv_iadd hx hb dX2_open_81 ?_
      refine lv_iload_n hx hb dX2_open_82 rfl (lv_at hl 3 rfl) ?_
      refine lv_isub hx hb dX2_open_83 ?_
      obtain ⟨hi15, hw⟩ := hw
      refine m_lald F I 3 12312 (by decide) hi15 dX2_open_84 ?_
      obtain ⟨hi16, hw⟩ := hw
      refine m_last F I 3 12312 (by decide) hi16 dX2_open_85 (fun H locs I => ?_)
      refine lv_iinc (v := (v7 + (-1 : Int32))) (lv' := [(7, .int ((v7 + (-1 : Int32)))), (0, .ref (h 0)), (1, .int (v1)), (2, .int (v2)), (3, .int (v3)), (4, .int (v4)), (5, .int (v5)), (6, .int (v6))]) hx hb dX2_open_86 hl (k := 7) rfl rfl (by decide) rfl (fun ls hl => ?_)
      refine lv_goto (tgt := 50) hx hb dX2_open_89 (by decide) ?_
      exact ih (v1) (v2) (v3) (v4) (v5) (v6) ((v7 + (-1 : Int32))) (S.sl 3 ((((24 : Int32) * v5) + v7)).toNatClampNeg ((S.la 3 (((((24 : Int32) * v5) + v7) - v3)).toNatClampNeg))) _ _ I ls (lv_sub hl [1, 2, 3, 4, 5, 6, 7, 0] rfl) hw
set_option maxHeartbeats 4000000 in
set_option maxRecDepth 100000 in
theorem c_X2_open {l : Launch} {D : va_G} {cI cJ : ClassId} {h : Nat → Nat} (p0 : Int32) (p1 : Int32) (p2 : Int32) (S : mS) (K : Int32 → mS → Prop) (hw : wp_X2_open p0 p1 p2 S K) : mMi l D cI cJ h yX2_open wsX2_open rm_X2_open [.ref (h 0), .int (p0), .int (p1), .int (p2)] K S := by
  refine m_starti (rt := some .int) (by decide) rfl rfl (Nat.le_of_ble_eq_true rfl) ?_
  intro p e s m below meth c A ls F hr hlk I hl
  have hin : ∀ w ∈ u_ws RX2 TX2 24, w ∈ wsX2_open := by decide +kernel
  obtain ⟨hx, hb, hml, hown, hts⟩ := id F
  have hl : lv_has ls 8 [(0, .ref (h 0)), (1, .int (p0)), (2, .int (p1)), (3, .int (p2))] := hl
  unfold wp_X2_open at hw
  refine lv_aload_n hx hb dX2_open_0 rfl (lv_at hl 0 rfl) ?_
  refine lv_iconst (v := (0 : Int32)) hx hb dX2_open_1 (by decide) ?_
  refine m_put F hin I 23 (by decide) (hts (.fieldLink RX2 44 "CuttingTableModel" "thrown" "I") (by decide +kernel)) dX2_open_2 (fun H locs I => ?_)
  refine lv_aload_n hx hb dX2_open_5 rfl (lv_at hl 0 rfl) ?_
  refine lv_iload_n hx hb dX2_open_6 rfl (lv_at hl 1 rfl) ?_
  refine lv_iload_n hx hb dX2_open_7 rfl (lv_at hl 2 rfl) ?_
  refine lv_iload_n hx hb dX2_open_8 rfl (lv_at hl 3 rfl) ?_
  refine m_calli (rest := []) F I (c_X2_noGap (p0) (p1) (p2) _ _ hw) (cwV 3 hts gX2_open_X2_noGap rfl rfl rfl (by decide +kernel) ⟨Nat.le_of_ble_eq_true rfl, Nat.le_of_ble_eq_true rfl⟩) rfl hl.1 rfl (Nat.le_of_ble_eq_true rfl) dX2_open_9 ⟨Nat.zero_le _, Nat.zero_le _⟩ (fun r1 S2 H locs hw I => ?_)
  refine lv_istore (lv' := [(4, .int (r1)), (0, .ref (h 0)), (1, .int (p0)), (2, .int (p1)), (3, .int (p2))]) hx hb dX2_open_12 hl (by decide) rfl (fun ls hl => ?_)
  refine lv_iload hx hb dX2_open_14 (lv_at hl 0 rfl) ?_
  refine lv_if_le (tgt := 27) hx hb dX2_open_16 (by decide) (fun c_3 => ?_) (fun c_3 => ?_)
  · have hw := hw.1 c_3
    refine lv_aload_n hx hb dX2_open_27 rfl (lv_at hl 1 rfl) ?_
    refine m_get F hin I 5 (by decide) (v := .ref (h 5)) rfl (hts (.fieldLink RX2 23 "CuttingTableModel" "which" "[I") (by decide +kernel)) dX2_open_28 ?_
    refine lv_iload_n hx hb dX2_open_31 rfl (lv_at hl 2 rfl) ?_
    obtain ⟨hi4, hw⟩ := hw
    refine m_iald F I 5 8 (by decide) hi4 dX2_open_32 ?_
    refine lv_istore (lv' := [(5, .int ((S2.ia 5 (p0).toNatClampNeg))), (4, .int (r1)), (0, .ref (h 0)), (1, .int (p0)), (2, .int (p1)), (3, .int (p2))]) hx hb dX2_open_33 hl (by decide) rfl (fun ls hl => ?_)
    refine lv_aload_n hx hb dX2_open_35 rfl (lv_at hl 2 rfl) ?_
    refine m_get F hin I 1 (by decide) (v := .ref (h 2)) rfl (hts (.fieldLink RX2 13 "CuttingTableModel" "sizes" "[I") (by decide +kernel)) dX2_open_36 ?_
    refine lv_iload hx hb dX2_open_39 (lv_at hl 0 rfl) ?_
    obtain ⟨hi5, hw⟩ := hw
    refine m_iald F I 2 513 (by decide) hi5 dX2_open_41 ?_
    refine lv_istore (lv' := [(6, .int ((S2.ia 2 ((S2.ia 5 (p0).toNatClampNeg)).toNatClampNeg))), (5, .int ((S2.ia 5 (p0).toNatClampNeg))), (4, .int (r1)), (0, .ref (h 0)), (1, .int (p0)), (2, .int (p1)), (3, .int (p2))]) hx hb dX2_open_42 hl (by decide) rfl (fun ls hl => ?_)
    refine lv_iload hx hb dX2_open_44 (lv_at hl 0 rfl) ?_
    refine lv_iconst (v := (1 : Int32)) hx hb dX2_open_46 (by decide) ?_
    refine lv_isub hx hb dX2_open_47 ?_
    refine lv_istore (lv' := [(7, .int (((S2.ia 2 ((S2.ia 5 (p0).toNatClampNeg)).toNatClampNeg) - (1 : Int32)))), (6, .int ((S2.ia 2 ((S2.ia 5 (p0).toNatClampNeg)).toNatClampNeg))), (5, .int ((S2.ia 5 (p0).toNatClampNeg))), (4, .int (r1)), (0, .ref (h 0)), (1, .int (p0)), (2, .int (p1)), (3, .int (p2))]) hx hb dX2_open_48 hl (by decide) rfl (fun ls hl => ?_)
    obtain ⟨n50, hw⟩ := hw
    exact lp_X2_open_50 F hin hr hlk n50 (p0) (p1) (p2) (r1) ((S2.ia 5 (p0).toNatClampNeg)) ((S2.ia 2 ((S2.ia 5 (p0).toNatClampNeg)).toNatClampNeg)) (((S2.ia 2 ((S2.ia 5 (p0).toNatClampNeg)).toNatClampNeg) - (1 : Int32))) S2 _ _ I ls (lv_sub hl [4, 5, 6, 7, 3, 2, 1, 0] rfl) hw
  · have hw := hw.2 c_3
    refine lv_aload_n hx hb dX2_open_19 rfl (lv_at hl 1 rfl) ?_
    refine lv_iload hx hb dX2_open_20 (lv_at hl 0 rfl) ?_
    refine m_calli (rest := []) F I (c_X2_told (r1) _ _ hw) (cwV 1 hts gX2_open_X2_told rfl rfl rfl (by decide +kernel) ⟨Nat.le_of_ble_eq_true rfl, Nat.le_of_ble_eq_true rfl⟩) rfl hl.1 rfl (Nat.le_of_ble_eq_true rfl) dX2_open_22 ⟨Nat.zero_le _, Nat.zero_le _⟩ (fun r17 S18 H locs hw I => ?_)
    refine lv_ineg hx hb dX2_open_25 ?_
    exact m_reti F hr hlk I dX2_open_26 hw
abbrev rm_X2_close : Room := { frames := 3, cells := 0, slots := 0, locals := 65 }
def wl_X2_close_96 (K : Int32 → mS → Prop) : Nat → Int32 → Int32 → Int32 → Int32 → Int32 → Int32 → Int32 → mS → Prop
  | 0, _, _, _, _, _, _, _, _ => False
  | n + 1, v1, v2, v3, v4, v5, v6, v7, S => ((v6 ≤ v7 → wp_X2_told ((0 : Int32)) (S.si 16 (0 : Int32)) (fun r8 S9 => K (((v6 - v2) - v3)) S9)) ∧ (¬ v6 ≤ v7 → (vp_in (v5) 513 ∧ wp_X2_isOfNumbers ((S.ia 1 (v5).toNatClampNeg)) (fun r11 => ((r11 = 0 → (vp_in ((((24 : Int32) * v5) + v7)) 12312 ∧ wl_X2_close_96 K n (v1) (v2) (v3) (v4) (v5) (v6) ((v7 + (1 : Int32))) (S.sl 3 ((((24 : Int32) * v5) + v7)).toNatClampNeg ((-1 : Int64))))) ∧ (¬ r11 = 0 → (vp_in ((((24 : Int32) * v5) + v7)) 12312 ∧ wl_X2_close_96 K n (v1) (v2) (v3) (v4) (v5) (v6) ((v7 + (1 : Int32))) (S.sl 3 ((((24 : Int32) * v5) + v7)).toNatClampNeg ((0 : Int64))))))))))
def wl_X2_close_47 (K : Int32 → mS → Prop) : Nat → Int32 → Int32 → Int32 → Int32 → Int32 → Int32 → Int32 → mS → Prop
  | 0, _, _, _, _, _, _, _, _ => False
  | n + 1, v1, v2, v3, v4, v5, v6, v7, S => (((v6 - v3) ≤ v7 → (∃ n96 : Nat, wl_X2_close_96 K n96 (v1) (v2) (v3) (v4) (v5) (v6) ((v6 - v3)) S)) ∧ (¬ (v6 - v3) ≤ v7 → (vp_in (((((24 : Int32) * v5) + v7) + v3)) 12312 ∧ (vp_in ((((24 : Int32) * v5) + v7)) 12312 ∧ wl_X2_close_47 K n (v1) (v2) (v3) (v4) (v5) (v6) ((v7 + (1 : Int32))) (S.sl 3 ((((24 : Int32) * v5) + v7)).toNatClampNeg ((S.la 3 (((((24 : Int32) * v5) + v7) + v3)).toNatClampNeg)))))))
def wp_X2_close (p0 : Int32) (p1 : Int32) (p2 : Int32) (S : mS) (K : Int32 → mS → Prop) : Prop := wp_X2_noGap (p0) (p1) (p2) (S.si 23 (0 : Int32)) (fun r1 S2 => ((r1 ≤ 0 → (vp_in (p0) 8 ∧ (vp_in ((S2.ia 5 (p0).toNatClampNeg)) 513 ∧ (∃ n47 : Nat, wl_X2_close_47 K n47 (p0) (p1) (p2) (r1) ((S2.ia 5 (p0).toNatClampNeg)) ((S2.ia 2 ((S2.ia 5 (p0).toNatClampNeg)).toNatClampNeg)) (p1) S2)))) ∧ (¬ r1 ≤ 0 → wp_X2_told (r1) S2 (fun r17 S18 => K ((-r17)) S18))))
set_option maxHeartbeats 4000000 in
set_option maxRecDepth 100000 in
theorem lp_X2_close_96 {p : Program} {l : Launch} {e : Env} {s : State} {m : MethodId} {args : Array Value} {below : List Frame} {meth : Method} {c : Code} {D : va_G} {cI cJ : ClassId} {h : Nat → Nat} {A : Nat → Prop} {K : Int32 → mS → Prop} (F : CallFix p m c cX2_close 8 s args wsX2_close RX2) (hin : ∀ w ∈ u_ws RX2 TX2 24, w ∈ wsX2_close) (hr : meth.sig.returnType = some .int) (hlk : meth.locks = false) :
    ∀ (n : Nat) (v1 : Int32) (v2 : Int32) (v3 : Int32) (v4 : Int32) (v5 : Int32) (v6 : Int32) (v7 : Int32) (S : mS) (H : Heap) (locs : List Loc), mI D cI cJ h A s s.heap H locs S → ∀ (ls : Array Slot), lv_has ls 8 [(0, .ref (h 0)), (1, .int (v1)), (2, .int (v2)), (3, .int (v3)), (4, .int (v4)), (5, .int (v5)), (6, .int (v6)), (7, .int (v7))] → wl_X2_close_96 K n v1 v2 v3 v4 v5 v6 v7 S → W p l e rm_X2_close s m args below meth c H locs 0 0 (MQ below (va_Qi K (mB D cI cJ h A) A) args s 0 0 A) (F0 m 96 ls []) := by
  obtain ⟨hx, hb, hml, hown, hts⟩ := id F
  intro n
  induction n with
  | zero => intro v1 v2 v3 v4 v5 v6 v7 S H locs I ls hl hw; exact hw.elim
  | succ n ih =>
    intro v1 v2 v3 v4 v5 v6 v7 S H locs I ls hl hw
    rw [wl_X2_close_96] at hw
    refine lv_iload hx hb dX2_close_96 (lv_at hl 7 rfl) ?_
    refine lv_iload hx hb dX2_close_98 (lv_at hl 6 rfl) ?_
    refine lv_icmp_ge (tgt := 142) hx hb dX2_close_100 (by decide) (fun c_7 => ?_) (fun c_7 => ?_)
    · have hw := hw.1 c_7
      refine lv_aload_n hx hb dX2_close_142 rfl (lv_at hl 0 rfl) ?_
      refine lv_iconst (v := (0 : Int32)) hx hb dX2_close_143 (by decide) ?_
      refine m_put F hin I 16 (by decide) (hts (.fieldLink RX2 96 "CuttingTableModel" "binMany" "I") (by decide +kernel)) dX2_close_144 (fun H locs I => ?_)
      refine lv_aload_n hx hb dX2_close_147 rfl (lv_at hl 0 rfl) ?_
      refine lv_iconst (v := (0 : Int32)) hx hb dX2_close_148 (by decide) ?_
      refine m_calli (rest := []) F I (c_X2_told ((0 : Int32)) _ _ hw) (cwV 1 hts gX2_close_X2_told rfl rfl rfl (by decide +kernel) ⟨Nat.le_of_ble_eq_true rfl, Nat.le_of_ble_eq_true rfl⟩) rfl hl.1 rfl (Nat.le_of_ble_eq_true rfl) dX2_close_149 ⟨Nat.zero_le _, Nat.zero_le _⟩ (fun r8 S9 H locs hw I => ?_)
      refine lv_pop hx hb dX2_close_152 rfl ?_
      refine lv_iload hx hb dX2_close_153 (lv_at hl 6 rfl) ?_
      refine lv_iload_n hx hb dX2_close_155 rfl (lv_at hl 2 rfl) ?_
      refine lv_isub hx hb dX2_close_156 ?_
      refine lv_iload_n hx hb dX2_close_157 rfl (lv_at hl 3 rfl) ?_
      refine lv_isub hx hb dX2_close_158 ?_
      exact m_reti F hr hlk I dX2_close_159 hw
    · have hw := hw.2 c_7
      refine lv_aload_n hx hb dX2_close_103 rfl (lv_at hl 0 rfl) ?_
      refine m_get F hin I 2 (by decide) (v := .ref (h 3)) rfl (hts (.fieldLink RX2 16 "CuttingTableModel" "cells" "[J") (by decide +kernel)) dX2_close_104 ?_
      refine lv_bipush (v := (24 : Int32)) hx hb dX2_close_107 (by decide) ?_
      refine lv_iload hx hb dX2_close_109 (lv_at hl 5 rfl) ?_
      refine lv_imul hx hb dX2_close_111 ?_
      refine lv_iload hx hb dX2_close_112 (lv_at hl 7 rfl) ?_
      refine lv_iadd hx hb dX2_close_114 ?_
      refine lv_aload_n hx hb dX2_close_115 rfl (lv_at hl 0 rfl) ?_
      refine m_get F hin I 0 (by decide) (v := .ref (h 1)) rfl (hts (.fieldLink RX2 7 "CuttingTableModel" "stocks" "[I") (by decide +kernel)) dX2_close_116 ?_
      refine lv_iload hx hb dX2_close_119 (lv_at hl 5 rfl) ?_
      obtain ⟨hi10, hw⟩ := hw
      refine m_iald F I 1 513 (by decide) hi10 dX2_close_121 ?_
      refine s_calli (rest := [.int ((((24 : Int32) * v5) + v7)), .ref (h 3)]) F (c_X2_isOfNumbers ((S.ia 1 (v5).toNatClampNeg)) _ hw) (va_cwS 1 hts gX2_close_X2_isOfNumbers rfl rfl rfl (by decide +kernel) ⟨Nat.le_of_ble_eq_true rfl, Nat.le_of_ble_eq_true rfl⟩) rfl hl.1 rfl (Nat.le_of_ble_eq_true rfl) dX2_close_122 ⟨Nat.zero_le _, Nat.zero_le _⟩ (fun r11 hw => ?_)
      refine lv_if_eq (tgt := 132) hx hb dX2_close_125 (by decide) (fun c_12 => ?_) (fun c_12 => ?_)
      · have hw := hw.1 c_12
        refine lv_ldc2 hx hb hown (hts (.constantLong RX2 64 (-1)) (by decide +kernel)) dX2_close_132 ?_
        obtain ⟨hi13, hw⟩ := hw
        refine m_last F I 3 12312 (by decide) hi13 dX2_close_135 (fun H locs I => ?_)
        refine lv_iinc (v := (v7 + (1 : Int32))) (lv' := [(7, .int ((v7 + (1 : Int32)))), (0, .ref (h 0)), (1, .int (v1)), (2, .int (v2)), (3, .int (v3)), (4, .int (v4)), (5, .int (v5)), (6, .int (v6))]) hx hb dX2_close_136 hl (k := 7) rfl rfl (by decide) rfl (fun ls hl => ?_)
        refine lv_goto (tgt := 96) hx hb dX2_close_139 (by decide) ?_
        exact ih (v1) (v2) (v3) (v4) (v5) (v6) ((v7 + (1 : Int32))) (S.sl 3 ((((24 : Int32) * v5) + v7)).toNatClampNeg ((-1 : Int64))) _ _ I ls (lv_sub hl [1, 2, 3, 4, 5, 6, 7, 0] rfl) hw
      · have hw := hw.2 c_12
        refine lv_lconst (v := (0 : Int64)) hx hb dX2_close_128 (by decide) ?_
        refine lv_goto (tgt := 135) hx hb dX2_close_129 (by decide) ?_
        obtain ⟨hi14, hw⟩ := hw
        refine m_last F I 3 12312 (by decide) hi14 dX2_close_135 (fun H locs I => ?_)
        refine lv_iinc (v := (v7 + (1 : Int32))) (lv' := [(7, .int ((v7 + (1 : Int32)))), (0, .ref (h 0)), (1, .int (v1)), (2, .int (v2)), (3, .int (v3)), (4, .int (v4)), (5, .int (v5)), (6, .int (v6))]) hx hb dX2_close_136 hl (k := 7) rfl rfl (by decide) rfl (fun ls hl => ?_)
        refine lv_goto (tgt := 96) hx hb dX2_close_139 (by decide) ?_
        exact ih (v1) (v2) (v3) (v4) (v5) (v6) ((v7 + (1 : Int32))) (S.sl 3 ((((24 : Int32) * v5) + v7)).toNatClampNeg ((0 : Int64))) _ _ I ls (lv_sub hl [1, 2, 3, 4, 5, 6, 7, 0] rfl) hw
set_option maxHeartbeats 4000000 in
set_option maxRecDepth 100000 in
theorem lp_X2_close_47 {p : Program} {l : Launch} {e : Env} {s : State} {m : MethodId} {args : Array Value} {below : List Frame} {meth : Method} {c : Code} {D : va_G} {cI cJ : ClassId} {h : Nat → Nat} {A : Nat → Prop} {K : Int32 → mS → Prop} (F : CallFix p m c cX2_close 8 s args wsX2_close RX2) (hin : ∀ w ∈ u_ws RX2 TX2 24, w ∈ wsX2_close) (hr : meth.sig.returnType = some .int) (hlk : meth.locks = false) :
    ∀ (n : Nat) (v1 : Int32) (v2 : Int32) (v3 : Int32) (v4 : Int32) (v5 : Int32) (v6 : Int32) (v7 : Int32) (S : mS) (H : Heap) (locs : List Loc), mI D cI cJ h A s s.heap H locs S → ∀ (ls : Array Slot), lv_has ls 8 [(0, .ref (h 0)), (1, .int (v1)), (2, .int (v2)), (3, .int (v3)), (4, .int (v4)), (5, .int (v5)), (6, .int (v6)), (7, .int (v7))] → wl_X2_close_47 K n v1 v2 v3 v4 v5 v6 v7 S → W p l e rm_X2_close s m args below meth c H locs 0 0 (MQ below (va_Qi K (mB D cI cJ h A) A) args s 0 0 A) (F0 m 47 ls []) := by
  obtain ⟨hx, hb, hml, hown, hts⟩ := id F
  intro n
  induction n with
  | zero => intro v1 v2 v3 v4 v5 v6 v7 S H locs I ls hl hw; exact hw.elim
  | succ n ih =>
    intro v1 v2 v3 v4 v5 v6 v7 S H locs I ls hl hw
    rw [wl_X2_close_47] at hw
    refine lv_iload hx hb dX2_close_47 (lv_at hl 7 rfl) ?_
    refine lv_iload hx hb dX2_close_49 (lv_at hl 6 rfl) ?_
    refine lv_iload_n hx hb dX2_close_51 rfl (lv_at hl 3 rfl) ?_
    refine lv_isub hx hb dX2_close_52 ?_
    refine lv_icmp_ge (tgt := 90) hx hb dX2_close_53 (by decide) (fun c_6 => ?_) (fun c_6 => ?_)
    · have hw := hw.1 c_6
      refine lv_iload hx hb dX2_close_90 (lv_at hl 6 rfl) ?_
      refine lv_iload_n hx hb dX2_close_92 rfl (lv_at hl 3 rfl) ?_
      refine lv_isub hx hb dX2_close_93 ?_
      refine lv_istore (lv' := [(7, .int ((v6 - v3))), (0, .ref (h 0)), (1, .int (v1)), (2, .int (v2)), (3, .int (v3)), (4, .int (v4)), (5, .int (v5)), (6, .int (v6))]) hx hb dX2_close_94 hl (by decide) rfl (fun ls hl => ?_)
      obtain ⟨n96, hw⟩ := hw
      exact lp_X2_close_96 F hin hr hlk n96 (v1) (v2) (v3) (v4) (v5) (v6) ((v6 - v3)) S _ _ I ls (lv_sub hl [1, 2, 3, 4, 5, 6, 7, 0] rfl) hw
    · have hw := hw.2 c_6
      refine lv_aload_n hx hb dX2_close_56 rfl (lv_at hl 0 rfl) ?_
      refine m_get F hin I 2 (by decide) (v := .ref (h 3)) rfl (hts (.fieldLink RX2 16 "CuttingTableModel" "cells" "[J") (by decide +kernel)) dX2_close_57 ?_
      refine lv_bipush (v := (24 : Int32)) hx hb dX2_close_60 (by decide) ?_
      refine lv_iload hx hb dX2_close_62 (lv_at hl 5 rfl) ?_
      refine lv_imul hx hb dX2_close_64 ?_
      refine lv_iload hx hb dX2_close_65 (lv_at hl 7 rfl) ?_
      refine lv_iadd hx hb dX2_close_67 ?_
      refine lv_aload_n hx hb dX2_close_68 rfl (lv_at hl 0 rfl) ?_
      refine m_get F hin I 2 (by decide) (v := .ref (h 3)) rfl (hts (.fieldLink RX2 16 "CuttingTableModel" "cells" "[J") (by decide +kernel)) dX2_close_69 ?_
      refine lv_bipush (v := (24 : Int32)) hx hb dX2_close_72 (by decide) ?_
      refine lv_iload hx hb dX2_close_74 (lv_at hl 5 rfl) ?_
      refine lv_imul hx hb dX2_close_76 ?_
      refine lv_iload hx hb dX2_close_77 (lv_at hl 7 rfl) ?_
      refine lv_iadd hx hb dX2_close_79 ?_
      refine lv_iload_n hx hb dX2_close_80 rfl (lv_at hl 3 rfl) ?_
      refine lv_iadd hx hb dX2_close_81 ?_
      obtain ⟨hi15, hw⟩ := hw
      refine m_lald F I 3 12312 (by decide) hi15 dX2_close_82 ?_
      obtain ⟨hi16, hw⟩ := hw
      refine m_last F I 3 12312 (by decide) hi16 dX2_close_83 (fun H locs I => ?_)
      refine lv_iinc (v := (v7 + (1 : Int32))) (lv' := [(7, .int ((v7 + (1 : Int32)))), (0, .ref (h 0)), (1, .int (v1)), (2, .int (v2)), (3, .int (v3)), (4, .int (v4)), (5, .int (v5)), (6, .int (v6))]) hx hb dX2_close_84 hl (k := 7) rfl rfl (by decide) rfl (fun ls hl => ?_)
      refine lv_goto (tgt := 47) hx hb dX2_close_87 (by decide) ?_
      exact ih (v1) (v2) (v3) (v4) (v5) (v6) ((v7 + (1 : Int32))) (S.sl 3 ((((24 : Int32) * v5) + v7)).toNatClampNeg ((S.la 3 (((((24 : Int32) * v5) + v7) + v3)).toNatClampNeg))) _ _ I ls (lv_sub hl [1, 2, 3, 4, 5, 6, 7, 0] rfl) hw
set_option maxHeartbeats 4000000 in
set_option maxRecDepth 100000 in
theorem c_X2_close {l : Launch} {D : va_G} {cI cJ : ClassId} {h : Nat → Nat} (p0 : Int32) (p1 : Int32) (p2 : Int32) (S : mS) (K : Int32 → mS → Prop) (hw : wp_X2_close p0 p1 p2 S K) : mMi l D cI cJ h yX2_close wsX2_close rm_X2_close [.ref (h 0), .int (p0), .int (p1), .int (p2)] K S := by
  refine m_starti (rt := some .int) (by decide) rfl rfl (Nat.le_of_ble_eq_true rfl) ?_
  intro p e s m below meth c A ls F hr hlk I hl
  have hin : ∀ w ∈ u_ws RX2 TX2 24, w ∈ wsX2_close := by decide +kernel
  obtain ⟨hx, hb, hml, hown, hts⟩ := id F
  have hl : lv_has ls 8 [(0, .ref (h 0)), (1, .int (p0)), (2, .int (p1)), (3, .int (p2))] := hl
  unfold wp_X2_close at hw
  refine lv_aload_n hx hb dX2_close_0 rfl (lv_at hl 0 rfl) ?_
  refine lv_iconst (v := (0 : Int32)) hx hb dX2_close_1 (by decide) ?_
  refine m_put F hin I 23 (by decide) (hts (.fieldLink RX2 44 "CuttingTableModel" "thrown" "I") (by decide +kernel)) dX2_close_2 (fun H locs I => ?_)
  refine lv_aload_n hx hb dX2_close_5 rfl (lv_at hl 0 rfl) ?_
  refine lv_iload_n hx hb dX2_close_6 rfl (lv_at hl 1 rfl) ?_
  refine lv_iload_n hx hb dX2_close_7 rfl (lv_at hl 2 rfl) ?_
  refine lv_iload_n hx hb dX2_close_8 rfl (lv_at hl 3 rfl) ?_
  refine m_calli (rest := []) F I (c_X2_noGap (p0) (p1) (p2) _ _ hw) (cwV 3 hts gX2_close_X2_noGap rfl rfl rfl (by decide +kernel) ⟨Nat.le_of_ble_eq_true rfl, Nat.le_of_ble_eq_true rfl⟩) rfl hl.1 rfl (Nat.le_of_ble_eq_true rfl) dX2_close_9 ⟨Nat.zero_le _, Nat.zero_le _⟩ (fun r1 S2 H locs hw I => ?_)
  refine lv_istore (lv' := [(4, .int (r1)), (0, .ref (h 0)), (1, .int (p0)), (2, .int (p1)), (3, .int (p2))]) hx hb dX2_close_12 hl (by decide) rfl (fun ls hl => ?_)
  refine lv_iload hx hb dX2_close_14 (lv_at hl 0 rfl) ?_
  refine lv_if_le (tgt := 27) hx hb dX2_close_16 (by decide) (fun c_3 => ?_) (fun c_3 => ?_)
  · have hw := hw.1 c_3
    refine lv_aload_n hx hb dX2_close_27 rfl (lv_at hl 1 rfl) ?_
    refine m_get F hin I 5 (by decide) (v := .ref (h 5)) rfl (hts (.fieldLink RX2 23 "CuttingTableModel" "which" "[I") (by decide +kernel)) dX2_close_28 ?_
    refine lv_iload_n hx hb dX2_close_31 rfl (lv_at hl 2 rfl) ?_
    obtain ⟨hi4, hw⟩ := hw
    refine m_iald F I 5 8 (by decide) hi4 dX2_close_32 ?_
    refine lv_istore (lv' := [(5, .int ((S2.ia 5 (p0).toNatClampNeg))), (4, .int (r1)), (0, .ref (h 0)), (1, .int (p0)), (2, .int (p1)), (3, .int (p2))]) hx hb dX2_close_33 hl (by decide) rfl (fun ls hl => ?_)
    refine lv_aload_n hx hb dX2_close_35 rfl (lv_at hl 2 rfl) ?_
    refine m_get F hin I 1 (by decide) (v := .ref (h 2)) rfl (hts (.fieldLink RX2 13 "CuttingTableModel" "sizes" "[I") (by decide +kernel)) dX2_close_36 ?_
    refine lv_iload hx hb dX2_close_39 (lv_at hl 0 rfl) ?_
    obtain ⟨hi5, hw⟩ := hw
    refine m_iald F I 2 513 (by decide) hi5 dX2_close_41 ?_
    refine lv_istore (lv' := [(6, .int ((S2.ia 2 ((S2.ia 5 (p0).toNatClampNeg)).toNatClampNeg))), (5, .int ((S2.ia 5 (p0).toNatClampNeg))), (4, .int (r1)), (0, .ref (h 0)), (1, .int (p0)), (2, .int (p1)), (3, .int (p2))]) hx hb dX2_close_42 hl (by decide) rfl (fun ls hl => ?_)
    refine lv_iload_n hx hb dX2_close_44 rfl (lv_at hl 5 rfl) ?_
    refine lv_istore (lv' := [(7, .int (p1)), (6, .int ((S2.ia 2 ((S2.ia 5 (p0).toNatClampNeg)).toNatClampNeg))), (5, .int ((S2.ia 5 (p0).toNatClampNeg))), (4, .int (r1)), (0, .ref (h 0)), (1, .int (p0)), (2, .int (p1)), (3, .int (p2))]) hx hb dX2_close_45 hl (by decide) rfl (fun ls hl => ?_)
    obtain ⟨n47, hw⟩ := hw
    exact lp_X2_close_47 F hin hr hlk n47 (p0) (p1) (p2) (r1) ((S2.ia 5 (p0).toNatClampNeg)) ((S2.ia 2 ((S2.ia 5 (p0).toNatClampNeg)).toNatClampNeg)) (p1) S2 _ _ I ls (lv_sub hl [4, 5, 6, 7, 3, 2, 1, 0] rfl) hw
  · have hw := hw.2 c_3
    refine lv_aload_n hx hb dX2_close_19 rfl (lv_at hl 1 rfl) ?_
    refine lv_iload hx hb dX2_close_20 (lv_at hl 0 rfl) ?_
    refine m_calli (rest := []) F I (c_X2_told (r1) _ _ hw) (cwV 1 hts gX2_close_X2_told rfl rfl rfl (by decide +kernel) ⟨Nat.le_of_ble_eq_true rfl, Nat.le_of_ble_eq_true rfl⟩) rfl hl.1 rfl (Nat.le_of_ble_eq_true rfl) dX2_close_22 ⟨Nat.zero_le _, Nat.zero_le _⟩ (fun r17 S18 H locs hw I => ?_)
    refine lv_ineg hx hb dX2_close_25 ?_
    exact m_reti F hr hlk I dX2_close_26 hw
abbrev rm_X2_refusal : Room := { frames := 0, cells := 0, slots := 0, locals := 0 }
def wp_X2_refusal (p0 : Int32) (S : mS) (K : Int32 → mS → Prop) : Prop := ((¬ p0 = 0 → ((¬ p0 = (1 : Int32) → ((¬ p0 = (2 : Int32) → K ((-1 : Int32)) (S.si 23 (0 : Int32))) ∧ (p0 = (2 : Int32) → K ((S.fi 20)) (S.si 23 (0 : Int32))))) ∧ (p0 = (1 : Int32) → K ((S.fi 19)) (S.si 23 (0 : Int32))))) ∧ (p0 = 0 → K ((S.fi 18)) (S.si 23 (0 : Int32))))
set_option maxHeartbeats 4000000 in
set_option maxRecDepth 100000 in
theorem c_X2_refusal {l : Launch} {D : va_G} {cI cJ : ClassId} {h : Nat → Nat} (p0 : Int32) (S : mS) (K : Int32 → mS → Prop) (hw : wp_X2_refusal p0 S K) : mMi l D cI cJ h yX2_refusal wsX2_refusal rm_X2_refusal [.ref (h 0), .int (p0)] K S := by
  refine m_starti (rt := some .int) (by decide) rfl rfl (Nat.le_of_ble_eq_true rfl) ?_
  intro p e s m below meth c A ls F hr hlk I hl
  have hin : ∀ w ∈ u_ws RX2 TX2 24, w ∈ wsX2_refusal := by decide +kernel
  obtain ⟨hx, hb, hml, hown, hts⟩ := id F
  have hl : lv_has ls 2 [(0, .ref (h 0)), (1, .int (p0))] := hl
  unfold wp_X2_refusal at hw
  refine lv_aload_n hx hb dX2_refusal_0 rfl (lv_at hl 0 rfl) ?_
  refine lv_iconst (v := (0 : Int32)) hx hb dX2_refusal_1 (by decide) ?_
  refine m_put F hin I 23 (by decide) (hts (.fieldLink RX2 44 "CuttingTableModel" "thrown" "I") (by decide +kernel)) dX2_refusal_2 (fun H locs I => ?_)
  refine lv_iload_n hx hb dX2_refusal_5 rfl (lv_at hl 1 rfl) ?_
  refine lv_if_ne (tgt := 16) hx hb dX2_refusal_6 (by decide) (fun c_1 => ?_) (fun c_1 => ?_)
  · have hw := hw.1 c_1
    refine lv_iload_n hx hb dX2_refusal_16 rfl (lv_at hl 1 rfl) ?_
    refine lv_iconst (v := (1 : Int32)) hx hb dX2_refusal_17 (by decide) ?_
    refine lv_icmp_ne (tgt := 28) hx hb dX2_refusal_18 (by decide) (fun c_2 => ?_) (fun c_2 => ?_)
    · have hw := hw.1 c_2
      refine lv_iload_n hx hb dX2_refusal_28 rfl (lv_at hl 1 rfl) ?_
      refine lv_iconst (v := (2 : Int32)) hx hb dX2_refusal_29 (by decide) ?_
      refine lv_icmp_ne (tgt := 40) hx hb dX2_refusal_30 (by decide) (fun c_3 => ?_) (fun c_3 => ?_)
      · have hw := hw.1 c_3
        refine lv_iconst (v := (-1 : Int32)) hx hb dX2_refusal_40 (by decide) ?_
        exact m_reti F hr hlk I dX2_refusal_41 hw
      · have hw := hw.2 c_3
        refine lv_aload_n hx hb dX2_refusal_33 rfl (lv_at hl 0 rfl) ?_
        refine m_get F hin I 20 (by decide) (v := .int ((S.fi 20))) rfl (hts (.fieldLink RX2 54 "CuttingTableModel" "ahead" "I") (by decide +kernel)) dX2_refusal_34 ?_
        refine lv_goto (tgt := 41) hx hb dX2_refusal_37 (by decide) ?_
        exact m_reti F hr hlk I dX2_refusal_41 hw
    · have hw := hw.2 c_2
      refine lv_aload_n hx hb dX2_refusal_21 rfl (lv_at hl 0 rfl) ?_
      refine m_get F hin I 19 (by decide) (v := .int ((S.fi 19))) rfl (hts (.fieldLink RX2 51 "CuttingTableModel" "way" "I") (by decide +kernel)) dX2_refusal_22 ?_
      refine lv_goto (tgt := 41) hx hb dX2_refusal_25 (by decide) ?_
      exact m_reti F hr hlk I dX2_refusal_41 hw
  · have hw := hw.2 c_1
    refine lv_aload_n hx hb dX2_refusal_9 rfl (lv_at hl 0 rfl) ?_
    refine m_get F hin I 18 (by decide) (v := .int ((S.fi 18))) rfl (hts (.fieldLink RX2 48 "CuttingTableModel" "refused" "I") (by decide +kernel)) dX2_refusal_10 ?_
    refine lv_goto (tgt := 41) hx hb dX2_refusal_13 (by decide) ?_
    exact m_reti F hr hlk I dX2_refusal_41 hw
abbrev rm_X2_look : Room := { frames := 1, cells := 0, slots := 0, locals := 20 }
def wl_X2_look_115 (K : Int32 → mS → Prop) : Nat → Int32 → Int32 → Int32 → Int32 → Int32 → mS → Prop
  | 0, _, _, _, _, _, _ => False
  | n + 1, v1, v2, v3, v4, v5, S => ((v5 < 0 → K (v4) S) ∧ (¬ v5 < 0 → (vp_in (v5) 8 ∧ (vp_in (v1) 8 ∧ ((¬ (S.ia 4 (v5).toNatClampNeg) = (S.ia 4 (v1).toNatClampNeg) → wl_X2_look_115 K n (v1) (v2) (v3) (v4) ((v5 + (-1 : Int32))) S) ∧ ((S.ia 4 (v5).toNatClampNeg) = (S.ia 4 (v1).toNatClampNeg) → (vp_in (v5) 8 ∧ (vp_in (v1) 8 ∧ ((¬ (S.ia 5 (v5).toNatClampNeg) = (S.ia 5 (v1).toNatClampNeg) → wl_X2_look_115 K n (v1) (v2) (v3) (v4) ((v5 + (-1 : Int32))) S) ∧ ((S.ia 5 (v5).toNatClampNeg) = (S.ia 5 (v1).toNatClampNeg) → wl_X2_look_115 K n (v1) (v2) (v3) (v5) ((v5 + (-1 : Int32))) S))))))))))
def wp_X2_look (p0 : Int32) (p1 : Int32) (S : mS) (K : Int32 → mS → Prop) : Prop := wp_X2_isSpindle (p0) (fun r1 => ((r1 = 0 → K ((-1 : Int32)) (S.si 23 (0 : Int32))) ∧ (¬ r1 = 0 → ((p1 < 0 → K ((-1 : Int32)) (S.si 23 (0 : Int32))) ∧ (¬ p1 < 0 → (((2 : Int32) < p1 → K ((-1 : Int32)) (S.si 23 (0 : Int32))) ∧ (¬ (2 : Int32) < p1 → (vp_in (p0) 8 ∧ ((¬ (S.ia 4 (p0).toNatClampNeg) = 0 → (vp_in (p0) 8 ∧ ((¬ (S.ia 4 (p0).toNatClampNeg) = (2 : Int32) → ((¬ p1 = 0 → ((¬ p1 = (1 : Int32) → (∃ n115 : Nat, wl_X2_look_115 K n115 (p0) (p1) ((0 : Int32)) (p0) ((7 : Int32)) (S.si 23 (0 : Int32)))) ∧ (p1 = (1 : Int32) → (vp_in (p0) 8 ∧ (vp_in ((S.ia 5 (p0).toNatClampNeg)) 513 ∧ K ((S.ia 2 ((S.ia 5 (p0).toNatClampNeg)).toNatClampNeg)) (S.si 23 (0 : Int32))))))) ∧ (p1 = 0 → (vp_in (p0) 8 ∧ (vp_in ((S.ia 5 (p0).toNatClampNeg)) 513 ∧ K ((S.ia 1 ((S.ia 5 (p0).toNatClampNeg)).toNatClampNeg)) (S.si 23 (0 : Int32))))))) ∧ ((S.ia 4 (p0).toNatClampNeg) = (2 : Int32) → ((¬ p1 = 0 → ((¬ p1 = (1 : Int32) → (∃ n115 : Nat, wl_X2_look_115 K n115 (p0) (p1) ((1 : Int32)) (p0) ((7 : Int32)) (S.si 23 (0 : Int32)))) ∧ (p1 = (1 : Int32) → (vp_in (p0) 8 ∧ (vp_in ((S.ia 5 (p0).toNatClampNeg)) 513 ∧ K ((S.ia 6 ((S.ia 5 (p0).toNatClampNeg)).toNatClampNeg)) (S.si 23 (0 : Int32))))))) ∧ (p1 = 0 → K ((8 : Int32)) (S.si 23 (0 : Int32)))))))) ∧ ((S.ia 4 (p0).toNatClampNeg) = 0 → K ((-1 : Int32)) (S.si 23 (0 : Int32))))))))))))
set_option maxHeartbeats 4000000 in
set_option maxRecDepth 100000 in
theorem lp_X2_look_115 {p : Program} {l : Launch} {e : Env} {s : State} {m : MethodId} {args : Array Value} {below : List Frame} {meth : Method} {c : Code} {D : va_G} {cI cJ : ClassId} {h : Nat → Nat} {A : Nat → Prop} {K : Int32 → mS → Prop} (F : CallFix p m c cX2_look 6 s args wsX2_look RX2) (hin : ∀ w ∈ u_ws RX2 TX2 24, w ∈ wsX2_look) (hr : meth.sig.returnType = some .int) (hlk : meth.locks = false) :
    ∀ (n : Nat) (v1 : Int32) (v2 : Int32) (v3 : Int32) (v4 : Int32) (v5 : Int32) (S : mS) (H : Heap) (locs : List Loc), mI D cI cJ h A s s.heap H locs S → ∀ (ls : Array Slot), lv_has ls 6 [(0, .ref (h 0)), (1, .int (v1)), (2, .int (v2)), (3, .int (v3)), (4, .int (v4)), (5, .int (v5))] → wl_X2_look_115 K n v1 v2 v3 v4 v5 S → W p l e rm_X2_look s m args below meth c H locs 0 0 (MQ below (va_Qi K (mB D cI cJ h A) A) args s 0 0 A) (F0 m 115 ls []) := by
  obtain ⟨hx, hb, hml, hown, hts⟩ := id F
  intro n
  induction n with
  | zero => intro v1 v2 v3 v4 v5 S H locs I ls hl hw; exact hw.elim
  | succ n ih =>
    intro v1 v2 v3 v4 v5 S H locs I ls hl hw
    rw [wl_X2_look_115] at hw
    refine lv_iload hx hb dX2_look_115 (lv_at hl 5 rfl) ?_
    refine lv_if_lt (tgt := 167) hx hb dX2_look_117 (by decide) (fun c_11 => ?_) (fun c_11 => ?_)
    · have hw := hw.1 c_11
      refine lv_iload hx hb dX2_look_167 (lv_at hl 4 rfl) ?_
      exact m_reti F hr hlk I dX2_look_169 hw
    · have hw := hw.2 c_11
      refine lv_aload_n hx hb dX2_look_120 rfl (lv_at hl 0 rfl) ?_
      refine m_get F hin I 4 (by decide) (v := .ref (h 4)) rfl (hts (.fieldLink RX2 20 "CuttingTableModel" "lies" "[I") (by decide +kernel)) dX2_look_121 ?_
      refine lv_iload hx hb dX2_look_124 (lv_at hl 5 rfl) ?_
      obtain ⟨hi12, hw⟩ := hw
      refine m_iald F I 4 8 (by decide) hi12 dX2_look_126 ?_
      refine lv_aload_n hx hb dX2_look_127 rfl (lv_at hl 0 rfl) ?_
      refine m_get F hin I 4 (by decide) (v := .ref (h 4)) rfl (hts (.fieldLink RX2 20 "CuttingTableModel" "lies" "[I") (by decide +kernel)) dX2_look_128 ?_
      refine lv_iload_n hx hb dX2_look_131 rfl (lv_at hl 1 rfl) ?_
      obtain ⟨hi13, hw⟩ := hw
      refine m_iald F I 4 8 (by decide) hi13 dX2_look_132 ?_
      refine lv_icmp_ne (tgt := 157) hx hb dX2_look_133 (by decide) (fun c_14 => ?_) (fun c_14 => ?_)
      · have hw := hw.1 c_14
        refine lv_iload hx hb dX2_look_157 (lv_at hl 4 rfl) ?_
        refine lv_istore (lv' := [(4, .int (v4)), (0, .ref (h 0)), (1, .int (v1)), (2, .int (v2)), (3, .int (v3)), (5, .int (v5))]) hx hb dX2_look_159 hl (by decide) rfl (fun ls hl => ?_)
        refine lv_iinc (v := (v5 + (-1 : Int32))) (lv' := [(5, .int ((v5 + (-1 : Int32)))), (4, .int (v4)), (0, .ref (h 0)), (1, .int (v1)), (2, .int (v2)), (3, .int (v3))]) hx hb dX2_look_161 hl (k := 5) rfl rfl (by decide) rfl (fun ls hl => ?_)
        refine lv_goto (tgt := 115) hx hb dX2_look_164 (by decide) ?_
        exact ih (v1) (v2) (v3) (v4) ((v5 + (-1 : Int32))) S _ _ I ls (lv_sub hl [2, 3, 4, 5, 1, 0] rfl) hw
      · have hw := hw.2 c_14
        refine lv_aload_n hx hb dX2_look_136 rfl (lv_at hl 0 rfl) ?_
        refine m_get F hin I 5 (by decide) (v := .ref (h 5)) rfl (hts (.fieldLink RX2 23 "CuttingTableModel" "which" "[I") (by decide +kernel)) dX2_look_137 ?_
        refine lv_iload hx hb dX2_look_140 (lv_at hl 5 rfl) ?_
        obtain ⟨hi15, hw⟩ := hw
        refine m_iald F I 5 8 (by decide) hi15 dX2_look_142 ?_
        refine lv_aload_n hx hb dX2_look_143 rfl (lv_at hl 0 rfl) ?_
        refine m_get F hin I 5 (by decide) (v := .ref (h 5)) rfl (hts (.fieldLink RX2 23 "CuttingTableModel" "which" "[I") (by decide +kernel)) dX2_look_144 ?_
        refine lv_iload_n hx hb dX2_look_147 rfl (lv_at hl 1 rfl) ?_
        obtain ⟨hi16, hw⟩ := hw
        refine m_iald F I 5 8 (by decide) hi16 dX2_look_148 ?_
        refine lv_icmp_ne (tgt := 157) hx hb dX2_look_149 (by decide) (fun c_17 => ?_) (fun c_17 => ?_)
        · have hw := hw.1 c_17
          refine lv_iload hx hb dX2_look_157 (lv_at hl 4 rfl) ?_
          refine lv_istore (lv' := [(4, .int (v4)), (0, .ref (h 0)), (1, .int (v1)), (2, .int (v2)), (3, .int (v3)), (5, .int (v5))]) hx hb dX2_look_159 hl (by decide) rfl (fun ls hl => ?_)
          refine lv_iinc (v := (v5 + (-1 : Int32))) (lv' := [(5, .int ((v5 + (-1 : Int32)))), (4, .int (v4)), (0, .ref (h 0)), (1, .int (v1)), (2, .int (v2)), (3, .int (v3))]) hx hb dX2_look_161 hl (k := 5) rfl rfl (by decide) rfl (fun ls hl => ?_)
          refine lv_goto (tgt := 115) hx hb dX2_look_164 (by decide) ?_
          exact ih (v1) (v2) (v3) (v4) ((v5 + (-1 : Int32))) S _ _ I ls (lv_sub hl [2, 3, 4, 5, 1, 0] rfl) hw
        · have hw := hw.2 c_17
          refine lv_iload hx hb dX2_look_152 (lv_at hl 5 rfl) ?_
          refine lv_goto (tgt := 159) hx hb dX2_look_154 (by decide) ?_
          refine lv_istore (lv' := [(4, .int (v5)), (0, .ref (h 0)), (1, .int (v1)), (2, .int (v2)), (3, .int (v3)), (5, .int (v5))]) hx hb dX2_look_159 hl (by decide) rfl (fun ls hl => ?_)
          refine lv_iinc (v := (v5 + (-1 : Int32))) (lv' := [(5, .int ((v5 + (-1 : Int32)))), (4, .int (v5)), (0, .ref (h 0)), (1, .int (v1)), (2, .int (v2)), (3, .int (v3))]) hx hb dX2_look_161 hl (k := 5) rfl rfl (by decide) rfl (fun ls hl => ?_)
          refine lv_goto (tgt := 115) hx hb dX2_look_164 (by decide) ?_
          exact ih (v1) (v2) (v3) (v5) ((v5 + (-1 : Int32))) S _ _ I ls (lv_sub hl [2, 3, 4, 5, 1, 0] rfl) hw
set_option maxHeartbeats 4000000 in
set_option maxRecDepth 100000 in
theorem c_X2_look {l : Launch} {D : va_G} {cI cJ : ClassId} {h : Nat → Nat} (p0 : Int32) (p1 : Int32) (S : mS) (K : Int32 → mS → Prop) (hw : wp_X2_look p0 p1 S K) : mMi l D cI cJ h yX2_look wsX2_look rm_X2_look [.ref (h 0), .int (p0), .int (p1)] K S := by
  refine m_starti (rt := some .int) (by decide) rfl rfl (Nat.le_of_ble_eq_true rfl) ?_
  intro p e s m below meth c A ls F hr hlk I hl
  have hin : ∀ w ∈ u_ws RX2 TX2 24, w ∈ wsX2_look := by decide +kernel
  obtain ⟨hx, hb, hml, hown, hts⟩ := id F
  have hl : lv_has ls 6 [(0, .ref (h 0)), (1, .int (p0)), (2, .int (p1))] := hl
  unfold wp_X2_look at hw
  refine lv_aload_n hx hb dX2_look_0 rfl (lv_at hl 0 rfl) ?_
  refine lv_iconst (v := (0 : Int32)) hx hb dX2_look_1 (by decide) ?_
  refine m_put F hin I 23 (by decide) (hts (.fieldLink RX2 44 "CuttingTableModel" "thrown" "I") (by decide +kernel)) dX2_look_2 (fun H locs I => ?_)
  refine lv_iload_n hx hb dX2_look_5 rfl (lv_at hl 1 rfl) ?_
  refine s_calli (rest := []) F (c_X2_isSpindle (p0) _ hw) (va_cwS 1 hts gX2_look_X2_isSpindle rfl rfl rfl (by decide +kernel) ⟨Nat.le_of_ble_eq_true rfl, Nat.le_of_ble_eq_true rfl⟩) rfl hl.1 rfl (Nat.le_of_ble_eq_true rfl) dX2_look_6 ⟨Nat.zero_le _, Nat.zero_le _⟩ (fun r1 hw => ?_)
  refine lv_if_eq (tgt := 30) hx hb dX2_look_9 (by decide) (fun c_2 => ?_) (fun c_2 => ?_)
  · have hw := hw.1 c_2
    refine lv_iconst (v := (-1 : Int32)) hx hb dX2_look_30 (by decide) ?_
    exact m_reti F hr hlk I dX2_look_31 hw
  · have hw := hw.2 c_2
    refine lv_iload_n hx hb dX2_look_12 rfl (lv_at hl 2 rfl) ?_
    refine lv_if_lt (tgt := 30) hx hb dX2_look_13 (by decide) (fun c_3 => ?_) (fun c_3 => ?_)
    · have hw := hw.1 c_3
      refine lv_iconst (v := (-1 : Int32)) hx hb dX2_look_30 (by decide) ?_
      exact m_reti F hr hlk I dX2_look_31 hw
    · have hw := hw.2 c_3
      refine lv_iload_n hx hb dX2_look_16 rfl (lv_at hl 2 rfl) ?_
      refine lv_iconst (v := (2 : Int32)) hx hb dX2_look_17 (by decide) ?_
      refine lv_icmp_gt (tgt := 30) hx hb dX2_look_18 (by decide) (fun c_4 => ?_) (fun c_4 => ?_)
      · have hw := hw.1 c_4
        refine lv_iconst (v := (-1 : Int32)) hx hb dX2_look_30 (by decide) ?_
        exact m_reti F hr hlk I dX2_look_31 hw
      · have hw := hw.2 c_4
        refine lv_aload_n hx hb dX2_look_21 rfl (lv_at hl 0 rfl) ?_
        refine m_get F hin I 4 (by decide) (v := .ref (h 4)) rfl (hts (.fieldLink RX2 20 "CuttingTableModel" "lies" "[I") (by decide +kernel)) dX2_look_22 ?_
        refine lv_iload_n hx hb dX2_look_25 rfl (lv_at hl 1 rfl) ?_
        obtain ⟨hi5, hw⟩ := hw
        refine m_iald F I 4 8 (by decide) hi5 dX2_look_26 ?_
        refine W.eq (g2 := F0 m 27 ls [.int ((S.ia 4 (p0).toNatClampNeg))]) rfl ?_
        refine lv_if_ne (tgt := 32) hx hb dX2_look_27 (by decide) (fun c_6 => ?_) (fun c_6 => ?_)
        · have hw := hw.1 c_6
          refine lv_aload_n hx hb dX2_look_32 rfl (lv_at hl 0 rfl) ?_
          refine m_get F hin I 4 (by decide) (v := .ref (h 4)) rfl (hts (.fieldLink RX2 20 "CuttingTableModel" "lies" "[I") (by decide +kernel)) dX2_look_33 ?_
          refine lv_iload_n hx hb dX2_look_36 rfl (lv_at hl 1 rfl) ?_
          obtain ⟨hi7, hw⟩ := hw
          refine m_iald F I 4 8 (by decide) hi7 dX2_look_37 ?_
          refine W.eq (g2 := F0 m 38 ls [.int ((S.ia 4 (p0).toNatClampNeg))]) rfl ?_
          refine lv_iconst (v := (2 : Int32)) hx hb dX2_look_38 (by decide) ?_
          refine lv_icmp_ne (tgt := 46) hx hb dX2_look_39 (by decide) (fun c_8 => ?_) (fun c_8 => ?_)
          · have hw := hw.1 c_8
            refine lv_iconst (v := (0 : Int32)) hx hb dX2_look_46 (by decide) ?_
            refine lv_istore_n (lv' := [(3, .int ((0 : Int32))), (0, .ref (h 0)), (1, .int (p0)), (2, .int (p1))]) hx hb dX2_look_47 rfl hl (by decide) rfl (fun ls hl => ?_)
            refine lv_iload_n hx hb dX2_look_48 rfl (lv_at hl 3 rfl) ?_
            refine lv_if_ne (tgt := 73) hx hb dX2_look_49 (by decide) (fun c_9 => ?_) (fun c_9 => ?_)
            · have hw := hw.1 c_9
              refine lv_iload_n hx hb dX2_look_73 rfl (lv_at hl 3 rfl) ?_
              refine lv_iconst (v := (1 : Int32)) hx hb dX2_look_74 (by decide) ?_
              refine lv_icmp_ne (tgt := 108) hx hb dX2_look_75 (by decide) (fun c_10 => ?_) (fun c_10 => ?_)
              · have hw := hw.1 c_10
                refine lv_iload_n hx hb dX2_look_108 rfl (lv_at hl 2 rfl) ?_
                refine lv_istore (lv' := [(4, .int (p0)), (3, .int ((0 : Int32))), (0, .ref (h 0)), (1, .int (p0)), (2, .int (p1))]) hx hb dX2_look_109 hl (by decide) rfl (fun ls hl => ?_)
                refine lv_bipush (v := (7 : Int32)) hx hb dX2_look_111 (by decide) ?_
                refine lv_istore (lv' := [(5, .int ((7 : Int32))), (4, .int (p0)), (3, .int ((0 : Int32))), (0, .ref (h 0)), (1, .int (p0)), (2, .int (p1))]) hx hb dX2_look_113 hl (by decide) rfl (fun ls hl => ?_)
                obtain ⟨n115, hw⟩ := hw
                exact lp_X2_look_115 F hin hr hlk n115 (p0) (p1) ((0 : Int32)) (p0) ((7 : Int32)) (S.si 23 (0 : Int32)) _ _ I ls (lv_sub hl [3, 4, 5, 2, 1, 0] rfl) hw
              · have hw := hw.2 c_10
                refine lv_iload_n hx hb dX2_look_78 rfl (lv_at hl 0 rfl) ?_
                refine lv_if_eq (tgt := 96) hx hb dX2_look_79 (by decide) (fun c_18 => ?_) (fun c_18 => ?_)
                · refine lv_aload_n hx hb dX2_look_96 rfl (lv_at hl 1 rfl) ?_
                  refine m_get F hin I 1 (by decide) (v := .ref (h 2)) rfl (hts (.fieldLink RX2 13 "CuttingTableModel" "sizes" "[I") (by decide +kernel)) dX2_look_97 ?_
                  refine lv_aload_n hx hb dX2_look_100 rfl (lv_at hl 1 rfl) ?_
                  refine m_get F hin I 5 (by decide) (v := .ref (h 5)) rfl (hts (.fieldLink RX2 23 "CuttingTableModel" "which" "[I") (by decide +kernel)) dX2_look_101 ?_
                  refine lv_iload_n hx hb dX2_look_104 rfl (lv_at hl 2 rfl) ?_
                  obtain ⟨hi19, hw⟩ := hw
                  refine m_iald F I 5 8 (by decide) hi19 dX2_look_105 ?_
                  refine W.eq (g2 := F0 m 106 ls [.int ((S.ia 5 (p0).toNatClampNeg)), .ref (h 2)]) rfl ?_
                  obtain ⟨hi20, hw⟩ := hw
                  refine m_iald F I 2 513 (by decide) hi20 dX2_look_106 ?_
                  refine W.eq (g2 := F0 m 107 ls [.int ((S.ia 2 ((S.ia 5 (p0).toNatClampNeg)).toNatClampNeg))]) rfl ?_
                  exact m_reti F hr hlk I dX2_look_107 hw
                · exact absurd (by decide) c_18
            · have hw := hw.2 c_9
              refine lv_iload_n hx hb dX2_look_52 rfl (lv_at hl 0 rfl) ?_
              refine lv_if_eq (tgt := 61) hx hb dX2_look_53 (by decide) (fun c_21 => ?_) (fun c_21 => ?_)
              · refine lv_aload_n hx hb dX2_look_61 rfl (lv_at hl 1 rfl) ?_
                refine m_get F hin I 0 (by decide) (v := .ref (h 1)) rfl (hts (.fieldLink RX2 7 "CuttingTableModel" "stocks" "[I") (by decide +kernel)) dX2_look_62 ?_
                refine lv_aload_n hx hb dX2_look_65 rfl (lv_at hl 1 rfl) ?_
                refine m_get F hin I 5 (by decide) (v := .ref (h 5)) rfl (hts (.fieldLink RX2 23 "CuttingTableModel" "which" "[I") (by decide +kernel)) dX2_look_66 ?_
                refine lv_iload_n hx hb dX2_look_69 rfl (lv_at hl 2 rfl) ?_
                obtain ⟨hi22, hw⟩ := hw
                refine m_iald F I 5 8 (by decide) hi22 dX2_look_70 ?_
                refine W.eq (g2 := F0 m 71 ls [.int ((S.ia 5 (p0).toNatClampNeg)), .ref (h 1)]) rfl ?_
                obtain ⟨hi23, hw⟩ := hw
                refine m_iald F I 1 513 (by decide) hi23 dX2_look_71 ?_
                refine W.eq (g2 := F0 m 72 ls [.int ((S.ia 1 ((S.ia 5 (p0).toNatClampNeg)).toNatClampNeg))]) rfl ?_
                exact m_reti F hr hlk I dX2_look_72 hw
              · exact absurd (by decide) c_21
          · have hw := hw.2 c_8
            refine lv_iconst (v := (1 : Int32)) hx hb dX2_look_42 (by decide) ?_
            refine lv_goto (tgt := 47) hx hb dX2_look_43 (by decide) ?_
            refine lv_istore_n (lv' := [(3, .int ((1 : Int32))), (0, .ref (h 0)), (1, .int (p0)), (2, .int (p1))]) hx hb dX2_look_47 rfl hl (by decide) rfl (fun ls hl => ?_)
            refine lv_iload_n hx hb dX2_look_48 rfl (lv_at hl 3 rfl) ?_
            refine lv_if_ne (tgt := 73) hx hb dX2_look_49 (by decide) (fun c_24 => ?_) (fun c_24 => ?_)
            · have hw := hw.1 c_24
              refine lv_iload_n hx hb dX2_look_73 rfl (lv_at hl 3 rfl) ?_
              refine lv_iconst (v := (1 : Int32)) hx hb dX2_look_74 (by decide) ?_
              refine lv_icmp_ne (tgt := 108) hx hb dX2_look_75 (by decide) (fun c_25 => ?_) (fun c_25 => ?_)
              · have hw := hw.1 c_25
                refine lv_iload_n hx hb dX2_look_108 rfl (lv_at hl 2 rfl) ?_
                refine lv_istore (lv' := [(4, .int (p0)), (3, .int ((1 : Int32))), (0, .ref (h 0)), (1, .int (p0)), (2, .int (p1))]) hx hb dX2_look_109 hl (by decide) rfl (fun ls hl => ?_)
                refine lv_bipush (v := (7 : Int32)) hx hb dX2_look_111 (by decide) ?_
                refine lv_istore (lv' := [(5, .int ((7 : Int32))), (4, .int (p0)), (3, .int ((1 : Int32))), (0, .ref (h 0)), (1, .int (p0)), (2, .int (p1))]) hx hb dX2_look_113 hl (by decide) rfl (fun ls hl => ?_)
                obtain ⟨n115, hw⟩ := hw
                exact lp_X2_look_115 F hin hr hlk n115 (p0) (p1) ((1 : Int32)) (p0) ((7 : Int32)) (S.si 23 (0 : Int32)) _ _ I ls (lv_sub hl [3, 4, 5, 2, 1, 0] rfl) hw
              · have hw := hw.2 c_25
                refine lv_iload_n hx hb dX2_look_78 rfl (lv_at hl 0 rfl) ?_
                refine lv_if_eq (tgt := 96) hx hb dX2_look_79 (by decide) (fun c_26 => ?_) (fun c_26 => ?_)
                · exact absurd c_26 (by decide)
                · refine lv_aload_n hx hb dX2_look_82 rfl (lv_at hl 1 rfl) ?_
                  refine m_get F hin I 6 (by decide) (v := .ref (h 6)) rfl (hts (.fieldLink RX2 26 "CuttingTableModel" "tagNumbers" "[I") (by decide +kernel)) dX2_look_83 ?_
                  refine lv_aload_n hx hb dX2_look_86 rfl (lv_at hl 1 rfl) ?_
                  refine m_get F hin I 5 (by decide) (v := .ref (h 5)) rfl (hts (.fieldLink RX2 23 "CuttingTableModel" "which" "[I") (by decide +kernel)) dX2_look_87 ?_
                  refine lv_iload_n hx hb dX2_look_90 rfl (lv_at hl 2 rfl) ?_
                  obtain ⟨hi27, hw⟩ := hw
                  refine m_iald F I 5 8 (by decide) hi27 dX2_look_91 ?_
                  refine W.eq (g2 := F0 m 92 ls [.int ((S.ia 5 (p0).toNatClampNeg)), .ref (h 6)]) rfl ?_
                  obtain ⟨hi28, hw⟩ := hw
                  refine m_iald F I 6 513 (by decide) hi28 dX2_look_92 ?_
                  refine W.eq (g2 := F0 m 93 ls [.int ((S.ia 6 ((S.ia 5 (p0).toNatClampNeg)).toNatClampNeg))]) rfl ?_
                  refine lv_goto (tgt := 107) hx hb dX2_look_93 (by decide) ?_
                  exact m_reti F hr hlk I dX2_look_107 hw
            · have hw := hw.2 c_24
              refine lv_iload_n hx hb dX2_look_52 rfl (lv_at hl 0 rfl) ?_
              refine lv_if_eq (tgt := 61) hx hb dX2_look_53 (by decide) (fun c_29 => ?_) (fun c_29 => ?_)
              · exact absurd c_29 (by decide)
              · refine lv_bipush (v := (8 : Int32)) hx hb dX2_look_56 (by decide) ?_
                refine lv_goto (tgt := 72) hx hb dX2_look_58 (by decide) ?_
                exact m_reti F hr hlk I dX2_look_72 hw
        · have hw := hw.2 c_6
          refine lv_iconst (v := (-1 : Int32)) hx hb dX2_look_30 (by decide) ?_
          exact m_reti F hr hlk I dX2_look_31 hw
abbrev rm_X2_at : Room := { frames := 2, cells := 0, slots := 0, locals := 41 }
def wp_X2_at (p0 : Int32) (p1 : Int32) (S : mS) (K : Int64 → mS → Prop) : Prop := wp_X2_noReel (p0) S (fun r1 S2 => ((r1 ≤ 0 → (vp_in (p0) 8 ∧ ((p1 < 0 → K ((0 : Int64)) ((S2.si 23 (0 : Int32)).si 23 (2 : Int32))) ∧ (¬ p1 < 0 → (vp_in ((S2.ia 5 (p0).toNatClampNeg)) 513 ∧ ((p1 < (S2.ia 2 ((S2.ia 5 (p0).toNatClampNeg)).toNatClampNeg) → (vp_in ((((24 : Int32) * (S2.ia 5 (p0).toNatClampNeg)) + p1)) 12312 ∧ (vp_in ((S2.ia 5 (p0).toNatClampNeg)) 513 ∧ wp_X2_isOfNumbers ((S2.ia 1 ((S2.ia 5 (p0).toNatClampNeg)).toNatClampNeg)) (fun r13 => ((r13 = 0 → (((0 : Int64) ≤ (S2.la 3 ((((24 : Int32) * (S2.ia 5 (p0).toNatClampNeg)) + p1)).toNatClampNeg) → (vp_in (((S2.la 3 ((((24 : Int32) * (S2.ia 5 (p0).toNatClampNeg)) + p1)).toNatClampNeg)).toInt32) 513 ∧ (vp_in (((S2.la 3 ((((24 : Int32) * (S2.ia 5 (p0).toNatClampNeg)) + p1)).toNatClampNeg)).toInt32) 513 ∧ K ((((4 : Int64) * ((S2.ia 7 (((S2.la 3 ((((24 : Int32) * (S2.ia 5 (p0).toNatClampNeg)) + p1)).toNatClampNeg)).toInt32).toNatClampNeg)).toInt64) + ((S2.ia 8 (((S2.la 3 ((((24 : Int32) * (S2.ia 5 (p0).toNatClampNeg)) + p1)).toNatClampNeg)).toInt32).toNatClampNeg)).toInt64)) ((S2.si 23 (0 : Int32)).si 23 (0 : Int32))))) ∧ (¬ (0 : Int64) ≤ (S2.la 3 ((((24 : Int32) * (S2.ia 5 (p0).toNatClampNeg)) + p1)).toNatClampNeg) → K ((-1 : Int64)) ((S2.si 23 (0 : Int32)).si 23 (0 : Int32))))) ∧ (¬ r13 = 0 → K ((S2.la 3 ((((24 : Int32) * (S2.ia 5 (p0).toNatClampNeg)) + p1)).toNatClampNeg)) ((S2.si 23 (0 : Int32)).si 23 (0 : Int32)))))))) ∧ (¬ p1 < (S2.ia 2 ((S2.ia 5 (p0).toNatClampNeg)).toNatClampNeg) → K ((0 : Int64)) ((S2.si 23 (0 : Int32)).si 23 (2 : Int32))))))))) ∧ (¬ r1 ≤ 0 → K ((0 : Int64)) (S2.si 23 (1 : Int32)))))
set_option maxHeartbeats 4000000 in
set_option maxRecDepth 100000 in
theorem c_X2_at {l : Launch} {D : va_G} {cI cJ : ClassId} {h : Nat → Nat} (p0 : Int32) (p1 : Int32) (S : mS) (K : Int64 → mS → Prop) (hw : wp_X2_at p0 p1 S K) : mMl l D cI cJ h yX2_at wsX2_at rm_X2_at [.ref (h 0), .int (p0), .int (p1)] K S := by
  refine m_startl (rt := some .long) (by decide) rfl rfl (Nat.le_of_ble_eq_true rfl) ?_
  intro p e s m below meth c A ls F hr hlk I hl
  have hin : ∀ w ∈ u_ws RX2 TX2 24, w ∈ wsX2_at := by decide +kernel
  obtain ⟨hx, hb, hml, hown, hts⟩ := id F
  have hl : lv_has ls 6 [(0, .ref (h 0)), (1, .int (p0)), (2, .int (p1))] := hl
  unfold wp_X2_at at hw
  refine lv_aload_n hx hb dX2_at_0 rfl (lv_at hl 0 rfl) ?_
  refine lv_aload_n hx hb dX2_at_1 rfl (lv_at hl 0 rfl) ?_
  refine lv_iload_n hx hb dX2_at_2 rfl (lv_at hl 1 rfl) ?_
  refine m_calli (rest := [.ref (h 0)]) F I (c_X2_noReel (p0) _ _ hw) (cwV 1 hts gX2_at_X2_noReel rfl rfl rfl (by decide +kernel) ⟨Nat.le_of_ble_eq_true rfl, Nat.le_of_ble_eq_true rfl⟩) rfl hl.1 rfl (Nat.le_of_ble_eq_true rfl) dX2_at_3 ⟨Nat.zero_le _, Nat.zero_le _⟩ (fun r1 S2 H locs hw I => ?_)
  refine lv_if_le (tgt := 13) hx hb dX2_at_6 (by decide) (fun c_3 => ?_) (fun c_3 => ?_)
  · have hw := hw.1 c_3
    refine lv_iconst (v := (0 : Int32)) hx hb dX2_at_13 (by decide) ?_
    refine m_put F hin I 23 (by decide) (hts (.fieldLink RX2 44 "CuttingTableModel" "thrown" "I") (by decide +kernel)) dX2_at_14 (fun H locs I => ?_)
    refine lv_aload_n hx hb dX2_at_17 rfl (lv_at hl 0 rfl) ?_
    refine m_get F hin I 23 (by decide) (v := .int ((0 : Int32))) rfl (hts (.fieldLink RX2 44 "CuttingTableModel" "thrown" "I") (by decide +kernel)) dX2_at_18 ?_
    refine lv_if_le (tgt := 26) hx hb dX2_at_21 (by decide) (fun c_4 => ?_) (fun c_4 => ?_)
    · refine lv_aload_n hx hb dX2_at_26 rfl (lv_at hl 0 rfl) ?_
      refine m_get F hin I 5 (by decide) (v := .ref (h 5)) rfl (hts (.fieldLink RX2 23 "CuttingTableModel" "which" "[I") (by decide +kernel)) dX2_at_27 ?_
      refine lv_iload_n hx hb dX2_at_30 rfl (lv_at hl 1 rfl) ?_
      obtain ⟨hi5, hw⟩ := hw
      refine m_iald F I 5 8 (by decide) hi5 dX2_at_31 ?_
      refine W.eq (g2 := F0 m 32 ls [.int ((S2.ia 5 (p0).toNatClampNeg))]) rfl ?_
      refine lv_istore_n (lv' := [(3, .int ((S2.ia 5 (p0).toNatClampNeg))), (0, .ref (h 0)), (1, .int (p0)), (2, .int (p1))]) hx hb dX2_at_32 rfl hl (by decide) rfl (fun ls hl => ?_)
      refine lv_aload_n hx hb dX2_at_33 rfl (lv_at hl 1 rfl) ?_
      refine lv_iload_n hx hb dX2_at_34 rfl (lv_at hl 3 rfl) ?_
      refine lv_if_lt (tgt := 48) hx hb dX2_at_35 (by decide) (fun c_6 => ?_) (fun c_6 => ?_)
      · have hw := hw.1 c_6
        refine lv_iconst (v := (2 : Int32)) hx hb dX2_at_48 (by decide) ?_
        refine lv_goto (tgt := 53) hx hb dX2_at_49 (by decide) ?_
        refine m_put F hin I 23 (by decide) (hts (.fieldLink RX2 44 "CuttingTableModel" "thrown" "I") (by decide +kernel)) dX2_at_53 (fun H locs I => ?_)
        refine lv_aload_n hx hb dX2_at_56 rfl (lv_at hl 1 rfl) ?_
        refine m_get F hin I 23 (by decide) (v := .int ((2 : Int32))) rfl (hts (.fieldLink RX2 44 "CuttingTableModel" "thrown" "I") (by decide +kernel)) dX2_at_57 ?_
        refine lv_if_le (tgt := 65) hx hb dX2_at_60 (by decide) (fun c_7 => ?_) (fun c_7 => ?_)
        · exact absurd c_7 (by decide)
        · refine lv_lconst (v := (0 : Int64)) hx hb dX2_at_63 (by decide) ?_
          exact m_retl F hr hlk I dX2_at_64 hw
      · have hw := hw.2 c_6
        refine lv_iload_n hx hb dX2_at_38 rfl (lv_at hl 3 rfl) ?_
        refine lv_aload_n hx hb dX2_at_39 rfl (lv_at hl 1 rfl) ?_
        refine m_get F hin I 1 (by decide) (v := .ref (h 2)) rfl (hts (.fieldLink RX2 13 "CuttingTableModel" "sizes" "[I") (by decide +kernel)) dX2_at_40 ?_
        refine lv_iload_n hx hb dX2_at_43 rfl (lv_at hl 0 rfl) ?_
        obtain ⟨hi8, hw⟩ := hw
        refine m_iald F I 2 513 (by decide) hi8 dX2_at_44 ?_
        refine W.eq (g2 := F0 m 45 ls [.int ((S2.ia 2 ((S2.ia 5 (p0).toNatClampNeg)).toNatClampNeg)), .int (p1), .ref (h 0)]) rfl ?_
        refine lv_icmp_lt (tgt := 52) hx hb dX2_at_45 (by decide) (fun c_9 => ?_) (fun c_9 => ?_)
        · have hw := hw.1 c_9
          refine lv_iconst (v := (0 : Int32)) hx hb dX2_at_52 (by decide) ?_
          refine m_put F hin I 23 (by decide) (hts (.fieldLink RX2 44 "CuttingTableModel" "thrown" "I") (by decide +kernel)) dX2_at_53 (fun H locs I => ?_)
          refine lv_aload_n hx hb dX2_at_56 rfl (lv_at hl 1 rfl) ?_
          refine m_get F hin I 23 (by decide) (v := .int ((0 : Int32))) rfl (hts (.fieldLink RX2 44 "CuttingTableModel" "thrown" "I") (by decide +kernel)) dX2_at_57 ?_
          refine lv_if_le (tgt := 65) hx hb dX2_at_60 (by decide) (fun c_10 => ?_) (fun c_10 => ?_)
          · refine lv_aload_n hx hb dX2_at_65 rfl (lv_at hl 1 rfl) ?_
            refine m_get F hin I 2 (by decide) (v := .ref (h 3)) rfl (hts (.fieldLink RX2 16 "CuttingTableModel" "cells" "[J") (by decide +kernel)) dX2_at_66 ?_
            refine lv_bipush (v := (24 : Int32)) hx hb dX2_at_69 (by decide) ?_
            refine lv_iload_n hx hb dX2_at_71 rfl (lv_at hl 0 rfl) ?_
            refine lv_imul hx hb dX2_at_72 ?_
            refine lv_iload_n hx hb dX2_at_73 rfl (lv_at hl 3 rfl) ?_
            refine lv_iadd hx hb dX2_at_74 ?_
            obtain ⟨hi11, hw⟩ := hw
            refine m_lald F I 3 12312 (by decide) hi11 dX2_at_75 ?_
            refine W.eq (g2 := F0 m 76 ls [.long ((S2.la 3 ((((24 : Int32) * (S2.ia 5 (p0).toNatClampNeg)) + p1)).toNatClampNeg))]) rfl ?_
            refine lv_lstore (lv' := [(4, .long ((S2.la 3 ((((24 : Int32) * (S2.ia 5 (p0).toNatClampNeg)) + p1)).toNatClampNeg))), (3, .int ((S2.ia 5 (p0).toNatClampNeg))), (0, .ref (h 0)), (1, .int (p0)), (2, .int (p1))]) hx hb dX2_at_76 hl (by decide) rfl (fun ls hl => ?_)
            refine lv_aload_n hx hb dX2_at_78 rfl (lv_at hl 2 rfl) ?_
            refine m_get F hin I 0 (by decide) (v := .ref (h 1)) rfl (hts (.fieldLink RX2 7 "CuttingTableModel" "stocks" "[I") (by decide +kernel)) dX2_at_79 ?_
            refine lv_iload_n hx hb dX2_at_82 rfl (lv_at hl 1 rfl) ?_
            obtain ⟨hi12, hw⟩ := hw
            refine m_iald F I 1 513 (by decide) hi12 dX2_at_83 ?_
            refine W.eq (g2 := F0 m 84 ls [.int ((S2.ia 1 ((S2.ia 5 (p0).toNatClampNeg)).toNatClampNeg))]) rfl ?_
            refine s_calli (rest := []) F (c_X2_isOfNumbers ((S2.ia 1 ((S2.ia 5 (p0).toNatClampNeg)).toNatClampNeg)) _ hw) (va_cwS 1 hts gX2_at_X2_isOfNumbers rfl rfl rfl (by decide +kernel) ⟨Nat.le_of_ble_eq_true rfl, Nat.le_of_ble_eq_true rfl⟩) rfl hl.1 rfl (Nat.le_of_ble_eq_true rfl) dX2_at_84 ⟨Nat.zero_le _, Nat.zero_le _⟩ (fun r13 hw => ?_)
            refine lv_if_eq (tgt := 93) hx hb dX2_at_87 (by decide) (fun c_14 => ?_) (fun c_14 => ?_)
            · have hw := hw.1 c_14
              refine lv_lload hx hb dX2_at_93 (lv_at hl 0 rfl) ?_
              refine lv_lconst (v := (0 : Int64)) hx hb dX2_at_95 (by decide) ?_
              refine W.lcmp hx hb dX2_at_96 ?_
              refine lv_if_ge (tgt := 106) hx hb dX2_at_97 (by decide) (fun c_15 => ?_) (fun c_15 => ?_)
              · have hw := hw.1 ((lg_cmp_ge _ _).mp c_15)
                refine lv_ldc2 hx hb hown (hts (.constantLong RX2 137 (4)) (by decide +kernel)) dX2_at_106 ?_
                refine lv_aload_n hx hb dX2_at_109 rfl (lv_at hl 2 rfl) ?_
                refine m_get F hin I 8 (by decide) (v := .ref (h 7)) rfl (hts (.fieldLink RX2 29 "CuttingTableModel" "shotNumbers" "[I") (by decide +kernel)) dX2_at_110 ?_
                refine lv_lload hx hb dX2_at_113 (lv_at hl 0 rfl) ?_
                refine lv_l2i hx hb dX2_at_115 rfl ?_
                obtain ⟨hi16, hw⟩ := hw
                refine m_iald F I 7 513 (by decide) hi16 dX2_at_116 ?_
                refine W.eq (g2 := F0 m 117 ls [.int ((S2.ia 7 (((S2.la 3 ((((24 : Int32) * (S2.ia 5 (p0).toNatClampNeg)) + p1)).toNatClampNeg)).toInt32).toNatClampNeg)), .long ((4 : Int64))]) rfl ?_
                refine lv_i2l hx hb dX2_at_117 rfl ?_
                refine lv_lmul hx hb dX2_at_118 ?_
                refine lv_aload_n hx hb dX2_at_119 rfl (lv_at hl 2 rfl) ?_
                refine m_get F hin I 9 (by decide) (v := .ref (h 8)) rfl (hts (.fieldLink RX2 32 "CuttingTableModel" "shotKinds" "[I") (by decide +kernel)) dX2_at_120 ?_
                refine lv_lload hx hb dX2_at_123 (lv_at hl 0 rfl) ?_
                refine lv_l2i hx hb dX2_at_125 rfl ?_
                obtain ⟨hi17, hw⟩ := hw
                refine m_iald F I 8 513 (by decide) hi17 dX2_at_126 ?_
                refine W.eq (g2 := F0 m 127 ls [.int ((S2.ia 8 (((S2.la 3 ((((24 : Int32) * (S2.ia 5 (p0).toNatClampNeg)) + p1)).toNatClampNeg)).toInt32).toNatClampNeg)), .long (((4 : Int64) * ((S2.ia 7 (((S2.la 3 ((((24 : Int32) * (S2.ia 5 (p0).toNatClampNeg)) + p1)).toNatClampNeg)).toInt32).toNatClampNeg)).toInt64))]) rfl ?_
                refine lv_i2l hx hb dX2_at_127 rfl ?_
                refine lv_ladd hx hb dX2_at_128 ?_
                exact m_retl F hr hlk I dX2_at_129 hw
              · have hw := hw.2 (fun q => c_15 ((lg_cmp_ge _ _).mpr q))
                refine lv_ldc2 hx hb hown (hts (.constantLong RX2 64 (-1)) (by decide +kernel)) dX2_at_100 ?_
                refine lv_goto (tgt := 129) hx hb dX2_at_103 (by decide) ?_
                exact m_retl F hr hlk I dX2_at_129 hw
            · have hw := hw.2 c_14
              refine lv_lload hx hb dX2_at_90 (lv_at hl 0 rfl) ?_
              exact m_retl F hr hlk I dX2_at_92 hw
          · exact absurd (by decide) c_10
        · have hw := hw.2 c_9
          refine lv_iconst (v := (2 : Int32)) hx hb dX2_at_48 (by decide) ?_
          refine lv_goto (tgt := 53) hx hb dX2_at_49 (by decide) ?_
          refine m_put F hin I 23 (by decide) (hts (.fieldLink RX2 44 "CuttingTableModel" "thrown" "I") (by decide +kernel)) dX2_at_53 (fun H locs I => ?_)
          refine lv_aload_n hx hb dX2_at_56 rfl (lv_at hl 1 rfl) ?_
          refine m_get F hin I 23 (by decide) (v := .int ((2 : Int32))) rfl (hts (.fieldLink RX2 44 "CuttingTableModel" "thrown" "I") (by decide +kernel)) dX2_at_57 ?_
          refine lv_if_le (tgt := 65) hx hb dX2_at_60 (by decide) (fun c_18 => ?_) (fun c_18 => ?_)
          · exact absurd c_18 (by decide)
          · refine lv_lconst (v := (0 : Int64)) hx hb dX2_at_63 (by decide) ?_
            exact m_retl F hr hlk I dX2_at_64 hw
    · exact absurd (by decide) c_4
  · have hw := hw.2 c_3
    refine lv_iconst (v := (1 : Int32)) hx hb dX2_at_9 (by decide) ?_
    refine lv_goto (tgt := 14) hx hb dX2_at_10 (by decide) ?_
    refine m_put F hin I 23 (by decide) (hts (.fieldLink RX2 44 "CuttingTableModel" "thrown" "I") (by decide +kernel)) dX2_at_14 (fun H locs I => ?_)
    refine lv_aload_n hx hb dX2_at_17 rfl (lv_at hl 0 rfl) ?_
    refine m_get F hin I 23 (by decide) (v := .int ((1 : Int32))) rfl (hts (.fieldLink RX2 44 "CuttingTableModel" "thrown" "I") (by decide +kernel)) dX2_at_18 ?_
    refine lv_if_le (tgt := 26) hx hb dX2_at_21 (by decide) (fun c_19 => ?_) (fun c_19 => ?_)
    · exact absurd c_19 (by decide)
    · refine lv_lconst (v := (0 : Int64)) hx hb dX2_at_24 (by decide) ?_
      exact m_retl F hr hlk I dX2_at_25 hw
abbrev rm_X2_alike : Room := { frames := 1, cells := 0, slots := 0, locals := 20 }
def wl_X2_alike_136 (K : Int32 → mS → Prop) : Nat → Int32 → Int32 → Int32 → Int32 → Int32 → Int32 → mS → Prop
  | 0, _, _, _, _, _, _, _ => False
  | n + 1, v1, v2, v3, v4, v5, v6, S => (vp_in (v3) 513 ∧ (((S.ia 2 (v3).toNatClampNeg) ≤ v6 → (K (v5) S ∧ narrow .boolean (.int (v5)) = .int (v5))) ∧ (¬ (S.ia 2 (v3).toNatClampNeg) ≤ v6 → ((v5 = 0 → (K (v5) S ∧ narrow .boolean (.int (v5)) = .int (v5))) ∧ (¬ v5 = 0 → (vp_in ((((24 : Int32) * v3) + v6)) 12312 ∧ (vp_in ((((24 : Int32) * v4) + v6)) 12312 ∧ ((¬ (S.la 3 ((((24 : Int32) * v3) + v6)).toNatClampNeg) = (S.la 3 ((((24 : Int32) * v4) + v6)).toNatClampNeg) → wl_X2_alike_136 K n (v1) (v2) (v3) (v4) ((0 : Int32)) ((v6 + (1 : Int32))) S) ∧ ((S.la 3 ((((24 : Int32) * v3) + v6)).toNatClampNeg) = (S.la 3 ((((24 : Int32) * v4) + v6)).toNatClampNeg) → wl_X2_alike_136 K n (v1) (v2) (v3) (v4) ((1 : Int32)) ((v6 + (1 : Int32))) S)))))))))
def wp_X2_alike (p0 : Int32) (p1 : Int32) (S : mS) (K : Int32 → mS → Prop) : Prop := wp_X2_isSpindle (p0) (fun r1 => ((r1 = 0 → K (0 : Int32) (S.si 23 (0 : Int32))) ∧ (¬ r1 = 0 → wp_X2_isSpindle (p1) (fun r3 => ((r3 = 0 → K (0 : Int32) (S.si 23 (0 : Int32))) ∧ (¬ r3 = 0 → (vp_in (p0) 8 ∧ (vp_in (p1) 8 ∧ (((S.ia 4 (p0).toNatClampNeg) = (S.ia 4 (p1).toNatClampNeg) → (vp_in (p0) 8 ∧ ((¬ (S.ia 4 (p0).toNatClampNeg) = 0 → (vp_in (p0) 8 ∧ (vp_in (p1) 8 ∧ (vp_in (p0) 8 ∧ ((¬ (S.ia 4 (p0).toNatClampNeg) = (2 : Int32) → (vp_in ((S.ia 5 (p0).toNatClampNeg)) 513 ∧ (vp_in ((S.ia 5 (p1).toNatClampNeg)) 513 ∧ ((¬ (S.ia 1 ((S.ia 5 (p0).toNatClampNeg)).toNatClampNeg) = (S.ia 1 ((S.ia 5 (p1).toNatClampNeg)).toNatClampNeg) → (∃ n136 : Nat, wl_X2_alike_136 K n136 (p0) (p1) ((S.ia 5 (p0).toNatClampNeg)) ((S.ia 5 (p1).toNatClampNeg)) ((0 : Int32)) ((0 : Int32)) (S.si 23 (0 : Int32)))) ∧ ((S.ia 1 ((S.ia 5 (p0).toNatClampNeg)).toNatClampNeg) = (S.ia 1 ((S.ia 5 (p1).toNatClampNeg)).toNatClampNeg) → (vp_in ((S.ia 5 (p0).toNatClampNeg)) 513 ∧ (vp_in ((S.ia 5 (p1).toNatClampNeg)) 513 ∧ ((¬ (S.ia 2 ((S.ia 5 (p0).toNatClampNeg)).toNatClampNeg) = (S.ia 2 ((S.ia 5 (p1).toNatClampNeg)).toNatClampNeg) → (∃ n136 : Nat, wl_X2_alike_136 K n136 (p0) (p1) ((S.ia 5 (p0).toNatClampNeg)) ((S.ia 5 (p1).toNatClampNeg)) ((0 : Int32)) ((0 : Int32)) (S.si 23 (0 : Int32)))) ∧ ((S.ia 2 ((S.ia 5 (p0).toNatClampNeg)).toNatClampNeg) = (S.ia 2 ((S.ia 5 (p1).toNatClampNeg)).toNatClampNeg) → (∃ n136 : Nat, wl_X2_alike_136 K n136 (p0) (p1) ((S.ia 5 (p0).toNatClampNeg)) ((S.ia 5 (p1).toNatClampNeg)) ((1 : Int32)) ((0 : Int32)) (S.si 23 (0 : Int32)))))))))))) ∧ ((S.ia 4 (p0).toNatClampNeg) = (2 : Int32) → (vp_in ((S.ia 5 (p0).toNatClampNeg)) 513 ∧ (vp_in ((S.ia 5 (p1).toNatClampNeg)) 513 ∧ ((¬ (S.ia 6 ((S.ia 5 (p0).toNatClampNeg)).toNatClampNeg) = (S.ia 6 ((S.ia 5 (p1).toNatClampNeg)).toNatClampNeg) → K (0 : Int32) (S.si 23 (0 : Int32))) ∧ ((S.ia 6 ((S.ia 5 (p0).toNatClampNeg)).toNatClampNeg) = (S.ia 6 ((S.ia 5 (p1).toNatClampNeg)).toNatClampNeg) → K (1 : Int32) (S.si 23 (0 : Int32)))))))))))) ∧ ((S.ia 4 (p0).toNatClampNeg) = 0 → K (1 : Int32) (S.si 23 (0 : Int32)))))) ∧ (¬ (S.ia 4 (p0).toNatClampNeg) = (S.ia 4 (p1).toNatClampNeg) → K (0 : Int32) (S.si 23 (0 : Int32))))))))))))
set_option maxHeartbeats 4000000 in
set_option maxRecDepth 100000 in
theorem lp_X2_alike_136 {p : Program} {l : Launch} {e : Env} {s : State} {m : MethodId} {args : Array Value} {below : List Frame} {meth : Method} {c : Code} {D : va_G} {cI cJ : ClassId} {h : Nat → Nat} {A : Nat → Prop} {K : Int32 → mS → Prop} (F : CallFix p m c cX2_alike 7 s args wsX2_alike RX2) (hin : ∀ w ∈ u_ws RX2 TX2 24, w ∈ wsX2_alike) (hr : meth.sig.returnType = some .boolean) (hlk : meth.locks = false) :
    ∀ (n : Nat) (v1 : Int32) (v2 : Int32) (v3 : Int32) (v4 : Int32) (v5 : Int32) (v6 : Int32) (S : mS) (H : Heap) (locs : List Loc), mI D cI cJ h A s s.heap H locs S → ∀ (ls : Array Slot), lv_has ls 7 [(0, .ref (h 0)), (1, .int (v1)), (2, .int (v2)), (3, .int (v3)), (4, .int (v4)), (5, .int (v5)), (6, .int (v6))] → wl_X2_alike_136 K n v1 v2 v3 v4 v5 v6 S → W p l e rm_X2_alike s m args below meth c H locs 0 0 (MQ below (va_Qi K (mB D cI cJ h A) A) args s 0 0 A) (F0 m 136 ls []) := by
  obtain ⟨hx, hb, hml, hown, hts⟩ := id F
  intro n
  induction n with
  | zero => intro v1 v2 v3 v4 v5 v6 S H locs I ls hl hw; exact hw.elim
  | succ n ih =>
    intro v1 v2 v3 v4 v5 v6 S H locs I ls hl hw
    rw [wl_X2_alike_136] at hw
    refine lv_iload hx hb dX2_alike_136 (lv_at hl 6 rfl) ?_
    refine lv_aload_n hx hb dX2_alike_138 rfl (lv_at hl 0 rfl) ?_
    refine m_get F hin I 1 (by decide) (v := .ref (h 2)) rfl (hts (.fieldLink RX2 13 "CuttingTableModel" "sizes" "[I") (by decide +kernel)) dX2_alike_139 ?_
    refine lv_iload_n hx hb dX2_alike_142 rfl (lv_at hl 3 rfl) ?_
    obtain ⟨hi17, hw⟩ := hw
    refine m_iald F I 2 513 (by decide) hi17 dX2_alike_143 ?_
    refine lv_icmp_ge (tgt := 194) hx hb dX2_alike_144 (by decide) (fun c_18 => ?_) (fun c_18 => ?_)
    · have hw := hw.1 c_18
      refine lv_iload hx hb dX2_alike_194 (lv_at hl 5 rfl) ?_
      exact m_retz F hr hlk I dX2_alike_196 hw
    · have hw := hw.2 c_18
      refine lv_iload hx hb dX2_alike_147 (lv_at hl 5 rfl) ?_
      refine lv_if_eq (tgt := 194) hx hb dX2_alike_149 (by decide) (fun c_19 => ?_) (fun c_19 => ?_)
      · have hw := hw.1 c_19
        refine lv_iload hx hb dX2_alike_194 (lv_at hl 5 rfl) ?_
        exact m_retz F hr hlk I dX2_alike_196 hw
      · have hw := hw.2 c_19
        refine lv_aload_n hx hb dX2_alike_152 rfl (lv_at hl 0 rfl) ?_
        refine m_get F hin I 2 (by decide) (v := .ref (h 3)) rfl (hts (.fieldLink RX2 16 "CuttingTableModel" "cells" "[J") (by decide +kernel)) dX2_alike_153 ?_
        refine lv_bipush (v := (24 : Int32)) hx hb dX2_alike_156 (by decide) ?_
        refine lv_iload_n hx hb dX2_alike_158 rfl (lv_at hl 3 rfl) ?_
        refine lv_imul hx hb dX2_alike_159 ?_
        refine lv_iload hx hb dX2_alike_160 (lv_at hl 6 rfl) ?_
        refine lv_iadd hx hb dX2_alike_162 ?_
        obtain ⟨hi20, hw⟩ := hw
        refine m_lald F I 3 12312 (by decide) hi20 dX2_alike_163 ?_
        refine lv_aload_n hx hb dX2_alike_164 rfl (lv_at hl 0 rfl) ?_
        refine m_get F hin I 2 (by decide) (v := .ref (h 3)) rfl (hts (.fieldLink RX2 16 "CuttingTableModel" "cells" "[J") (by decide +kernel)) dX2_alike_165 ?_
        refine lv_bipush (v := (24 : Int32)) hx hb dX2_alike_168 (by decide) ?_
        refine lv_iload hx hb dX2_alike_170 (lv_at hl 4 rfl) ?_
        refine lv_imul hx hb dX2_alike_172 ?_
        refine lv_iload hx hb dX2_alike_173 (lv_at hl 6 rfl) ?_
        refine lv_iadd hx hb dX2_alike_175 ?_
        obtain ⟨hi21, hw⟩ := hw
        refine m_lald F I 3 12312 (by decide) hi21 dX2_alike_176 ?_
        refine W.lcmp hx hb dX2_alike_177 ?_
        refine lv_if_ne (tgt := 185) hx hb dX2_alike_178 (by decide) (fun c_22 => ?_) (fun c_22 => ?_)
        · have hw := hw.1 (fun q => c_22 ((lg_cmp_eq _ _).mpr q))
          refine lv_iconst (v := (0 : Int32)) hx hb dX2_alike_185 (by decide) ?_
          refine lv_istore (lv' := [(5, .int ((0 : Int32))), (0, .ref (h 0)), (1, .int (v1)), (2, .int (v2)), (3, .int (v3)), (4, .int (v4)), (6, .int (v6))]) hx hb dX2_alike_186 hl (by decide) rfl (fun ls hl => ?_)
          refine lv_iinc (v := (v6 + (1 : Int32))) (lv' := [(6, .int ((v6 + (1 : Int32)))), (5, .int ((0 : Int32))), (0, .ref (h 0)), (1, .int (v1)), (2, .int (v2)), (3, .int (v3)), (4, .int (v4))]) hx hb dX2_alike_188 hl (k := 6) rfl rfl (by decide) rfl (fun ls hl => ?_)
          refine lv_goto (tgt := 136) hx hb dX2_alike_191 (by decide) ?_
          exact ih (v1) (v2) (v3) (v4) ((0 : Int32)) ((v6 + (1 : Int32))) S _ _ I ls (lv_sub hl [2, 3, 4, 5, 6, 1, 0] rfl) hw
        · have hw := hw.2 ((lg_cmp_eq _ _).mp c_22)
          refine lv_iconst (v := (1 : Int32)) hx hb dX2_alike_181 (by decide) ?_
          refine lv_goto (tgt := 186) hx hb dX2_alike_182 (by decide) ?_
          refine lv_istore (lv' := [(5, .int ((1 : Int32))), (0, .ref (h 0)), (1, .int (v1)), (2, .int (v2)), (3, .int (v3)), (4, .int (v4)), (6, .int (v6))]) hx hb dX2_alike_186 hl (by decide) rfl (fun ls hl => ?_)
          refine lv_iinc (v := (v6 + (1 : Int32))) (lv' := [(6, .int ((v6 + (1 : Int32)))), (5, .int ((1 : Int32))), (0, .ref (h 0)), (1, .int (v1)), (2, .int (v2)), (3, .int (v3)), (4, .int (v4))]) hx hb dX2_alike_188 hl (k := 6) rfl rfl (by decide) rfl (fun ls hl => ?_)
          refine lv_goto (tgt := 136) hx hb dX2_alike_191 (by decide) ?_
          exact ih (v1) (v2) (v3) (v4) ((1 : Int32)) ((v6 + (1 : Int32))) S _ _ I ls (lv_sub hl [2, 3, 4, 5, 6, 1, 0] rfl) hw
set_option maxHeartbeats 4000000 in
set_option maxRecDepth 100000 in
theorem c_X2_alike {l : Launch} {D : va_G} {cI cJ : ClassId} {h : Nat → Nat} (p0 : Int32) (p1 : Int32) (S : mS) (K : Int32 → mS → Prop) (hw : wp_X2_alike p0 p1 S K) : mMi l D cI cJ h yX2_alike wsX2_alike rm_X2_alike [.ref (h 0), .int (p0), .int (p1)] K S := by
  refine m_starti (rt := some .boolean) (by decide) rfl rfl (Nat.le_of_ble_eq_true rfl) ?_
  intro p e s m below meth c A ls F hr hlk I hl
  have hin : ∀ w ∈ u_ws RX2 TX2 24, w ∈ wsX2_alike := by decide +kernel
  obtain ⟨hx, hb, hml, hown, hts⟩ := id F
  have hl : lv_has ls 7 [(0, .ref (h 0)), (1, .int (p0)), (2, .int (p1))] := hl
  unfold wp_X2_alike at hw
  refine lv_aload_n hx hb dX2_alike_0 rfl (lv_at hl 0 rfl) ?_
  refine lv_iconst (v := (0 : Int32)) hx hb dX2_alike_1 (by decide) ?_
  refine m_put F hin I 23 (by decide) (hts (.fieldLink RX2 44 "CuttingTableModel" "thrown" "I") (by decide +kernel)) dX2_alike_2 (fun H locs I => ?_)
  refine lv_iload_n hx hb dX2_alike_5 rfl (lv_at hl 1 rfl) ?_
  refine s_calli (rest := []) F (c_X2_isSpindle (p0) _ hw) (va_cwS 1 hts gX2_alike_X2_isSpindle rfl rfl rfl (by decide +kernel) ⟨Nat.le_of_ble_eq_true rfl, Nat.le_of_ble_eq_true rfl⟩) rfl hl.1 rfl (Nat.le_of_ble_eq_true rfl) dX2_alike_6 ⟨Nat.zero_le _, Nat.zero_le _⟩ (fun r1 hw => ?_)
  refine lv_if_eq (tgt := 34) hx hb dX2_alike_9 (by decide) (fun c_2 => ?_) (fun c_2 => ?_)
  · have hw := hw.1 c_2
    refine lv_iconst (v := (0 : Int32)) hx hb dX2_alike_34 (by decide) ?_
    exact m_retz F hr hlk I dX2_alike_35 ⟨hw, by decide⟩
  · have hw := hw.2 c_2
    refine lv_iload_n hx hb dX2_alike_12 rfl (lv_at hl 2 rfl) ?_
    refine s_calli (rest := []) F (c_X2_isSpindle (p1) _ hw) (va_cwS 1 hts gX2_alike_X2_isSpindle rfl rfl rfl (by decide +kernel) ⟨Nat.le_of_ble_eq_true rfl, Nat.le_of_ble_eq_true rfl⟩) rfl hl.1 rfl (Nat.le_of_ble_eq_true rfl) dX2_alike_13 ⟨Nat.zero_le _, Nat.zero_le _⟩ (fun r3 hw => ?_)
    refine lv_if_eq (tgt := 34) hx hb dX2_alike_16 (by decide) (fun c_4 => ?_) (fun c_4 => ?_)
    · have hw := hw.1 c_4
      refine lv_iconst (v := (0 : Int32)) hx hb dX2_alike_34 (by decide) ?_
      exact m_retz F hr hlk I dX2_alike_35 ⟨hw, by decide⟩
    · have hw := hw.2 c_4
      refine lv_aload_n hx hb dX2_alike_19 rfl (lv_at hl 0 rfl) ?_
      refine m_get F hin I 4 (by decide) (v := .ref (h 4)) rfl (hts (.fieldLink RX2 20 "CuttingTableModel" "lies" "[I") (by decide +kernel)) dX2_alike_20 ?_
      refine lv_iload_n hx hb dX2_alike_23 rfl (lv_at hl 1 rfl) ?_
      obtain ⟨hi5, hw⟩ := hw
      refine m_iald F I 4 8 (by decide) hi5 dX2_alike_24 ?_
      refine W.eq (g2 := F0 m 25 ls [.int ((S.ia 4 (p0).toNatClampNeg))]) rfl ?_
      refine lv_aload_n hx hb dX2_alike_25 rfl (lv_at hl 0 rfl) ?_
      refine m_get F hin I 4 (by decide) (v := .ref (h 4)) rfl (hts (.fieldLink RX2 20 "CuttingTableModel" "lies" "[I") (by decide +kernel)) dX2_alike_26 ?_
      refine lv_iload_n hx hb dX2_alike_29 rfl (lv_at hl 2 rfl) ?_
      obtain ⟨hi6, hw⟩ := hw
      refine m_iald F I 4 8 (by decide) hi6 dX2_alike_30 ?_
      refine W.eq (g2 := F0 m 31 ls [.int ((S.ia 4 (p1).toNatClampNeg)), .int ((S.ia 4 (p0).toNatClampNeg))]) rfl ?_
      refine lv_icmp_eq (tgt := 36) hx hb dX2_alike_31 (by decide) (fun c_7 => ?_) (fun c_7 => ?_)
      · have hw := hw.1 c_7
        refine lv_aload_n hx hb dX2_alike_36 rfl (lv_at hl 0 rfl) ?_
        refine m_get F hin I 4 (by decide) (v := .ref (h 4)) rfl (hts (.fieldLink RX2 20 "CuttingTableModel" "lies" "[I") (by decide +kernel)) dX2_alike_37 ?_
        refine lv_iload_n hx hb dX2_alike_40 rfl (lv_at hl 1 rfl) ?_
        obtain ⟨hi8, hw⟩ := hw
        refine m_iald F I 4 8 (by decide) hi8 dX2_alike_41 ?_
        refine W.eq (g2 := F0 m 42 ls [.int ((S.ia 4 (p0).toNatClampNeg))]) rfl ?_
        refine lv_if_ne (tgt := 47) hx hb dX2_alike_42 (by decide) (fun c_9 => ?_) (fun c_9 => ?_)
        · have hw := hw.1 c_9
          refine lv_aload_n hx hb dX2_alike_47 rfl (lv_at hl 0 rfl) ?_
          refine m_get F hin I 5 (by decide) (v := .ref (h 5)) rfl (hts (.fieldLink RX2 23 "CuttingTableModel" "which" "[I") (by decide +kernel)) dX2_alike_48 ?_
          refine lv_iload_n hx hb dX2_alike_51 rfl (lv_at hl 1 rfl) ?_
          obtain ⟨hi10, hw⟩ := hw
          refine m_iald F I 5 8 (by decide) hi10 dX2_alike_52 ?_
          refine W.eq (g2 := F0 m 53 ls [.int ((S.ia 5 (p0).toNatClampNeg))]) rfl ?_
          refine lv_istore_n (lv' := [(3, .int ((S.ia 5 (p0).toNatClampNeg))), (0, .ref (h 0)), (1, .int (p0)), (2, .int (p1))]) hx hb dX2_alike_53 rfl hl (by decide) rfl (fun ls hl => ?_)
          refine lv_aload_n hx hb dX2_alike_54 rfl (lv_at hl 1 rfl) ?_
          refine m_get F hin I 5 (by decide) (v := .ref (h 5)) rfl (hts (.fieldLink RX2 23 "CuttingTableModel" "which" "[I") (by decide +kernel)) dX2_alike_55 ?_
          refine lv_iload_n hx hb dX2_alike_58 rfl (lv_at hl 3 rfl) ?_
          obtain ⟨hi11, hw⟩ := hw
          refine m_iald F I 5 8 (by decide) hi11 dX2_alike_59 ?_
          refine W.eq (g2 := F0 m 60 ls [.int ((S.ia 5 (p1).toNatClampNeg))]) rfl ?_
          refine lv_istore (lv' := [(4, .int ((S.ia 5 (p1).toNatClampNeg))), (3, .int ((S.ia 5 (p0).toNatClampNeg))), (0, .ref (h 0)), (1, .int (p0)), (2, .int (p1))]) hx hb dX2_alike_60 hl (by decide) rfl (fun ls hl => ?_)
          refine lv_aload_n hx hb dX2_alike_62 rfl (lv_at hl 2 rfl) ?_
          refine m_get F hin I 4 (by decide) (v := .ref (h 4)) rfl (hts (.fieldLink RX2 20 "CuttingTableModel" "lies" "[I") (by decide +kernel)) dX2_alike_63 ?_
          refine lv_iload_n hx hb dX2_alike_66 rfl (lv_at hl 3 rfl) ?_
          obtain ⟨hi12, hw⟩ := hw
          refine m_iald F I 4 8 (by decide) hi12 dX2_alike_67 ?_
          refine W.eq (g2 := F0 m 68 ls [.int ((S.ia 4 (p0).toNatClampNeg))]) rfl ?_
          refine lv_iconst (v := (2 : Int32)) hx hb dX2_alike_68 (by decide) ?_
          refine lv_icmp_ne (tgt := 94) hx hb dX2_alike_69 (by decide) (fun c_13 => ?_) (fun c_13 => ?_)
          · have hw := hw.1 c_13
            refine lv_aload_n hx hb dX2_alike_94 rfl (lv_at hl 2 rfl) ?_
            refine m_get F hin I 0 (by decide) (v := .ref (h 1)) rfl (hts (.fieldLink RX2 7 "CuttingTableModel" "stocks" "[I") (by decide +kernel)) dX2_alike_95 ?_
            refine lv_iload_n hx hb dX2_alike_98 rfl (lv_at hl 1 rfl) ?_
            obtain ⟨hi14, hw⟩ := hw
            refine m_iald F I 1 513 (by decide) hi14 dX2_alike_99 ?_
            refine W.eq (g2 := F0 m 100 ls [.int ((S.ia 1 ((S.ia 5 (p0).toNatClampNeg)).toNatClampNeg))]) rfl ?_
            refine lv_aload_n hx hb dX2_alike_100 rfl (lv_at hl 2 rfl) ?_
            refine m_get F hin I 0 (by decide) (v := .ref (h 1)) rfl (hts (.fieldLink RX2 7 "CuttingTableModel" "stocks" "[I") (by decide +kernel)) dX2_alike_101 ?_
            refine lv_iload hx hb dX2_alike_104 (lv_at hl 0 rfl) ?_
            obtain ⟨hi15, hw⟩ := hw
            refine m_iald F I 1 513 (by decide) hi15 dX2_alike_106 ?_
            refine W.eq (g2 := F0 m 107 ls [.int ((S.ia 1 ((S.ia 5 (p1).toNatClampNeg)).toNatClampNeg)), .int ((S.ia 1 ((S.ia 5 (p0).toNatClampNeg)).toNatClampNeg))]) rfl ?_
            refine lv_icmp_ne (tgt := 130) hx hb dX2_alike_107 (by decide) (fun c_16 => ?_) (fun c_16 => ?_)
            · have hw := hw.1 c_16
              refine lv_iconst (v := (0 : Int32)) hx hb dX2_alike_130 (by decide) ?_
              refine lv_istore (lv' := [(5, .int ((0 : Int32))), (4, .int ((S.ia 5 (p1).toNatClampNeg))), (3, .int ((S.ia 5 (p0).toNatClampNeg))), (0, .ref (h 0)), (1, .int (p0)), (2, .int (p1))]) hx hb dX2_alike_131 hl (by decide) rfl (fun ls hl => ?_)
              refine lv_iconst (v := (0 : Int32)) hx hb dX2_alike_133 (by decide) ?_
              refine lv_istore (lv' := [(6, .int ((0 : Int32))), (5, .int ((0 : Int32))), (4, .int ((S.ia 5 (p1).toNatClampNeg))), (3, .int ((S.ia 5 (p0).toNatClampNeg))), (0, .ref (h 0)), (1, .int (p0)), (2, .int (p1))]) hx hb dX2_alike_134 hl (by decide) rfl (fun ls hl => ?_)
              obtain ⟨n136, hw⟩ := hw
              exact lp_X2_alike_136 F hin hr hlk n136 (p0) (p1) ((S.ia 5 (p0).toNatClampNeg)) ((S.ia 5 (p1).toNatClampNeg)) ((0 : Int32)) ((0 : Int32)) (S.si 23 (0 : Int32)) _ _ I ls (lv_sub hl [4, 5, 6, 3, 2, 1, 0] rfl) hw
            · have hw := hw.2 c_16
              refine lv_aload_n hx hb dX2_alike_110 rfl (lv_at hl 2 rfl) ?_
              refine m_get F hin I 1 (by decide) (v := .ref (h 2)) rfl (hts (.fieldLink RX2 13 "CuttingTableModel" "sizes" "[I") (by decide +kernel)) dX2_alike_111 ?_
              refine lv_iload_n hx hb dX2_alike_114 rfl (lv_at hl 1 rfl) ?_
              obtain ⟨hi23, hw⟩ := hw
              refine m_iald F I 2 513 (by decide) hi23 dX2_alike_115 ?_
              refine W.eq (g2 := F0 m 116 ls [.int ((S.ia 2 ((S.ia 5 (p0).toNatClampNeg)).toNatClampNeg))]) rfl ?_
              refine lv_aload_n hx hb dX2_alike_116 rfl (lv_at hl 2 rfl) ?_
              refine m_get F hin I 1 (by decide) (v := .ref (h 2)) rfl (hts (.fieldLink RX2 13 "CuttingTableModel" "sizes" "[I") (by decide +kernel)) dX2_alike_117 ?_
              refine lv_iload hx hb dX2_alike_120 (lv_at hl 0 rfl) ?_
              obtain ⟨hi24, hw⟩ := hw
              refine m_iald F I 2 513 (by decide) hi24 dX2_alike_122 ?_
              refine W.eq (g2 := F0 m 123 ls [.int ((S.ia 2 ((S.ia 5 (p1).toNatClampNeg)).toNatClampNeg)), .int ((S.ia 2 ((S.ia 5 (p0).toNatClampNeg)).toNatClampNeg))]) rfl ?_
              refine lv_icmp_ne (tgt := 130) hx hb dX2_alike_123 (by decide) (fun c_25 => ?_) (fun c_25 => ?_)
              · have hw := hw.1 c_25
                refine lv_iconst (v := (0 : Int32)) hx hb dX2_alike_130 (by decide) ?_
                refine lv_istore (lv' := [(5, .int ((0 : Int32))), (4, .int ((S.ia 5 (p1).toNatClampNeg))), (3, .int ((S.ia 5 (p0).toNatClampNeg))), (0, .ref (h 0)), (1, .int (p0)), (2, .int (p1))]) hx hb dX2_alike_131 hl (by decide) rfl (fun ls hl => ?_)
                refine lv_iconst (v := (0 : Int32)) hx hb dX2_alike_133 (by decide) ?_
                refine lv_istore (lv' := [(6, .int ((0 : Int32))), (5, .int ((0 : Int32))), (4, .int ((S.ia 5 (p1).toNatClampNeg))), (3, .int ((S.ia 5 (p0).toNatClampNeg))), (0, .ref (h 0)), (1, .int (p0)), (2, .int (p1))]) hx hb dX2_alike_134 hl (by decide) rfl (fun ls hl => ?_)
                obtain ⟨n136, hw⟩ := hw
                exact lp_X2_alike_136 F hin hr hlk n136 (p0) (p1) ((S.ia 5 (p0).toNatClampNeg)) ((S.ia 5 (p1).toNatClampNeg)) ((0 : Int32)) ((0 : Int32)) (S.si 23 (0 : Int32)) _ _ I ls (lv_sub hl [4, 5, 6, 3, 2, 1, 0] rfl) hw
              · have hw := hw.2 c_25
                refine lv_iconst (v := (1 : Int32)) hx hb dX2_alike_126 (by decide) ?_
                refine lv_goto (tgt := 131) hx hb dX2_alike_127 (by decide) ?_
                refine lv_istore (lv' := [(5, .int ((1 : Int32))), (4, .int ((S.ia 5 (p1).toNatClampNeg))), (3, .int ((S.ia 5 (p0).toNatClampNeg))), (0, .ref (h 0)), (1, .int (p0)), (2, .int (p1))]) hx hb dX2_alike_131 hl (by decide) rfl (fun ls hl => ?_)
                refine lv_iconst (v := (0 : Int32)) hx hb dX2_alike_133 (by decide) ?_
                refine lv_istore (lv' := [(6, .int ((0 : Int32))), (5, .int ((1 : Int32))), (4, .int ((S.ia 5 (p1).toNatClampNeg))), (3, .int ((S.ia 5 (p0).toNatClampNeg))), (0, .ref (h 0)), (1, .int (p0)), (2, .int (p1))]) hx hb dX2_alike_134 hl (by decide) rfl (fun ls hl => ?_)
                obtain ⟨n136, hw⟩ := hw
                exact lp_X2_alike_136 F hin hr hlk n136 (p0) (p1) ((S.ia 5 (p0).toNatClampNeg)) ((S.ia 5 (p1).toNatClampNeg)) ((1 : Int32)) ((0 : Int32)) (S.si 23 (0 : Int32)) _ _ I ls (lv_sub hl [4, 5, 6, 3, 2, 1, 0] rfl) hw
          · have hw := hw.2 c_13
            refine lv_aload_n hx hb dX2_alike_72 rfl (lv_at hl 2 rfl) ?_
            refine m_get F hin I 6 (by decide) (v := .ref (h 6)) rfl (hts (.fieldLink RX2 26 "CuttingTableModel" "tagNumbers" "[I") (by decide +kernel)) dX2_alike_73 ?_
            refine lv_iload_n hx hb dX2_alike_76 rfl (lv_at hl 1 rfl) ?_
            obtain ⟨hi26, hw⟩ := hw
            refine m_iald F I 6 513 (by decide) hi26 dX2_alike_77 ?_
            refine W.eq (g2 := F0 m 78 ls [.int ((S.ia 6 ((S.ia 5 (p0).toNatClampNeg)).toNatClampNeg))]) rfl ?_
            refine lv_aload_n hx hb dX2_alike_78 rfl (lv_at hl 2 rfl) ?_
            refine m_get F hin I 6 (by decide) (v := .ref (h 6)) rfl (hts (.fieldLink RX2 26 "CuttingTableModel" "tagNumbers" "[I") (by decide +kernel)) dX2_alike_79 ?_
            refine lv_iload hx hb dX2_alike_82 (lv_at hl 0 rfl) ?_
            obtain ⟨hi27, hw⟩ := hw
            refine m_iald F I 6 513 (by decide) hi27 dX2_alike_84 ?_
            refine W.eq (g2 := F0 m 85 ls [.int ((S.ia 6 ((S.ia 5 (p1).toNatClampNeg)).toNatClampNeg)), .int ((S.ia 6 ((S.ia 5 (p0).toNatClampNeg)).toNatClampNeg))]) rfl ?_
            refine lv_icmp_ne (tgt := 92) hx hb dX2_alike_85 (by decide) (fun c_28 => ?_) (fun c_28 => ?_)
            · have hw := hw.1 c_28
              refine lv_iconst (v := (0 : Int32)) hx hb dX2_alike_92 (by decide) ?_
              exact m_retz F hr hlk I dX2_alike_93 ⟨hw, by decide⟩
            · have hw := hw.2 c_28
              refine lv_iconst (v := (1 : Int32)) hx hb dX2_alike_88 (by decide) ?_
              refine lv_goto (tgt := 93) hx hb dX2_alike_89 (by decide) ?_
              exact m_retz F hr hlk I dX2_alike_93 ⟨hw, by decide⟩
        · have hw := hw.2 c_9
          refine lv_iconst (v := (1 : Int32)) hx hb dX2_alike_45 (by decide) ?_
          exact m_retz F hr hlk I dX2_alike_46 ⟨hw, by decide⟩
      · have hw := hw.2 c_7
        refine lv_iconst (v := (0 : Int32)) hx hb dX2_alike_34 (by decide) ?_
        exact m_retz F hr hlk I dX2_alike_35 ⟨hw, by decide⟩
abbrev rm_X2_count : Room := { frames := 0, cells := 0, slots := 0, locals := 0 }
def wp_X2_count (p0 : Int32) (S : mS) (K : Int32 → mS → Prop) : Prop := ((p0 = (0 : Int32) → K ((S.fi 3)) (S.si 23 (0 : Int32))) ∧ (p0 = (1 : Int32) → K ((S.fi 21)) (S.si 23 (0 : Int32))) ∧ (p0 = (2 : Int32) → K ((S.fi 22)) (S.si 23 (0 : Int32))) ∧ (p0 = (3 : Int32) → K ((S.fi 12)) (S.si 23 (0 : Int32))) ∧ (p0 = (4 : Int32) → K ((S.fi 16)) (S.si 23 (0 : Int32))) ∧ (p0 = (5 : Int32) → K ((S.fi 10)) (S.si 23 (0 : Int32))) ∧ (¬ p0 = (0 : Int32) → ¬ p0 = (1 : Int32) → ¬ p0 = (2 : Int32) → ¬ p0 = (3 : Int32) → ¬ p0 = (4 : Int32) → ¬ p0 = (5 : Int32) → K ((-1 : Int32)) (S.si 23 (0 : Int32))))
set_option maxHeartbeats 4000000 in
set_option maxRecDepth 100000 in
theorem c_X2_count {l : Launch} {D : va_G} {cI cJ : ClassId} {h : Nat → Nat} (p0 : Int32) (S : mS) (K : Int32 → mS → Prop) (hw : wp_X2_count p0 S K) : mMi l D cI cJ h yX2_count wsX2_count rm_X2_count [.ref (h 0), .int (p0)] K S := by
  refine m_starti (rt := some .int) (by decide) rfl rfl (Nat.le_of_ble_eq_true rfl) ?_
  intro p e s m below meth c A ls F hr hlk I hl
  have hin : ∀ w ∈ u_ws RX2 TX2 24, w ∈ wsX2_count := by decide +kernel
  obtain ⟨hx, hb, hml, hown, hts⟩ := id F
  have hl : lv_has ls 2 [(0, .ref (h 0)), (1, .int (p0))] := hl
  unfold wp_X2_count at hw
  refine lv_aload_n hx hb dX2_count_0 rfl (lv_at hl 0 rfl) ?_
  refine lv_iconst (v := (0 : Int32)) hx hb dX2_count_1 (by decide) ?_
  refine m_put F hin I 23 (by decide) (hts (.fieldLink RX2 44 "CuttingTableModel" "thrown" "I") (by decide +kernel)) dX2_count_2 (fun H locs I => ?_)
  refine lv_iload_n hx hb dX2_count_5 rfl (lv_at hl 1 rfl) ?_
  by_cases c_1 : p0 = (0 : Int32)
  · have hw := hw.1 c_1
    refine lv_tableIn (off := 38) (tgt := 44) hx hb dX2_count_6 (by rw [c_1]; decide) (by rw [c_1]; decide) (by rw [c_1]; decide) (by decide) ?_
    refine lv_aload_n hx hb dX2_count_44 rfl (lv_at hl 0 rfl) ?_
    refine m_get F hin I 3 (by decide) (v := .int ((S.fi 3))) rfl (hts (.fieldLink RX2 57 "CuttingTableModel" "reels" "I") (by decide +kernel)) dX2_count_45 ?_
    exact m_reti F hr hlk I dX2_count_48 hw
  have hw := hw.2
  by_cases c_2 : p0 = (1 : Int32)
  · have hw := hw.1 c_2
    refine lv_tableIn (off := 43) (tgt := 49) hx hb dX2_count_6 (by rw [c_2]; decide) (by rw [c_2]; decide) (by rw [c_2]; decide) (by decide) ?_
    refine lv_aload_n hx hb dX2_count_49 rfl (lv_at hl 0 rfl) ?_
    refine m_get F hin I 21 (by decide) (v := .int ((S.fi 21))) rfl (hts (.fieldLink RX2 113 "CuttingTableModel" "splices" "I") (by decide +kernel)) dX2_count_50 ?_
    exact m_reti F hr hlk I dX2_count_53 hw
  have hw := hw.2
  by_cases c_3 : p0 = (2 : Int32)
  · have hw := hw.1 c_3
    refine lv_tableIn (off := 48) (tgt := 54) hx hb dX2_count_6 (by rw [c_3]; decide) (by rw [c_3]; decide) (by rw [c_3]; decide) (by decide) ?_
    refine lv_aload_n hx hb dX2_count_54 rfl (lv_at hl 0 rfl) ?_
    refine m_get F hin I 22 (by decide) (v := .int ((S.fi 22))) rfl (hts (.fieldLink RX2 122 "CuttingTableModel" "went" "I") (by decide +kernel)) dX2_count_55 ?_
    exact m_reti F hr hlk I dX2_count_58 hw
  have hw := hw.2
  by_cases c_4 : p0 = (3 : Int32)
  · have hw := hw.1 c_4
    refine lv_tableIn (off := 53) (tgt := 59) hx hb dX2_count_6 (by rw [c_4]; decide) (by rw [c_4]; decide) (by rw [c_4]; decide) (by decide) ?_
    refine lv_aload_n hx hb dX2_count_59 rfl (lv_at hl 0 rfl) ?_
    refine m_get F hin I 12 (by decide) (v := .int ((S.fi 12))) rfl (hts (.fieldLink RX2 129 "CuttingTableModel" "cuts" "I") (by decide +kernel)) dX2_count_60 ?_
    exact m_reti F hr hlk I dX2_count_63 hw
  have hw := hw.2
  by_cases c_5 : p0 = (4 : Int32)
  · have hw := hw.1 c_5
    refine lv_tableIn (off := 58) (tgt := 64) hx hb dX2_count_6 (by rw [c_5]; decide) (by rw [c_5]; decide) (by rw [c_5]; decide) (by decide) ?_
    refine lv_aload_n hx hb dX2_count_64 rfl (lv_at hl 0 rfl) ?_
    refine m_get F hin I 16 (by decide) (v := .int ((S.fi 16))) rfl (hts (.fieldLink RX2 96 "CuttingTableModel" "binMany" "I") (by decide +kernel)) dX2_count_65 ?_
    exact m_reti F hr hlk I dX2_count_68 hw
  have hw := hw.2
  by_cases c_6 : p0 = (5 : Int32)
  · have hw := hw.1 c_6
    refine lv_tableIn (off := 63) (tgt := 69) hx hb dX2_count_6 (by rw [c_6]; decide) (by rw [c_6]; decide) (by rw [c_6]; decide) (by decide) ?_
    refine lv_aload_n hx hb dX2_count_69 rfl (lv_at hl 0 rfl) ?_
    refine m_get F hin I 10 (by decide) (v := .int ((S.fi 10))) rfl (hts (.fieldLink RX2 99 "CuttingTableModel" "shots" "I") (by decide +kernel)) dX2_count_70 ?_
    exact m_reti F hr hlk I dX2_count_73 hw
  have hw := hw.2
  have hw := hw c_1 c_2 c_3 c_4 c_5 c_6
  refine lv_tableOut (tgt := 74) hx hb dX2_count_6 (by have nc_1 := lv_neT c_1 (k := (0 : Int32)) (a := 0) rfl; have nc_2 := lv_neT c_2 (k := (1 : Int32)) (a := 1) rfl; have nc_3 := lv_neT c_3 (k := (2 : Int32)) (a := 2) rfl; have nc_4 := lv_neT c_4 (k := (3 : Int32)) (a := 3) rfl; have nc_5 := lv_neT c_5 (k := (4 : Int32)) (a := 4) rfl; have nc_6 := lv_neT c_6 (k := (5 : Int32)) (a := 5) rfl; omega) (by decide) ?_
  refine lv_iconst (v := (-1 : Int32)) hx hb dX2_count_74 (by decide) ?_
  exact m_reti F hr hlk I dX2_count_75 hw
abbrev rm_X2_thrown : Room := { frames := 0, cells := 0, slots := 0, locals := 0 }
def wp_X2_thrown  (S : mS) (K : Int32 → mS → Prop) : Prop := K ((S.fi 23)) S
set_option maxHeartbeats 4000000 in
set_option maxRecDepth 100000 in
theorem c_X2_thrown {l : Launch} {D : va_G} {cI cJ : ClassId} {h : Nat → Nat}  (S : mS) (K : Int32 → mS → Prop) (hw : wp_X2_thrown  S K) : mMi l D cI cJ h yX2_thrown wsX2_thrown rm_X2_thrown [.ref (h 0)] K S := by
  refine m_starti (rt := some .int) (by decide) rfl rfl (Nat.le_of_ble_eq_true rfl) ?_
  intro p e s m below meth c A ls F hr hlk I hl
  have hin : ∀ w ∈ u_ws RX2 TX2 24, w ∈ wsX2_thrown := by decide +kernel
  obtain ⟨hx, hb, hml, hown, hts⟩ := id F
  have hl : lv_has ls 1 [(0, .ref (h 0))] := hl
  unfold wp_X2_thrown at hw
  refine lv_aload_n hx hb dX2_thrown_0 rfl (lv_at hl 0 rfl) ?_
  refine m_get F hin I 23 (by decide) (v := .int ((S.fi 23))) rfl (hts (.fieldLink RX2 44 "CuttingTableModel" "thrown" "I") (by decide +kernel)) dX2_thrown_1 ?_
  exact m_reti F hr hlk I dX2_thrown_4 hw
