abbrev rm_X2_isSpindle : Room := { frames := 0, cells := 0, slots := 0, locals := 0 }
def wp_X2_isSpindle (p0 : Int32) (K : Int32 → Prop) : Prop := ((p0 < 0 → K (0 : Int32)) ∧ (¬ p0 < 0 → (((7 : Int32) < p0 → K (0 : Int32)) ∧ (¬ (7 : Int32) < p0 → K (1 : Int32)))))
set_option maxHeartbeats 4000000 in
set_option maxRecDepth 100000 in
theorem c_X2_isSpindle {l : Launch} (p0 : Int32) (K : Int32 → Prop) (hw : wp_X2_isSpindle p0 K) : sMi l yX2_isSpindle wsX2_isSpindle rm_X2_isSpindle [.int (p0)] K := by
  refine s_start (rt := some .boolean) (R0 := RX2) (by decide) rfl rfl (Nat.le_of_ble_eq_true rfl) ?_
  intro p e s m below meth c ls F hr hlk hl
  obtain ⟨hx, hb, hml, hown, hts⟩ := id F
  have hl : lv_has ls 1 [(0, .int (p0))] := hl
  unfold wp_X2_isSpindle at hw
  refine lv_iload_n hx hb dX2_isSpindle_0 rfl (lv_at hl 0 rfl) ?_
  refine lv_if_lt (tgt := 14) hx hb dX2_isSpindle_1 (by decide) (fun c_1 => ?_) (fun c_1 => ?_)
  · have hw := hw.1 c_1
    refine lv_iconst (v := (0 : Int32)) hx hb dX2_isSpindle_14 (by decide) ?_
    exact s_retz F hr hlk dX2_isSpindle_15 ⟨hw, by decide⟩
  · have hw := hw.2 c_1
    refine lv_iload_n hx hb dX2_isSpindle_4 rfl (lv_at hl 0 rfl) ?_
    refine lv_bipush (v := (7 : Int32)) hx hb dX2_isSpindle_5 (by decide) ?_
    refine lv_icmp_gt (tgt := 14) hx hb dX2_isSpindle_7 (by decide) (fun c_2 => ?_) (fun c_2 => ?_)
    · have hw := hw.1 c_2
      refine lv_iconst (v := (0 : Int32)) hx hb dX2_isSpindle_14 (by decide) ?_
      exact s_retz F hr hlk dX2_isSpindle_15 ⟨hw, by decide⟩
    · have hw := hw.2 c_2
      refine lv_iconst (v := (1 : Int32)) hx hb dX2_isSpindle_10 (by decide) ?_
      refine lv_goto (tgt := 15) hx hb dX2_isSpindle_11 (by decide) ?_
      exact s_retz F hr hlk dX2_isSpindle_15 ⟨hw, by decide⟩
abbrev rm_X2_isOfNumbers : Room := { frames := 0, cells := 0, slots := 0, locals := 0 }
def wp_X2_isOfNumbers (p0 : Int32) (K : Int32 → Prop) : Prop := (((5 : Int32) ≤ p0 → K (0 : Int32)) ∧ (¬ (5 : Int32) ≤ p0 → K (1 : Int32)))
set_option maxHeartbeats 4000000 in
set_option maxRecDepth 100000 in
theorem c_X2_isOfNumbers {l : Launch} (p0 : Int32) (K : Int32 → Prop) (hw : wp_X2_isOfNumbers p0 K) : sMi l yX2_isOfNumbers wsX2_isOfNumbers rm_X2_isOfNumbers [.int (p0)] K := by
  refine s_start (rt := some .boolean) (R0 := RX2) (by decide) rfl rfl (Nat.le_of_ble_eq_true rfl) ?_
  intro p e s m below meth c ls F hr hlk hl
  obtain ⟨hx, hb, hml, hown, hts⟩ := id F
  have hl : lv_has ls 1 [(0, .int (p0))] := hl
  unfold wp_X2_isOfNumbers at hw
  refine lv_iload_n hx hb dX2_isOfNumbers_0 rfl (lv_at hl 0 rfl) ?_
  refine lv_iconst (v := (5 : Int32)) hx hb dX2_isOfNumbers_1 (by decide) ?_
  refine lv_icmp_ge (tgt := 9) hx hb dX2_isOfNumbers_2 (by decide) (fun c_1 => ?_) (fun c_1 => ?_)
  · have hw := hw.1 c_1
    refine lv_iconst (v := (0 : Int32)) hx hb dX2_isOfNumbers_9 (by decide) ?_
    exact s_retz F hr hlk dX2_isOfNumbers_10 ⟨hw, by decide⟩
  · have hw := hw.2 c_1
    refine lv_iconst (v := (1 : Int32)) hx hb dX2_isOfNumbers_5 (by decide) ?_
    refine lv_goto (tgt := 10) hx hb dX2_isOfNumbers_6 (by decide) ?_
    exact s_retz F hr hlk dX2_isOfNumbers_10 ⟨hw, by decide⟩
abbrev rm_X2_told : Room := { frames := 0, cells := 0, slots := 0, locals := 0 }
def wp_X2_told (p0 : Int32) (S : mS) (K : Int32 → mS → Prop) : Prop := ((p0 = (4 : Int32) → ((p0 = (5 : Int32) → K (p0) (S.si 18 (p0))) ∧ (¬ p0 = (5 : Int32) → K (p0) ((S.si 18 (p0)).si 20 (0 : Int32))))) ∧ (¬ p0 = (4 : Int32) → ((p0 = (5 : Int32) → K (p0) ((S.si 18 (p0)).si 19 (0 : Int32))) ∧ (¬ p0 = (5 : Int32) → K (p0) (((S.si 18 (p0)).si 19 (0 : Int32)).si 20 (0 : Int32))))))
set_option maxHeartbeats 4000000 in
set_option maxRecDepth 100000 in
theorem c_X2_told {l : Launch} {D : va_G} {cI cJ : ClassId} {h : Nat → Nat} (p0 : Int32) (S : mS) (K : Int32 → mS → Prop) (hw : wp_X2_told p0 S K) : mMi l D cI cJ h yX2_told wsX2_told rm_X2_told [.ref (h 0), .int (p0)] K S := by
  refine m_start (rt := some .int) (by decide) rfl rfl (Nat.le_of_ble_eq_true rfl) ?_
  intro p e s m below meth c A ls F hr hlk I hl
  have hin : ∀ w ∈ u_ws RX2 TX2 24, w ∈ wsX2_told := by decide +kernel
  obtain ⟨hx, hb, hml, hown, hts⟩ := id F
  have hl : lv_has ls 2 [(0, .ref (h 0)), (1, .int (p0))] := hl
  unfold wp_X2_told at hw
  refine lv_aload_n hx hb dX2_told_0 rfl (lv_at hl 0 rfl) ?_
  refine lv_iload_n hx hb dX2_told_1 rfl (lv_at hl 1 rfl) ?_
  refine m_put F hin I 18 (by decide) (hts (.fieldLink RX2 48 "CuttingTableModel" "refused" "I") (by decide +kernel)) dX2_told_2 (fun H locs I => ?_)
  refine lv_iload_n hx hb dX2_told_5 rfl (lv_at hl 1 rfl) ?_
  refine lv_iconst (v := (4 : Int32)) hx hb dX2_told_6 (by decide) ?_
  refine lv_icmp_eq (tgt := 15) hx hb dX2_told_7 (by decide) (fun c_1 => ?_) (fun c_1 => ?_)
  · have hw := hw.1 c_1
    refine lv_iload_n hx hb dX2_told_15 rfl (lv_at hl 1 rfl) ?_
    refine lv_iconst (v := (5 : Int32)) hx hb dX2_told_16 (by decide) ?_
    refine lv_icmp_eq (tgt := 25) hx hb dX2_told_17 (by decide) (fun c_2 => ?_) (fun c_2 => ?_)
    · have hw := hw.1 c_2
      refine lv_iload_n hx hb dX2_told_25 rfl (lv_at hl 1 rfl) ?_
      exact m_reti F hr hlk I dX2_told_26 hw
    · have hw := hw.2 c_2
      refine lv_aload_n hx hb dX2_told_20 rfl (lv_at hl 0 rfl) ?_
      refine lv_iconst (v := (0 : Int32)) hx hb dX2_told_21 (by decide) ?_
      refine m_put F hin I 20 (by decide) (hts (.fieldLink RX2 54 "CuttingTableModel" "ahead" "I") (by decide +kernel)) dX2_told_22 (fun H locs I => ?_)
      refine lv_iload_n hx hb dX2_told_25 rfl (lv_at hl 1 rfl) ?_
      exact m_reti F hr hlk I dX2_told_26 hw
  · have hw := hw.2 c_1
    refine lv_aload_n hx hb dX2_told_10 rfl (lv_at hl 0 rfl) ?_
    refine lv_iconst (v := (0 : Int32)) hx hb dX2_told_11 (by decide) ?_
    refine m_put F hin I 19 (by decide) (hts (.fieldLink RX2 51 "CuttingTableModel" "way" "I") (by decide +kernel)) dX2_told_12 (fun H locs I => ?_)
    refine lv_iload_n hx hb dX2_told_15 rfl (lv_at hl 1 rfl) ?_
    refine lv_iconst (v := (5 : Int32)) hx hb dX2_told_16 (by decide) ?_
    refine lv_icmp_eq (tgt := 25) hx hb dX2_told_17 (by decide) (fun c_3 => ?_) (fun c_3 => ?_)
    · have hw := hw.1 c_3
      refine lv_iload_n hx hb dX2_told_25 rfl (lv_at hl 1 rfl) ?_
      exact m_reti F hr hlk I dX2_told_26 hw
    · have hw := hw.2 c_3
      refine lv_aload_n hx hb dX2_told_20 rfl (lv_at hl 0 rfl) ?_
      refine lv_iconst (v := (0 : Int32)) hx hb dX2_told_21 (by decide) ?_
      refine m_put F hin I 20 (by decide) (hts (.fieldLink RX2 54 "CuttingTableModel" "ahead" "I") (by decide +kernel)) dX2_told_22 (fun H locs I => ?_)
      refine lv_iload_n hx hb dX2_told_25 rfl (lv_at hl 1 rfl) ?_
      exact m_reti F hr hlk I dX2_told_26 hw
abbrev rm_X2_begin : Room := { frames := 0, cells := 0, slots := 0, locals := 0 }
def wp_X2_begin  (S : mS) (K : mS → Prop) : Prop := K ((S.si 19 (0 : Int32)).si 20 (0 : Int32))
set_option maxHeartbeats 4000000 in
set_option maxRecDepth 100000 in
theorem c_X2_begin {l : Launch} {D : va_G} {cI cJ : ClassId} {h : Nat → Nat}  (S : mS) (K : mS → Prop) (hw : wp_X2_begin  S K) : mMv l D cI cJ h yX2_begin wsX2_begin rm_X2_begin [.ref (h 0)] K S := by
  refine m_start (rt := none) (by decide) rfl rfl (Nat.le_of_ble_eq_true rfl) ?_
  intro p e s m below meth c A ls F hr hlk I hl
  have hin : ∀ w ∈ u_ws RX2 TX2 24, w ∈ wsX2_begin := by decide +kernel
  obtain ⟨hx, hb, hml, hown, hts⟩ := id F
  have hl : lv_has ls 1 [(0, .ref (h 0))] := hl
  unfold wp_X2_begin at hw
  refine lv_aload_n hx hb dX2_begin_0 rfl (lv_at hl 0 rfl) ?_
  refine lv_iconst (v := (0 : Int32)) hx hb dX2_begin_1 (by decide) ?_
  refine m_put F hin I 19 (by decide) (hts (.fieldLink RX2 51 "CuttingTableModel" "way" "I") (by decide +kernel)) dX2_begin_2 (fun H locs I => ?_)
  refine lv_aload_n hx hb dX2_begin_5 rfl (lv_at hl 0 rfl) ?_
  refine lv_iconst (v := (0 : Int32)) hx hb dX2_begin_6 (by decide) ?_
  refine m_put F hin I 20 (by decide) (hts (.fieldLink RX2 54 "CuttingTableModel" "ahead" "I") (by decide +kernel)) dX2_begin_7 (fun H locs I => ?_)
  exact m_retv F hr hlk I dX2_begin_10 hw
abbrev rm_X2_lay : Room := { frames := 0, cells := 0, slots := 0, locals := 0 }
def wp_X2_lay (p0 : Int32) (p1 : Int32) (p2 : Int32) (S : mS) (K : mS → Prop) : Prop := (vp_in (p0) 8 ∧ (vp_in (p0) 8 ∧ K ((S.sa 4 (p0).toNatClampNeg (p1)).sa 5 (p0).toNatClampNeg (p2))))
set_option maxHeartbeats 4000000 in
set_option maxRecDepth 100000 in
theorem c_X2_lay {l : Launch} {D : va_G} {cI cJ : ClassId} {h : Nat → Nat} (p0 : Int32) (p1 : Int32) (p2 : Int32) (S : mS) (K : mS → Prop) (hw : wp_X2_lay p0 p1 p2 S K) : mMv l D cI cJ h yX2_lay wsX2_lay rm_X2_lay [.ref (h 0), .int (p0), .int (p1), .int (p2)] K S := by
  refine m_start (rt := none) (by decide) rfl rfl (Nat.le_of_ble_eq_true rfl) ?_
  intro p e s m below meth c A ls F hr hlk I hl
  have hin : ∀ w ∈ u_ws RX2 TX2 24, w ∈ wsX2_lay := by decide +kernel
  obtain ⟨hx, hb, hml, hown, hts⟩ := id F
  have hl : lv_has ls 4 [(0, .ref (h 0)), (1, .int (p0)), (2, .int (p1)), (3, .int (p2))] := hl
  unfold wp_X2_lay at hw
  refine lv_aload_n hx hb dX2_lay_0 rfl (lv_at hl 0 rfl) ?_
  refine m_get F hin I 4 (by decide) (v := .ref (h 4)) rfl (hts (.fieldLink RX2 20 "CuttingTableModel" "lies" "[I") (by decide +kernel)) dX2_lay_1 ?_
  refine lv_iload_n hx hb dX2_lay_4 rfl (lv_at hl 1 rfl) ?_
  refine lv_iload_n hx hb dX2_lay_5 rfl (lv_at hl 2 rfl) ?_
  obtain ⟨hi1, hw⟩ := hw
  refine m_iast F I 4 8 (by decide) hi1 dX2_lay_6 (fun H locs I => ?_)
  refine lv_aload_n hx hb dX2_lay_7 rfl (lv_at hl 0 rfl) ?_
  refine m_get F hin I 5 (by decide) (v := .ref (h 5)) rfl (hts (.fieldLink RX2 23 "CuttingTableModel" "which" "[I") (by decide +kernel)) dX2_lay_8 ?_
  refine lv_iload_n hx hb dX2_lay_11 rfl (lv_at hl 1 rfl) ?_
  refine lv_iload_n hx hb dX2_lay_12 rfl (lv_at hl 3 rfl) ?_
  obtain ⟨hi2, hw⟩ := hw
  refine m_iast F I 5 8 (by decide) hi2 dX2_lay_13 (fun H locs I => ?_)
  exact m_retv F hr hlk I dX2_lay_14 hw
abbrev rm_X2_newReel : Room := { frames := 1, cells := 0, slots := 0, locals := 20 }
def wl_X2_newReel_22 (K : Int32 → mS → Prop) : Nat → Int32 → Int32 → Int32 → mS → Prop
  | 0, _, _, _, _ => False
  | n + 1, v1, v2, v3, S => ((v2 ≤ v3 → K (((((S.si 3 ((((S).fi 3) + (1 : Int32))))).fi 3) - (1 : Int32))) (S.si 3 ((((S).fi 3) + (1 : Int32))))) ∧ (¬ v2 ≤ v3 → wp_X2_isOfNumbers (v1) (fun r4 => ((r4 = 0 → (vp_in ((((24 : Int32) * ((S).fi 3)) + v3)) 12312 ∧ wl_X2_newReel_22 K n (v1) (v2) ((v3 + (1 : Int32))) (S.sl 3 ((((24 : Int32) * ((S).fi 3)) + v3)).toNatClampNeg ((-1 : Int64))))) ∧ (¬ r4 = 0 → (vp_in ((((24 : Int32) * ((S).fi 3)) + v3)) 12312 ∧ wl_X2_newReel_22 K n (v1) (v2) ((v3 + (1 : Int32))) (S.sl 3 ((((24 : Int32) * ((S).fi 3)) + v3)).toNatClampNeg ((0 : Int64)))))))))
def wp_X2_newReel (p0 : Int32) (p1 : Int32) (S : mS) (K : Int32 → mS → Prop) : Prop := (vp_in (((S).fi 3)) 513 ∧ (vp_in ((((S.sa 1 (((S).fi 3)).toNatClampNeg (p0))).fi 3)) 513 ∧ (∃ n22 : Nat, wl_X2_newReel_22 K n22 (p0) (p1) ((0 : Int32)) ((S.sa 1 (((S).fi 3)).toNatClampNeg (p0)).sa 2 ((((S.sa 1 (((S).fi 3)).toNatClampNeg (p0))).fi 3)).toNatClampNeg (p1)))))
set_option maxHeartbeats 4000000 in
set_option maxRecDepth 100000 in
theorem lp_X2_newReel_22 {p : Program} {l : Launch} {e : Env} {s : State} {m : MethodId} {args : Array Value} {below : List Frame} {meth : Method} {c : Code} {D : va_G} {cI cJ : ClassId} {h : Nat → Nat} {A : Nat → Prop} {K : Int32 → mS → Prop} (F : CallFix p m c cX2_newReel 4 s args wsX2_newReel RX2) (hin : ∀ w ∈ u_ws RX2 TX2 24, w ∈ wsX2_newReel) (hr : meth.sig.returnType = some .int) (hlk : meth.locks = false) :
    ∀ (n : Nat) (v1 : Int32) (v2 : Int32) (v3 : Int32) (S : mS) (H : Heap) (locs : List Loc), mI D cI cJ h A s s.heap H locs S → ∀ (ls : Array Slot), lv_has ls 4 [(0, .ref (h 0)), (1, .int (v1)), (2, .int (v2)), (3, .int (v3))] → wl_X2_newReel_22 K n v1 v2 v3 S → W p l e rm_X2_newReel s m args below meth c H locs 0 0 (MQ below (va_Qi K (mB D cI cJ h A) A) args s 0 0 A) (F0 m 22 ls []) := by
  obtain ⟨hx, hb, hml, hown, hts⟩ := id F
  intro n
  induction n with
  | zero => intro v1 v2 v3 S H locs I ls hl hw; exact hw.elim
  | succ n ih =>
    intro v1 v2 v3 S H locs I ls hl hw
    rw [wl_X2_newReel_22] at hw
    refine lv_iload_n hx hb dX2_newReel_22 rfl (lv_at hl 3 rfl) ?_
    refine lv_iload_n hx hb dX2_newReel_23 rfl (lv_at hl 2 rfl) ?_
    refine lv_icmp_ge (tgt := 61) hx hb dX2_newReel_24 (by decide) (fun c_3 => ?_) (fun c_3 => ?_)
    · have hw := hw.1 c_3
      refine lv_aload_n hx hb dX2_newReel_61 rfl (lv_at hl 0 rfl) ?_
      refine lv_dup hx hb dX2_newReel_62 rfl ?_
      refine m_get F hin I 3 (by decide) (v := .int (((S).fi 3))) rfl (hts (.fieldLink RX2 57 "CuttingTableModel" "reels" "I") (by decide +kernel)) dX2_newReel_63 ?_
      refine lv_iconst (v := (1 : Int32)) hx hb dX2_newReel_66 (by decide) ?_
      refine lv_iadd hx hb dX2_newReel_67 ?_
      refine m_put F hin I 3 (by decide) (hts (.fieldLink RX2 57 "CuttingTableModel" "reels" "I") (by decide +kernel)) dX2_newReel_68 (fun H locs I => ?_)
      refine lv_aload_n hx hb dX2_newReel_71 rfl (lv_at hl 0 rfl) ?_
      refine m_get F hin I 3 (by decide) (v := .int ((((S.si 3 ((((S).fi 3) + (1 : Int32))))).fi 3))) rfl (hts (.fieldLink RX2 57 "CuttingTableModel" "reels" "I") (by decide +kernel)) dX2_newReel_72 ?_
      refine lv_iconst (v := (1 : Int32)) hx hb dX2_newReel_75 (by decide) ?_
      refine lv_isub hx hb dX2_newReel_76 ?_
      exact m_reti F hr hlk I dX2_newReel_77 hw
    · have hw := hw.2 c_3
      refine lv_aload_n hx hb dX2_newReel_27 rfl (lv_at hl 0 rfl) ?_
      refine m_get F hin I 2 (by decide) (v := .ref (h 3)) rfl (hts (.fieldLink RX2 16 "CuttingTableModel" "cells" "[J") (by decide +kernel)) dX2_newReel_28 ?_
      refine lv_bipush (v := (24 : Int32)) hx hb dX2_newReel_31 (by decide) ?_
      refine lv_aload_n hx hb dX2_newReel_33 rfl (lv_at hl 0 rfl) ?_
      refine m_get F hin I 3 (by decide) (v := .int (((S).fi 3))) rfl (hts (.fieldLink RX2 57 "CuttingTableModel" "reels" "I") (by decide +kernel)) dX2_newReel_34 ?_
      refine lv_imul hx hb dX2_newReel_37 ?_
      refine lv_iload_n hx hb dX2_newReel_38 rfl (lv_at hl 3 rfl) ?_
      refine lv_iadd hx hb dX2_newReel_39 ?_
      refine lv_iload_n hx hb dX2_newReel_40 rfl (lv_at hl 1 rfl) ?_
      refine s_calli (rest := [.int ((((24 : Int32) * ((S).fi 3)) + v3)), .ref (h 3)]) F (c_X2_isOfNumbers (v1) _ hw) (va_cwS 1 hts gX2_newReel_X2_isOfNumbers rfl rfl rfl (by decide +kernel) ⟨Nat.le_of_ble_eq_true rfl, Nat.le_of_ble_eq_true rfl⟩) rfl hl.1 rfl (Nat.le_of_ble_eq_true rfl) dX2_newReel_41 ⟨Nat.zero_le _, Nat.zero_le _⟩ (fun r4 hw => ?_)
      refine lv_if_eq (tgt := 51) hx hb dX2_newReel_44 (by decide) (fun c_5 => ?_) (fun c_5 => ?_)
      · have hw := hw.1 c_5
        refine lv_ldc2 hx hb hown (hts (.constantLong RX2 64 (-1)) (by decide +kernel)) dX2_newReel_51 ?_
        obtain ⟨hi6, hw⟩ := hw
        refine m_last F I 3 12312 (by decide) hi6 dX2_newReel_54 (fun H locs I => ?_)
        refine lv_iinc (v := (v3 + (1 : Int32))) (lv' := [(3, .int ((v3 + (1 : Int32)))), (0, .ref (h 0)), (1, .int (v1)), (2, .int (v2))]) hx hb dX2_newReel_55 hl (k := 3) rfl rfl (by decide) rfl (fun ls hl => ?_)
        refine lv_goto (tgt := 22) hx hb dX2_newReel_58 (by decide) ?_
        exact ih (v1) (v2) ((v3 + (1 : Int32))) (S.sl 3 ((((24 : Int32) * ((S).fi 3)) + v3)).toNatClampNeg ((-1 : Int64))) _ _ I ls (lv_sub hl [1, 2, 3, 0] rfl) hw
      · have hw := hw.2 c_5
        refine lv_lconst (v := (0 : Int64)) hx hb dX2_newReel_47 (by decide) ?_
        refine lv_goto (tgt := 54) hx hb dX2_newReel_48 (by decide) ?_
        obtain ⟨hi7, hw⟩ := hw
        refine m_last F I 3 12312 (by decide) hi7 dX2_newReel_54 (fun H locs I => ?_)
        refine lv_iinc (v := (v3 + (1 : Int32))) (lv' := [(3, .int ((v3 + (1 : Int32)))), (0, .ref (h 0)), (1, .int (v1)), (2, .int (v2))]) hx hb dX2_newReel_55 hl (k := 3) rfl rfl (by decide) rfl (fun ls hl => ?_)
        refine lv_goto (tgt := 22) hx hb dX2_newReel_58 (by decide) ?_
        exact ih (v1) (v2) ((v3 + (1 : Int32))) (S.sl 3 ((((24 : Int32) * ((S).fi 3)) + v3)).toNatClampNeg ((0 : Int64))) _ _ I ls (lv_sub hl [1, 2, 3, 0] rfl) hw
set_option maxHeartbeats 4000000 in
set_option maxRecDepth 100000 in
theorem c_X2_newReel {l : Launch} {D : va_G} {cI cJ : ClassId} {h : Nat → Nat} (p0 : Int32) (p1 : Int32) (S : mS) (K : Int32 → mS → Prop) (hw : wp_X2_newReel p0 p1 S K) : mMi l D cI cJ h yX2_newReel wsX2_newReel rm_X2_newReel [.ref (h 0), .int (p0), .int (p1)] K S := by
  refine m_start (rt := some .int) (by decide) rfl rfl (Nat.le_of_ble_eq_true rfl) ?_
  intro p e s m below meth c A ls F hr hlk I hl
  have hin : ∀ w ∈ u_ws RX2 TX2 24, w ∈ wsX2_newReel := by decide +kernel
  obtain ⟨hx, hb, hml, hown, hts⟩ := id F
  have hl : lv_has ls 4 [(0, .ref (h 0)), (1, .int (p0)), (2, .int (p1))] := hl
  unfold wp_X2_newReel at hw
  refine lv_aload_n hx hb dX2_newReel_0 rfl (lv_at hl 0 rfl) ?_
  refine m_get F hin I 0 (by decide) (v := .ref (h 1)) rfl (hts (.fieldLink RX2 7 "CuttingTableModel" "stocks" "[I") (by decide +kernel)) dX2_newReel_1 ?_
  refine lv_aload_n hx hb dX2_newReel_4 rfl (lv_at hl 0 rfl) ?_
  refine m_get F hin I 3 (by decide) (v := .int (((S).fi 3))) rfl (hts (.fieldLink RX2 57 "CuttingTableModel" "reels" "I") (by decide +kernel)) dX2_newReel_5 ?_
  refine lv_iload_n hx hb dX2_newReel_8 rfl (lv_at hl 1 rfl) ?_
  obtain ⟨hi1, hw⟩ := hw
  refine m_iast F I 1 513 (by decide) hi1 dX2_newReel_9 (fun H locs I => ?_)
  refine lv_aload_n hx hb dX2_newReel_10 rfl (lv_at hl 0 rfl) ?_
  refine m_get F hin I 1 (by decide) (v := .ref (h 2)) rfl (hts (.fieldLink RX2 13 "CuttingTableModel" "sizes" "[I") (by decide +kernel)) dX2_newReel_11 ?_
  refine lv_aload_n hx hb dX2_newReel_14 rfl (lv_at hl 0 rfl) ?_
  refine m_get F hin I 3 (by decide) (v := .int ((((S.sa 1 (((S).fi 3)).toNatClampNeg (p0))).fi 3))) rfl (hts (.fieldLink RX2 57 "CuttingTableModel" "reels" "I") (by decide +kernel)) dX2_newReel_15 ?_
  refine lv_iload_n hx hb dX2_newReel_18 rfl (lv_at hl 2 rfl) ?_
  obtain ⟨hi2, hw⟩ := hw
  refine m_iast F I 2 513 (by decide) hi2 dX2_newReel_19 (fun H locs I => ?_)
  refine lv_iconst (v := (0 : Int32)) hx hb dX2_newReel_20 (by decide) ?_
  refine lv_istore_n (lv' := [(3, .int ((0 : Int32))), (0, .ref (h 0)), (1, .int (p0)), (2, .int (p1))]) hx hb dX2_newReel_21 rfl hl (by decide) rfl (fun ls hl => ?_)
  obtain ⟨n22, hw⟩ := hw
  exact lp_X2_newReel_22 F hin hr hlk n22 (p0) (p1) ((0 : Int32)) ((S.sa 1 (((S).fi 3)).toNatClampNeg (p0)).sa 2 ((((S.sa 1 (((S).fi 3)).toNatClampNeg (p0))).fi 3)).toNatClampNeg (p1)) _ _ I ls (lv_sub hl [1, 2, 3, 0] rfl) hw
